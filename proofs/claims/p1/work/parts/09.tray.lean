theorem st_1 {t s : Int32} (m : Int32) (ht : ¬ bW t 0 3 = 0) (hs : bW s 0 3 = 0) : sTray t s m = 0 := by
  unfold sTray; rw [if_neg ht, if_pos hs]
theorem st_2 {m : Int32} (t s : Int32) (ht : ¬ bW t 0 3 = 0) (hs : ¬ bW s 0 3 = 0) (hm : bW m 0 60 = 0) : sTray t s m = 0 := by
  unfold sTray; rw [if_neg ht, if_neg hs, if_pos hm]
theorem st_3 (t s m : Int32) (ht : ¬ bW t 0 3 = 0) (hs : ¬ bW s 0 3 = 0) (hm : ¬ bW m 0 60 = 0) : sTray t s m = 1 := by
  unfold sTray; rw [if_neg ht, if_neg hs, if_neg hm]
theorem dX11_whyNoPlace_0 : decode cX11_whyNoPlace 0 = .ok (.iload_n 1, 1) := by decide +kernel
theorem dX11_whyNoPlace_1 : decode cX11_whyNoPlace 1 = .ok (.invokestatic 109, 3) := by decide +kernel
theorem dX11_whyNoPlace_4 : decode cX11_whyNoPlace 4 = .ok (.ifCond .ne 5, 3) := by decide +kernel
theorem dX11_whyNoPlace_7 : decode cX11_whyNoPlace 7 = .ok (.iconst 1, 1) := by decide +kernel
theorem dX11_whyNoPlace_8 : decode cX11_whyNoPlace 8 = .ok (.ireturn, 1) := by decide +kernel
theorem dX11_whyNoPlace_9 : decode cX11_whyNoPlace 9 = .ok (.aload_n 0, 1) := by decide +kernel
theorem dX11_whyNoPlace_10 : decode cX11_whyNoPlace 10 = .ok (.getfield 15, 3) := by decide +kernel
theorem dX11_whyNoPlace_13 : decode cX11_whyNoPlace 13 = .ok (.iload_n 1, 1) := by decide +kernel
theorem dX11_whyNoPlace_14 : decode cX11_whyNoPlace 14 = .ok (.aaload, 1) := by decide +kernel
theorem dX11_whyNoPlace_15 : decode cX11_whyNoPlace 15 = .ok (.getfield 144, 3) := by decide +kernel
theorem dX11_whyNoPlace_18 : decode cX11_whyNoPlace 18 = .ok (.ifCond .ne 5, 3) := by decide +kernel
theorem dX11_whyNoPlace_21 : decode cX11_whyNoPlace 21 = .ok (.iconst 2, 1) := by decide +kernel
theorem dX11_whyNoPlace_22 : decode cX11_whyNoPlace 22 = .ok (.ireturn, 1) := by decide +kernel
def vdc_whyNoPlace : List Cond := [.code yX11_whyNoPlace cX11_whyNoPlace 3 (some .int), .methodLink RX11 109 yX11_isTray, .code yX11_isTray cX11_isTray 1 (some .boolean), .methodLink RX11 113 yX11_within, .code yX11_within cX11_within 3 (some .boolean), .static yX11_within, .initialized RX11, .static yX11_isTray, .fieldLink RX11 15 "SaltStreet" "trays" "[LSaltStreet$Tray;"]
def vc_whyNoPlace : List Cond := vdc_whyNoPlace ++ (wsX110 ++ (wsX80 ++ ([] : List Cond)))
theorem ic_whyNoPlace_X11 : ∀ w ∈ wsX110, w ∈ vc_whyNoPlace := fun _ h => List.mem_append_right _ (List.mem_append_left _ h)
theorem ic_whyNoPlace_X8 : ∀ w ∈ wsX80, w ∈ vc_whyNoPlace := fun _ h => List.mem_append_right _ (List.mem_append_right _ (List.mem_append_left _ h))
set_option maxRecDepth 20000 in
theorem gc_whyNoPlace_109_c_isTray : GoodIn vc_whyNoPlace (va_wsS RX11 109 yX11_isTray vc_isTray) := (goodIn_app (goodIn_r _ [1, 7, 6] rfl (by decide +kernel)) (goodIn_app (goodIn_r vdc_isTray [2, 3, 4, 5, 6] rfl (by decide +kernel)) goodIn_nil))
set_option maxHeartbeats 4000000 in
set_option maxRecDepth 100000 in
theorem c_whyNoPlace (l : Launch) (D : va_G) (kc : Nat → ClassId) (sz : Nat) (xa : Nat → Nat) (na : Nat → Nat) (pa : Nat → Nat) (t : Int32) (pl : Int32) : Met l yX11_whyNoPlace vc_whyNoPlace ({ frames := 2, cells := 0, slots := 0, locals := 42 }) (va_Pc [.ref (xa 0), .int t, .int pl] (wPre D kc [(xa 0, .inr (10, [.ref (xa 1), .ref (xa 2), .ref (na 0), .ref (pa 0), .ref (xa 3), .ref (na 1), .ref (na 2), .ref (xa 4), .ref (xa 5), .ref (xa 6), .ref (xa 7), .ref (xa 8), .ref (xa 9), .int 0, .int 0, .int 0, .long 0, .long 1, .int (-1), .int (-1)])), (xa 2, .inl (kc 3, 4, .inr (.inr (.inr (.inr (tg xa)))))), (xa 10, .inr (8, [.ref (xa 14), .int 0, .int 0, .int 0])), (xa 11, .inr (8, [.ref (xa 15), .int 0, .int 0, .int 0])), (xa 12, .inr (8, [.ref (xa 16), .int 0, .int 0, .int 0])), (xa 13, .inr (8, [.ref (xa 17), .int 0, .int 0, .int 0]))] sz)) (va_Qi (fun (r : Int32) (_ : Unit) => r = (wNP t)) (wPost D [(xa 0, .inr (10, [.ref (xa 1), .ref (xa 2), .ref (na 0), .ref (pa 0), .ref (xa 3), .ref (na 1), .ref (na 2), .ref (xa 4), .ref (xa 5), .ref (xa 6), .ref (xa 7), .ref (xa 8), .ref (xa 9), .int 0, .int 0, .int 0, .long 0, .long 1, .int (-1), .int (-1)])), (xa 2, .inl (kc 3, 4, .inr (.inr (.inr (.inr (tg xa)))))), (xa 10, .inr (8, [.ref (xa 14), .int 0, .int 0, .int 0])), (xa 11, .inr (8, [.ref (xa 15), .int 0, .int 0, .int 0])), (xa 12, .inr (8, [.ref (xa 16), .int 0, .int 0, .int 0])), (xa 13, .inr (8, [.ref (xa 17), .int 0, .int 0, .int 0]))] (va_A [(xa 0, .inr (10, [.ref (xa 1), .ref (xa 2), .ref (na 0), .ref (pa 0), .ref (xa 3), .ref (na 1), .ref (na 2), .ref (xa 4), .ref (xa 5), .ref (xa 6), .ref (xa 7), .ref (xa 8), .ref (xa 9), .int 0, .int 0, .int 0, .long 0, .long 1, .int (-1), .int (-1)])), (xa 2, .inl (kc 3, 4, .inr (.inr (.inr (.inr (tg xa)))))), (xa 10, .inr (8, [.ref (xa 14), .int 0, .int 0, .int 0])), (xa 11, .inr (8, [.ref (xa 15), .int 0, .int 0, .int 0])), (xa 12, .inr (8, [.ref (xa 16), .int 0, .int 0, .int 0])), (xa 13, .inr (8, [.ref (xa 17), .int 0, .int 0, .int 0]))] sz)) (va_A [(xa 0, .inr (10, [.ref (xa 1), .ref (xa 2), .ref (na 0), .ref (pa 0), .ref (xa 3), .ref (na 1), .ref (na 2), .ref (xa 4), .ref (xa 5), .ref (xa 6), .ref (xa 7), .ref (xa 8), .ref (xa 9), .int 0, .int 0, .int 0, .long 0, .long 1, .int (-1), .int (-1)])), (xa 2, .inl (kc 3, 4, .inr (.inr (.inr (.inr (tg xa)))))), (xa 10, .inr (8, [.ref (xa 14), .int 0, .int 0, .int 0])), (xa 11, .inr (8, [.ref (xa 15), .int 0, .int 0, .int 0])), (xa 12, .inr (8, [.ref (xa 16), .int 0, .int 0, .int 0])), (xa 13, .inr (8, [.ref (xa 17), .int 0, .int 0, .int 0]))] sz)) 0 0 (va_A [(xa 0, .inr (10, [.ref (xa 1), .ref (xa 2), .ref (na 0), .ref (pa 0), .ref (xa 3), .ref (na 1), .ref (na 2), .ref (xa 4), .ref (xa 5), .ref (xa 6), .ref (xa 7), .ref (xa 8), .ref (xa 9), .int 0, .int 0, .int 0, .long 0, .long 1, .int (-1), .int (-1)])), (xa 2, .inl (kc 3, 4, .inr (.inr (.inr (.inr (tg xa)))))), (xa 10, .inr (8, [.ref (xa 14), .int 0, .int 0, .int 0])), (xa 11, .inr (8, [.ref (xa 15), .int 0, .int 0, .int 0])), (xa 12, .inr (8, [.ref (xa 16), .int 0, .int 0, .int 0])), (xa 13, .inr (8, [.ref (xa 17), .int 0, .int 0, .int 0]))] sz) := by
  refine Met.ofW (cc := cX11_whyNoPlace) (maxL := 3) (ret := (some .int)) (by decide) rfl ?_
  intro p e s m args below meth c s₁ B hml hv
  obtain ⟨rfl, hsz, hP, hE, hD0⟩ := hv
  have hx := B.exec
  have hb := B.bytes
  have hr := B.returns
  have hts := atoms_spec (ws := vc_whyNoPlace) B.pre
  have hown : s.vm.findClass RX11 = some m.cls := findClass_of_methodNamed B.named
  have hlocks := B.notSynchronized
  subst hsz
  have hD := hD0.self (sz := s.heap.size)
  generalize hAe : va_A [(xa 0, .inr (10, [.ref (xa 1), .ref (xa 2), .ref (na 0), .ref (pa 0), .ref (xa 3), .ref (na 1), .ref (na 2), .ref (xa 4), .ref (xa 5), .ref (xa 6), .ref (xa 7), .ref (xa 8), .ref (xa 9), .int 0, .int 0, .int 0, .long 0, .long 1, .int (-1), .int (-1)])), (xa 2, .inl (kc 3, 4, .inr (.inr (.inr (.inr (tg xa)))))), (xa 10, .inr (8, [.ref (xa 14), .int 0, .int 0, .int 0])), (xa 11, .inr (8, [.ref (xa 15), .int 0, .int 0, .int 0])), (xa 12, .inr (8, [.ref (xa 16), .int 0, .int 0, .int 0])), (xa 13, .inr (8, [.ref (xa 17), .int 0, .int 0, .int 0]))] s.heap.size = A at hD ⊢
  have hA : ∀ q : Nat, s.heap.size ≤ q → A q := fun q h => by rw [← hAe]; exact Or.inr h
  have hS : va_S A s.heap s.heap [] := va_S.rf
  have hK := hE.1
  have hP : va_P D vwCl [(xa 0, .inr (10, [.ref (xa 1), .ref (xa 2), .ref (na 0), .ref (pa 0), .ref (xa 3), .ref (na 1), .ref (na 2), .ref (xa 4), .ref (xa 5), .ref (xa 6), .ref (xa 7), .ref (xa 8), .ref (xa 9), .int 0, .int 0, .int 0, .long 0, .long 1, .int (-1), .int (-1)])), (xa 2, .inl (kc 3, 4, .inr (.inr (.inr (.inr (tg xa)))))), (xa 10, .inr (8, [.ref (xa 14), .int 0, .int 0, .int 0])), (xa 11, .inr (8, [.ref (xa 15), .int 0, .int 0, .int 0])), (xa 12, .inr (8, [.ref (xa 16), .int 0, .int 0, .int 0])), (xa 13, .inr (8, [.ref (xa 17), .int 0, .int 0, .int 0]))] s.heap := hP
  have hl := lv_entry ([.ref (xa 0), .int t, .int pl]) (n := 3) (Nat.le_of_ble_eq_true rfl)
  rw [lg_entry_eq]
  generalize (lg_sl ([.ref (xa 0), .int t, .int pl]) ++ List.replicate (3 - (lg_sl ([.ref (xa 0), .int t, .int pl])).length) Slot.unset).toArray = ls at hl ⊢
  have hl : lv_has ls 3 [(0, .ref (xa 0)), (1, .int t), (2, .int pl)] := hl
  rcases tr_cases t with h_t | rfl | rfl | rfl | rfl
  · refine lv_iload_n hx hb dX11_whyNoPlace_0 rfl (lv_at hl 1 rfl) ?_
    have hPc := hP.sub (ws' := []) [] rfl
    have hDc := hD.sub (ws' := []) [] (by decide) rfl
    have hFc := va_free (wc := []) hD hS hA [] rfl
    refine va_calli (va_runS (As := [.int t]) (rest := []) ⟨hx, hb, hml, hown, hts⟩ (c_isTray l D kc s.heap.size t) (va_cwS 1 hts gc_whyNoPlace_109_c_isTray rfl rfl rfl (by decide +kernel) ⟨Nat.le_of_ble_eq_true rfl, Nat.le_of_ble_eq_true rfl⟩) (preS_ok hPc hDc hE) rfl rfl hl.1 rfl (lv_room (Nat.le_of_ble_eq_true rfl)) dX11_whyNoPlace_1 ⟨Nat.le_of_ble_eq_true rfl, Nat.le_of_ble_eq_true rfl⟩) hS (fun q _ h => hFc q h) hFc (fun r_1 u9 t9 H locs ht hvm hw hB hz1 hk1 hS => ?_)
    obtain ⟨hP1, hD1⟩ := hB
    rw [ht] at hP1
    obtain ⟨hP, hD⟩ := va_join (wr := [(xa 0, .inr (10, [.ref (xa 1), .ref (xa 2), .ref (na 0), .ref (pa 0), .ref (xa 3), .ref (na 1), .ref (na 2), .ref (xa 4), .ref (xa 5), .ref (xa 6), .ref (xa 7), .ref (xa 8), .ref (xa 9), .int 0, .int 0, .int 0, .long 0, .long 1, .int (-1), .int (-1)])), (xa 2, .inl (kc 3, 4, .inr (.inr (.inr (.inr (tg xa)))))), (xa 10, .inr (8, [.ref (xa 14), .int 0, .int 0, .int 0])), (xa 11, .inr (8, [.ref (xa 15), .int 0, .int 0, .int 0])), (xa 12, .inr (8, [.ref (xa 16), .int 0, .int 0, .int 0])), (xa 13, .inr (8, [.ref (xa 17), .int 0, .int 0, .int 0]))]) (w1 := []) hP hD [] [0, 1, 2, 3, 4, 5] rfl rfl (by decide) (by decide) hk1 hFc hP1 hD1
    have hP : va_P D vwCl [(xa 0, .inr (10, [.ref (xa 1), .ref (xa 2), .ref (na 0), .ref (pa 0), .ref (xa 3), .ref (na 1), .ref (na 2), .ref (xa 4), .ref (xa 5), .ref (xa 6), .ref (xa 7), .ref (xa 8), .ref (xa 9), .int 0, .int 0, .int 0, .long 0, .long 1, .int (-1), .int (-1)])), (xa 2, .inl (kc 3, 4, .inr (.inr (.inr (.inr (tg xa)))))), (xa 10, .inr (8, [.ref (xa 14), .int 0, .int 0, .int 0])), (xa 11, .inr (8, [.ref (xa 15), .int 0, .int 0, .int 0])), (xa 12, .inr (8, [.ref (xa 16), .int 0, .int 0, .int 0])), (xa 13, .inr (8, [.ref (xa 17), .int 0, .int 0, .int 0]))] H := hP
    have hD : va_D A [(xa 0, .inr (10, [.ref (xa 1), .ref (xa 2), .ref (na 0), .ref (pa 0), .ref (xa 3), .ref (na 1), .ref (na 2), .ref (xa 4), .ref (xa 5), .ref (xa 6), .ref (xa 7), .ref (xa 8), .ref (xa 9), .int 0, .int 0, .int 0, .long 0, .long 1, .int (-1), .int (-1)])), (xa 2, .inl (kc 3, 4, .inr (.inr (.inr (.inr (tg xa)))))), (xa 10, .inr (8, [.ref (xa 14), .int 0, .int 0, .int 0])), (xa 11, .inr (8, [.ref (xa 15), .int 0, .int 0, .int 0])), (xa 12, .inr (8, [.ref (xa 16), .int 0, .int 0, .int 0])), (xa 13, .inr (8, [.ref (xa 17), .int 0, .int 0, .int 0]))] := hD
    subst hw
    refine lv_ci (y := 0) (h_t) ?_
    refine lv_if_ne (tgt := 9) hx hb dX11_whyNoPlace_4 (by decide) (fun h => absurd (by decide) h) (fun _ => ?_)
    refine lv_iconst (v := 1) hx hb dX11_whyNoPlace_7 (by decide) ?_
    have hP9 := hP.sub (ws' := [(xa 0, .inr (10, [.ref (xa 1), .ref (xa 2), .ref (na 0), .ref (pa 0), .ref (xa 3), .ref (na 1), .ref (na 2), .ref (xa 4), .ref (xa 5), .ref (xa 6), .ref (xa 7), .ref (xa 8), .ref (xa 9), .int 0, .int 0, .int 0, .long 0, .long 1, .int (-1), .int (-1)])), (xa 2, .inl (kc 3, 4, .inr (.inr (.inr (.inr (tg xa)))))), (xa 10, .inr (8, [.ref (xa 14), .int 0, .int 0, .int 0])), (xa 11, .inr (8, [.ref (xa 15), .int 0, .int 0, .int 0])), (xa 12, .inr (8, [.ref (xa 16), .int 0, .int 0, .int 0])), (xa 13, .inr (8, [.ref (xa 17), .int 0, .int 0, .int 0]))]) [0, 1, 2, 3, 4, 5] rfl
    have hD9 := hD.sub (ws' := [(xa 0, .inr (10, [.ref (xa 1), .ref (xa 2), .ref (na 0), .ref (pa 0), .ref (xa 3), .ref (na 1), .ref (na 2), .ref (xa 4), .ref (xa 5), .ref (xa 6), .ref (xa 7), .ref (xa 8), .ref (xa 9), .int 0, .int 0, .int 0, .long 0, .long 1, .int (-1), .int (-1)])), (xa 2, .inl (kc 3, 4, .inr (.inr (.inr (.inr (tg xa)))))), (xa 10, .inr (8, [.ref (xa 14), .int 0, .int 0, .int 0])), (xa 11, .inr (8, [.ref (xa 15), .int 0, .int 0, .int 0])), (xa 12, .inr (8, [.ref (xa 16), .int 0, .int 0, .int 0])), (xa 13, .inr (8, [.ref (xa 17), .int 0, .int 0, .int 0]))]) [0, 1, 2, 3, 4, 5] (by decide) rfl
    exact W.iret (v := 1) hx hb hr (fun t9 ht hW => ⟨⟨1, (), rfl, by first | exact (if_pos h_t).symm | decide, ⟨by rw [ht]; exact hP9, hD9⟩⟩, hS.F ht⟩) hS.2.2 dX11_whyNoPlace_8
  · refine lv_iload_n hx hb dX11_whyNoPlace_0 rfl (lv_at hl 1 rfl) ?_
    have hPc := hP.sub (ws' := []) [] rfl
    have hDc := hD.sub (ws' := []) [] (by decide) rfl
    have hFc := va_free (wc := []) hD hS hA [] rfl
    refine va_calli (va_runS (As := [.int 0]) (rest := []) ⟨hx, hb, hml, hown, hts⟩ (c_isTray l D kc s.heap.size 0) (va_cwS 1 hts gc_whyNoPlace_109_c_isTray rfl rfl rfl (by decide +kernel) ⟨Nat.le_of_ble_eq_true rfl, Nat.le_of_ble_eq_true rfl⟩) (preS_ok hPc hDc hE) rfl rfl hl.1 rfl (lv_room (Nat.le_of_ble_eq_true rfl)) dX11_whyNoPlace_1 ⟨Nat.le_of_ble_eq_true rfl, Nat.le_of_ble_eq_true rfl⟩) hS (fun q _ h => hFc q h) hFc (fun r_1 u9 t9 H locs ht hvm hw hB hz1 hk1 hS => ?_)
    obtain ⟨hP1, hD1⟩ := hB
    rw [ht] at hP1
    obtain ⟨hP, hD⟩ := va_join (wr := [(xa 0, .inr (10, [.ref (xa 1), .ref (xa 2), .ref (na 0), .ref (pa 0), .ref (xa 3), .ref (na 1), .ref (na 2), .ref (xa 4), .ref (xa 5), .ref (xa 6), .ref (xa 7), .ref (xa 8), .ref (xa 9), .int 0, .int 0, .int 0, .long 0, .long 1, .int (-1), .int (-1)])), (xa 2, .inl (kc 3, 4, .inr (.inr (.inr (.inr (tg xa)))))), (xa 10, .inr (8, [.ref (xa 14), .int 0, .int 0, .int 0])), (xa 11, .inr (8, [.ref (xa 15), .int 0, .int 0, .int 0])), (xa 12, .inr (8, [.ref (xa 16), .int 0, .int 0, .int 0])), (xa 13, .inr (8, [.ref (xa 17), .int 0, .int 0, .int 0]))]) (w1 := []) hP hD [] [0, 1, 2, 3, 4, 5] rfl rfl (by decide) (by decide) hk1 hFc hP1 hD1
    have hP : va_P D vwCl [(xa 0, .inr (10, [.ref (xa 1), .ref (xa 2), .ref (na 0), .ref (pa 0), .ref (xa 3), .ref (na 1), .ref (na 2), .ref (xa 4), .ref (xa 5), .ref (xa 6), .ref (xa 7), .ref (xa 8), .ref (xa 9), .int 0, .int 0, .int 0, .long 0, .long 1, .int (-1), .int (-1)])), (xa 2, .inl (kc 3, 4, .inr (.inr (.inr (.inr (tg xa)))))), (xa 10, .inr (8, [.ref (xa 14), .int 0, .int 0, .int 0])), (xa 11, .inr (8, [.ref (xa 15), .int 0, .int 0, .int 0])), (xa 12, .inr (8, [.ref (xa 16), .int 0, .int 0, .int 0])), (xa 13, .inr (8, [.ref (xa 17), .int 0, .int 0, .int 0]))] H := hP
    have hD : va_D A [(xa 0, .inr (10, [.ref (xa 1), .ref (xa 2), .ref (na 0), .ref (pa 0), .ref (xa 3), .ref (na 1), .ref (na 2), .ref (xa 4), .ref (xa 5), .ref (xa 6), .ref (xa 7), .ref (xa 8), .ref (xa 9), .int 0, .int 0, .int 0, .long 0, .long 1, .int (-1), .int (-1)])), (xa 2, .inl (kc 3, 4, .inr (.inr (.inr (.inr (tg xa)))))), (xa 10, .inr (8, [.ref (xa 14), .int 0, .int 0, .int 0])), (xa 11, .inr (8, [.ref (xa 15), .int 0, .int 0, .int 0])), (xa 12, .inr (8, [.ref (xa 16), .int 0, .int 0, .int 0])), (xa 13, .inr (8, [.ref (xa 17), .int 0, .int 0, .int 0]))] := hD
    subst hw
    refine lv_ci (y := 1) (by decide) ?_
    refine lv_if_ne (tgt := 9) hx hb dX11_whyNoPlace_4 (by decide) (fun _ => ?_) (fun h => absurd h (by decide))
    refine lv_aload_n hx hb dX11_whyNoPlace_9 rfl (lv_at hl 0 rfl) ?_
    refine va_get (D := D) (ci := 10) (v := .ref (xa 2)) (C := RX11) (T := TX11) (N := 20) hx hb hts ic_whyNoPlace_X11 hown hK hP 0 rfl rfl 1 (by decide) (hts (.fieldLink RX11 15 "SaltStreet" "trays" "[LSaltStreet$Tray;") (List.mem_of_getElem? (i := 8) rfl)) (fun _ h9 => h9) rfl dX11_whyNoPlace_10 ?_
    refine lv_iload_n hx hb dX11_whyNoPlace_13 rfl (lv_at hl 1 rfl) ?_
    refine va_aldq hx hb hK hP 1 3 (f := (tg xa)) rfl rfl (by unfold vp_in; decide) dX11_whyNoPlace_14 ?_
    refine lv_cv (y := .ref (xa 10)) (rfl) ?_
    refine va_getN (D := D) (ci := 8) (v := .int 0) (C := RX8) (T := TX8) (N := 4) hx hb hts ic_whyNoPlace_X8 hown hK hP 2 rfl rfl 1 (by decide) (hE.nw 114 rfl) (fun _ h9 => h9) rfl dX11_whyNoPlace_15 ?_
    refine lv_if_ne (tgt := 23) hx hb dX11_whyNoPlace_18 (by decide) (fun h => absurd (by decide) h) (fun _ => ?_)
    refine lv_iconst (v := 2) hx hb dX11_whyNoPlace_21 (by decide) ?_
    have hP9 := hP.sub (ws' := [(xa 0, .inr (10, [.ref (xa 1), .ref (xa 2), .ref (na 0), .ref (pa 0), .ref (xa 3), .ref (na 1), .ref (na 2), .ref (xa 4), .ref (xa 5), .ref (xa 6), .ref (xa 7), .ref (xa 8), .ref (xa 9), .int 0, .int 0, .int 0, .long 0, .long 1, .int (-1), .int (-1)])), (xa 2, .inl (kc 3, 4, .inr (.inr (.inr (.inr (tg xa)))))), (xa 10, .inr (8, [.ref (xa 14), .int 0, .int 0, .int 0])), (xa 11, .inr (8, [.ref (xa 15), .int 0, .int 0, .int 0])), (xa 12, .inr (8, [.ref (xa 16), .int 0, .int 0, .int 0])), (xa 13, .inr (8, [.ref (xa 17), .int 0, .int 0, .int 0]))]) [0, 1, 2, 3, 4, 5] rfl
    have hD9 := hD.sub (ws' := [(xa 0, .inr (10, [.ref (xa 1), .ref (xa 2), .ref (na 0), .ref (pa 0), .ref (xa 3), .ref (na 1), .ref (na 2), .ref (xa 4), .ref (xa 5), .ref (xa 6), .ref (xa 7), .ref (xa 8), .ref (xa 9), .int 0, .int 0, .int 0, .long 0, .long 1, .int (-1), .int (-1)])), (xa 2, .inl (kc 3, 4, .inr (.inr (.inr (.inr (tg xa)))))), (xa 10, .inr (8, [.ref (xa 14), .int 0, .int 0, .int 0])), (xa 11, .inr (8, [.ref (xa 15), .int 0, .int 0, .int 0])), (xa 12, .inr (8, [.ref (xa 16), .int 0, .int 0, .int 0])), (xa 13, .inr (8, [.ref (xa 17), .int 0, .int 0, .int 0]))]) [0, 1, 2, 3, 4, 5] (by decide) rfl
    exact W.iret (v := 2) hx hb hr (fun t9 ht hW => ⟨⟨2, (), rfl, by first | exact (if_pos h_t).symm | decide, ⟨by rw [ht]; exact hP9, hD9⟩⟩, hS.F ht⟩) hS.2.2 dX11_whyNoPlace_22
  · refine lv_iload_n hx hb dX11_whyNoPlace_0 rfl (lv_at hl 1 rfl) ?_
    have hPc := hP.sub (ws' := []) [] rfl
    have hDc := hD.sub (ws' := []) [] (by decide) rfl
    have hFc := va_free (wc := []) hD hS hA [] rfl
    refine va_calli (va_runS (As := [.int 1]) (rest := []) ⟨hx, hb, hml, hown, hts⟩ (c_isTray l D kc s.heap.size 1) (va_cwS 1 hts gc_whyNoPlace_109_c_isTray rfl rfl rfl (by decide +kernel) ⟨Nat.le_of_ble_eq_true rfl, Nat.le_of_ble_eq_true rfl⟩) (preS_ok hPc hDc hE) rfl rfl hl.1 rfl (lv_room (Nat.le_of_ble_eq_true rfl)) dX11_whyNoPlace_1 ⟨Nat.le_of_ble_eq_true rfl, Nat.le_of_ble_eq_true rfl⟩) hS (fun q _ h => hFc q h) hFc (fun r_1 u9 t9 H locs ht hvm hw hB hz1 hk1 hS => ?_)
    obtain ⟨hP1, hD1⟩ := hB
    rw [ht] at hP1
    obtain ⟨hP, hD⟩ := va_join (wr := [(xa 0, .inr (10, [.ref (xa 1), .ref (xa 2), .ref (na 0), .ref (pa 0), .ref (xa 3), .ref (na 1), .ref (na 2), .ref (xa 4), .ref (xa 5), .ref (xa 6), .ref (xa 7), .ref (xa 8), .ref (xa 9), .int 0, .int 0, .int 0, .long 0, .long 1, .int (-1), .int (-1)])), (xa 2, .inl (kc 3, 4, .inr (.inr (.inr (.inr (tg xa)))))), (xa 10, .inr (8, [.ref (xa 14), .int 0, .int 0, .int 0])), (xa 11, .inr (8, [.ref (xa 15), .int 0, .int 0, .int 0])), (xa 12, .inr (8, [.ref (xa 16), .int 0, .int 0, .int 0])), (xa 13, .inr (8, [.ref (xa 17), .int 0, .int 0, .int 0]))]) (w1 := []) hP hD [] [0, 1, 2, 3, 4, 5] rfl rfl (by decide) (by decide) hk1 hFc hP1 hD1
    have hP : va_P D vwCl [(xa 0, .inr (10, [.ref (xa 1), .ref (xa 2), .ref (na 0), .ref (pa 0), .ref (xa 3), .ref (na 1), .ref (na 2), .ref (xa 4), .ref (xa 5), .ref (xa 6), .ref (xa 7), .ref (xa 8), .ref (xa 9), .int 0, .int 0, .int 0, .long 0, .long 1, .int (-1), .int (-1)])), (xa 2, .inl (kc 3, 4, .inr (.inr (.inr (.inr (tg xa)))))), (xa 10, .inr (8, [.ref (xa 14), .int 0, .int 0, .int 0])), (xa 11, .inr (8, [.ref (xa 15), .int 0, .int 0, .int 0])), (xa 12, .inr (8, [.ref (xa 16), .int 0, .int 0, .int 0])), (xa 13, .inr (8, [.ref (xa 17), .int 0, .int 0, .int 0]))] H := hP
    have hD : va_D A [(xa 0, .inr (10, [.ref (xa 1), .ref (xa 2), .ref (na 0), .ref (pa 0), .ref (xa 3), .ref (na 1), .ref (na 2), .ref (xa 4), .ref (xa 5), .ref (xa 6), .ref (xa 7), .ref (xa 8), .ref (xa 9), .int 0, .int 0, .int 0, .long 0, .long 1, .int (-1), .int (-1)])), (xa 2, .inl (kc 3, 4, .inr (.inr (.inr (.inr (tg xa)))))), (xa 10, .inr (8, [.ref (xa 14), .int 0, .int 0, .int 0])), (xa 11, .inr (8, [.ref (xa 15), .int 0, .int 0, .int 0])), (xa 12, .inr (8, [.ref (xa 16), .int 0, .int 0, .int 0])), (xa 13, .inr (8, [.ref (xa 17), .int 0, .int 0, .int 0]))] := hD
    subst hw
    refine lv_ci (y := 1) (by decide) ?_
    refine lv_if_ne (tgt := 9) hx hb dX11_whyNoPlace_4 (by decide) (fun _ => ?_) (fun h => absurd h (by decide))
    refine lv_aload_n hx hb dX11_whyNoPlace_9 rfl (lv_at hl 0 rfl) ?_
    refine va_get (D := D) (ci := 10) (v := .ref (xa 2)) (C := RX11) (T := TX11) (N := 20) hx hb hts ic_whyNoPlace_X11 hown hK hP 0 rfl rfl 1 (by decide) (hts (.fieldLink RX11 15 "SaltStreet" "trays" "[LSaltStreet$Tray;") (List.mem_of_getElem? (i := 8) rfl)) (fun _ h9 => h9) rfl dX11_whyNoPlace_10 ?_
    refine lv_iload_n hx hb dX11_whyNoPlace_13 rfl (lv_at hl 1 rfl) ?_
    refine va_aldq hx hb hK hP 1 3 (f := (tg xa)) rfl rfl (by unfold vp_in; decide) dX11_whyNoPlace_14 ?_
    refine lv_cv (y := .ref (xa 11)) (rfl) ?_
    refine va_getN (D := D) (ci := 8) (v := .int 0) (C := RX8) (T := TX8) (N := 4) hx hb hts ic_whyNoPlace_X8 hown hK hP 3 rfl rfl 1 (by decide) (hE.nw 114 rfl) (fun _ h9 => h9) rfl dX11_whyNoPlace_15 ?_
    refine lv_if_ne (tgt := 23) hx hb dX11_whyNoPlace_18 (by decide) (fun h => absurd (by decide) h) (fun _ => ?_)
    refine lv_iconst (v := 2) hx hb dX11_whyNoPlace_21 (by decide) ?_
    have hP9 := hP.sub (ws' := [(xa 0, .inr (10, [.ref (xa 1), .ref (xa 2), .ref (na 0), .ref (pa 0), .ref (xa 3), .ref (na 1), .ref (na 2), .ref (xa 4), .ref (xa 5), .ref (xa 6), .ref (xa 7), .ref (xa 8), .ref (xa 9), .int 0, .int 0, .int 0, .long 0, .long 1, .int (-1), .int (-1)])), (xa 2, .inl (kc 3, 4, .inr (.inr (.inr (.inr (tg xa)))))), (xa 10, .inr (8, [.ref (xa 14), .int 0, .int 0, .int 0])), (xa 11, .inr (8, [.ref (xa 15), .int 0, .int 0, .int 0])), (xa 12, .inr (8, [.ref (xa 16), .int 0, .int 0, .int 0])), (xa 13, .inr (8, [.ref (xa 17), .int 0, .int 0, .int 0]))]) [0, 1, 2, 3, 4, 5] rfl
    have hD9 := hD.sub (ws' := [(xa 0, .inr (10, [.ref (xa 1), .ref (xa 2), .ref (na 0), .ref (pa 0), .ref (xa 3), .ref (na 1), .ref (na 2), .ref (xa 4), .ref (xa 5), .ref (xa 6), .ref (xa 7), .ref (xa 8), .ref (xa 9), .int 0, .int 0, .int 0, .long 0, .long 1, .int (-1), .int (-1)])), (xa 2, .inl (kc 3, 4, .inr (.inr (.inr (.inr (tg xa)))))), (xa 10, .inr (8, [.ref (xa 14), .int 0, .int 0, .int 0])), (xa 11, .inr (8, [.ref (xa 15), .int 0, .int 0, .int 0])), (xa 12, .inr (8, [.ref (xa 16), .int 0, .int 0, .int 0])), (xa 13, .inr (8, [.ref (xa 17), .int 0, .int 0, .int 0]))]) [0, 1, 2, 3, 4, 5] (by decide) rfl
    exact W.iret (v := 2) hx hb hr (fun t9 ht hW => ⟨⟨2, (), rfl, by first | exact (if_pos h_t).symm | decide, ⟨by rw [ht]; exact hP9, hD9⟩⟩, hS.F ht⟩) hS.2.2 dX11_whyNoPlace_22
  · refine lv_iload_n hx hb dX11_whyNoPlace_0 rfl (lv_at hl 1 rfl) ?_
    have hPc := hP.sub (ws' := []) [] rfl
    have hDc := hD.sub (ws' := []) [] (by decide) rfl
    have hFc := va_free (wc := []) hD hS hA [] rfl
    refine va_calli (va_runS (As := [.int 2]) (rest := []) ⟨hx, hb, hml, hown, hts⟩ (c_isTray l D kc s.heap.size 2) (va_cwS 1 hts gc_whyNoPlace_109_c_isTray rfl rfl rfl (by decide +kernel) ⟨Nat.le_of_ble_eq_true rfl, Nat.le_of_ble_eq_true rfl⟩) (preS_ok hPc hDc hE) rfl rfl hl.1 rfl (lv_room (Nat.le_of_ble_eq_true rfl)) dX11_whyNoPlace_1 ⟨Nat.le_of_ble_eq_true rfl, Nat.le_of_ble_eq_true rfl⟩) hS (fun q _ h => hFc q h) hFc (fun r_1 u9 t9 H locs ht hvm hw hB hz1 hk1 hS => ?_)
    obtain ⟨hP1, hD1⟩ := hB
    rw [ht] at hP1
    obtain ⟨hP, hD⟩ := va_join (wr := [(xa 0, .inr (10, [.ref (xa 1), .ref (xa 2), .ref (na 0), .ref (pa 0), .ref (xa 3), .ref (na 1), .ref (na 2), .ref (xa 4), .ref (xa 5), .ref (xa 6), .ref (xa 7), .ref (xa 8), .ref (xa 9), .int 0, .int 0, .int 0, .long 0, .long 1, .int (-1), .int (-1)])), (xa 2, .inl (kc 3, 4, .inr (.inr (.inr (.inr (tg xa)))))), (xa 10, .inr (8, [.ref (xa 14), .int 0, .int 0, .int 0])), (xa 11, .inr (8, [.ref (xa 15), .int 0, .int 0, .int 0])), (xa 12, .inr (8, [.ref (xa 16), .int 0, .int 0, .int 0])), (xa 13, .inr (8, [.ref (xa 17), .int 0, .int 0, .int 0]))]) (w1 := []) hP hD [] [0, 1, 2, 3, 4, 5] rfl rfl (by decide) (by decide) hk1 hFc hP1 hD1
    have hP : va_P D vwCl [(xa 0, .inr (10, [.ref (xa 1), .ref (xa 2), .ref (na 0), .ref (pa 0), .ref (xa 3), .ref (na 1), .ref (na 2), .ref (xa 4), .ref (xa 5), .ref (xa 6), .ref (xa 7), .ref (xa 8), .ref (xa 9), .int 0, .int 0, .int 0, .long 0, .long 1, .int (-1), .int (-1)])), (xa 2, .inl (kc 3, 4, .inr (.inr (.inr (.inr (tg xa)))))), (xa 10, .inr (8, [.ref (xa 14), .int 0, .int 0, .int 0])), (xa 11, .inr (8, [.ref (xa 15), .int 0, .int 0, .int 0])), (xa 12, .inr (8, [.ref (xa 16), .int 0, .int 0, .int 0])), (xa 13, .inr (8, [.ref (xa 17), .int 0, .int 0, .int 0]))] H := hP
    have hD : va_D A [(xa 0, .inr (10, [.ref (xa 1), .ref (xa 2), .ref (na 0), .ref (pa 0), .ref (xa 3), .ref (na 1), .ref (na 2), .ref (xa 4), .ref (xa 5), .ref (xa 6), .ref (xa 7), .ref (xa 8), .ref (xa 9), .int 0, .int 0, .int 0, .long 0, .long 1, .int (-1), .int (-1)])), (xa 2, .inl (kc 3, 4, .inr (.inr (.inr (.inr (tg xa)))))), (xa 10, .inr (8, [.ref (xa 14), .int 0, .int 0, .int 0])), (xa 11, .inr (8, [.ref (xa 15), .int 0, .int 0, .int 0])), (xa 12, .inr (8, [.ref (xa 16), .int 0, .int 0, .int 0])), (xa 13, .inr (8, [.ref (xa 17), .int 0, .int 0, .int 0]))] := hD
    subst hw
    refine lv_ci (y := 1) (by decide) ?_
    refine lv_if_ne (tgt := 9) hx hb dX11_whyNoPlace_4 (by decide) (fun _ => ?_) (fun h => absurd h (by decide))
    refine lv_aload_n hx hb dX11_whyNoPlace_9 rfl (lv_at hl 0 rfl) ?_
    refine va_get (D := D) (ci := 10) (v := .ref (xa 2)) (C := RX11) (T := TX11) (N := 20) hx hb hts ic_whyNoPlace_X11 hown hK hP 0 rfl rfl 1 (by decide) (hts (.fieldLink RX11 15 "SaltStreet" "trays" "[LSaltStreet$Tray;") (List.mem_of_getElem? (i := 8) rfl)) (fun _ h9 => h9) rfl dX11_whyNoPlace_10 ?_
    refine lv_iload_n hx hb dX11_whyNoPlace_13 rfl (lv_at hl 1 rfl) ?_
    refine va_aldq hx hb hK hP 1 3 (f := (tg xa)) rfl rfl (by unfold vp_in; decide) dX11_whyNoPlace_14 ?_
    refine lv_cv (y := .ref (xa 12)) (rfl) ?_
    refine va_getN (D := D) (ci := 8) (v := .int 0) (C := RX8) (T := TX8) (N := 4) hx hb hts ic_whyNoPlace_X8 hown hK hP 4 rfl rfl 1 (by decide) (hE.nw 114 rfl) (fun _ h9 => h9) rfl dX11_whyNoPlace_15 ?_
    refine lv_if_ne (tgt := 23) hx hb dX11_whyNoPlace_18 (by decide) (fun h => absurd (by decide) h) (fun _ => ?_)
    refine lv_iconst (v := 2) hx hb dX11_whyNoPlace_21 (by decide) ?_
    have hP9 := hP.sub (ws' := [(xa 0, .inr (10, [.ref (xa 1), .ref (xa 2), .ref (na 0), .ref (pa 0), .ref (xa 3), .ref (na 1), .ref (na 2), .ref (xa 4), .ref (xa 5), .ref (xa 6), .ref (xa 7), .ref (xa 8), .ref (xa 9), .int 0, .int 0, .int 0, .long 0, .long 1, .int (-1), .int (-1)])), (xa 2, .inl (kc 3, 4, .inr (.inr (.inr (.inr (tg xa)))))), (xa 10, .inr (8, [.ref (xa 14), .int 0, .int 0, .int 0])), (xa 11, .inr (8, [.ref (xa 15), .int 0, .int 0, .int 0])), (xa 12, .inr (8, [.ref (xa 16), .int 0, .int 0, .int 0])), (xa 13, .inr (8, [.ref (xa 17), .int 0, .int 0, .int 0]))]) [0, 1, 2, 3, 4, 5] rfl
    have hD9 := hD.sub (ws' := [(xa 0, .inr (10, [.ref (xa 1), .ref (xa 2), .ref (na 0), .ref (pa 0), .ref (xa 3), .ref (na 1), .ref (na 2), .ref (xa 4), .ref (xa 5), .ref (xa 6), .ref (xa 7), .ref (xa 8), .ref (xa 9), .int 0, .int 0, .int 0, .long 0, .long 1, .int (-1), .int (-1)])), (xa 2, .inl (kc 3, 4, .inr (.inr (.inr (.inr (tg xa)))))), (xa 10, .inr (8, [.ref (xa 14), .int 0, .int 0, .int 0])), (xa 11, .inr (8, [.ref (xa 15), .int 0, .int 0, .int 0])), (xa 12, .inr (8, [.ref (xa 16), .int 0, .int 0, .int 0])), (xa 13, .inr (8, [.ref (xa 17), .int 0, .int 0, .int 0]))]) [0, 1, 2, 3, 4, 5] (by decide) rfl
    exact W.iret (v := 2) hx hb hr (fun t9 ht hW => ⟨⟨2, (), rfl, by first | exact (if_pos h_t).symm | decide, ⟨by rw [ht]; exact hP9, hD9⟩⟩, hS.F ht⟩) hS.2.2 dX11_whyNoPlace_22
  · refine lv_iload_n hx hb dX11_whyNoPlace_0 rfl (lv_at hl 1 rfl) ?_
    have hPc := hP.sub (ws' := []) [] rfl
    have hDc := hD.sub (ws' := []) [] (by decide) rfl
    have hFc := va_free (wc := []) hD hS hA [] rfl
    refine va_calli (va_runS (As := [.int 3]) (rest := []) ⟨hx, hb, hml, hown, hts⟩ (c_isTray l D kc s.heap.size 3) (va_cwS 1 hts gc_whyNoPlace_109_c_isTray rfl rfl rfl (by decide +kernel) ⟨Nat.le_of_ble_eq_true rfl, Nat.le_of_ble_eq_true rfl⟩) (preS_ok hPc hDc hE) rfl rfl hl.1 rfl (lv_room (Nat.le_of_ble_eq_true rfl)) dX11_whyNoPlace_1 ⟨Nat.le_of_ble_eq_true rfl, Nat.le_of_ble_eq_true rfl⟩) hS (fun q _ h => hFc q h) hFc (fun r_1 u9 t9 H locs ht hvm hw hB hz1 hk1 hS => ?_)
    obtain ⟨hP1, hD1⟩ := hB
    rw [ht] at hP1
    obtain ⟨hP, hD⟩ := va_join (wr := [(xa 0, .inr (10, [.ref (xa 1), .ref (xa 2), .ref (na 0), .ref (pa 0), .ref (xa 3), .ref (na 1), .ref (na 2), .ref (xa 4), .ref (xa 5), .ref (xa 6), .ref (xa 7), .ref (xa 8), .ref (xa 9), .int 0, .int 0, .int 0, .long 0, .long 1, .int (-1), .int (-1)])), (xa 2, .inl (kc 3, 4, .inr (.inr (.inr (.inr (tg xa)))))), (xa 10, .inr (8, [.ref (xa 14), .int 0, .int 0, .int 0])), (xa 11, .inr (8, [.ref (xa 15), .int 0, .int 0, .int 0])), (xa 12, .inr (8, [.ref (xa 16), .int 0, .int 0, .int 0])), (xa 13, .inr (8, [.ref (xa 17), .int 0, .int 0, .int 0]))]) (w1 := []) hP hD [] [0, 1, 2, 3, 4, 5] rfl rfl (by decide) (by decide) hk1 hFc hP1 hD1
    have hP : va_P D vwCl [(xa 0, .inr (10, [.ref (xa 1), .ref (xa 2), .ref (na 0), .ref (pa 0), .ref (xa 3), .ref (na 1), .ref (na 2), .ref (xa 4), .ref (xa 5), .ref (xa 6), .ref (xa 7), .ref (xa 8), .ref (xa 9), .int 0, .int 0, .int 0, .long 0, .long 1, .int (-1), .int (-1)])), (xa 2, .inl (kc 3, 4, .inr (.inr (.inr (.inr (tg xa)))))), (xa 10, .inr (8, [.ref (xa 14), .int 0, .int 0, .int 0])), (xa 11, .inr (8, [.ref (xa 15), .int 0, .int 0, .int 0])), (xa 12, .inr (8, [.ref (xa 16), .int 0, .int 0, .int 0])), (xa 13, .inr (8, [.ref (xa 17), .int 0, .int 0, .int 0]))] H := hP
    have hD : va_D A [(xa 0, .inr (10, [.ref (xa 1), .ref (xa 2), .ref (na 0), .ref (pa 0), .ref (xa 3), .ref (na 1), .ref (na 2), .ref (xa 4), .ref (xa 5), .ref (xa 6), .ref (xa 7), .ref (xa 8), .ref (xa 9), .int 0, .int 0, .int 0, .long 0, .long 1, .int (-1), .int (-1)])), (xa 2, .inl (kc 3, 4, .inr (.inr (.inr (.inr (tg xa)))))), (xa 10, .inr (8, [.ref (xa 14), .int 0, .int 0, .int 0])), (xa 11, .inr (8, [.ref (xa 15), .int 0, .int 0, .int 0])), (xa 12, .inr (8, [.ref (xa 16), .int 0, .int 0, .int 0])), (xa 13, .inr (8, [.ref (xa 17), .int 0, .int 0, .int 0]))] := hD
    subst hw
    refine lv_ci (y := 1) (by decide) ?_
    refine lv_if_ne (tgt := 9) hx hb dX11_whyNoPlace_4 (by decide) (fun _ => ?_) (fun h => absurd h (by decide))
    refine lv_aload_n hx hb dX11_whyNoPlace_9 rfl (lv_at hl 0 rfl) ?_
    refine va_get (D := D) (ci := 10) (v := .ref (xa 2)) (C := RX11) (T := TX11) (N := 20) hx hb hts ic_whyNoPlace_X11 hown hK hP 0 rfl rfl 1 (by decide) (hts (.fieldLink RX11 15 "SaltStreet" "trays" "[LSaltStreet$Tray;") (List.mem_of_getElem? (i := 8) rfl)) (fun _ h9 => h9) rfl dX11_whyNoPlace_10 ?_
    refine lv_iload_n hx hb dX11_whyNoPlace_13 rfl (lv_at hl 1 rfl) ?_
    refine va_aldq hx hb hK hP 1 3 (f := (tg xa)) rfl rfl (by unfold vp_in; decide) dX11_whyNoPlace_14 ?_
    refine lv_cv (y := .ref (xa 13)) (rfl) ?_
    refine va_getN (D := D) (ci := 8) (v := .int 0) (C := RX8) (T := TX8) (N := 4) hx hb hts ic_whyNoPlace_X8 hown hK hP 5 rfl rfl 1 (by decide) (hE.nw 114 rfl) (fun _ h9 => h9) rfl dX11_whyNoPlace_15 ?_
    refine lv_if_ne (tgt := 23) hx hb dX11_whyNoPlace_18 (by decide) (fun h => absurd (by decide) h) (fun _ => ?_)
    refine lv_iconst (v := 2) hx hb dX11_whyNoPlace_21 (by decide) ?_
    have hP9 := hP.sub (ws' := [(xa 0, .inr (10, [.ref (xa 1), .ref (xa 2), .ref (na 0), .ref (pa 0), .ref (xa 3), .ref (na 1), .ref (na 2), .ref (xa 4), .ref (xa 5), .ref (xa 6), .ref (xa 7), .ref (xa 8), .ref (xa 9), .int 0, .int 0, .int 0, .long 0, .long 1, .int (-1), .int (-1)])), (xa 2, .inl (kc 3, 4, .inr (.inr (.inr (.inr (tg xa)))))), (xa 10, .inr (8, [.ref (xa 14), .int 0, .int 0, .int 0])), (xa 11, .inr (8, [.ref (xa 15), .int 0, .int 0, .int 0])), (xa 12, .inr (8, [.ref (xa 16), .int 0, .int 0, .int 0])), (xa 13, .inr (8, [.ref (xa 17), .int 0, .int 0, .int 0]))]) [0, 1, 2, 3, 4, 5] rfl
    have hD9 := hD.sub (ws' := [(xa 0, .inr (10, [.ref (xa 1), .ref (xa 2), .ref (na 0), .ref (pa 0), .ref (xa 3), .ref (na 1), .ref (na 2), .ref (xa 4), .ref (xa 5), .ref (xa 6), .ref (xa 7), .ref (xa 8), .ref (xa 9), .int 0, .int 0, .int 0, .long 0, .long 1, .int (-1), .int (-1)])), (xa 2, .inl (kc 3, 4, .inr (.inr (.inr (.inr (tg xa)))))), (xa 10, .inr (8, [.ref (xa 14), .int 0, .int 0, .int 0])), (xa 11, .inr (8, [.ref (xa 15), .int 0, .int 0, .int 0])), (xa 12, .inr (8, [.ref (xa 16), .int 0, .int 0, .int 0])), (xa 13, .inr (8, [.ref (xa 17), .int 0, .int 0, .int 0]))]) [0, 1, 2, 3, 4, 5] (by decide) rfl
    exact W.iret (v := 2) hx hb hr (fun t9 ht hW => ⟨⟨2, (), rfl, by first | exact (if_pos h_t).symm | decide, ⟨by rw [ht]; exact hP9, hD9⟩⟩, hS.F ht⟩) hS.2.2 dX11_whyNoPlace_22
theorem dX11_write_0 : decode cX11_write 0 = .ok (.aload_n 0, 1) := by decide +kernel
theorem dX11_write_1 : decode cX11_write 1 = .ok (.iload_n 1, 1) := by decide +kernel
theorem dX11_write_2 : decode cX11_write 2 = .ok (.iload_n 2, 1) := by decide +kernel
theorem dX11_write_3 : decode cX11_write 3 = .ok (.invokevirtual 128, 3) := by decide +kernel
theorem dX11_write_6 : decode cX11_write 6 = .ok (.istore 5, 2) := by decide +kernel
theorem dX11_write_8 : decode cX11_write 8 = .ok (.iload 5, 2) := by decide +kernel
theorem dX11_write_10 : decode cX11_write 10 = .ok (.ifCond .eq 10, 3) := by decide +kernel
theorem dX11_write_13 : decode cX11_write 13 = .ok (.aload_n 0, 1) := by decide +kernel
theorem dX11_write_14 : decode cX11_write 14 = .ok (.iload 5, 2) := by decide +kernel
theorem dX11_write_16 : decode cX11_write 16 = .ok (.invokevirtual 117, 3) := by decide +kernel
theorem dX11_write_19 : decode cX11_write 19 = .ok (.ireturn, 1) := by decide +kernel
def vdp_write : List Cond := [.code yX11_write cX11_write 6 (some .boolean), .methodLink RX11 128 yX11_whyNoPlace, .code yX11_whyNoPlace cX11_whyNoPlace 3 (some .int), .methodLink RX11 109 yX11_isTray, .code yX11_isTray cX11_isTray 1 (some .boolean), .methodLink RX11 113 yX11_within, .code yX11_within cX11_within 3 (some .boolean), .static yX11_within, .initialized RX11, .static yX11_isTray, .fieldLink RX11 15 "SaltStreet" "trays" "[LSaltStreet$Tray;", .instanceMethod yX11_whyNoPlace, .selects RX11 yX11_whyNoPlace yX11_whyNoPlace, .methodLink RX11 117 yX11_refused, .code yX11_refused cX11_refused 2 (some .boolean), .fieldLink RX11 103 "SaltStreet" "status" "I", .instanceMethod yX11_refused, .selects RX11 yX11_refused yX11_refused]
def vp_write : List Cond := vdp_write ++ (wsX110 ++ (wsX80 ++ ([] : List Cond)))
theorem ip_write_X11 : ∀ w ∈ wsX110, w ∈ vp_write := fun _ h => List.mem_append_right _ (List.mem_append_left _ h)
theorem ip_write_X8 : ∀ w ∈ wsX80, w ∈ vp_write := fun _ h => List.mem_append_right _ (List.mem_append_right _ (List.mem_append_left _ h))
set_option maxRecDepth 20000 in
theorem gp_write_128_c_whyNoPlace : GoodIn vp_write (wsV RX11 128 RX11 yX11_whyNoPlace vc_whyNoPlace) := (goodIn_app (goodIn_r _ [1, 11, 12, 8] rfl (by decide +kernel)) (goodIn_app (goodIn_r vdc_whyNoPlace [2, 3, 4, 5, 6, 7, 8, 9, 10] rfl (by decide +kernel)) (goodIn_app (goodIn_sub ip_write_X11 gdX11) (goodIn_app (goodIn_sub ip_write_X8 gdX8) goodIn_nil))))
set_option maxRecDepth 20000 in
theorem gp_write_117_c_refused : GoodIn vp_write (wsV RX11 117 RX11 yX11_refused vc_refused) := (goodIn_app (goodIn_r _ [13, 16, 17, 8] rfl (by decide +kernel)) (goodIn_app (goodIn_r vdc_refused [14, 15] rfl (by decide +kernel)) (goodIn_app (goodIn_sub ip_write_X11 gdX11) goodIn_nil)))
set_option maxHeartbeats 4000000 in
set_option maxRecDepth 100000 in
theorem p_write (l : Launch) (D : va_G) (kc : Nat → ClassId) (sz : Nat) (xa : Nat → Nat) (na : Nat → Nat) (pa : Nat → Nat) (a0 : Int32) (a1 : Int32) (v : Int64) : Met l yX11_write vp_write ({ frames := 3, cells := 0, slots := 0, locals := 64 }) (va_Pc [.ref (xa 0), .int a0, .int a1, .long v] (wPre D kc [(xa 0, .inr (10, [.ref (xa 1), .ref (xa 2), .ref (na 0), .ref (pa 0), .ref (xa 3), .ref (na 1), .ref (na 2), .ref (xa 4), .ref (xa 5), .ref (xa 6), .ref (xa 7), .ref (xa 8), .ref (xa 9), .int 0, .int 0, .int 0, .long 0, .long 1, .int (-1), .int (-1)])), (xa 2, .inl (kc 3, 4, .inr (.inr (.inr (.inr (tg xa)))))), (xa 10, .inr (8, [.ref (xa 14), .int 0, .int 0, .int 0])), (xa 11, .inr (8, [.ref (xa 15), .int 0, .int 0, .int 0])), (xa 12, .inr (8, [.ref (xa 16), .int 0, .int 0, .int 0])), (xa 13, .inr (8, [.ref (xa 17), .int 0, .int 0, .int 0]))] sz)) (va_Qi (fun (r : Int32) (_ : Unit) => r = 0) wAny (va_A [(xa 0, .inr (10, [.ref (xa 1), .ref (xa 2), .ref (na 0), .ref (pa 0), .ref (xa 3), .ref (na 1), .ref (na 2), .ref (xa 4), .ref (xa 5), .ref (xa 6), .ref (xa 7), .ref (xa 8), .ref (xa 9), .int 0, .int 0, .int 0, .long 0, .long 1, .int (-1), .int (-1)])), (xa 2, .inl (kc 3, 4, .inr (.inr (.inr (.inr (tg xa)))))), (xa 10, .inr (8, [.ref (xa 14), .int 0, .int 0, .int 0])), (xa 11, .inr (8, [.ref (xa 15), .int 0, .int 0, .int 0])), (xa 12, .inr (8, [.ref (xa 16), .int 0, .int 0, .int 0])), (xa 13, .inr (8, [.ref (xa 17), .int 0, .int 0, .int 0]))] sz)) 0 0 (va_A [(xa 0, .inr (10, [.ref (xa 1), .ref (xa 2), .ref (na 0), .ref (pa 0), .ref (xa 3), .ref (na 1), .ref (na 2), .ref (xa 4), .ref (xa 5), .ref (xa 6), .ref (xa 7), .ref (xa 8), .ref (xa 9), .int 0, .int 0, .int 0, .long 0, .long 1, .int (-1), .int (-1)])), (xa 2, .inl (kc 3, 4, .inr (.inr (.inr (.inr (tg xa)))))), (xa 10, .inr (8, [.ref (xa 14), .int 0, .int 0, .int 0])), (xa 11, .inr (8, [.ref (xa 15), .int 0, .int 0, .int 0])), (xa 12, .inr (8, [.ref (xa 16), .int 0, .int 0, .int 0])), (xa 13, .inr (8, [.ref (xa 17), .int 0, .int 0, .int 0]))] sz) := by
  refine Met.ofW (cc := cX11_write) (maxL := 6) (ret := (some .boolean)) (by decide) rfl ?_
  intro p e s m args below meth c s₁ B hml hv
  obtain ⟨rfl, hsz, hP, hE, hD0⟩ := hv
  have hx := B.exec
  have hb := B.bytes
  have hr := B.returns
  have hts := atoms_spec (ws := vp_write) B.pre
  have hown : s.vm.findClass RX11 = some m.cls := findClass_of_methodNamed B.named
  have hlocks := B.notSynchronized
  subst hsz
  have hD := hD0.self (sz := s.heap.size)
  generalize hAe : va_A [(xa 0, .inr (10, [.ref (xa 1), .ref (xa 2), .ref (na 0), .ref (pa 0), .ref (xa 3), .ref (na 1), .ref (na 2), .ref (xa 4), .ref (xa 5), .ref (xa 6), .ref (xa 7), .ref (xa 8), .ref (xa 9), .int 0, .int 0, .int 0, .long 0, .long 1, .int (-1), .int (-1)])), (xa 2, .inl (kc 3, 4, .inr (.inr (.inr (.inr (tg xa)))))), (xa 10, .inr (8, [.ref (xa 14), .int 0, .int 0, .int 0])), (xa 11, .inr (8, [.ref (xa 15), .int 0, .int 0, .int 0])), (xa 12, .inr (8, [.ref (xa 16), .int 0, .int 0, .int 0])), (xa 13, .inr (8, [.ref (xa 17), .int 0, .int 0, .int 0]))] s.heap.size = A at hD ⊢
  have hA : ∀ q : Nat, s.heap.size ≤ q → A q := fun q h => by rw [← hAe]; exact Or.inr h
  have hS : va_S A s.heap s.heap [] := va_S.rf
  have hK := hE.1
  have hP : va_P D vwCl [(xa 0, .inr (10, [.ref (xa 1), .ref (xa 2), .ref (na 0), .ref (pa 0), .ref (xa 3), .ref (na 1), .ref (na 2), .ref (xa 4), .ref (xa 5), .ref (xa 6), .ref (xa 7), .ref (xa 8), .ref (xa 9), .int 0, .int 0, .int 0, .long 0, .long 1, .int (-1), .int (-1)])), (xa 2, .inl (kc 3, 4, .inr (.inr (.inr (.inr (tg xa)))))), (xa 10, .inr (8, [.ref (xa 14), .int 0, .int 0, .int 0])), (xa 11, .inr (8, [.ref (xa 15), .int 0, .int 0, .int 0])), (xa 12, .inr (8, [.ref (xa 16), .int 0, .int 0, .int 0])), (xa 13, .inr (8, [.ref (xa 17), .int 0, .int 0, .int 0]))] s.heap := hP
  have hl := lv_entry ([.ref (xa 0), .int a0, .int a1, .long v]) (n := 6) (Nat.le_of_ble_eq_true rfl)
  rw [lg_entry_eq]
  generalize (lg_sl ([.ref (xa 0), .int a0, .int a1, .long v]) ++ List.replicate (6 - (lg_sl ([.ref (xa 0), .int a0, .int a1, .long v])).length) Slot.unset).toArray = ls at hl ⊢
  have hl : lv_has ls 6 [(0, .ref (xa 0)), (1, .int a0), (2, .int a1), (3, .long v)] := hl
  refine lv_aload_n hx hb dX11_write_0 rfl (lv_at hl 0 rfl) ?_
  refine lv_iload_n hx hb dX11_write_1 rfl (lv_at hl 1 rfl) ?_
  refine lv_iload_n hx hb dX11_write_2 rfl (lv_at hl 2 rfl) ?_
  have hPc := hP.sub (ws' := [(xa 0, .inr (10, [.ref (xa 1), .ref (xa 2), .ref (na 0), .ref (pa 0), .ref (xa 3), .ref (na 1), .ref (na 2), .ref (xa 4), .ref (xa 5), .ref (xa 6), .ref (xa 7), .ref (xa 8), .ref (xa 9), .int 0, .int 0, .int 0, .long 0, .long 1, .int (-1), .int (-1)])), (xa 2, .inl (kc 3, 4, .inr (.inr (.inr (.inr (tg xa)))))), (xa 10, .inr (8, [.ref (xa 14), .int 0, .int 0, .int 0])), (xa 11, .inr (8, [.ref (xa 15), .int 0, .int 0, .int 0])), (xa 12, .inr (8, [.ref (xa 16), .int 0, .int 0, .int 0])), (xa 13, .inr (8, [.ref (xa 17), .int 0, .int 0, .int 0]))]) [0, 1, 2, 3, 4, 5] rfl
  have hDc := hD.sub (ws' := [(xa 0, .inr (10, [.ref (xa 1), .ref (xa 2), .ref (na 0), .ref (pa 0), .ref (xa 3), .ref (na 1), .ref (na 2), .ref (xa 4), .ref (xa 5), .ref (xa 6), .ref (xa 7), .ref (xa 8), .ref (xa 9), .int 0, .int 0, .int 0, .long 0, .long 1, .int (-1), .int (-1)])), (xa 2, .inl (kc 3, 4, .inr (.inr (.inr (.inr (tg xa)))))), (xa 10, .inr (8, [.ref (xa 14), .int 0, .int 0, .int 0])), (xa 11, .inr (8, [.ref (xa 15), .int 0, .int 0, .int 0])), (xa 12, .inr (8, [.ref (xa 16), .int 0, .int 0, .int 0])), (xa 13, .inr (8, [.ref (xa 17), .int 0, .int 0, .int 0]))]) [0, 1, 2, 3, 4, 5] (by decide) rfl
  have hFc := va_free (wc := [(xa 0, .inr (10, [.ref (xa 1), .ref (xa 2), .ref (na 0), .ref (pa 0), .ref (xa 3), .ref (na 1), .ref (na 2), .ref (xa 4), .ref (xa 5), .ref (xa 6), .ref (xa 7), .ref (xa 8), .ref (xa 9), .int 0, .int 0, .int 0, .long 0, .long 1, .int (-1), .int (-1)])), (xa 2, .inl (kc 3, 4, .inr (.inr (.inr (.inr (tg xa)))))), (xa 10, .inr (8, [.ref (xa 14), .int 0, .int 0, .int 0])), (xa 11, .inr (8, [.ref (xa 15), .int 0, .int 0, .int 0])), (xa 12, .inr (8, [.ref (xa 16), .int 0, .int 0, .int 0])), (xa 13, .inr (8, [.ref (xa 17), .int 0, .int 0, .int 0]))]) hD hS hA [0, 1, 2, 3, 4, 5] rfl
  refine va_calli (va_runV (As := [.int a0, .int a1]) (rest := []) ⟨hx, hb, hml, hown, hts⟩ (c_whyNoPlace l D kc s.heap.size xa na pa a0 a1) (cwV 2 hts gp_write_128_c_whyNoPlace rfl rfl rfl (by decide +kernel) ⟨Nat.le_of_ble_eq_true rfl, Nat.le_of_ble_eq_true rfl⟩) (preV_ok hPc hDc hE (ci := 10) (q0 := 0) rfl rfl) rfl rfl hl.1 rfl (lv_room (Nat.le_of_ble_eq_true rfl)) dX11_write_3 ⟨Nat.le_of_ble_eq_true rfl, Nat.le_of_ble_eq_true rfl⟩) hS (fun q _ h => hFc q h) hFc (fun r_3 u9 t9 H locs ht hvm hw hB hz1 hk1 hS => ?_)
  obtain ⟨hP1, hD1⟩ := hB
  rw [ht] at hP1
  obtain ⟨hP, hD⟩ := va_join (wr := []) (w1 := [(xa 0, .inr (10, [.ref (xa 1), .ref (xa 2), .ref (na 0), .ref (pa 0), .ref (xa 3), .ref (na 1), .ref (na 2), .ref (xa 4), .ref (xa 5), .ref (xa 6), .ref (xa 7), .ref (xa 8), .ref (xa 9), .int 0, .int 0, .int 0, .long 0, .long 1, .int (-1), .int (-1)])), (xa 2, .inl (kc 3, 4, .inr (.inr (.inr (.inr (tg xa)))))), (xa 10, .inr (8, [.ref (xa 14), .int 0, .int 0, .int 0])), (xa 11, .inr (8, [.ref (xa 15), .int 0, .int 0, .int 0])), (xa 12, .inr (8, [.ref (xa 16), .int 0, .int 0, .int 0])), (xa 13, .inr (8, [.ref (xa 17), .int 0, .int 0, .int 0]))]) hP hD [0, 1, 2, 3, 4, 5] [] rfl rfl (by decide) (by decide) hk1 hFc hP1 hD1
  have hP : va_P D vwCl [(xa 0, .inr (10, [.ref (xa 1), .ref (xa 2), .ref (na 0), .ref (pa 0), .ref (xa 3), .ref (na 1), .ref (na 2), .ref (xa 4), .ref (xa 5), .ref (xa 6), .ref (xa 7), .ref (xa 8), .ref (xa 9), .int 0, .int 0, .int 0, .long 0, .long 1, .int (-1), .int (-1)])), (xa 2, .inl (kc 3, 4, .inr (.inr (.inr (.inr (tg xa)))))), (xa 10, .inr (8, [.ref (xa 14), .int 0, .int 0, .int 0])), (xa 11, .inr (8, [.ref (xa 15), .int 0, .int 0, .int 0])), (xa 12, .inr (8, [.ref (xa 16), .int 0, .int 0, .int 0])), (xa 13, .inr (8, [.ref (xa 17), .int 0, .int 0, .int 0]))] H := hP
  have hD : va_D A [(xa 0, .inr (10, [.ref (xa 1), .ref (xa 2), .ref (na 0), .ref (pa 0), .ref (xa 3), .ref (na 1), .ref (na 2), .ref (xa 4), .ref (xa 5), .ref (xa 6), .ref (xa 7), .ref (xa 8), .ref (xa 9), .int 0, .int 0, .int 0, .long 0, .long 1, .int (-1), .int (-1)])), (xa 2, .inl (kc 3, 4, .inr (.inr (.inr (.inr (tg xa)))))), (xa 10, .inr (8, [.ref (xa 14), .int 0, .int 0, .int 0])), (xa 11, .inr (8, [.ref (xa 15), .int 0, .int 0, .int 0])), (xa 12, .inr (8, [.ref (xa 16), .int 0, .int 0, .int 0])), (xa 13, .inr (8, [.ref (xa 17), .int 0, .int 0, .int 0]))] := hD
  subst hw
  refine lv_istore (lv' := [(5, .int (wNP a0)), (0, .ref (xa 0)), (1, .int a0), (2, .int a1), (3, .long v)]) hx hb dX11_write_6 hl (by decide) rfl (fun ls hl => ?_)
  refine lv_iload hx hb dX11_write_8 (lv_at hl 0 rfl) ?_
  refine lv_if_eq (tgt := 20) hx hb dX11_write_10 (by decide) (fun h => absurd h (wNP_ne _)) (fun _ => ?_)
  refine lv_aload_n hx hb dX11_write_13 rfl (lv_at hl 1 rfl) ?_
  refine lv_iload hx hb dX11_write_14 (lv_at hl 0 rfl) ?_
  have hPc := hP.sub (ws' := [(xa 0, .inr (10, [.ref (xa 1), .ref (xa 2), .ref (na 0), .ref (pa 0), .ref (xa 3), .ref (na 1), .ref (na 2), .ref (xa 4), .ref (xa 5), .ref (xa 6), .ref (xa 7), .ref (xa 8), .ref (xa 9), .int 0, .int 0, .int 0, .long 0, .long 1, .int (-1), .int (-1)]))]) [0] rfl
  have hDc := hD.sub (ws' := [(xa 0, .inr (10, [.ref (xa 1), .ref (xa 2), .ref (na 0), .ref (pa 0), .ref (xa 3), .ref (na 1), .ref (na 2), .ref (xa 4), .ref (xa 5), .ref (xa 6), .ref (xa 7), .ref (xa 8), .ref (xa 9), .int 0, .int 0, .int 0, .long 0, .long 1, .int (-1), .int (-1)]))]) [0] (by decide) rfl
  have hFc := va_free (wc := [(xa 0, .inr (10, [.ref (xa 1), .ref (xa 2), .ref (na 0), .ref (pa 0), .ref (xa 3), .ref (na 1), .ref (na 2), .ref (xa 4), .ref (xa 5), .ref (xa 6), .ref (xa 7), .ref (xa 8), .ref (xa 9), .int 0, .int 0, .int 0, .long 0, .long 1, .int (-1), .int (-1)]))]) hD hS hA [0] rfl
  refine va_calli (va_runV (As := [.int (wNP a0)]) (rest := []) ⟨hx, hb, hml, hown, hts⟩ (c_refused l D kc H.size xa na pa 0 0 0 0 1 (-1) (-1) (wNP a0)) (cwV 1 hts gp_write_117_c_refused rfl rfl rfl (by decide +kernel) ⟨Nat.le_of_ble_eq_true rfl, Nat.le_of_ble_eq_true rfl⟩) (preV_ok hPc hDc hE (ci := 10) (q0 := 0) rfl rfl) rfl rfl hl.1 rfl (lv_room (Nat.le_of_ble_eq_true rfl)) dX11_write_16 ⟨Nat.le_of_ble_eq_true rfl, Nat.le_of_ble_eq_true rfl⟩) hS (fun q _ h => hFc q h) hFc (fun r_16 u9 t9 H locs ht hvm hw hB hz1 hk1 hS => ?_)
  obtain ⟨hP1, hD1⟩ := hB
  rw [ht] at hP1
  obtain ⟨hP, hD⟩ := va_join (wr := [(xa 2, .inl (kc 3, 4, .inr (.inr (.inr (.inr (tg xa)))))), (xa 10, .inr (8, [.ref (xa 14), .int 0, .int 0, .int 0])), (xa 11, .inr (8, [.ref (xa 15), .int 0, .int 0, .int 0])), (xa 12, .inr (8, [.ref (xa 16), .int 0, .int 0, .int 0])), (xa 13, .inr (8, [.ref (xa 17), .int 0, .int 0, .int 0]))]) (w1 := [(xa 0, .inr (10, [.ref (xa 1), .ref (xa 2), .ref (na 0), .ref (pa 0), .ref (xa 3), .ref (na 1), .ref (na 2), .ref (xa 4), .ref (xa 5), .ref (xa 6), .ref (xa 7), .ref (xa 8), .ref (xa 9), .int 0, .int 0, .int (wNP a0), .long 0, .long 1, .int (-1), .int (-1)]))]) hP hD [0] [1, 2, 3, 4, 5] rfl rfl (by decide) (by decide) hk1 hFc hP1 hD1
  have hP : va_P D vwCl [(xa 2, .inl (kc 3, 4, .inr (.inr (.inr (.inr (tg xa)))))), (xa 10, .inr (8, [.ref (xa 14), .int 0, .int 0, .int 0])), (xa 11, .inr (8, [.ref (xa 15), .int 0, .int 0, .int 0])), (xa 12, .inr (8, [.ref (xa 16), .int 0, .int 0, .int 0])), (xa 13, .inr (8, [.ref (xa 17), .int 0, .int 0, .int 0])), (xa 0, .inr (10, [.ref (xa 1), .ref (xa 2), .ref (na 0), .ref (pa 0), .ref (xa 3), .ref (na 1), .ref (na 2), .ref (xa 4), .ref (xa 5), .ref (xa 6), .ref (xa 7), .ref (xa 8), .ref (xa 9), .int 0, .int 0, .int (wNP a0), .long 0, .long 1, .int (-1), .int (-1)]))] H := hP
  have hD : va_D A [(xa 2, .inl (kc 3, 4, .inr (.inr (.inr (.inr (tg xa)))))), (xa 10, .inr (8, [.ref (xa 14), .int 0, .int 0, .int 0])), (xa 11, .inr (8, [.ref (xa 15), .int 0, .int 0, .int 0])), (xa 12, .inr (8, [.ref (xa 16), .int 0, .int 0, .int 0])), (xa 13, .inr (8, [.ref (xa 17), .int 0, .int 0, .int 0])), (xa 0, .inr (10, [.ref (xa 1), .ref (xa 2), .ref (na 0), .ref (pa 0), .ref (xa 3), .ref (na 1), .ref (na 2), .ref (xa 4), .ref (xa 5), .ref (xa 6), .ref (xa 7), .ref (xa 8), .ref (xa 9), .int 0, .int 0, .int (wNP a0), .long 0, .long 1, .int (-1), .int (-1)]))] := hD
  subst hw
  exact W.zret (v := 0) hx hb hr rfl (fun t9 ht hW => ⟨⟨0, (), rfl, rfl, trivial⟩, hS.F ht⟩) hS.2.2 dX11_write_19
theorem dX11_read_0 : decode cX11_read 0 = .ok (.aload_n 0, 1) := by decide +kernel
theorem dX11_read_1 : decode cX11_read 1 = .ok (.iload_n 1, 1) := by decide +kernel
theorem dX11_read_2 : decode cX11_read 2 = .ok (.iload_n 2, 1) := by decide +kernel
theorem dX11_read_3 : decode cX11_read 3 = .ok (.invokevirtual 128, 3) := by decide +kernel
theorem dX11_read_6 : decode cX11_read 6 = .ok (.istore_n 3, 1) := by decide +kernel
theorem dX11_read_7 : decode cX11_read 7 = .ok (.iload_n 3, 1) := by decide +kernel
theorem dX11_read_8 : decode cX11_read 8 = .ok (.ifCond .eq 10, 3) := by decide +kernel
theorem dX11_read_11 : decode cX11_read 11 = .ok (.aload_n 0, 1) := by decide +kernel
theorem dX11_read_12 : decode cX11_read 12 = .ok (.iload_n 3, 1) := by decide +kernel
theorem dX11_read_13 : decode cX11_read 13 = .ok (.invokevirtual 136, 3) := by decide +kernel
theorem dX11_read_16 : decode cX11_read 16 = .ok (.i2l, 1) := by decide +kernel
theorem dX11_read_17 : decode cX11_read 17 = .ok (.lreturn, 1) := by decide +kernel
def vdp_read : List Cond := [.code yX11_read cX11_read 4 (some .long), .methodLink RX11 128 yX11_whyNoPlace, .code yX11_whyNoPlace cX11_whyNoPlace 3 (some .int), .methodLink RX11 109 yX11_isTray, .code yX11_isTray cX11_isTray 1 (some .boolean), .methodLink RX11 113 yX11_within, .code yX11_within cX11_within 3 (some .boolean), .static yX11_within, .initialized RX11, .static yX11_isTray, .fieldLink RX11 15 "SaltStreet" "trays" "[LSaltStreet$Tray;", .instanceMethod yX11_whyNoPlace, .selects RX11 yX11_whyNoPlace yX11_whyNoPlace, .methodLink RX11 136 yX11_refuse, .code yX11_refuse cX11_refuse 2 (some .int), .fieldLink RX11 103 "SaltStreet" "status" "I", .instanceMethod yX11_refuse, .selects RX11 yX11_refuse yX11_refuse]
def vp_read : List Cond := vdp_read ++ (wsX110 ++ (wsX80 ++ ([] : List Cond)))
theorem ip_read_X11 : ∀ w ∈ wsX110, w ∈ vp_read := fun _ h => List.mem_append_right _ (List.mem_append_left _ h)
theorem ip_read_X8 : ∀ w ∈ wsX80, w ∈ vp_read := fun _ h => List.mem_append_right _ (List.mem_append_right _ (List.mem_append_left _ h))
set_option maxRecDepth 20000 in
theorem gp_read_128_c_whyNoPlace : GoodIn vp_read (wsV RX11 128 RX11 yX11_whyNoPlace vc_whyNoPlace) := (goodIn_app (goodIn_r _ [1, 11, 12, 8] rfl (by decide +kernel)) (goodIn_app (goodIn_r vdc_whyNoPlace [2, 3, 4, 5, 6, 7, 8, 9, 10] rfl (by decide +kernel)) (goodIn_app (goodIn_sub ip_read_X11 gdX11) (goodIn_app (goodIn_sub ip_read_X8 gdX8) goodIn_nil))))
set_option maxRecDepth 20000 in
theorem gp_read_136_c_refuse : GoodIn vp_read (wsV RX11 136 RX11 yX11_refuse vc_refuse) := (goodIn_app (goodIn_r _ [13, 16, 17, 8] rfl (by decide +kernel)) (goodIn_app (goodIn_r vdc_refuse [14, 15] rfl (by decide +kernel)) (goodIn_app (goodIn_sub ip_read_X11 gdX11) goodIn_nil)))
set_option maxHeartbeats 4000000 in
set_option maxRecDepth 100000 in
theorem p_read (l : Launch) (D : va_G) (kc : Nat → ClassId) (sz : Nat) (xa : Nat → Nat) (na : Nat → Nat) (pa : Nat → Nat) (a0 : Int32) (a1 : Int32) : Met l yX11_read vp_read ({ frames := 3, cells := 0, slots := 0, locals := 64 }) (va_Pc [.ref (xa 0), .int a0, .int a1] (wPre D kc [(xa 0, .inr (10, [.ref (xa 1), .ref (xa 2), .ref (na 0), .ref (pa 0), .ref (xa 3), .ref (na 1), .ref (na 2), .ref (xa 4), .ref (xa 5), .ref (xa 6), .ref (xa 7), .ref (xa 8), .ref (xa 9), .int 0, .int 0, .int 0, .long 0, .long 1, .int (-1), .int (-1)])), (xa 2, .inl (kc 3, 4, .inr (.inr (.inr (.inr (tg xa)))))), (xa 10, .inr (8, [.ref (xa 14), .int 0, .int 0, .int 0])), (xa 11, .inr (8, [.ref (xa 15), .int 0, .int 0, .int 0])), (xa 12, .inr (8, [.ref (xa 16), .int 0, .int 0, .int 0])), (xa 13, .inr (8, [.ref (xa 17), .int 0, .int 0, .int 0]))] sz)) (va_Ql (fun (r : Int64) (_ : Unit) => r = (-1)) wAny (va_A [(xa 0, .inr (10, [.ref (xa 1), .ref (xa 2), .ref (na 0), .ref (pa 0), .ref (xa 3), .ref (na 1), .ref (na 2), .ref (xa 4), .ref (xa 5), .ref (xa 6), .ref (xa 7), .ref (xa 8), .ref (xa 9), .int 0, .int 0, .int 0, .long 0, .long 1, .int (-1), .int (-1)])), (xa 2, .inl (kc 3, 4, .inr (.inr (.inr (.inr (tg xa)))))), (xa 10, .inr (8, [.ref (xa 14), .int 0, .int 0, .int 0])), (xa 11, .inr (8, [.ref (xa 15), .int 0, .int 0, .int 0])), (xa 12, .inr (8, [.ref (xa 16), .int 0, .int 0, .int 0])), (xa 13, .inr (8, [.ref (xa 17), .int 0, .int 0, .int 0]))] sz)) 0 0 (va_A [(xa 0, .inr (10, [.ref (xa 1), .ref (xa 2), .ref (na 0), .ref (pa 0), .ref (xa 3), .ref (na 1), .ref (na 2), .ref (xa 4), .ref (xa 5), .ref (xa 6), .ref (xa 7), .ref (xa 8), .ref (xa 9), .int 0, .int 0, .int 0, .long 0, .long 1, .int (-1), .int (-1)])), (xa 2, .inl (kc 3, 4, .inr (.inr (.inr (.inr (tg xa)))))), (xa 10, .inr (8, [.ref (xa 14), .int 0, .int 0, .int 0])), (xa 11, .inr (8, [.ref (xa 15), .int 0, .int 0, .int 0])), (xa 12, .inr (8, [.ref (xa 16), .int 0, .int 0, .int 0])), (xa 13, .inr (8, [.ref (xa 17), .int 0, .int 0, .int 0]))] sz) := by
  refine Met.ofW (cc := cX11_read) (maxL := 4) (ret := (some .long)) (by decide) rfl ?_
  intro p e s m args below meth c s₁ B hml hv
  obtain ⟨rfl, hsz, hP, hE, hD0⟩ := hv
  have hx := B.exec
  have hb := B.bytes
  have hr := B.returns
  have hts := atoms_spec (ws := vp_read) B.pre
  have hown : s.vm.findClass RX11 = some m.cls := findClass_of_methodNamed B.named
  have hlocks := B.notSynchronized
  subst hsz
  have hD := hD0.self (sz := s.heap.size)
  generalize hAe : va_A [(xa 0, .inr (10, [.ref (xa 1), .ref (xa 2), .ref (na 0), .ref (pa 0), .ref (xa 3), .ref (na 1), .ref (na 2), .ref (xa 4), .ref (xa 5), .ref (xa 6), .ref (xa 7), .ref (xa 8), .ref (xa 9), .int 0, .int 0, .int 0, .long 0, .long 1, .int (-1), .int (-1)])), (xa 2, .inl (kc 3, 4, .inr (.inr (.inr (.inr (tg xa)))))), (xa 10, .inr (8, [.ref (xa 14), .int 0, .int 0, .int 0])), (xa 11, .inr (8, [.ref (xa 15), .int 0, .int 0, .int 0])), (xa 12, .inr (8, [.ref (xa 16), .int 0, .int 0, .int 0])), (xa 13, .inr (8, [.ref (xa 17), .int 0, .int 0, .int 0]))] s.heap.size = A at hD ⊢
  have hA : ∀ q : Nat, s.heap.size ≤ q → A q := fun q h => by rw [← hAe]; exact Or.inr h
  have hS : va_S A s.heap s.heap [] := va_S.rf
  have hK := hE.1
  have hP : va_P D vwCl [(xa 0, .inr (10, [.ref (xa 1), .ref (xa 2), .ref (na 0), .ref (pa 0), .ref (xa 3), .ref (na 1), .ref (na 2), .ref (xa 4), .ref (xa 5), .ref (xa 6), .ref (xa 7), .ref (xa 8), .ref (xa 9), .int 0, .int 0, .int 0, .long 0, .long 1, .int (-1), .int (-1)])), (xa 2, .inl (kc 3, 4, .inr (.inr (.inr (.inr (tg xa)))))), (xa 10, .inr (8, [.ref (xa 14), .int 0, .int 0, .int 0])), (xa 11, .inr (8, [.ref (xa 15), .int 0, .int 0, .int 0])), (xa 12, .inr (8, [.ref (xa 16), .int 0, .int 0, .int 0])), (xa 13, .inr (8, [.ref (xa 17), .int 0, .int 0, .int 0]))] s.heap := hP
  have hl := lv_entry ([.ref (xa 0), .int a0, .int a1]) (n := 4) (Nat.le_of_ble_eq_true rfl)
  rw [lg_entry_eq]
  generalize (lg_sl ([.ref (xa 0), .int a0, .int a1]) ++ List.replicate (4 - (lg_sl ([.ref (xa 0), .int a0, .int a1])).length) Slot.unset).toArray = ls at hl ⊢
  have hl : lv_has ls 4 [(0, .ref (xa 0)), (1, .int a0), (2, .int a1)] := hl
  refine lv_aload_n hx hb dX11_read_0 rfl (lv_at hl 0 rfl) ?_
  refine lv_iload_n hx hb dX11_read_1 rfl (lv_at hl 1 rfl) ?_
  refine lv_iload_n hx hb dX11_read_2 rfl (lv_at hl 2 rfl) ?_
  have hPc := hP.sub (ws' := [(xa 0, .inr (10, [.ref (xa 1), .ref (xa 2), .ref (na 0), .ref (pa 0), .ref (xa 3), .ref (na 1), .ref (na 2), .ref (xa 4), .ref (xa 5), .ref (xa 6), .ref (xa 7), .ref (xa 8), .ref (xa 9), .int 0, .int 0, .int 0, .long 0, .long 1, .int (-1), .int (-1)])), (xa 2, .inl (kc 3, 4, .inr (.inr (.inr (.inr (tg xa)))))), (xa 10, .inr (8, [.ref (xa 14), .int 0, .int 0, .int 0])), (xa 11, .inr (8, [.ref (xa 15), .int 0, .int 0, .int 0])), (xa 12, .inr (8, [.ref (xa 16), .int 0, .int 0, .int 0])), (xa 13, .inr (8, [.ref (xa 17), .int 0, .int 0, .int 0]))]) [0, 1, 2, 3, 4, 5] rfl
  have hDc := hD.sub (ws' := [(xa 0, .inr (10, [.ref (xa 1), .ref (xa 2), .ref (na 0), .ref (pa 0), .ref (xa 3), .ref (na 1), .ref (na 2), .ref (xa 4), .ref (xa 5), .ref (xa 6), .ref (xa 7), .ref (xa 8), .ref (xa 9), .int 0, .int 0, .int 0, .long 0, .long 1, .int (-1), .int (-1)])), (xa 2, .inl (kc 3, 4, .inr (.inr (.inr (.inr (tg xa)))))), (xa 10, .inr (8, [.ref (xa 14), .int 0, .int 0, .int 0])), (xa 11, .inr (8, [.ref (xa 15), .int 0, .int 0, .int 0])), (xa 12, .inr (8, [.ref (xa 16), .int 0, .int 0, .int 0])), (xa 13, .inr (8, [.ref (xa 17), .int 0, .int 0, .int 0]))]) [0, 1, 2, 3, 4, 5] (by decide) rfl
  have hFc := va_free (wc := [(xa 0, .inr (10, [.ref (xa 1), .ref (xa 2), .ref (na 0), .ref (pa 0), .ref (xa 3), .ref (na 1), .ref (na 2), .ref (xa 4), .ref (xa 5), .ref (xa 6), .ref (xa 7), .ref (xa 8), .ref (xa 9), .int 0, .int 0, .int 0, .long 0, .long 1, .int (-1), .int (-1)])), (xa 2, .inl (kc 3, 4, .inr (.inr (.inr (.inr (tg xa)))))), (xa 10, .inr (8, [.ref (xa 14), .int 0, .int 0, .int 0])), (xa 11, .inr (8, [.ref (xa 15), .int 0, .int 0, .int 0])), (xa 12, .inr (8, [.ref (xa 16), .int 0, .int 0, .int 0])), (xa 13, .inr (8, [.ref (xa 17), .int 0, .int 0, .int 0]))]) hD hS hA [0, 1, 2, 3, 4, 5] rfl
  refine va_calli (va_runV (As := [.int a0, .int a1]) (rest := []) ⟨hx, hb, hml, hown, hts⟩ (c_whyNoPlace l D kc s.heap.size xa na pa a0 a1) (cwV 2 hts gp_read_128_c_whyNoPlace rfl rfl rfl (by decide +kernel) ⟨Nat.le_of_ble_eq_true rfl, Nat.le_of_ble_eq_true rfl⟩) (preV_ok hPc hDc hE (ci := 10) (q0 := 0) rfl rfl) rfl rfl hl.1 rfl (lv_room (Nat.le_of_ble_eq_true rfl)) dX11_read_3 ⟨Nat.le_of_ble_eq_true rfl, Nat.le_of_ble_eq_true rfl⟩) hS (fun q _ h => hFc q h) hFc (fun r_3 u9 t9 H locs ht hvm hw hB hz1 hk1 hS => ?_)
  obtain ⟨hP1, hD1⟩ := hB
  rw [ht] at hP1
  obtain ⟨hP, hD⟩ := va_join (wr := []) (w1 := [(xa 0, .inr (10, [.ref (xa 1), .ref (xa 2), .ref (na 0), .ref (pa 0), .ref (xa 3), .ref (na 1), .ref (na 2), .ref (xa 4), .ref (xa 5), .ref (xa 6), .ref (xa 7), .ref (xa 8), .ref (xa 9), .int 0, .int 0, .int 0, .long 0, .long 1, .int (-1), .int (-1)])), (xa 2, .inl (kc 3, 4, .inr (.inr (.inr (.inr (tg xa)))))), (xa 10, .inr (8, [.ref (xa 14), .int 0, .int 0, .int 0])), (xa 11, .inr (8, [.ref (xa 15), .int 0, .int 0, .int 0])), (xa 12, .inr (8, [.ref (xa 16), .int 0, .int 0, .int 0])), (xa 13, .inr (8, [.ref (xa 17), .int 0, .int 0, .int 0]))]) hP hD [0, 1, 2, 3, 4, 5] [] rfl rfl (by decide) (by decide) hk1 hFc hP1 hD1
  have hP : va_P D vwCl [(xa 0, .inr (10, [.ref (xa 1), .ref (xa 2), .ref (na 0), .ref (pa 0), .ref (xa 3), .ref (na 1), .ref (na 2), .ref (xa 4), .ref (xa 5), .ref (xa 6), .ref (xa 7), .ref (xa 8), .ref (xa 9), .int 0, .int 0, .int 0, .long 0, .long 1, .int (-1), .int (-1)])), (xa 2, .inl (kc 3, 4, .inr (.inr (.inr (.inr (tg xa)))))), (xa 10, .inr (8, [.ref (xa 14), .int 0, .int 0, .int 0])), (xa 11, .inr (8, [.ref (xa 15), .int 0, .int 0, .int 0])), (xa 12, .inr (8, [.ref (xa 16), .int 0, .int 0, .int 0])), (xa 13, .inr (8, [.ref (xa 17), .int 0, .int 0, .int 0]))] H := hP
  have hD : va_D A [(xa 0, .inr (10, [.ref (xa 1), .ref (xa 2), .ref (na 0), .ref (pa 0), .ref (xa 3), .ref (na 1), .ref (na 2), .ref (xa 4), .ref (xa 5), .ref (xa 6), .ref (xa 7), .ref (xa 8), .ref (xa 9), .int 0, .int 0, .int 0, .long 0, .long 1, .int (-1), .int (-1)])), (xa 2, .inl (kc 3, 4, .inr (.inr (.inr (.inr (tg xa)))))), (xa 10, .inr (8, [.ref (xa 14), .int 0, .int 0, .int 0])), (xa 11, .inr (8, [.ref (xa 15), .int 0, .int 0, .int 0])), (xa 12, .inr (8, [.ref (xa 16), .int 0, .int 0, .int 0])), (xa 13, .inr (8, [.ref (xa 17), .int 0, .int 0, .int 0]))] := hD
  subst hw
  refine lv_istore_n (lv' := [(3, .int (wNP a0)), (0, .ref (xa 0)), (1, .int a0), (2, .int a1)]) hx hb dX11_read_6 rfl hl (by decide) rfl (fun ls hl => ?_)
  refine lv_iload_n hx hb dX11_read_7 rfl (lv_at hl 0 rfl) ?_
  refine lv_if_eq (tgt := 18) hx hb dX11_read_8 (by decide) (fun h => absurd h (wNP_ne _)) (fun _ => ?_)
  refine lv_aload_n hx hb dX11_read_11 rfl (lv_at hl 1 rfl) ?_
  refine lv_iload_n hx hb dX11_read_12 rfl (lv_at hl 0 rfl) ?_
  have hPc := hP.sub (ws' := [(xa 0, .inr (10, [.ref (xa 1), .ref (xa 2), .ref (na 0), .ref (pa 0), .ref (xa 3), .ref (na 1), .ref (na 2), .ref (xa 4), .ref (xa 5), .ref (xa 6), .ref (xa 7), .ref (xa 8), .ref (xa 9), .int 0, .int 0, .int 0, .long 0, .long 1, .int (-1), .int (-1)]))]) [0] rfl
  have hDc := hD.sub (ws' := [(xa 0, .inr (10, [.ref (xa 1), .ref (xa 2), .ref (na 0), .ref (pa 0), .ref (xa 3), .ref (na 1), .ref (na 2), .ref (xa 4), .ref (xa 5), .ref (xa 6), .ref (xa 7), .ref (xa 8), .ref (xa 9), .int 0, .int 0, .int 0, .long 0, .long 1, .int (-1), .int (-1)]))]) [0] (by decide) rfl
  have hFc := va_free (wc := [(xa 0, .inr (10, [.ref (xa 1), .ref (xa 2), .ref (na 0), .ref (pa 0), .ref (xa 3), .ref (na 1), .ref (na 2), .ref (xa 4), .ref (xa 5), .ref (xa 6), .ref (xa 7), .ref (xa 8), .ref (xa 9), .int 0, .int 0, .int 0, .long 0, .long 1, .int (-1), .int (-1)]))]) hD hS hA [0] rfl
  refine va_calli (va_runV (As := [.int (wNP a0)]) (rest := []) ⟨hx, hb, hml, hown, hts⟩ (c_refuse l D kc H.size xa na pa 0 0 0 0 1 (-1) (-1) (wNP a0)) (cwV 1 hts gp_read_136_c_refuse rfl rfl rfl (by decide +kernel) ⟨Nat.le_of_ble_eq_true rfl, Nat.le_of_ble_eq_true rfl⟩) (preV_ok hPc hDc hE (ci := 10) (q0 := 0) rfl rfl) rfl rfl hl.1 rfl (lv_room (Nat.le_of_ble_eq_true rfl)) dX11_read_13 ⟨Nat.le_of_ble_eq_true rfl, Nat.le_of_ble_eq_true rfl⟩) hS (fun q _ h => hFc q h) hFc (fun r_13 u9 t9 H locs ht hvm hw hB hz1 hk1 hS => ?_)
  obtain ⟨hP1, hD1⟩ := hB
  rw [ht] at hP1
  obtain ⟨hP, hD⟩ := va_join (wr := [(xa 2, .inl (kc 3, 4, .inr (.inr (.inr (.inr (tg xa)))))), (xa 10, .inr (8, [.ref (xa 14), .int 0, .int 0, .int 0])), (xa 11, .inr (8, [.ref (xa 15), .int 0, .int 0, .int 0])), (xa 12, .inr (8, [.ref (xa 16), .int 0, .int 0, .int 0])), (xa 13, .inr (8, [.ref (xa 17), .int 0, .int 0, .int 0]))]) (w1 := [(xa 0, .inr (10, [.ref (xa 1), .ref (xa 2), .ref (na 0), .ref (pa 0), .ref (xa 3), .ref (na 1), .ref (na 2), .ref (xa 4), .ref (xa 5), .ref (xa 6), .ref (xa 7), .ref (xa 8), .ref (xa 9), .int 0, .int 0, .int (wNP a0), .long 0, .long 1, .int (-1), .int (-1)]))]) hP hD [0] [1, 2, 3, 4, 5] rfl rfl (by decide) (by decide) hk1 hFc hP1 hD1
  have hP : va_P D vwCl [(xa 2, .inl (kc 3, 4, .inr (.inr (.inr (.inr (tg xa)))))), (xa 10, .inr (8, [.ref (xa 14), .int 0, .int 0, .int 0])), (xa 11, .inr (8, [.ref (xa 15), .int 0, .int 0, .int 0])), (xa 12, .inr (8, [.ref (xa 16), .int 0, .int 0, .int 0])), (xa 13, .inr (8, [.ref (xa 17), .int 0, .int 0, .int 0])), (xa 0, .inr (10, [.ref (xa 1), .ref (xa 2), .ref (na 0), .ref (pa 0), .ref (xa 3), .ref (na 1), .ref (na 2), .ref (xa 4), .ref (xa 5), .ref (xa 6), .ref (xa 7), .ref (xa 8), .ref (xa 9), .int 0, .int 0, .int (wNP a0), .long 0, .long 1, .int (-1), .int (-1)]))] H := hP
  have hD : va_D A [(xa 2, .inl (kc 3, 4, .inr (.inr (.inr (.inr (tg xa)))))), (xa 10, .inr (8, [.ref (xa 14), .int 0, .int 0, .int 0])), (xa 11, .inr (8, [.ref (xa 15), .int 0, .int 0, .int 0])), (xa 12, .inr (8, [.ref (xa 16), .int 0, .int 0, .int 0])), (xa 13, .inr (8, [.ref (xa 17), .int 0, .int 0, .int 0])), (xa 0, .inr (10, [.ref (xa 1), .ref (xa 2), .ref (na 0), .ref (pa 0), .ref (xa 3), .ref (na 1), .ref (na 2), .ref (xa 4), .ref (xa 5), .ref (xa 6), .ref (xa 7), .ref (xa 8), .ref (xa 9), .int 0, .int 0, .int (wNP a0), .long 0, .long 1, .int (-1), .int (-1)]))] := hD
  subst hw
  refine lv_i2l (v := (-1)) hx hb dX11_read_16 (by decide) ?_
  exact W.lret (v := (-1)) hx hb hr (fun t9 ht hW => ⟨⟨(-1), (), rfl, rfl, trivial⟩, hS.F ht⟩) hS.2.2 dX11_read_17
theorem dX11_who_0 : decode cX11_who 0 = .ok (.iload_n 1, 1) := by decide +kernel
theorem dX11_who_1 : decode cX11_who 1 = .ok (.invokestatic 109, 3) := by decide +kernel
theorem dX11_who_4 : decode cX11_who 4 = .ok (.ifCond .eq 14, 3) := by decide +kernel
theorem dX11_who_18 : decode cX11_who 18 = .ok (.aload_n 0, 1) := by decide +kernel
theorem dX11_who_19 : decode cX11_who 19 = .ok (.iconst 1, 1) := by decide +kernel
theorem dX11_who_20 : decode cX11_who 20 = .ok (.invokevirtual 136, 3) := by decide +kernel
theorem dX11_who_23 : decode cX11_who 23 = .ok (.ireturn, 1) := by decide +kernel
theorem dX11_who_7 : decode cX11_who 7 = .ok (.iload_n 2, 1) := by decide +kernel
theorem dX11_who_8 : decode cX11_who 8 = .ok (.iconst 1, 1) := by decide +kernel
theorem dX11_who_9 : decode cX11_who 9 = .ok (.sipush 999, 3) := by decide +kernel
theorem dX11_who_12 : decode cX11_who 12 = .ok (.invokestatic 113, 3) := by decide +kernel
theorem dX11_who_15 : decode cX11_who 15 = .ok (.ifCond .ne 9, 3) := by decide +kernel
theorem dX11_who_24 : decode cX11_who 24 = .ok (.aload_n 0, 1) := by decide +kernel
theorem dX11_who_25 : decode cX11_who 25 = .ok (.getfield 15, 3) := by decide +kernel
theorem dX11_who_28 : decode cX11_who 28 = .ok (.iload_n 1, 1) := by decide +kernel
theorem dX11_who_29 : decode cX11_who 29 = .ok (.aaload, 1) := by decide +kernel
theorem dX11_who_30 : decode cX11_who 30 = .ok (.getfield 144, 3) := by decide +kernel
theorem dX11_who_33 : decode cX11_who 33 = .ok (.ifCond .ne 9, 3) := by decide +kernel
theorem dX11_who_36 : decode cX11_who 36 = .ok (.aload_n 0, 1) := by decide +kernel
theorem dX11_who_37 : decode cX11_who 37 = .ok (.iconst 2, 1) := by decide +kernel
theorem dX11_who_38 : decode cX11_who 38 = .ok (.invokevirtual 136, 3) := by decide +kernel
theorem dX11_who_41 : decode cX11_who 41 = .ok (.ireturn, 1) := by decide +kernel
def vdp_who : List Cond := [.code yX11_who cX11_who 3 (some .int), .methodLink RX11 109 yX11_isTray, .code yX11_isTray cX11_isTray 1 (some .boolean), .methodLink RX11 113 yX11_within, .code yX11_within cX11_within 3 (some .boolean), .static yX11_within, .initialized RX11, .static yX11_isTray, .methodLink RX11 136 yX11_refuse, .code yX11_refuse cX11_refuse 2 (some .int), .fieldLink RX11 103 "SaltStreet" "status" "I", .instanceMethod yX11_refuse, .selects RX11 yX11_refuse yX11_refuse, .fieldLink RX11 15 "SaltStreet" "trays" "[LSaltStreet$Tray;"]
def vp_who : List Cond := vdp_who ++ (wsX110 ++ (wsX80 ++ ([] : List Cond)))
theorem ip_who_X11 : ∀ w ∈ wsX110, w ∈ vp_who := fun _ h => List.mem_append_right _ (List.mem_append_left _ h)
theorem ip_who_X8 : ∀ w ∈ wsX80, w ∈ vp_who := fun _ h => List.mem_append_right _ (List.mem_append_right _ (List.mem_append_left _ h))
set_option maxRecDepth 20000 in
theorem gp_who_109_c_isTray : GoodIn vp_who (va_wsS RX11 109 yX11_isTray vc_isTray) := (goodIn_app (goodIn_r _ [1, 7, 6] rfl (by decide +kernel)) (goodIn_app (goodIn_r vdc_isTray [2, 3, 4, 5, 6] rfl (by decide +kernel)) goodIn_nil))
set_option maxRecDepth 20000 in
theorem gp_who_136_c_refuse : GoodIn vp_who (wsV RX11 136 RX11 yX11_refuse vc_refuse) := (goodIn_app (goodIn_r _ [8, 11, 12, 6] rfl (by decide +kernel)) (goodIn_app (goodIn_r vdc_refuse [9, 10] rfl (by decide +kernel)) (goodIn_app (goodIn_sub ip_who_X11 gdX11) goodIn_nil)))
set_option maxRecDepth 20000 in
theorem gp_who_113_c_within : GoodIn vp_who (va_wsS RX11 113 yX11_within vc_within) := (goodIn_app (goodIn_r _ [3, 5, 6] rfl (by decide +kernel)) (goodIn_app (goodIn_r vdc_within [4] rfl (by decide +kernel)) goodIn_nil))
set_option maxHeartbeats 4000000 in
set_option maxRecDepth 100000 in
theorem p_who (l : Launch) (D : va_G) (kc : Nat → ClassId) (sz : Nat) (xa : Nat → Nat) (na : Nat → Nat) (pa : Nat → Nat) (a0 : Int32) (a1 : Int32) : Met l yX11_who vp_who ({ frames := 2, cells := 0, slots := 0, locals := 42 }) (va_Pc [.ref (xa 0), .int a0, .int a1] (wPre D kc [(xa 0, .inr (10, [.ref (xa 1), .ref (xa 2), .ref (na 0), .ref (pa 0), .ref (xa 3), .ref (na 1), .ref (na 2), .ref (xa 4), .ref (xa 5), .ref (xa 6), .ref (xa 7), .ref (xa 8), .ref (xa 9), .int 0, .int 0, .int 0, .long 0, .long 1, .int (-1), .int (-1)])), (na 1, .inr (4, [.ref (na 4), .ref (na 5), .ref (na 6), .ref (na 7), .ref (na 8), .ref (na 9), .ref (na 10), .ref (na 11), .ref (na 12), .ref (na 13), .ref (na 14), .ref (na 15), .int 0, .int 0, .int 0, .int 0, .int 0, .int 0, .int 5, .int 0])), (xa 2, .inl (kc 3, 4, .inr (.inr (.inr (.inr (tg xa)))))), (xa 10, .inr (8, [.ref (xa 14), .int 0, .int 0, .int 0])), (xa 11, .inr (8, [.ref (xa 15), .int 0, .int 0, .int 0])), (xa 12, .inr (8, [.ref (xa 16), .int 0, .int 0, .int 0])), (xa 13, .inr (8, [.ref (xa 17), .int 0, .int 0, .int 0]))] sz)) (va_Qi (fun (r : Int32) (_ : Unit) => r = (-1)) wAny (va_A [(xa 0, .inr (10, [.ref (xa 1), .ref (xa 2), .ref (na 0), .ref (pa 0), .ref (xa 3), .ref (na 1), .ref (na 2), .ref (xa 4), .ref (xa 5), .ref (xa 6), .ref (xa 7), .ref (xa 8), .ref (xa 9), .int 0, .int 0, .int 0, .long 0, .long 1, .int (-1), .int (-1)])), (na 1, .inr (4, [.ref (na 4), .ref (na 5), .ref (na 6), .ref (na 7), .ref (na 8), .ref (na 9), .ref (na 10), .ref (na 11), .ref (na 12), .ref (na 13), .ref (na 14), .ref (na 15), .int 0, .int 0, .int 0, .int 0, .int 0, .int 0, .int 5, .int 0])), (xa 2, .inl (kc 3, 4, .inr (.inr (.inr (.inr (tg xa)))))), (xa 10, .inr (8, [.ref (xa 14), .int 0, .int 0, .int 0])), (xa 11, .inr (8, [.ref (xa 15), .int 0, .int 0, .int 0])), (xa 12, .inr (8, [.ref (xa 16), .int 0, .int 0, .int 0])), (xa 13, .inr (8, [.ref (xa 17), .int 0, .int 0, .int 0]))] sz)) 0 0 (va_A [(xa 0, .inr (10, [.ref (xa 1), .ref (xa 2), .ref (na 0), .ref (pa 0), .ref (xa 3), .ref (na 1), .ref (na 2), .ref (xa 4), .ref (xa 5), .ref (xa 6), .ref (xa 7), .ref (xa 8), .ref (xa 9), .int 0, .int 0, .int 0, .long 0, .long 1, .int (-1), .int (-1)])), (na 1, .inr (4, [.ref (na 4), .ref (na 5), .ref (na 6), .ref (na 7), .ref (na 8), .ref (na 9), .ref (na 10), .ref (na 11), .ref (na 12), .ref (na 13), .ref (na 14), .ref (na 15), .int 0, .int 0, .int 0, .int 0, .int 0, .int 0, .int 5, .int 0])), (xa 2, .inl (kc 3, 4, .inr (.inr (.inr (.inr (tg xa)))))), (xa 10, .inr (8, [.ref (xa 14), .int 0, .int 0, .int 0])), (xa 11, .inr (8, [.ref (xa 15), .int 0, .int 0, .int 0])), (xa 12, .inr (8, [.ref (xa 16), .int 0, .int 0, .int 0])), (xa 13, .inr (8, [.ref (xa 17), .int 0, .int 0, .int 0]))] sz) := by
  refine Met.ofW (cc := cX11_who) (maxL := 3) (ret := (some .int)) (by decide) rfl ?_
  intro p e s m args below meth c s₁ B hml hv
  obtain ⟨rfl, hsz, hP, hE, hD0⟩ := hv
  have hx := B.exec
  have hb := B.bytes
  have hr := B.returns
  have hts := atoms_spec (ws := vp_who) B.pre
  have hown : s.vm.findClass RX11 = some m.cls := findClass_of_methodNamed B.named
  have hlocks := B.notSynchronized
  subst hsz
  have hD := hD0.self (sz := s.heap.size)
  generalize hAe : va_A [(xa 0, .inr (10, [.ref (xa 1), .ref (xa 2), .ref (na 0), .ref (pa 0), .ref (xa 3), .ref (na 1), .ref (na 2), .ref (xa 4), .ref (xa 5), .ref (xa 6), .ref (xa 7), .ref (xa 8), .ref (xa 9), .int 0, .int 0, .int 0, .long 0, .long 1, .int (-1), .int (-1)])), (na 1, .inr (4, [.ref (na 4), .ref (na 5), .ref (na 6), .ref (na 7), .ref (na 8), .ref (na 9), .ref (na 10), .ref (na 11), .ref (na 12), .ref (na 13), .ref (na 14), .ref (na 15), .int 0, .int 0, .int 0, .int 0, .int 0, .int 0, .int 5, .int 0])), (xa 2, .inl (kc 3, 4, .inr (.inr (.inr (.inr (tg xa)))))), (xa 10, .inr (8, [.ref (xa 14), .int 0, .int 0, .int 0])), (xa 11, .inr (8, [.ref (xa 15), .int 0, .int 0, .int 0])), (xa 12, .inr (8, [.ref (xa 16), .int 0, .int 0, .int 0])), (xa 13, .inr (8, [.ref (xa 17), .int 0, .int 0, .int 0]))] s.heap.size = A at hD ⊢
  have hA : ∀ q : Nat, s.heap.size ≤ q → A q := fun q h => by rw [← hAe]; exact Or.inr h
  have hS : va_S A s.heap s.heap [] := va_S.rf
  have hK := hE.1
  have hP : va_P D vwCl [(xa 0, .inr (10, [.ref (xa 1), .ref (xa 2), .ref (na 0), .ref (pa 0), .ref (xa 3), .ref (na 1), .ref (na 2), .ref (xa 4), .ref (xa 5), .ref (xa 6), .ref (xa 7), .ref (xa 8), .ref (xa 9), .int 0, .int 0, .int 0, .long 0, .long 1, .int (-1), .int (-1)])), (na 1, .inr (4, [.ref (na 4), .ref (na 5), .ref (na 6), .ref (na 7), .ref (na 8), .ref (na 9), .ref (na 10), .ref (na 11), .ref (na 12), .ref (na 13), .ref (na 14), .ref (na 15), .int 0, .int 0, .int 0, .int 0, .int 0, .int 0, .int 5, .int 0])), (xa 2, .inl (kc 3, 4, .inr (.inr (.inr (.inr (tg xa)))))), (xa 10, .inr (8, [.ref (xa 14), .int 0, .int 0, .int 0])), (xa 11, .inr (8, [.ref (xa 15), .int 0, .int 0, .int 0])), (xa 12, .inr (8, [.ref (xa 16), .int 0, .int 0, .int 0])), (xa 13, .inr (8, [.ref (xa 17), .int 0, .int 0, .int 0]))] s.heap := hP
  have hl := lv_entry ([.ref (xa 0), .int a0, .int a1]) (n := 3) (Nat.le_of_ble_eq_true rfl)
  rw [lg_entry_eq]
  generalize (lg_sl ([.ref (xa 0), .int a0, .int a1]) ++ List.replicate (3 - (lg_sl ([.ref (xa 0), .int a0, .int a1])).length) Slot.unset).toArray = ls at hl ⊢
  have hl : lv_has ls 3 [(0, .ref (xa 0)), (1, .int a0), (2, .int a1)] := hl
  rcases tr_cases a0 with h_a0 | rfl | rfl | rfl | rfl
  · refine lv_iload_n hx hb dX11_who_0 rfl (lv_at hl 1 rfl) ?_
    have hPc := hP.sub (ws' := []) [] rfl
    have hDc := hD.sub (ws' := []) [] (by decide) rfl
    have hFc := va_free (wc := []) hD hS hA [] rfl
    refine va_calli (va_runS (As := [.int a0]) (rest := []) ⟨hx, hb, hml, hown, hts⟩ (c_isTray l D kc s.heap.size a0) (va_cwS 1 hts gp_who_109_c_isTray rfl rfl rfl (by decide +kernel) ⟨Nat.le_of_ble_eq_true rfl, Nat.le_of_ble_eq_true rfl⟩) (preS_ok hPc hDc hE) rfl rfl hl.1 rfl (lv_room (Nat.le_of_ble_eq_true rfl)) dX11_who_1 ⟨Nat.le_of_ble_eq_true rfl, Nat.le_of_ble_eq_true rfl⟩) hS (fun q _ h => hFc q h) hFc (fun r_1 u9 t9 H locs ht hvm hw hB hz1 hk1 hS => ?_)
    obtain ⟨hP1, hD1⟩ := hB
    rw [ht] at hP1
    obtain ⟨hP, hD⟩ := va_join (wr := [(xa 0, .inr (10, [.ref (xa 1), .ref (xa 2), .ref (na 0), .ref (pa 0), .ref (xa 3), .ref (na 1), .ref (na 2), .ref (xa 4), .ref (xa 5), .ref (xa 6), .ref (xa 7), .ref (xa 8), .ref (xa 9), .int 0, .int 0, .int 0, .long 0, .long 1, .int (-1), .int (-1)])), (na 1, .inr (4, [.ref (na 4), .ref (na 5), .ref (na 6), .ref (na 7), .ref (na 8), .ref (na 9), .ref (na 10), .ref (na 11), .ref (na 12), .ref (na 13), .ref (na 14), .ref (na 15), .int 0, .int 0, .int 0, .int 0, .int 0, .int 0, .int 5, .int 0])), (xa 2, .inl (kc 3, 4, .inr (.inr (.inr (.inr (tg xa)))))), (xa 10, .inr (8, [.ref (xa 14), .int 0, .int 0, .int 0])), (xa 11, .inr (8, [.ref (xa 15), .int 0, .int 0, .int 0])), (xa 12, .inr (8, [.ref (xa 16), .int 0, .int 0, .int 0])), (xa 13, .inr (8, [.ref (xa 17), .int 0, .int 0, .int 0]))]) (w1 := []) hP hD [] [0, 1, 2, 3, 4, 5, 6] rfl rfl (by decide) (by decide) hk1 hFc hP1 hD1
    have hP : va_P D vwCl [(xa 0, .inr (10, [.ref (xa 1), .ref (xa 2), .ref (na 0), .ref (pa 0), .ref (xa 3), .ref (na 1), .ref (na 2), .ref (xa 4), .ref (xa 5), .ref (xa 6), .ref (xa 7), .ref (xa 8), .ref (xa 9), .int 0, .int 0, .int 0, .long 0, .long 1, .int (-1), .int (-1)])), (na 1, .inr (4, [.ref (na 4), .ref (na 5), .ref (na 6), .ref (na 7), .ref (na 8), .ref (na 9), .ref (na 10), .ref (na 11), .ref (na 12), .ref (na 13), .ref (na 14), .ref (na 15), .int 0, .int 0, .int 0, .int 0, .int 0, .int 0, .int 5, .int 0])), (xa 2, .inl (kc 3, 4, .inr (.inr (.inr (.inr (tg xa)))))), (xa 10, .inr (8, [.ref (xa 14), .int 0, .int 0, .int 0])), (xa 11, .inr (8, [.ref (xa 15), .int 0, .int 0, .int 0])), (xa 12, .inr (8, [.ref (xa 16), .int 0, .int 0, .int 0])), (xa 13, .inr (8, [.ref (xa 17), .int 0, .int 0, .int 0]))] H := hP
    have hD : va_D A [(xa 0, .inr (10, [.ref (xa 1), .ref (xa 2), .ref (na 0), .ref (pa 0), .ref (xa 3), .ref (na 1), .ref (na 2), .ref (xa 4), .ref (xa 5), .ref (xa 6), .ref (xa 7), .ref (xa 8), .ref (xa 9), .int 0, .int 0, .int 0, .long 0, .long 1, .int (-1), .int (-1)])), (na 1, .inr (4, [.ref (na 4), .ref (na 5), .ref (na 6), .ref (na 7), .ref (na 8), .ref (na 9), .ref (na 10), .ref (na 11), .ref (na 12), .ref (na 13), .ref (na 14), .ref (na 15), .int 0, .int 0, .int 0, .int 0, .int 0, .int 0, .int 5, .int 0])), (xa 2, .inl (kc 3, 4, .inr (.inr (.inr (.inr (tg xa)))))), (xa 10, .inr (8, [.ref (xa 14), .int 0, .int 0, .int 0])), (xa 11, .inr (8, [.ref (xa 15), .int 0, .int 0, .int 0])), (xa 12, .inr (8, [.ref (xa 16), .int 0, .int 0, .int 0])), (xa 13, .inr (8, [.ref (xa 17), .int 0, .int 0, .int 0]))] := hD
    subst hw
    refine lv_ci (y := 0) (h_a0) ?_
    refine lv_if_eq (tgt := 18) hx hb dX11_who_4 (by decide) (fun _ => ?_) (fun h => absurd (by decide) h)
    refine lv_aload_n hx hb dX11_who_18 rfl (lv_at hl 0 rfl) ?_
    refine lv_iconst (v := 1) hx hb dX11_who_19 (by decide) ?_
    have hPc := hP.sub (ws' := [(xa 0, .inr (10, [.ref (xa 1), .ref (xa 2), .ref (na 0), .ref (pa 0), .ref (xa 3), .ref (na 1), .ref (na 2), .ref (xa 4), .ref (xa 5), .ref (xa 6), .ref (xa 7), .ref (xa 8), .ref (xa 9), .int 0, .int 0, .int 0, .long 0, .long 1, .int (-1), .int (-1)]))]) [0] rfl
    have hDc := hD.sub (ws' := [(xa 0, .inr (10, [.ref (xa 1), .ref (xa 2), .ref (na 0), .ref (pa 0), .ref (xa 3), .ref (na 1), .ref (na 2), .ref (xa 4), .ref (xa 5), .ref (xa 6), .ref (xa 7), .ref (xa 8), .ref (xa 9), .int 0, .int 0, .int 0, .long 0, .long 1, .int (-1), .int (-1)]))]) [0] (by decide) rfl
    have hFc := va_free (wc := [(xa 0, .inr (10, [.ref (xa 1), .ref (xa 2), .ref (na 0), .ref (pa 0), .ref (xa 3), .ref (na 1), .ref (na 2), .ref (xa 4), .ref (xa 5), .ref (xa 6), .ref (xa 7), .ref (xa 8), .ref (xa 9), .int 0, .int 0, .int 0, .long 0, .long 1, .int (-1), .int (-1)]))]) hD hS hA [0] rfl
    refine va_calli (va_runV (As := [.int 1]) (rest := []) ⟨hx, hb, hml, hown, hts⟩ (c_refuse l D kc H.size xa na pa 0 0 0 0 1 (-1) (-1) 1) (cwV 1 hts gp_who_136_c_refuse rfl rfl rfl (by decide +kernel) ⟨Nat.le_of_ble_eq_true rfl, Nat.le_of_ble_eq_true rfl⟩) (preV_ok hPc hDc hE (ci := 10) (q0 := 0) rfl rfl) rfl rfl hl.1 rfl (lv_room (Nat.le_of_ble_eq_true rfl)) dX11_who_20 ⟨Nat.le_of_ble_eq_true rfl, Nat.le_of_ble_eq_true rfl⟩) hS (fun q _ h => hFc q h) hFc (fun r_20 u9 t9 H locs ht hvm hw hB hz1 hk1 hS => ?_)
    obtain ⟨hP1, hD1⟩ := hB
    rw [ht] at hP1
    obtain ⟨hP, hD⟩ := va_join (wr := [(na 1, .inr (4, [.ref (na 4), .ref (na 5), .ref (na 6), .ref (na 7), .ref (na 8), .ref (na 9), .ref (na 10), .ref (na 11), .ref (na 12), .ref (na 13), .ref (na 14), .ref (na 15), .int 0, .int 0, .int 0, .int 0, .int 0, .int 0, .int 5, .int 0])), (xa 2, .inl (kc 3, 4, .inr (.inr (.inr (.inr (tg xa)))))), (xa 10, .inr (8, [.ref (xa 14), .int 0, .int 0, .int 0])), (xa 11, .inr (8, [.ref (xa 15), .int 0, .int 0, .int 0])), (xa 12, .inr (8, [.ref (xa 16), .int 0, .int 0, .int 0])), (xa 13, .inr (8, [.ref (xa 17), .int 0, .int 0, .int 0]))]) (w1 := [(xa 0, .inr (10, [.ref (xa 1), .ref (xa 2), .ref (na 0), .ref (pa 0), .ref (xa 3), .ref (na 1), .ref (na 2), .ref (xa 4), .ref (xa 5), .ref (xa 6), .ref (xa 7), .ref (xa 8), .ref (xa 9), .int 0, .int 0, .int 1, .long 0, .long 1, .int (-1), .int (-1)]))]) hP hD [0] [1, 2, 3, 4, 5, 6] rfl rfl (by decide) (by decide) hk1 hFc hP1 hD1
    have hP : va_P D vwCl [(na 1, .inr (4, [.ref (na 4), .ref (na 5), .ref (na 6), .ref (na 7), .ref (na 8), .ref (na 9), .ref (na 10), .ref (na 11), .ref (na 12), .ref (na 13), .ref (na 14), .ref (na 15), .int 0, .int 0, .int 0, .int 0, .int 0, .int 0, .int 5, .int 0])), (xa 2, .inl (kc 3, 4, .inr (.inr (.inr (.inr (tg xa)))))), (xa 10, .inr (8, [.ref (xa 14), .int 0, .int 0, .int 0])), (xa 11, .inr (8, [.ref (xa 15), .int 0, .int 0, .int 0])), (xa 12, .inr (8, [.ref (xa 16), .int 0, .int 0, .int 0])), (xa 13, .inr (8, [.ref (xa 17), .int 0, .int 0, .int 0])), (xa 0, .inr (10, [.ref (xa 1), .ref (xa 2), .ref (na 0), .ref (pa 0), .ref (xa 3), .ref (na 1), .ref (na 2), .ref (xa 4), .ref (xa 5), .ref (xa 6), .ref (xa 7), .ref (xa 8), .ref (xa 9), .int 0, .int 0, .int 1, .long 0, .long 1, .int (-1), .int (-1)]))] H := hP
    have hD : va_D A [(na 1, .inr (4, [.ref (na 4), .ref (na 5), .ref (na 6), .ref (na 7), .ref (na 8), .ref (na 9), .ref (na 10), .ref (na 11), .ref (na 12), .ref (na 13), .ref (na 14), .ref (na 15), .int 0, .int 0, .int 0, .int 0, .int 0, .int 0, .int 5, .int 0])), (xa 2, .inl (kc 3, 4, .inr (.inr (.inr (.inr (tg xa)))))), (xa 10, .inr (8, [.ref (xa 14), .int 0, .int 0, .int 0])), (xa 11, .inr (8, [.ref (xa 15), .int 0, .int 0, .int 0])), (xa 12, .inr (8, [.ref (xa 16), .int 0, .int 0, .int 0])), (xa 13, .inr (8, [.ref (xa 17), .int 0, .int 0, .int 0])), (xa 0, .inr (10, [.ref (xa 1), .ref (xa 2), .ref (na 0), .ref (pa 0), .ref (xa 3), .ref (na 1), .ref (na 2), .ref (xa 4), .ref (xa 5), .ref (xa 6), .ref (xa 7), .ref (xa 8), .ref (xa 9), .int 0, .int 0, .int 1, .long 0, .long 1, .int (-1), .int (-1)]))] := hD
    subst hw
    exact W.iret (v := (-1)) hx hb hr (fun t9 ht hW => ⟨⟨(-1), (), rfl, rfl, trivial⟩, hS.F ht⟩) hS.2.2 dX11_who_23
  · refine lv_iload_n hx hb dX11_who_0 rfl (lv_at hl 1 rfl) ?_
    have hPc := hP.sub (ws' := []) [] rfl
    have hDc := hD.sub (ws' := []) [] (by decide) rfl
    have hFc := va_free (wc := []) hD hS hA [] rfl
    refine va_calli (va_runS (As := [.int 0]) (rest := []) ⟨hx, hb, hml, hown, hts⟩ (c_isTray l D kc s.heap.size 0) (va_cwS 1 hts gp_who_109_c_isTray rfl rfl rfl (by decide +kernel) ⟨Nat.le_of_ble_eq_true rfl, Nat.le_of_ble_eq_true rfl⟩) (preS_ok hPc hDc hE) rfl rfl hl.1 rfl (lv_room (Nat.le_of_ble_eq_true rfl)) dX11_who_1 ⟨Nat.le_of_ble_eq_true rfl, Nat.le_of_ble_eq_true rfl⟩) hS (fun q _ h => hFc q h) hFc (fun r_1 u9 t9 H locs ht hvm hw hB hz1 hk1 hS => ?_)
    obtain ⟨hP1, hD1⟩ := hB
    rw [ht] at hP1
    obtain ⟨hP, hD⟩ := va_join (wr := [(xa 0, .inr (10, [.ref (xa 1), .ref (xa 2), .ref (na 0), .ref (pa 0), .ref (xa 3), .ref (na 1), .ref (na 2), .ref (xa 4), .ref (xa 5), .ref (xa 6), .ref (xa 7), .ref (xa 8), .ref (xa 9), .int 0, .int 0, .int 0, .long 0, .long 1, .int (-1), .int (-1)])), (na 1, .inr (4, [.ref (na 4), .ref (na 5), .ref (na 6), .ref (na 7), .ref (na 8), .ref (na 9), .ref (na 10), .ref (na 11), .ref (na 12), .ref (na 13), .ref (na 14), .ref (na 15), .int 0, .int 0, .int 0, .int 0, .int 0, .int 0, .int 5, .int 0])), (xa 2, .inl (kc 3, 4, .inr (.inr (.inr (.inr (tg xa)))))), (xa 10, .inr (8, [.ref (xa 14), .int 0, .int 0, .int 0])), (xa 11, .inr (8, [.ref (xa 15), .int 0, .int 0, .int 0])), (xa 12, .inr (8, [.ref (xa 16), .int 0, .int 0, .int 0])), (xa 13, .inr (8, [.ref (xa 17), .int 0, .int 0, .int 0]))]) (w1 := []) hP hD [] [0, 1, 2, 3, 4, 5, 6] rfl rfl (by decide) (by decide) hk1 hFc hP1 hD1
    have hP : va_P D vwCl [(xa 0, .inr (10, [.ref (xa 1), .ref (xa 2), .ref (na 0), .ref (pa 0), .ref (xa 3), .ref (na 1), .ref (na 2), .ref (xa 4), .ref (xa 5), .ref (xa 6), .ref (xa 7), .ref (xa 8), .ref (xa 9), .int 0, .int 0, .int 0, .long 0, .long 1, .int (-1), .int (-1)])), (na 1, .inr (4, [.ref (na 4), .ref (na 5), .ref (na 6), .ref (na 7), .ref (na 8), .ref (na 9), .ref (na 10), .ref (na 11), .ref (na 12), .ref (na 13), .ref (na 14), .ref (na 15), .int 0, .int 0, .int 0, .int 0, .int 0, .int 0, .int 5, .int 0])), (xa 2, .inl (kc 3, 4, .inr (.inr (.inr (.inr (tg xa)))))), (xa 10, .inr (8, [.ref (xa 14), .int 0, .int 0, .int 0])), (xa 11, .inr (8, [.ref (xa 15), .int 0, .int 0, .int 0])), (xa 12, .inr (8, [.ref (xa 16), .int 0, .int 0, .int 0])), (xa 13, .inr (8, [.ref (xa 17), .int 0, .int 0, .int 0]))] H := hP
    have hD : va_D A [(xa 0, .inr (10, [.ref (xa 1), .ref (xa 2), .ref (na 0), .ref (pa 0), .ref (xa 3), .ref (na 1), .ref (na 2), .ref (xa 4), .ref (xa 5), .ref (xa 6), .ref (xa 7), .ref (xa 8), .ref (xa 9), .int 0, .int 0, .int 0, .long 0, .long 1, .int (-1), .int (-1)])), (na 1, .inr (4, [.ref (na 4), .ref (na 5), .ref (na 6), .ref (na 7), .ref (na 8), .ref (na 9), .ref (na 10), .ref (na 11), .ref (na 12), .ref (na 13), .ref (na 14), .ref (na 15), .int 0, .int 0, .int 0, .int 0, .int 0, .int 0, .int 5, .int 0])), (xa 2, .inl (kc 3, 4, .inr (.inr (.inr (.inr (tg xa)))))), (xa 10, .inr (8, [.ref (xa 14), .int 0, .int 0, .int 0])), (xa 11, .inr (8, [.ref (xa 15), .int 0, .int 0, .int 0])), (xa 12, .inr (8, [.ref (xa 16), .int 0, .int 0, .int 0])), (xa 13, .inr (8, [.ref (xa 17), .int 0, .int 0, .int 0]))] := hD
    subst hw
    refine lv_ci (y := 1) (by decide) ?_
    refine lv_if_eq (tgt := 18) hx hb dX11_who_4 (by decide) (fun h => absurd h (by decide)) (fun _ => ?_)
    refine lv_iload_n hx hb dX11_who_7 rfl (lv_at hl 2 rfl) ?_
    refine lv_iconst (v := 1) hx hb dX11_who_8 (by decide) ?_
    refine lv_sipush (v := 999) hx hb dX11_who_9 (by decide) ?_
    have hPc := hP.sub (ws' := []) [] rfl
    have hDc := hD.sub (ws' := []) [] (by decide) rfl
    have hFc := va_free (wc := []) hD hS hA [] rfl
    refine va_calli (va_runS (As := [.int a1, .int 1, .int 999]) (rest := []) ⟨hx, hb, hml, hown, hts⟩ (c_within l D kc H.size a1 1 999) (va_cwS 3 hts gp_who_113_c_within rfl rfl rfl (by decide +kernel) ⟨Nat.le_of_ble_eq_true rfl, Nat.le_of_ble_eq_true rfl⟩) (preS_ok hPc hDc hE) rfl rfl hl.1 rfl (lv_room (Nat.le_of_ble_eq_true rfl)) dX11_who_12 ⟨Nat.le_of_ble_eq_true rfl, Nat.le_of_ble_eq_true rfl⟩) hS (fun q _ h => hFc q h) hFc (fun r_12 u9 t9 H locs ht hvm hw hB hz1 hk1 hS => ?_)
    obtain ⟨hP1, hD1⟩ := hB
    rw [ht] at hP1
    obtain ⟨hP, hD⟩ := va_join (wr := [(xa 0, .inr (10, [.ref (xa 1), .ref (xa 2), .ref (na 0), .ref (pa 0), .ref (xa 3), .ref (na 1), .ref (na 2), .ref (xa 4), .ref (xa 5), .ref (xa 6), .ref (xa 7), .ref (xa 8), .ref (xa 9), .int 0, .int 0, .int 0, .long 0, .long 1, .int (-1), .int (-1)])), (na 1, .inr (4, [.ref (na 4), .ref (na 5), .ref (na 6), .ref (na 7), .ref (na 8), .ref (na 9), .ref (na 10), .ref (na 11), .ref (na 12), .ref (na 13), .ref (na 14), .ref (na 15), .int 0, .int 0, .int 0, .int 0, .int 0, .int 0, .int 5, .int 0])), (xa 2, .inl (kc 3, 4, .inr (.inr (.inr (.inr (tg xa)))))), (xa 10, .inr (8, [.ref (xa 14), .int 0, .int 0, .int 0])), (xa 11, .inr (8, [.ref (xa 15), .int 0, .int 0, .int 0])), (xa 12, .inr (8, [.ref (xa 16), .int 0, .int 0, .int 0])), (xa 13, .inr (8, [.ref (xa 17), .int 0, .int 0, .int 0]))]) (w1 := []) hP hD [] [0, 1, 2, 3, 4, 5, 6] rfl rfl (by decide) (by decide) hk1 hFc hP1 hD1
    have hP : va_P D vwCl [(xa 0, .inr (10, [.ref (xa 1), .ref (xa 2), .ref (na 0), .ref (pa 0), .ref (xa 3), .ref (na 1), .ref (na 2), .ref (xa 4), .ref (xa 5), .ref (xa 6), .ref (xa 7), .ref (xa 8), .ref (xa 9), .int 0, .int 0, .int 0, .long 0, .long 1, .int (-1), .int (-1)])), (na 1, .inr (4, [.ref (na 4), .ref (na 5), .ref (na 6), .ref (na 7), .ref (na 8), .ref (na 9), .ref (na 10), .ref (na 11), .ref (na 12), .ref (na 13), .ref (na 14), .ref (na 15), .int 0, .int 0, .int 0, .int 0, .int 0, .int 0, .int 5, .int 0])), (xa 2, .inl (kc 3, 4, .inr (.inr (.inr (.inr (tg xa)))))), (xa 10, .inr (8, [.ref (xa 14), .int 0, .int 0, .int 0])), (xa 11, .inr (8, [.ref (xa 15), .int 0, .int 0, .int 0])), (xa 12, .inr (8, [.ref (xa 16), .int 0, .int 0, .int 0])), (xa 13, .inr (8, [.ref (xa 17), .int 0, .int 0, .int 0]))] H := hP
    have hD : va_D A [(xa 0, .inr (10, [.ref (xa 1), .ref (xa 2), .ref (na 0), .ref (pa 0), .ref (xa 3), .ref (na 1), .ref (na 2), .ref (xa 4), .ref (xa 5), .ref (xa 6), .ref (xa 7), .ref (xa 8), .ref (xa 9), .int 0, .int 0, .int 0, .long 0, .long 1, .int (-1), .int (-1)])), (na 1, .inr (4, [.ref (na 4), .ref (na 5), .ref (na 6), .ref (na 7), .ref (na 8), .ref (na 9), .ref (na 10), .ref (na 11), .ref (na 12), .ref (na 13), .ref (na 14), .ref (na 15), .int 0, .int 0, .int 0, .int 0, .int 0, .int 0, .int 5, .int 0])), (xa 2, .inl (kc 3, 4, .inr (.inr (.inr (.inr (tg xa)))))), (xa 10, .inr (8, [.ref (xa 14), .int 0, .int 0, .int 0])), (xa 11, .inr (8, [.ref (xa 15), .int 0, .int 0, .int 0])), (xa 12, .inr (8, [.ref (xa 16), .int 0, .int 0, .int 0])), (xa 13, .inr (8, [.ref (xa 17), .int 0, .int 0, .int 0]))] := hD
    subst hw
    refine lv_if_ne (tgt := 24) hx hb dX11_who_15 (by decide) (fun c_15 => ?_) (fun c_15 => ?_)
    · refine lv_aload_n hx hb dX11_who_24 rfl (lv_at hl 0 rfl) ?_
      refine va_get (D := D) (ci := 10) (v := .ref (xa 2)) (C := RX11) (T := TX11) (N := 20) hx hb hts ip_who_X11 hown hK hP 0 rfl rfl 1 (by decide) (hts (.fieldLink RX11 15 "SaltStreet" "trays" "[LSaltStreet$Tray;") (List.mem_of_getElem? (i := 13) rfl)) (fun _ h9 => h9) rfl dX11_who_25 ?_
      refine lv_iload_n hx hb dX11_who_28 rfl (lv_at hl 1 rfl) ?_
      refine va_aldq hx hb hK hP 2 3 (f := (tg xa)) rfl rfl (by unfold vp_in; decide) dX11_who_29 ?_
      refine lv_cv (y := .ref (xa 10)) (rfl) ?_
      refine va_getN (D := D) (ci := 8) (v := .int 0) (C := RX8) (T := TX8) (N := 4) hx hb hts ip_who_X8 hown hK hP 3 rfl rfl 1 (by decide) (hE.nw 114 rfl) (fun _ h9 => h9) rfl dX11_who_30 ?_
      refine lv_if_ne (tgt := 42) hx hb dX11_who_33 (by decide) (fun h => absurd (by decide) h) (fun _ => ?_)
      refine lv_aload_n hx hb dX11_who_36 rfl (lv_at hl 0 rfl) ?_
      refine lv_iconst (v := 2) hx hb dX11_who_37 (by decide) ?_
      have hPc := hP.sub (ws' := [(xa 0, .inr (10, [.ref (xa 1), .ref (xa 2), .ref (na 0), .ref (pa 0), .ref (xa 3), .ref (na 1), .ref (na 2), .ref (xa 4), .ref (xa 5), .ref (xa 6), .ref (xa 7), .ref (xa 8), .ref (xa 9), .int 0, .int 0, .int 0, .long 0, .long 1, .int (-1), .int (-1)]))]) [0] rfl
      have hDc := hD.sub (ws' := [(xa 0, .inr (10, [.ref (xa 1), .ref (xa 2), .ref (na 0), .ref (pa 0), .ref (xa 3), .ref (na 1), .ref (na 2), .ref (xa 4), .ref (xa 5), .ref (xa 6), .ref (xa 7), .ref (xa 8), .ref (xa 9), .int 0, .int 0, .int 0, .long 0, .long 1, .int (-1), .int (-1)]))]) [0] (by decide) rfl
      have hFc := va_free (wc := [(xa 0, .inr (10, [.ref (xa 1), .ref (xa 2), .ref (na 0), .ref (pa 0), .ref (xa 3), .ref (na 1), .ref (na 2), .ref (xa 4), .ref (xa 5), .ref (xa 6), .ref (xa 7), .ref (xa 8), .ref (xa 9), .int 0, .int 0, .int 0, .long 0, .long 1, .int (-1), .int (-1)]))]) hD hS hA [0] rfl
      refine va_calli (va_runV (As := [.int 2]) (rest := []) ⟨hx, hb, hml, hown, hts⟩ (c_refuse l D kc H.size xa na pa 0 0 0 0 1 (-1) (-1) 2) (cwV 1 hts gp_who_136_c_refuse rfl rfl rfl (by decide +kernel) ⟨Nat.le_of_ble_eq_true rfl, Nat.le_of_ble_eq_true rfl⟩) (preV_ok hPc hDc hE (ci := 10) (q0 := 0) rfl rfl) rfl rfl hl.1 rfl (lv_room (Nat.le_of_ble_eq_true rfl)) dX11_who_38 ⟨Nat.le_of_ble_eq_true rfl, Nat.le_of_ble_eq_true rfl⟩) hS (fun q _ h => hFc q h) hFc (fun r_38_1 u9 t9 H locs ht hvm hw hB hz1 hk1 hS => ?_)
      obtain ⟨hP1, hD1⟩ := hB
      rw [ht] at hP1
      obtain ⟨hP, hD⟩ := va_join (wr := [(na 1, .inr (4, [.ref (na 4), .ref (na 5), .ref (na 6), .ref (na 7), .ref (na 8), .ref (na 9), .ref (na 10), .ref (na 11), .ref (na 12), .ref (na 13), .ref (na 14), .ref (na 15), .int 0, .int 0, .int 0, .int 0, .int 0, .int 0, .int 5, .int 0])), (xa 2, .inl (kc 3, 4, .inr (.inr (.inr (.inr (tg xa)))))), (xa 10, .inr (8, [.ref (xa 14), .int 0, .int 0, .int 0])), (xa 11, .inr (8, [.ref (xa 15), .int 0, .int 0, .int 0])), (xa 12, .inr (8, [.ref (xa 16), .int 0, .int 0, .int 0])), (xa 13, .inr (8, [.ref (xa 17), .int 0, .int 0, .int 0]))]) (w1 := [(xa 0, .inr (10, [.ref (xa 1), .ref (xa 2), .ref (na 0), .ref (pa 0), .ref (xa 3), .ref (na 1), .ref (na 2), .ref (xa 4), .ref (xa 5), .ref (xa 6), .ref (xa 7), .ref (xa 8), .ref (xa 9), .int 0, .int 0, .int 2, .long 0, .long 1, .int (-1), .int (-1)]))]) hP hD [0] [1, 2, 3, 4, 5, 6] rfl rfl (by decide) (by decide) hk1 hFc hP1 hD1
      have hP : va_P D vwCl [(na 1, .inr (4, [.ref (na 4), .ref (na 5), .ref (na 6), .ref (na 7), .ref (na 8), .ref (na 9), .ref (na 10), .ref (na 11), .ref (na 12), .ref (na 13), .ref (na 14), .ref (na 15), .int 0, .int 0, .int 0, .int 0, .int 0, .int 0, .int 5, .int 0])), (xa 2, .inl (kc 3, 4, .inr (.inr (.inr (.inr (tg xa)))))), (xa 10, .inr (8, [.ref (xa 14), .int 0, .int 0, .int 0])), (xa 11, .inr (8, [.ref (xa 15), .int 0, .int 0, .int 0])), (xa 12, .inr (8, [.ref (xa 16), .int 0, .int 0, .int 0])), (xa 13, .inr (8, [.ref (xa 17), .int 0, .int 0, .int 0])), (xa 0, .inr (10, [.ref (xa 1), .ref (xa 2), .ref (na 0), .ref (pa 0), .ref (xa 3), .ref (na 1), .ref (na 2), .ref (xa 4), .ref (xa 5), .ref (xa 6), .ref (xa 7), .ref (xa 8), .ref (xa 9), .int 0, .int 0, .int 2, .long 0, .long 1, .int (-1), .int (-1)]))] H := hP
      have hD : va_D A [(na 1, .inr (4, [.ref (na 4), .ref (na 5), .ref (na 6), .ref (na 7), .ref (na 8), .ref (na 9), .ref (na 10), .ref (na 11), .ref (na 12), .ref (na 13), .ref (na 14), .ref (na 15), .int 0, .int 0, .int 0, .int 0, .int 0, .int 0, .int 5, .int 0])), (xa 2, .inl (kc 3, 4, .inr (.inr (.inr (.inr (tg xa)))))), (xa 10, .inr (8, [.ref (xa 14), .int 0, .int 0, .int 0])), (xa 11, .inr (8, [.ref (xa 15), .int 0, .int 0, .int 0])), (xa 12, .inr (8, [.ref (xa 16), .int 0, .int 0, .int 0])), (xa 13, .inr (8, [.ref (xa 17), .int 0, .int 0, .int 0])), (xa 0, .inr (10, [.ref (xa 1), .ref (xa 2), .ref (na 0), .ref (pa 0), .ref (xa 3), .ref (na 1), .ref (na 2), .ref (xa 4), .ref (xa 5), .ref (xa 6), .ref (xa 7), .ref (xa 8), .ref (xa 9), .int 0, .int 0, .int 2, .long 0, .long 1, .int (-1), .int (-1)]))] := hD
      subst hw
      exact W.iret (v := (-1)) hx hb hr (fun t9 ht hW => ⟨⟨(-1), (), rfl, rfl, trivial⟩, hS.F ht⟩) hS.2.2 dX11_who_41
    · refine lv_aload_n hx hb dX11_who_18 rfl (lv_at hl 0 rfl) ?_
      refine lv_iconst (v := 1) hx hb dX11_who_19 (by decide) ?_
      have hPc := hP.sub (ws' := [(xa 0, .inr (10, [.ref (xa 1), .ref (xa 2), .ref (na 0), .ref (pa 0), .ref (xa 3), .ref (na 1), .ref (na 2), .ref (xa 4), .ref (xa 5), .ref (xa 6), .ref (xa 7), .ref (xa 8), .ref (xa 9), .int 0, .int 0, .int 0, .long 0, .long 1, .int (-1), .int (-1)]))]) [0] rfl
      have hDc := hD.sub (ws' := [(xa 0, .inr (10, [.ref (xa 1), .ref (xa 2), .ref (na 0), .ref (pa 0), .ref (xa 3), .ref (na 1), .ref (na 2), .ref (xa 4), .ref (xa 5), .ref (xa 6), .ref (xa 7), .ref (xa 8), .ref (xa 9), .int 0, .int 0, .int 0, .long 0, .long 1, .int (-1), .int (-1)]))]) [0] (by decide) rfl
      have hFc := va_free (wc := [(xa 0, .inr (10, [.ref (xa 1), .ref (xa 2), .ref (na 0), .ref (pa 0), .ref (xa 3), .ref (na 1), .ref (na 2), .ref (xa 4), .ref (xa 5), .ref (xa 6), .ref (xa 7), .ref (xa 8), .ref (xa 9), .int 0, .int 0, .int 0, .long 0, .long 1, .int (-1), .int (-1)]))]) hD hS hA [0] rfl
      refine va_calli (va_runV (As := [.int 1]) (rest := []) ⟨hx, hb, hml, hown, hts⟩ (c_refuse l D kc H.size xa na pa 0 0 0 0 1 (-1) (-1) 1) (cwV 1 hts gp_who_136_c_refuse rfl rfl rfl (by decide +kernel) ⟨Nat.le_of_ble_eq_true rfl, Nat.le_of_ble_eq_true rfl⟩) (preV_ok hPc hDc hE (ci := 10) (q0 := 0) rfl rfl) rfl rfl hl.1 rfl (lv_room (Nat.le_of_ble_eq_true rfl)) dX11_who_20 ⟨Nat.le_of_ble_eq_true rfl, Nat.le_of_ble_eq_true rfl⟩) hS (fun q _ h => hFc q h) hFc (fun r_20_1 u9 t9 H locs ht hvm hw hB hz1 hk1 hS => ?_)
      obtain ⟨hP1, hD1⟩ := hB
      rw [ht] at hP1
      obtain ⟨hP, hD⟩ := va_join (wr := [(na 1, .inr (4, [.ref (na 4), .ref (na 5), .ref (na 6), .ref (na 7), .ref (na 8), .ref (na 9), .ref (na 10), .ref (na 11), .ref (na 12), .ref (na 13), .ref (na 14), .ref (na 15), .int 0, .int 0, .int 0, .int 0, .int 0, .int 0, .int 5, .int 0])), (xa 2, .inl (kc 3, 4, .inr (.inr (.inr (.inr (tg xa)))))), (xa 10, .inr (8, [.ref (xa 14), .int 0, .int 0, .int 0])), (xa 11, .inr (8, [.ref (xa 15), .int 0, .int 0, .int 0])), (xa 12, .inr (8, [.ref (xa 16), .int 0, .int 0, .int 0])), (xa 13, .inr (8, [.ref (xa 17), .int 0, .int 0, .int 0]))]) (w1 := [(xa 0, .inr (10, [.ref (xa 1), .ref (xa 2), .ref (na 0), .ref (pa 0), .ref (xa 3), .ref (na 1), .ref (na 2), .ref (xa 4), .ref (xa 5), .ref (xa 6), .ref (xa 7), .ref (xa 8), .ref (xa 9), .int 0, .int 0, .int 1, .long 0, .long 1, .int (-1), .int (-1)]))]) hP hD [0] [1, 2, 3, 4, 5, 6] rfl rfl (by decide) (by decide) hk1 hFc hP1 hD1
      have hP : va_P D vwCl [(na 1, .inr (4, [.ref (na 4), .ref (na 5), .ref (na 6), .ref (na 7), .ref (na 8), .ref (na 9), .ref (na 10), .ref (na 11), .ref (na 12), .ref (na 13), .ref (na 14), .ref (na 15), .int 0, .int 0, .int 0, .int 0, .int 0, .int 0, .int 5, .int 0])), (xa 2, .inl (kc 3, 4, .inr (.inr (.inr (.inr (tg xa)))))), (xa 10, .inr (8, [.ref (xa 14), .int 0, .int 0, .int 0])), (xa 11, .inr (8, [.ref (xa 15), .int 0, .int 0, .int 0])), (xa 12, .inr (8, [.ref (xa 16), .int 0, .int 0, .int 0])), (xa 13, .inr (8, [.ref (xa 17), .int 0, .int 0, .int 0])), (xa 0, .inr (10, [.ref (xa 1), .ref (xa 2), .ref (na 0), .ref (pa 0), .ref (xa 3), .ref (na 1), .ref (na 2), .ref (xa 4), .ref (xa 5), .ref (xa 6), .ref (xa 7), .ref (xa 8), .ref (xa 9), .int 0, .int 0, .int 1, .long 0, .long 1, .int (-1), .int (-1)]))] H := hP
      have hD : va_D A [(na 1, .inr (4, [.ref (na 4), .ref (na 5), .ref (na 6), .ref (na 7), .ref (na 8), .ref (na 9), .ref (na 10), .ref (na 11), .ref (na 12), .ref (na 13), .ref (na 14), .ref (na 15), .int 0, .int 0, .int 0, .int 0, .int 0, .int 0, .int 5, .int 0])), (xa 2, .inl (kc 3, 4, .inr (.inr (.inr (.inr (tg xa)))))), (xa 10, .inr (8, [.ref (xa 14), .int 0, .int 0, .int 0])), (xa 11, .inr (8, [.ref (xa 15), .int 0, .int 0, .int 0])), (xa 12, .inr (8, [.ref (xa 16), .int 0, .int 0, .int 0])), (xa 13, .inr (8, [.ref (xa 17), .int 0, .int 0, .int 0])), (xa 0, .inr (10, [.ref (xa 1), .ref (xa 2), .ref (na 0), .ref (pa 0), .ref (xa 3), .ref (na 1), .ref (na 2), .ref (xa 4), .ref (xa 5), .ref (xa 6), .ref (xa 7), .ref (xa 8), .ref (xa 9), .int 0, .int 0, .int 1, .long 0, .long 1, .int (-1), .int (-1)]))] := hD
      subst hw
      exact W.iret (v := (-1)) hx hb hr (fun t9 ht hW => ⟨⟨(-1), (), rfl, rfl, trivial⟩, hS.F ht⟩) hS.2.2 dX11_who_23
  · refine lv_iload_n hx hb dX11_who_0 rfl (lv_at hl 1 rfl) ?_
    have hPc := hP.sub (ws' := []) [] rfl
    have hDc := hD.sub (ws' := []) [] (by decide) rfl
    have hFc := va_free (wc := []) hD hS hA [] rfl
    refine va_calli (va_runS (As := [.int 1]) (rest := []) ⟨hx, hb, hml, hown, hts⟩ (c_isTray l D kc s.heap.size 1) (va_cwS 1 hts gp_who_109_c_isTray rfl rfl rfl (by decide +kernel) ⟨Nat.le_of_ble_eq_true rfl, Nat.le_of_ble_eq_true rfl⟩) (preS_ok hPc hDc hE) rfl rfl hl.1 rfl (lv_room (Nat.le_of_ble_eq_true rfl)) dX11_who_1 ⟨Nat.le_of_ble_eq_true rfl, Nat.le_of_ble_eq_true rfl⟩) hS (fun q _ h => hFc q h) hFc (fun r_1_1 u9 t9 H locs ht hvm hw hB hz1 hk1 hS => ?_)
    obtain ⟨hP1, hD1⟩ := hB
    rw [ht] at hP1
    obtain ⟨hP, hD⟩ := va_join (wr := [(xa 0, .inr (10, [.ref (xa 1), .ref (xa 2), .ref (na 0), .ref (pa 0), .ref (xa 3), .ref (na 1), .ref (na 2), .ref (xa 4), .ref (xa 5), .ref (xa 6), .ref (xa 7), .ref (xa 8), .ref (xa 9), .int 0, .int 0, .int 0, .long 0, .long 1, .int (-1), .int (-1)])), (na 1, .inr (4, [.ref (na 4), .ref (na 5), .ref (na 6), .ref (na 7), .ref (na 8), .ref (na 9), .ref (na 10), .ref (na 11), .ref (na 12), .ref (na 13), .ref (na 14), .ref (na 15), .int 0, .int 0, .int 0, .int 0, .int 0, .int 0, .int 5, .int 0])), (xa 2, .inl (kc 3, 4, .inr (.inr (.inr (.inr (tg xa)))))), (xa 10, .inr (8, [.ref (xa 14), .int 0, .int 0, .int 0])), (xa 11, .inr (8, [.ref (xa 15), .int 0, .int 0, .int 0])), (xa 12, .inr (8, [.ref (xa 16), .int 0, .int 0, .int 0])), (xa 13, .inr (8, [.ref (xa 17), .int 0, .int 0, .int 0]))]) (w1 := []) hP hD [] [0, 1, 2, 3, 4, 5, 6] rfl rfl (by decide) (by decide) hk1 hFc hP1 hD1
    have hP : va_P D vwCl [(xa 0, .inr (10, [.ref (xa 1), .ref (xa 2), .ref (na 0), .ref (pa 0), .ref (xa 3), .ref (na 1), .ref (na 2), .ref (xa 4), .ref (xa 5), .ref (xa 6), .ref (xa 7), .ref (xa 8), .ref (xa 9), .int 0, .int 0, .int 0, .long 0, .long 1, .int (-1), .int (-1)])), (na 1, .inr (4, [.ref (na 4), .ref (na 5), .ref (na 6), .ref (na 7), .ref (na 8), .ref (na 9), .ref (na 10), .ref (na 11), .ref (na 12), .ref (na 13), .ref (na 14), .ref (na 15), .int 0, .int 0, .int 0, .int 0, .int 0, .int 0, .int 5, .int 0])), (xa 2, .inl (kc 3, 4, .inr (.inr (.inr (.inr (tg xa)))))), (xa 10, .inr (8, [.ref (xa 14), .int 0, .int 0, .int 0])), (xa 11, .inr (8, [.ref (xa 15), .int 0, .int 0, .int 0])), (xa 12, .inr (8, [.ref (xa 16), .int 0, .int 0, .int 0])), (xa 13, .inr (8, [.ref (xa 17), .int 0, .int 0, .int 0]))] H := hP
    have hD : va_D A [(xa 0, .inr (10, [.ref (xa 1), .ref (xa 2), .ref (na 0), .ref (pa 0), .ref (xa 3), .ref (na 1), .ref (na 2), .ref (xa 4), .ref (xa 5), .ref (xa 6), .ref (xa 7), .ref (xa 8), .ref (xa 9), .int 0, .int 0, .int 0, .long 0, .long 1, .int (-1), .int (-1)])), (na 1, .inr (4, [.ref (na 4), .ref (na 5), .ref (na 6), .ref (na 7), .ref (na 8), .ref (na 9), .ref (na 10), .ref (na 11), .ref (na 12), .ref (na 13), .ref (na 14), .ref (na 15), .int 0, .int 0, .int 0, .int 0, .int 0, .int 0, .int 5, .int 0])), (xa 2, .inl (kc 3, 4, .inr (.inr (.inr (.inr (tg xa)))))), (xa 10, .inr (8, [.ref (xa 14), .int 0, .int 0, .int 0])), (xa 11, .inr (8, [.ref (xa 15), .int 0, .int 0, .int 0])), (xa 12, .inr (8, [.ref (xa 16), .int 0, .int 0, .int 0])), (xa 13, .inr (8, [.ref (xa 17), .int 0, .int 0, .int 0]))] := hD
    subst hw
    refine lv_ci (y := 1) (by decide) ?_
    refine lv_if_eq (tgt := 18) hx hb dX11_who_4 (by decide) (fun h => absurd h (by decide)) (fun _ => ?_)
    refine lv_iload_n hx hb dX11_who_7 rfl (lv_at hl 2 rfl) ?_
    refine lv_iconst (v := 1) hx hb dX11_who_8 (by decide) ?_
    refine lv_sipush (v := 999) hx hb dX11_who_9 (by decide) ?_
    have hPc := hP.sub (ws' := []) [] rfl
    have hDc := hD.sub (ws' := []) [] (by decide) rfl
    have hFc := va_free (wc := []) hD hS hA [] rfl
    refine va_calli (va_runS (As := [.int a1, .int 1, .int 999]) (rest := []) ⟨hx, hb, hml, hown, hts⟩ (c_within l D kc H.size a1 1 999) (va_cwS 3 hts gp_who_113_c_within rfl rfl rfl (by decide +kernel) ⟨Nat.le_of_ble_eq_true rfl, Nat.le_of_ble_eq_true rfl⟩) (preS_ok hPc hDc hE) rfl rfl hl.1 rfl (lv_room (Nat.le_of_ble_eq_true rfl)) dX11_who_12 ⟨Nat.le_of_ble_eq_true rfl, Nat.le_of_ble_eq_true rfl⟩) hS (fun q _ h => hFc q h) hFc (fun r_12_1 u9 t9 H locs ht hvm hw hB hz1 hk1 hS => ?_)
    obtain ⟨hP1, hD1⟩ := hB
    rw [ht] at hP1
    obtain ⟨hP, hD⟩ := va_join (wr := [(xa 0, .inr (10, [.ref (xa 1), .ref (xa 2), .ref (na 0), .ref (pa 0), .ref (xa 3), .ref (na 1), .ref (na 2), .ref (xa 4), .ref (xa 5), .ref (xa 6), .ref (xa 7), .ref (xa 8), .ref (xa 9), .int 0, .int 0, .int 0, .long 0, .long 1, .int (-1), .int (-1)])), (na 1, .inr (4, [.ref (na 4), .ref (na 5), .ref (na 6), .ref (na 7), .ref (na 8), .ref (na 9), .ref (na 10), .ref (na 11), .ref (na 12), .ref (na 13), .ref (na 14), .ref (na 15), .int 0, .int 0, .int 0, .int 0, .int 0, .int 0, .int 5, .int 0])), (xa 2, .inl (kc 3, 4, .inr (.inr (.inr (.inr (tg xa)))))), (xa 10, .inr (8, [.ref (xa 14), .int 0, .int 0, .int 0])), (xa 11, .inr (8, [.ref (xa 15), .int 0, .int 0, .int 0])), (xa 12, .inr (8, [.ref (xa 16), .int 0, .int 0, .int 0])), (xa 13, .inr (8, [.ref (xa 17), .int 0, .int 0, .int 0]))]) (w1 := []) hP hD [] [0, 1, 2, 3, 4, 5, 6] rfl rfl (by decide) (by decide) hk1 hFc hP1 hD1
    have hP : va_P D vwCl [(xa 0, .inr (10, [.ref (xa 1), .ref (xa 2), .ref (na 0), .ref (pa 0), .ref (xa 3), .ref (na 1), .ref (na 2), .ref (xa 4), .ref (xa 5), .ref (xa 6), .ref (xa 7), .ref (xa 8), .ref (xa 9), .int 0, .int 0, .int 0, .long 0, .long 1, .int (-1), .int (-1)])), (na 1, .inr (4, [.ref (na 4), .ref (na 5), .ref (na 6), .ref (na 7), .ref (na 8), .ref (na 9), .ref (na 10), .ref (na 11), .ref (na 12), .ref (na 13), .ref (na 14), .ref (na 15), .int 0, .int 0, .int 0, .int 0, .int 0, .int 0, .int 5, .int 0])), (xa 2, .inl (kc 3, 4, .inr (.inr (.inr (.inr (tg xa)))))), (xa 10, .inr (8, [.ref (xa 14), .int 0, .int 0, .int 0])), (xa 11, .inr (8, [.ref (xa 15), .int 0, .int 0, .int 0])), (xa 12, .inr (8, [.ref (xa 16), .int 0, .int 0, .int 0])), (xa 13, .inr (8, [.ref (xa 17), .int 0, .int 0, .int 0]))] H := hP
    have hD : va_D A [(xa 0, .inr (10, [.ref (xa 1), .ref (xa 2), .ref (na 0), .ref (pa 0), .ref (xa 3), .ref (na 1), .ref (na 2), .ref (xa 4), .ref (xa 5), .ref (xa 6), .ref (xa 7), .ref (xa 8), .ref (xa 9), .int 0, .int 0, .int 0, .long 0, .long 1, .int (-1), .int (-1)])), (na 1, .inr (4, [.ref (na 4), .ref (na 5), .ref (na 6), .ref (na 7), .ref (na 8), .ref (na 9), .ref (na 10), .ref (na 11), .ref (na 12), .ref (na 13), .ref (na 14), .ref (na 15), .int 0, .int 0, .int 0, .int 0, .int 0, .int 0, .int 5, .int 0])), (xa 2, .inl (kc 3, 4, .inr (.inr (.inr (.inr (tg xa)))))), (xa 10, .inr (8, [.ref (xa 14), .int 0, .int 0, .int 0])), (xa 11, .inr (8, [.ref (xa 15), .int 0, .int 0, .int 0])), (xa 12, .inr (8, [.ref (xa 16), .int 0, .int 0, .int 0])), (xa 13, .inr (8, [.ref (xa 17), .int 0, .int 0, .int 0]))] := hD
    subst hw
    refine lv_if_ne (tgt := 24) hx hb dX11_who_15 (by decide) (fun c_15 => ?_) (fun c_15 => ?_)
    · refine lv_aload_n hx hb dX11_who_24 rfl (lv_at hl 0 rfl) ?_
      refine va_get (D := D) (ci := 10) (v := .ref (xa 2)) (C := RX11) (T := TX11) (N := 20) hx hb hts ip_who_X11 hown hK hP 0 rfl rfl 1 (by decide) (hts (.fieldLink RX11 15 "SaltStreet" "trays" "[LSaltStreet$Tray;") (List.mem_of_getElem? (i := 13) rfl)) (fun _ h9 => h9) rfl dX11_who_25 ?_
      refine lv_iload_n hx hb dX11_who_28 rfl (lv_at hl 1 rfl) ?_
      refine va_aldq hx hb hK hP 2 3 (f := (tg xa)) rfl rfl (by unfold vp_in; decide) dX11_who_29 ?_
      refine lv_cv (y := .ref (xa 11)) (rfl) ?_
      refine va_getN (D := D) (ci := 8) (v := .int 0) (C := RX8) (T := TX8) (N := 4) hx hb hts ip_who_X8 hown hK hP 4 rfl rfl 1 (by decide) (hE.nw 114 rfl) (fun _ h9 => h9) rfl dX11_who_30 ?_
      refine lv_if_ne (tgt := 42) hx hb dX11_who_33 (by decide) (fun h => absurd (by decide) h) (fun _ => ?_)
      refine lv_aload_n hx hb dX11_who_36 rfl (lv_at hl 0 rfl) ?_
      refine lv_iconst (v := 2) hx hb dX11_who_37 (by decide) ?_
      have hPc := hP.sub (ws' := [(xa 0, .inr (10, [.ref (xa 1), .ref (xa 2), .ref (na 0), .ref (pa 0), .ref (xa 3), .ref (na 1), .ref (na 2), .ref (xa 4), .ref (xa 5), .ref (xa 6), .ref (xa 7), .ref (xa 8), .ref (xa 9), .int 0, .int 0, .int 0, .long 0, .long 1, .int (-1), .int (-1)]))]) [0] rfl
      have hDc := hD.sub (ws' := [(xa 0, .inr (10, [.ref (xa 1), .ref (xa 2), .ref (na 0), .ref (pa 0), .ref (xa 3), .ref (na 1), .ref (na 2), .ref (xa 4), .ref (xa 5), .ref (xa 6), .ref (xa 7), .ref (xa 8), .ref (xa 9), .int 0, .int 0, .int 0, .long 0, .long 1, .int (-1), .int (-1)]))]) [0] (by decide) rfl
      have hFc := va_free (wc := [(xa 0, .inr (10, [.ref (xa 1), .ref (xa 2), .ref (na 0), .ref (pa 0), .ref (xa 3), .ref (na 1), .ref (na 2), .ref (xa 4), .ref (xa 5), .ref (xa 6), .ref (xa 7), .ref (xa 8), .ref (xa 9), .int 0, .int 0, .int 0, .long 0, .long 1, .int (-1), .int (-1)]))]) hD hS hA [0] rfl
      refine va_calli (va_runV (As := [.int 2]) (rest := []) ⟨hx, hb, hml, hown, hts⟩ (c_refuse l D kc H.size xa na pa 0 0 0 0 1 (-1) (-1) 2) (cwV 1 hts gp_who_136_c_refuse rfl rfl rfl (by decide +kernel) ⟨Nat.le_of_ble_eq_true rfl, Nat.le_of_ble_eq_true rfl⟩) (preV_ok hPc hDc hE (ci := 10) (q0 := 0) rfl rfl) rfl rfl hl.1 rfl (lv_room (Nat.le_of_ble_eq_true rfl)) dX11_who_38 ⟨Nat.le_of_ble_eq_true rfl, Nat.le_of_ble_eq_true rfl⟩) hS (fun q _ h => hFc q h) hFc (fun r_38_2 u9 t9 H locs ht hvm hw hB hz1 hk1 hS => ?_)
      obtain ⟨hP1, hD1⟩ := hB
      rw [ht] at hP1
      obtain ⟨hP, hD⟩ := va_join (wr := [(na 1, .inr (4, [.ref (na 4), .ref (na 5), .ref (na 6), .ref (na 7), .ref (na 8), .ref (na 9), .ref (na 10), .ref (na 11), .ref (na 12), .ref (na 13), .ref (na 14), .ref (na 15), .int 0, .int 0, .int 0, .int 0, .int 0, .int 0, .int 5, .int 0])), (xa 2, .inl (kc 3, 4, .inr (.inr (.inr (.inr (tg xa)))))), (xa 10, .inr (8, [.ref (xa 14), .int 0, .int 0, .int 0])), (xa 11, .inr (8, [.ref (xa 15), .int 0, .int 0, .int 0])), (xa 12, .inr (8, [.ref (xa 16), .int 0, .int 0, .int 0])), (xa 13, .inr (8, [.ref (xa 17), .int 0, .int 0, .int 0]))]) (w1 := [(xa 0, .inr (10, [.ref (xa 1), .ref (xa 2), .ref (na 0), .ref (pa 0), .ref (xa 3), .ref (na 1), .ref (na 2), .ref (xa 4), .ref (xa 5), .ref (xa 6), .ref (xa 7), .ref (xa 8), .ref (xa 9), .int 0, .int 0, .int 2, .long 0, .long 1, .int (-1), .int (-1)]))]) hP hD [0] [1, 2, 3, 4, 5, 6] rfl rfl (by decide) (by decide) hk1 hFc hP1 hD1
      have hP : va_P D vwCl [(na 1, .inr (4, [.ref (na 4), .ref (na 5), .ref (na 6), .ref (na 7), .ref (na 8), .ref (na 9), .ref (na 10), .ref (na 11), .ref (na 12), .ref (na 13), .ref (na 14), .ref (na 15), .int 0, .int 0, .int 0, .int 0, .int 0, .int 0, .int 5, .int 0])), (xa 2, .inl (kc 3, 4, .inr (.inr (.inr (.inr (tg xa)))))), (xa 10, .inr (8, [.ref (xa 14), .int 0, .int 0, .int 0])), (xa 11, .inr (8, [.ref (xa 15), .int 0, .int 0, .int 0])), (xa 12, .inr (8, [.ref (xa 16), .int 0, .int 0, .int 0])), (xa 13, .inr (8, [.ref (xa 17), .int 0, .int 0, .int 0])), (xa 0, .inr (10, [.ref (xa 1), .ref (xa 2), .ref (na 0), .ref (pa 0), .ref (xa 3), .ref (na 1), .ref (na 2), .ref (xa 4), .ref (xa 5), .ref (xa 6), .ref (xa 7), .ref (xa 8), .ref (xa 9), .int 0, .int 0, .int 2, .long 0, .long 1, .int (-1), .int (-1)]))] H := hP
      have hD : va_D A [(na 1, .inr (4, [.ref (na 4), .ref (na 5), .ref (na 6), .ref (na 7), .ref (na 8), .ref (na 9), .ref (na 10), .ref (na 11), .ref (na 12), .ref (na 13), .ref (na 14), .ref (na 15), .int 0, .int 0, .int 0, .int 0, .int 0, .int 0, .int 5, .int 0])), (xa 2, .inl (kc 3, 4, .inr (.inr (.inr (.inr (tg xa)))))), (xa 10, .inr (8, [.ref (xa 14), .int 0, .int 0, .int 0])), (xa 11, .inr (8, [.ref (xa 15), .int 0, .int 0, .int 0])), (xa 12, .inr (8, [.ref (xa 16), .int 0, .int 0, .int 0])), (xa 13, .inr (8, [.ref (xa 17), .int 0, .int 0, .int 0])), (xa 0, .inr (10, [.ref (xa 1), .ref (xa 2), .ref (na 0), .ref (pa 0), .ref (xa 3), .ref (na 1), .ref (na 2), .ref (xa 4), .ref (xa 5), .ref (xa 6), .ref (xa 7), .ref (xa 8), .ref (xa 9), .int 0, .int 0, .int 2, .long 0, .long 1, .int (-1), .int (-1)]))] := hD
      subst hw
      exact W.iret (v := (-1)) hx hb hr (fun t9 ht hW => ⟨⟨(-1), (), rfl, rfl, trivial⟩, hS.F ht⟩) hS.2.2 dX11_who_41
    · refine lv_aload_n hx hb dX11_who_18 rfl (lv_at hl 0 rfl) ?_
      refine lv_iconst (v := 1) hx hb dX11_who_19 (by decide) ?_
      have hPc := hP.sub (ws' := [(xa 0, .inr (10, [.ref (xa 1), .ref (xa 2), .ref (na 0), .ref (pa 0), .ref (xa 3), .ref (na 1), .ref (na 2), .ref (xa 4), .ref (xa 5), .ref (xa 6), .ref (xa 7), .ref (xa 8), .ref (xa 9), .int 0, .int 0, .int 0, .long 0, .long 1, .int (-1), .int (-1)]))]) [0] rfl
      have hDc := hD.sub (ws' := [(xa 0, .inr (10, [.ref (xa 1), .ref (xa 2), .ref (na 0), .ref (pa 0), .ref (xa 3), .ref (na 1), .ref (na 2), .ref (xa 4), .ref (xa 5), .ref (xa 6), .ref (xa 7), .ref (xa 8), .ref (xa 9), .int 0, .int 0, .int 0, .long 0, .long 1, .int (-1), .int (-1)]))]) [0] (by decide) rfl
      have hFc := va_free (wc := [(xa 0, .inr (10, [.ref (xa 1), .ref (xa 2), .ref (na 0), .ref (pa 0), .ref (xa 3), .ref (na 1), .ref (na 2), .ref (xa 4), .ref (xa 5), .ref (xa 6), .ref (xa 7), .ref (xa 8), .ref (xa 9), .int 0, .int 0, .int 0, .long 0, .long 1, .int (-1), .int (-1)]))]) hD hS hA [0] rfl
      refine va_calli (va_runV (As := [.int 1]) (rest := []) ⟨hx, hb, hml, hown, hts⟩ (c_refuse l D kc H.size xa na pa 0 0 0 0 1 (-1) (-1) 1) (cwV 1 hts gp_who_136_c_refuse rfl rfl rfl (by decide +kernel) ⟨Nat.le_of_ble_eq_true rfl, Nat.le_of_ble_eq_true rfl⟩) (preV_ok hPc hDc hE (ci := 10) (q0 := 0) rfl rfl) rfl rfl hl.1 rfl (lv_room (Nat.le_of_ble_eq_true rfl)) dX11_who_20 ⟨Nat.le_of_ble_eq_true rfl, Nat.le_of_ble_eq_true rfl⟩) hS (fun q _ h => hFc q h) hFc (fun r_20_2 u9 t9 H locs ht hvm hw hB hz1 hk1 hS => ?_)
      obtain ⟨hP1, hD1⟩ := hB
      rw [ht] at hP1
      obtain ⟨hP, hD⟩ := va_join (wr := [(na 1, .inr (4, [.ref (na 4), .ref (na 5), .ref (na 6), .ref (na 7), .ref (na 8), .ref (na 9), .ref (na 10), .ref (na 11), .ref (na 12), .ref (na 13), .ref (na 14), .ref (na 15), .int 0, .int 0, .int 0, .int 0, .int 0, .int 0, .int 5, .int 0])), (xa 2, .inl (kc 3, 4, .inr (.inr (.inr (.inr (tg xa)))))), (xa 10, .inr (8, [.ref (xa 14), .int 0, .int 0, .int 0])), (xa 11, .inr (8, [.ref (xa 15), .int 0, .int 0, .int 0])), (xa 12, .inr (8, [.ref (xa 16), .int 0, .int 0, .int 0])), (xa 13, .inr (8, [.ref (xa 17), .int 0, .int 0, .int 0]))]) (w1 := [(xa 0, .inr (10, [.ref (xa 1), .ref (xa 2), .ref (na 0), .ref (pa 0), .ref (xa 3), .ref (na 1), .ref (na 2), .ref (xa 4), .ref (xa 5), .ref (xa 6), .ref (xa 7), .ref (xa 8), .ref (xa 9), .int 0, .int 0, .int 1, .long 0, .long 1, .int (-1), .int (-1)]))]) hP hD [0] [1, 2, 3, 4, 5, 6] rfl rfl (by decide) (by decide) hk1 hFc hP1 hD1
      have hP : va_P D vwCl [(na 1, .inr (4, [.ref (na 4), .ref (na 5), .ref (na 6), .ref (na 7), .ref (na 8), .ref (na 9), .ref (na 10), .ref (na 11), .ref (na 12), .ref (na 13), .ref (na 14), .ref (na 15), .int 0, .int 0, .int 0, .int 0, .int 0, .int 0, .int 5, .int 0])), (xa 2, .inl (kc 3, 4, .inr (.inr (.inr (.inr (tg xa)))))), (xa 10, .inr (8, [.ref (xa 14), .int 0, .int 0, .int 0])), (xa 11, .inr (8, [.ref (xa 15), .int 0, .int 0, .int 0])), (xa 12, .inr (8, [.ref (xa 16), .int 0, .int 0, .int 0])), (xa 13, .inr (8, [.ref (xa 17), .int 0, .int 0, .int 0])), (xa 0, .inr (10, [.ref (xa 1), .ref (xa 2), .ref (na 0), .ref (pa 0), .ref (xa 3), .ref (na 1), .ref (na 2), .ref (xa 4), .ref (xa 5), .ref (xa 6), .ref (xa 7), .ref (xa 8), .ref (xa 9), .int 0, .int 0, .int 1, .long 0, .long 1, .int (-1), .int (-1)]))] H := hP
      have hD : va_D A [(na 1, .inr (4, [.ref (na 4), .ref (na 5), .ref (na 6), .ref (na 7), .ref (na 8), .ref (na 9), .ref (na 10), .ref (na 11), .ref (na 12), .ref (na 13), .ref (na 14), .ref (na 15), .int 0, .int 0, .int 0, .int 0, .int 0, .int 0, .int 5, .int 0])), (xa 2, .inl (kc 3, 4, .inr (.inr (.inr (.inr (tg xa)))))), (xa 10, .inr (8, [.ref (xa 14), .int 0, .int 0, .int 0])), (xa 11, .inr (8, [.ref (xa 15), .int 0, .int 0, .int 0])), (xa 12, .inr (8, [.ref (xa 16), .int 0, .int 0, .int 0])), (xa 13, .inr (8, [.ref (xa 17), .int 0, .int 0, .int 0])), (xa 0, .inr (10, [.ref (xa 1), .ref (xa 2), .ref (na 0), .ref (pa 0), .ref (xa 3), .ref (na 1), .ref (na 2), .ref (xa 4), .ref (xa 5), .ref (xa 6), .ref (xa 7), .ref (xa 8), .ref (xa 9), .int 0, .int 0, .int 1, .long 0, .long 1, .int (-1), .int (-1)]))] := hD
      subst hw
      exact W.iret (v := (-1)) hx hb hr (fun t9 ht hW => ⟨⟨(-1), (), rfl, rfl, trivial⟩, hS.F ht⟩) hS.2.2 dX11_who_23
  · refine lv_iload_n hx hb dX11_who_0 rfl (lv_at hl 1 rfl) ?_
    have hPc := hP.sub (ws' := []) [] rfl
    have hDc := hD.sub (ws' := []) [] (by decide) rfl
    have hFc := va_free (wc := []) hD hS hA [] rfl
    refine va_calli (va_runS (As := [.int 2]) (rest := []) ⟨hx, hb, hml, hown, hts⟩ (c_isTray l D kc s.heap.size 2) (va_cwS 1 hts gp_who_109_c_isTray rfl rfl rfl (by decide +kernel) ⟨Nat.le_of_ble_eq_true rfl, Nat.le_of_ble_eq_true rfl⟩) (preS_ok hPc hDc hE) rfl rfl hl.1 rfl (lv_room (Nat.le_of_ble_eq_true rfl)) dX11_who_1 ⟨Nat.le_of_ble_eq_true rfl, Nat.le_of_ble_eq_true rfl⟩) hS (fun q _ h => hFc q h) hFc (fun r_1_2 u9 t9 H locs ht hvm hw hB hz1 hk1 hS => ?_)
    obtain ⟨hP1, hD1⟩ := hB
    rw [ht] at hP1
    obtain ⟨hP, hD⟩ := va_join (wr := [(xa 0, .inr (10, [.ref (xa 1), .ref (xa 2), .ref (na 0), .ref (pa 0), .ref (xa 3), .ref (na 1), .ref (na 2), .ref (xa 4), .ref (xa 5), .ref (xa 6), .ref (xa 7), .ref (xa 8), .ref (xa 9), .int 0, .int 0, .int 0, .long 0, .long 1, .int (-1), .int (-1)])), (na 1, .inr (4, [.ref (na 4), .ref (na 5), .ref (na 6), .ref (na 7), .ref (na 8), .ref (na 9), .ref (na 10), .ref (na 11), .ref (na 12), .ref (na 13), .ref (na 14), .ref (na 15), .int 0, .int 0, .int 0, .int 0, .int 0, .int 0, .int 5, .int 0])), (xa 2, .inl (kc 3, 4, .inr (.inr (.inr (.inr (tg xa)))))), (xa 10, .inr (8, [.ref (xa 14), .int 0, .int 0, .int 0])), (xa 11, .inr (8, [.ref (xa 15), .int 0, .int 0, .int 0])), (xa 12, .inr (8, [.ref (xa 16), .int 0, .int 0, .int 0])), (xa 13, .inr (8, [.ref (xa 17), .int 0, .int 0, .int 0]))]) (w1 := []) hP hD [] [0, 1, 2, 3, 4, 5, 6] rfl rfl (by decide) (by decide) hk1 hFc hP1 hD1
    have hP : va_P D vwCl [(xa 0, .inr (10, [.ref (xa 1), .ref (xa 2), .ref (na 0), .ref (pa 0), .ref (xa 3), .ref (na 1), .ref (na 2), .ref (xa 4), .ref (xa 5), .ref (xa 6), .ref (xa 7), .ref (xa 8), .ref (xa 9), .int 0, .int 0, .int 0, .long 0, .long 1, .int (-1), .int (-1)])), (na 1, .inr (4, [.ref (na 4), .ref (na 5), .ref (na 6), .ref (na 7), .ref (na 8), .ref (na 9), .ref (na 10), .ref (na 11), .ref (na 12), .ref (na 13), .ref (na 14), .ref (na 15), .int 0, .int 0, .int 0, .int 0, .int 0, .int 0, .int 5, .int 0])), (xa 2, .inl (kc 3, 4, .inr (.inr (.inr (.inr (tg xa)))))), (xa 10, .inr (8, [.ref (xa 14), .int 0, .int 0, .int 0])), (xa 11, .inr (8, [.ref (xa 15), .int 0, .int 0, .int 0])), (xa 12, .inr (8, [.ref (xa 16), .int 0, .int 0, .int 0])), (xa 13, .inr (8, [.ref (xa 17), .int 0, .int 0, .int 0]))] H := hP
    have hD : va_D A [(xa 0, .inr (10, [.ref (xa 1), .ref (xa 2), .ref (na 0), .ref (pa 0), .ref (xa 3), .ref (na 1), .ref (na 2), .ref (xa 4), .ref (xa 5), .ref (xa 6), .ref (xa 7), .ref (xa 8), .ref (xa 9), .int 0, .int 0, .int 0, .long 0, .long 1, .int (-1), .int (-1)])), (na 1, .inr (4, [.ref (na 4), .ref (na 5), .ref (na 6), .ref (na 7), .ref (na 8), .ref (na 9), .ref (na 10), .ref (na 11), .ref (na 12), .ref (na 13), .ref (na 14), .ref (na 15), .int 0, .int 0, .int 0, .int 0, .int 0, .int 0, .int 5, .int 0])), (xa 2, .inl (kc 3, 4, .inr (.inr (.inr (.inr (tg xa)))))), (xa 10, .inr (8, [.ref (xa 14), .int 0, .int 0, .int 0])), (xa 11, .inr (8, [.ref (xa 15), .int 0, .int 0, .int 0])), (xa 12, .inr (8, [.ref (xa 16), .int 0, .int 0, .int 0])), (xa 13, .inr (8, [.ref (xa 17), .int 0, .int 0, .int 0]))] := hD
    subst hw
    refine lv_ci (y := 1) (by decide) ?_
    refine lv_if_eq (tgt := 18) hx hb dX11_who_4 (by decide) (fun h => absurd h (by decide)) (fun _ => ?_)
    refine lv_iload_n hx hb dX11_who_7 rfl (lv_at hl 2 rfl) ?_
    refine lv_iconst (v := 1) hx hb dX11_who_8 (by decide) ?_
    refine lv_sipush (v := 999) hx hb dX11_who_9 (by decide) ?_
    have hPc := hP.sub (ws' := []) [] rfl
    have hDc := hD.sub (ws' := []) [] (by decide) rfl
    have hFc := va_free (wc := []) hD hS hA [] rfl
    refine va_calli (va_runS (As := [.int a1, .int 1, .int 999]) (rest := []) ⟨hx, hb, hml, hown, hts⟩ (c_within l D kc H.size a1 1 999) (va_cwS 3 hts gp_who_113_c_within rfl rfl rfl (by decide +kernel) ⟨Nat.le_of_ble_eq_true rfl, Nat.le_of_ble_eq_true rfl⟩) (preS_ok hPc hDc hE) rfl rfl hl.1 rfl (lv_room (Nat.le_of_ble_eq_true rfl)) dX11_who_12 ⟨Nat.le_of_ble_eq_true rfl, Nat.le_of_ble_eq_true rfl⟩) hS (fun q _ h => hFc q h) hFc (fun r_12_2 u9 t9 H locs ht hvm hw hB hz1 hk1 hS => ?_)
    obtain ⟨hP1, hD1⟩ := hB
    rw [ht] at hP1
    obtain ⟨hP, hD⟩ := va_join (wr := [(xa 0, .inr (10, [.ref (xa 1), .ref (xa 2), .ref (na 0), .ref (pa 0), .ref (xa 3), .ref (na 1), .ref (na 2), .ref (xa 4), .ref (xa 5), .ref (xa 6), .ref (xa 7), .ref (xa 8), .ref (xa 9), .int 0, .int 0, .int 0, .long 0, .long 1, .int (-1), .int (-1)])), (na 1, .inr (4, [.ref (na 4), .ref (na 5), .ref (na 6), .ref (na 7), .ref (na 8), .ref (na 9), .ref (na 10), .ref (na 11), .ref (na 12), .ref (na 13), .ref (na 14), .ref (na 15), .int 0, .int 0, .int 0, .int 0, .int 0, .int 0, .int 5, .int 0])), (xa 2, .inl (kc 3, 4, .inr (.inr (.inr (.inr (tg xa)))))), (xa 10, .inr (8, [.ref (xa 14), .int 0, .int 0, .int 0])), (xa 11, .inr (8, [.ref (xa 15), .int 0, .int 0, .int 0])), (xa 12, .inr (8, [.ref (xa 16), .int 0, .int 0, .int 0])), (xa 13, .inr (8, [.ref (xa 17), .int 0, .int 0, .int 0]))]) (w1 := []) hP hD [] [0, 1, 2, 3, 4, 5, 6] rfl rfl (by decide) (by decide) hk1 hFc hP1 hD1
    have hP : va_P D vwCl [(xa 0, .inr (10, [.ref (xa 1), .ref (xa 2), .ref (na 0), .ref (pa 0), .ref (xa 3), .ref (na 1), .ref (na 2), .ref (xa 4), .ref (xa 5), .ref (xa 6), .ref (xa 7), .ref (xa 8), .ref (xa 9), .int 0, .int 0, .int 0, .long 0, .long 1, .int (-1), .int (-1)])), (na 1, .inr (4, [.ref (na 4), .ref (na 5), .ref (na 6), .ref (na 7), .ref (na 8), .ref (na 9), .ref (na 10), .ref (na 11), .ref (na 12), .ref (na 13), .ref (na 14), .ref (na 15), .int 0, .int 0, .int 0, .int 0, .int 0, .int 0, .int 5, .int 0])), (xa 2, .inl (kc 3, 4, .inr (.inr (.inr (.inr (tg xa)))))), (xa 10, .inr (8, [.ref (xa 14), .int 0, .int 0, .int 0])), (xa 11, .inr (8, [.ref (xa 15), .int 0, .int 0, .int 0])), (xa 12, .inr (8, [.ref (xa 16), .int 0, .int 0, .int 0])), (xa 13, .inr (8, [.ref (xa 17), .int 0, .int 0, .int 0]))] H := hP
    have hD : va_D A [(xa 0, .inr (10, [.ref (xa 1), .ref (xa 2), .ref (na 0), .ref (pa 0), .ref (xa 3), .ref (na 1), .ref (na 2), .ref (xa 4), .ref (xa 5), .ref (xa 6), .ref (xa 7), .ref (xa 8), .ref (xa 9), .int 0, .int 0, .int 0, .long 0, .long 1, .int (-1), .int (-1)])), (na 1, .inr (4, [.ref (na 4), .ref (na 5), .ref (na 6), .ref (na 7), .ref (na 8), .ref (na 9), .ref (na 10), .ref (na 11), .ref (na 12), .ref (na 13), .ref (na 14), .ref (na 15), .int 0, .int 0, .int 0, .int 0, .int 0, .int 0, .int 5, .int 0])), (xa 2, .inl (kc 3, 4, .inr (.inr (.inr (.inr (tg xa)))))), (xa 10, .inr (8, [.ref (xa 14), .int 0, .int 0, .int 0])), (xa 11, .inr (8, [.ref (xa 15), .int 0, .int 0, .int 0])), (xa 12, .inr (8, [.ref (xa 16), .int 0, .int 0, .int 0])), (xa 13, .inr (8, [.ref (xa 17), .int 0, .int 0, .int 0]))] := hD
    subst hw
    refine lv_if_ne (tgt := 24) hx hb dX11_who_15 (by decide) (fun c_15 => ?_) (fun c_15 => ?_)
    · refine lv_aload_n hx hb dX11_who_24 rfl (lv_at hl 0 rfl) ?_
      refine va_get (D := D) (ci := 10) (v := .ref (xa 2)) (C := RX11) (T := TX11) (N := 20) hx hb hts ip_who_X11 hown hK hP 0 rfl rfl 1 (by decide) (hts (.fieldLink RX11 15 "SaltStreet" "trays" "[LSaltStreet$Tray;") (List.mem_of_getElem? (i := 13) rfl)) (fun _ h9 => h9) rfl dX11_who_25 ?_
      refine lv_iload_n hx hb dX11_who_28 rfl (lv_at hl 1 rfl) ?_
      refine va_aldq hx hb hK hP 2 3 (f := (tg xa)) rfl rfl (by unfold vp_in; decide) dX11_who_29 ?_
      refine lv_cv (y := .ref (xa 12)) (rfl) ?_
      refine va_getN (D := D) (ci := 8) (v := .int 0) (C := RX8) (T := TX8) (N := 4) hx hb hts ip_who_X8 hown hK hP 5 rfl rfl 1 (by decide) (hE.nw 114 rfl) (fun _ h9 => h9) rfl dX11_who_30 ?_
      refine lv_if_ne (tgt := 42) hx hb dX11_who_33 (by decide) (fun h => absurd (by decide) h) (fun _ => ?_)
      refine lv_aload_n hx hb dX11_who_36 rfl (lv_at hl 0 rfl) ?_
      refine lv_iconst (v := 2) hx hb dX11_who_37 (by decide) ?_
      have hPc := hP.sub (ws' := [(xa 0, .inr (10, [.ref (xa 1), .ref (xa 2), .ref (na 0), .ref (pa 0), .ref (xa 3), .ref (na 1), .ref (na 2), .ref (xa 4), .ref (xa 5), .ref (xa 6), .ref (xa 7), .ref (xa 8), .ref (xa 9), .int 0, .int 0, .int 0, .long 0, .long 1, .int (-1), .int (-1)]))]) [0] rfl
      have hDc := hD.sub (ws' := [(xa 0, .inr (10, [.ref (xa 1), .ref (xa 2), .ref (na 0), .ref (pa 0), .ref (xa 3), .ref (na 1), .ref (na 2), .ref (xa 4), .ref (xa 5), .ref (xa 6), .ref (xa 7), .ref (xa 8), .ref (xa 9), .int 0, .int 0, .int 0, .long 0, .long 1, .int (-1), .int (-1)]))]) [0] (by decide) rfl
      have hFc := va_free (wc := [(xa 0, .inr (10, [.ref (xa 1), .ref (xa 2), .ref (na 0), .ref (pa 0), .ref (xa 3), .ref (na 1), .ref (na 2), .ref (xa 4), .ref (xa 5), .ref (xa 6), .ref (xa 7), .ref (xa 8), .ref (xa 9), .int 0, .int 0, .int 0, .long 0, .long 1, .int (-1), .int (-1)]))]) hD hS hA [0] rfl
      refine va_calli (va_runV (As := [.int 2]) (rest := []) ⟨hx, hb, hml, hown, hts⟩ (c_refuse l D kc H.size xa na pa 0 0 0 0 1 (-1) (-1) 2) (cwV 1 hts gp_who_136_c_refuse rfl rfl rfl (by decide +kernel) ⟨Nat.le_of_ble_eq_true rfl, Nat.le_of_ble_eq_true rfl⟩) (preV_ok hPc hDc hE (ci := 10) (q0 := 0) rfl rfl) rfl rfl hl.1 rfl (lv_room (Nat.le_of_ble_eq_true rfl)) dX11_who_38 ⟨Nat.le_of_ble_eq_true rfl, Nat.le_of_ble_eq_true rfl⟩) hS (fun q _ h => hFc q h) hFc (fun r_38_3 u9 t9 H locs ht hvm hw hB hz1 hk1 hS => ?_)
      obtain ⟨hP1, hD1⟩ := hB
      rw [ht] at hP1
      obtain ⟨hP, hD⟩ := va_join (wr := [(na 1, .inr (4, [.ref (na 4), .ref (na 5), .ref (na 6), .ref (na 7), .ref (na 8), .ref (na 9), .ref (na 10), .ref (na 11), .ref (na 12), .ref (na 13), .ref (na 14), .ref (na 15), .int 0, .int 0, .int 0, .int 0, .int 0, .int 0, .int 5, .int 0])), (xa 2, .inl (kc 3, 4, .inr (.inr (.inr (.inr (tg xa)))))), (xa 10, .inr (8, [.ref (xa 14), .int 0, .int 0, .int 0])), (xa 11, .inr (8, [.ref (xa 15), .int 0, .int 0, .int 0])), (xa 12, .inr (8, [.ref (xa 16), .int 0, .int 0, .int 0])), (xa 13, .inr (8, [.ref (xa 17), .int 0, .int 0, .int 0]))]) (w1 := [(xa 0, .inr (10, [.ref (xa 1), .ref (xa 2), .ref (na 0), .ref (pa 0), .ref (xa 3), .ref (na 1), .ref (na 2), .ref (xa 4), .ref (xa 5), .ref (xa 6), .ref (xa 7), .ref (xa 8), .ref (xa 9), .int 0, .int 0, .int 2, .long 0, .long 1, .int (-1), .int (-1)]))]) hP hD [0] [1, 2, 3, 4, 5, 6] rfl rfl (by decide) (by decide) hk1 hFc hP1 hD1
      have hP : va_P D vwCl [(na 1, .inr (4, [.ref (na 4), .ref (na 5), .ref (na 6), .ref (na 7), .ref (na 8), .ref (na 9), .ref (na 10), .ref (na 11), .ref (na 12), .ref (na 13), .ref (na 14), .ref (na 15), .int 0, .int 0, .int 0, .int 0, .int 0, .int 0, .int 5, .int 0])), (xa 2, .inl (kc 3, 4, .inr (.inr (.inr (.inr (tg xa)))))), (xa 10, .inr (8, [.ref (xa 14), .int 0, .int 0, .int 0])), (xa 11, .inr (8, [.ref (xa 15), .int 0, .int 0, .int 0])), (xa 12, .inr (8, [.ref (xa 16), .int 0, .int 0, .int 0])), (xa 13, .inr (8, [.ref (xa 17), .int 0, .int 0, .int 0])), (xa 0, .inr (10, [.ref (xa 1), .ref (xa 2), .ref (na 0), .ref (pa 0), .ref (xa 3), .ref (na 1), .ref (na 2), .ref (xa 4), .ref (xa 5), .ref (xa 6), .ref (xa 7), .ref (xa 8), .ref (xa 9), .int 0, .int 0, .int 2, .long 0, .long 1, .int (-1), .int (-1)]))] H := hP
      have hD : va_D A [(na 1, .inr (4, [.ref (na 4), .ref (na 5), .ref (na 6), .ref (na 7), .ref (na 8), .ref (na 9), .ref (na 10), .ref (na 11), .ref (na 12), .ref (na 13), .ref (na 14), .ref (na 15), .int 0, .int 0, .int 0, .int 0, .int 0, .int 0, .int 5, .int 0])), (xa 2, .inl (kc 3, 4, .inr (.inr (.inr (.inr (tg xa)))))), (xa 10, .inr (8, [.ref (xa 14), .int 0, .int 0, .int 0])), (xa 11, .inr (8, [.ref (xa 15), .int 0, .int 0, .int 0])), (xa 12, .inr (8, [.ref (xa 16), .int 0, .int 0, .int 0])), (xa 13, .inr (8, [.ref (xa 17), .int 0, .int 0, .int 0])), (xa 0, .inr (10, [.ref (xa 1), .ref (xa 2), .ref (na 0), .ref (pa 0), .ref (xa 3), .ref (na 1), .ref (na 2), .ref (xa 4), .ref (xa 5), .ref (xa 6), .ref (xa 7), .ref (xa 8), .ref (xa 9), .int 0, .int 0, .int 2, .long 0, .long 1, .int (-1), .int (-1)]))] := hD
      subst hw
      exact W.iret (v := (-1)) hx hb hr (fun t9 ht hW => ⟨⟨(-1), (), rfl, rfl, trivial⟩, hS.F ht⟩) hS.2.2 dX11_who_41
    · refine lv_aload_n hx hb dX11_who_18 rfl (lv_at hl 0 rfl) ?_
      refine lv_iconst (v := 1) hx hb dX11_who_19 (by decide) ?_
      have hPc := hP.sub (ws' := [(xa 0, .inr (10, [.ref (xa 1), .ref (xa 2), .ref (na 0), .ref (pa 0), .ref (xa 3), .ref (na 1), .ref (na 2), .ref (xa 4), .ref (xa 5), .ref (xa 6), .ref (xa 7), .ref (xa 8), .ref (xa 9), .int 0, .int 0, .int 0, .long 0, .long 1, .int (-1), .int (-1)]))]) [0] rfl
      have hDc := hD.sub (ws' := [(xa 0, .inr (10, [.ref (xa 1), .ref (xa 2), .ref (na 0), .ref (pa 0), .ref (xa 3), .ref (na 1), .ref (na 2), .ref (xa 4), .ref (xa 5), .ref (xa 6), .ref (xa 7), .ref (xa 8), .ref (xa 9), .int 0, .int 0, .int 0, .long 0, .long 1, .int (-1), .int (-1)]))]) [0] (by decide) rfl
      have hFc := va_free (wc := [(xa 0, .inr (10, [.ref (xa 1), .ref (xa 2), .ref (na 0), .ref (pa 0), .ref (xa 3), .ref (na 1), .ref (na 2), .ref (xa 4), .ref (xa 5), .ref (xa 6), .ref (xa 7), .ref (xa 8), .ref (xa 9), .int 0, .int 0, .int 0, .long 0, .long 1, .int (-1), .int (-1)]))]) hD hS hA [0] rfl
      refine va_calli (va_runV (As := [.int 1]) (rest := []) ⟨hx, hb, hml, hown, hts⟩ (c_refuse l D kc H.size xa na pa 0 0 0 0 1 (-1) (-1) 1) (cwV 1 hts gp_who_136_c_refuse rfl rfl rfl (by decide +kernel) ⟨Nat.le_of_ble_eq_true rfl, Nat.le_of_ble_eq_true rfl⟩) (preV_ok hPc hDc hE (ci := 10) (q0 := 0) rfl rfl) rfl rfl hl.1 rfl (lv_room (Nat.le_of_ble_eq_true rfl)) dX11_who_20 ⟨Nat.le_of_ble_eq_true rfl, Nat.le_of_ble_eq_true rfl⟩) hS (fun q _ h => hFc q h) hFc (fun r_20_3 u9 t9 H locs ht hvm hw hB hz1 hk1 hS => ?_)
      obtain ⟨hP1, hD1⟩ := hB
      rw [ht] at hP1
      obtain ⟨hP, hD⟩ := va_join (wr := [(na 1, .inr (4, [.ref (na 4), .ref (na 5), .ref (na 6), .ref (na 7), .ref (na 8), .ref (na 9), .ref (na 10), .ref (na 11), .ref (na 12), .ref (na 13), .ref (na 14), .ref (na 15), .int 0, .int 0, .int 0, .int 0, .int 0, .int 0, .int 5, .int 0])), (xa 2, .inl (kc 3, 4, .inr (.inr (.inr (.inr (tg xa)))))), (xa 10, .inr (8, [.ref (xa 14), .int 0, .int 0, .int 0])), (xa 11, .inr (8, [.ref (xa 15), .int 0, .int 0, .int 0])), (xa 12, .inr (8, [.ref (xa 16), .int 0, .int 0, .int 0])), (xa 13, .inr (8, [.ref (xa 17), .int 0, .int 0, .int 0]))]) (w1 := [(xa 0, .inr (10, [.ref (xa 1), .ref (xa 2), .ref (na 0), .ref (pa 0), .ref (xa 3), .ref (na 1), .ref (na 2), .ref (xa 4), .ref (xa 5), .ref (xa 6), .ref (xa 7), .ref (xa 8), .ref (xa 9), .int 0, .int 0, .int 1, .long 0, .long 1, .int (-1), .int (-1)]))]) hP hD [0] [1, 2, 3, 4, 5, 6] rfl rfl (by decide) (by decide) hk1 hFc hP1 hD1
      have hP : va_P D vwCl [(na 1, .inr (4, [.ref (na 4), .ref (na 5), .ref (na 6), .ref (na 7), .ref (na 8), .ref (na 9), .ref (na 10), .ref (na 11), .ref (na 12), .ref (na 13), .ref (na 14), .ref (na 15), .int 0, .int 0, .int 0, .int 0, .int 0, .int 0, .int 5, .int 0])), (xa 2, .inl (kc 3, 4, .inr (.inr (.inr (.inr (tg xa)))))), (xa 10, .inr (8, [.ref (xa 14), .int 0, .int 0, .int 0])), (xa 11, .inr (8, [.ref (xa 15), .int 0, .int 0, .int 0])), (xa 12, .inr (8, [.ref (xa 16), .int 0, .int 0, .int 0])), (xa 13, .inr (8, [.ref (xa 17), .int 0, .int 0, .int 0])), (xa 0, .inr (10, [.ref (xa 1), .ref (xa 2), .ref (na 0), .ref (pa 0), .ref (xa 3), .ref (na 1), .ref (na 2), .ref (xa 4), .ref (xa 5), .ref (xa 6), .ref (xa 7), .ref (xa 8), .ref (xa 9), .int 0, .int 0, .int 1, .long 0, .long 1, .int (-1), .int (-1)]))] H := hP
      have hD : va_D A [(na 1, .inr (4, [.ref (na 4), .ref (na 5), .ref (na 6), .ref (na 7), .ref (na 8), .ref (na 9), .ref (na 10), .ref (na 11), .ref (na 12), .ref (na 13), .ref (na 14), .ref (na 15), .int 0, .int 0, .int 0, .int 0, .int 0, .int 0, .int 5, .int 0])), (xa 2, .inl (kc 3, 4, .inr (.inr (.inr (.inr (tg xa)))))), (xa 10, .inr (8, [.ref (xa 14), .int 0, .int 0, .int 0])), (xa 11, .inr (8, [.ref (xa 15), .int 0, .int 0, .int 0])), (xa 12, .inr (8, [.ref (xa 16), .int 0, .int 0, .int 0])), (xa 13, .inr (8, [.ref (xa 17), .int 0, .int 0, .int 0])), (xa 0, .inr (10, [.ref (xa 1), .ref (xa 2), .ref (na 0), .ref (pa 0), .ref (xa 3), .ref (na 1), .ref (na 2), .ref (xa 4), .ref (xa 5), .ref (xa 6), .ref (xa 7), .ref (xa 8), .ref (xa 9), .int 0, .int 0, .int 1, .long 0, .long 1, .int (-1), .int (-1)]))] := hD
      subst hw
      exact W.iret (v := (-1)) hx hb hr (fun t9 ht hW => ⟨⟨(-1), (), rfl, rfl, trivial⟩, hS.F ht⟩) hS.2.2 dX11_who_23
  · refine lv_iload_n hx hb dX11_who_0 rfl (lv_at hl 1 rfl) ?_
    have hPc := hP.sub (ws' := []) [] rfl
    have hDc := hD.sub (ws' := []) [] (by decide) rfl
    have hFc := va_free (wc := []) hD hS hA [] rfl
    refine va_calli (va_runS (As := [.int 3]) (rest := []) ⟨hx, hb, hml, hown, hts⟩ (c_isTray l D kc s.heap.size 3) (va_cwS 1 hts gp_who_109_c_isTray rfl rfl rfl (by decide +kernel) ⟨Nat.le_of_ble_eq_true rfl, Nat.le_of_ble_eq_true rfl⟩) (preS_ok hPc hDc hE) rfl rfl hl.1 rfl (lv_room (Nat.le_of_ble_eq_true rfl)) dX11_who_1 ⟨Nat.le_of_ble_eq_true rfl, Nat.le_of_ble_eq_true rfl⟩) hS (fun q _ h => hFc q h) hFc (fun r_1_3 u9 t9 H locs ht hvm hw hB hz1 hk1 hS => ?_)
    obtain ⟨hP1, hD1⟩ := hB
    rw [ht] at hP1
    obtain ⟨hP, hD⟩ := va_join (wr := [(xa 0, .inr (10, [.ref (xa 1), .ref (xa 2), .ref (na 0), .ref (pa 0), .ref (xa 3), .ref (na 1), .ref (na 2), .ref (xa 4), .ref (xa 5), .ref (xa 6), .ref (xa 7), .ref (xa 8), .ref (xa 9), .int 0, .int 0, .int 0, .long 0, .long 1, .int (-1), .int (-1)])), (na 1, .inr (4, [.ref (na 4), .ref (na 5), .ref (na 6), .ref (na 7), .ref (na 8), .ref (na 9), .ref (na 10), .ref (na 11), .ref (na 12), .ref (na 13), .ref (na 14), .ref (na 15), .int 0, .int 0, .int 0, .int 0, .int 0, .int 0, .int 5, .int 0])), (xa 2, .inl (kc 3, 4, .inr (.inr (.inr (.inr (tg xa)))))), (xa 10, .inr (8, [.ref (xa 14), .int 0, .int 0, .int 0])), (xa 11, .inr (8, [.ref (xa 15), .int 0, .int 0, .int 0])), (xa 12, .inr (8, [.ref (xa 16), .int 0, .int 0, .int 0])), (xa 13, .inr (8, [.ref (xa 17), .int 0, .int 0, .int 0]))]) (w1 := []) hP hD [] [0, 1, 2, 3, 4, 5, 6] rfl rfl (by decide) (by decide) hk1 hFc hP1 hD1
    have hP : va_P D vwCl [(xa 0, .inr (10, [.ref (xa 1), .ref (xa 2), .ref (na 0), .ref (pa 0), .ref (xa 3), .ref (na 1), .ref (na 2), .ref (xa 4), .ref (xa 5), .ref (xa 6), .ref (xa 7), .ref (xa 8), .ref (xa 9), .int 0, .int 0, .int 0, .long 0, .long 1, .int (-1), .int (-1)])), (na 1, .inr (4, [.ref (na 4), .ref (na 5), .ref (na 6), .ref (na 7), .ref (na 8), .ref (na 9), .ref (na 10), .ref (na 11), .ref (na 12), .ref (na 13), .ref (na 14), .ref (na 15), .int 0, .int 0, .int 0, .int 0, .int 0, .int 0, .int 5, .int 0])), (xa 2, .inl (kc 3, 4, .inr (.inr (.inr (.inr (tg xa)))))), (xa 10, .inr (8, [.ref (xa 14), .int 0, .int 0, .int 0])), (xa 11, .inr (8, [.ref (xa 15), .int 0, .int 0, .int 0])), (xa 12, .inr (8, [.ref (xa 16), .int 0, .int 0, .int 0])), (xa 13, .inr (8, [.ref (xa 17), .int 0, .int 0, .int 0]))] H := hP
    have hD : va_D A [(xa 0, .inr (10, [.ref (xa 1), .ref (xa 2), .ref (na 0), .ref (pa 0), .ref (xa 3), .ref (na 1), .ref (na 2), .ref (xa 4), .ref (xa 5), .ref (xa 6), .ref (xa 7), .ref (xa 8), .ref (xa 9), .int 0, .int 0, .int 0, .long 0, .long 1, .int (-1), .int (-1)])), (na 1, .inr (4, [.ref (na 4), .ref (na 5), .ref (na 6), .ref (na 7), .ref (na 8), .ref (na 9), .ref (na 10), .ref (na 11), .ref (na 12), .ref (na 13), .ref (na 14), .ref (na 15), .int 0, .int 0, .int 0, .int 0, .int 0, .int 0, .int 5, .int 0])), (xa 2, .inl (kc 3, 4, .inr (.inr (.inr (.inr (tg xa)))))), (xa 10, .inr (8, [.ref (xa 14), .int 0, .int 0, .int 0])), (xa 11, .inr (8, [.ref (xa 15), .int 0, .int 0, .int 0])), (xa 12, .inr (8, [.ref (xa 16), .int 0, .int 0, .int 0])), (xa 13, .inr (8, [.ref (xa 17), .int 0, .int 0, .int 0]))] := hD
    subst hw
    refine lv_ci (y := 1) (by decide) ?_
    refine lv_if_eq (tgt := 18) hx hb dX11_who_4 (by decide) (fun h => absurd h (by decide)) (fun _ => ?_)
    refine lv_iload_n hx hb dX11_who_7 rfl (lv_at hl 2 rfl) ?_
    refine lv_iconst (v := 1) hx hb dX11_who_8 (by decide) ?_
    refine lv_sipush (v := 999) hx hb dX11_who_9 (by decide) ?_
    have hPc := hP.sub (ws' := []) [] rfl
    have hDc := hD.sub (ws' := []) [] (by decide) rfl
    have hFc := va_free (wc := []) hD hS hA [] rfl
    refine va_calli (va_runS (As := [.int a1, .int 1, .int 999]) (rest := []) ⟨hx, hb, hml, hown, hts⟩ (c_within l D kc H.size a1 1 999) (va_cwS 3 hts gp_who_113_c_within rfl rfl rfl (by decide +kernel) ⟨Nat.le_of_ble_eq_true rfl, Nat.le_of_ble_eq_true rfl⟩) (preS_ok hPc hDc hE) rfl rfl hl.1 rfl (lv_room (Nat.le_of_ble_eq_true rfl)) dX11_who_12 ⟨Nat.le_of_ble_eq_true rfl, Nat.le_of_ble_eq_true rfl⟩) hS (fun q _ h => hFc q h) hFc (fun r_12_3 u9 t9 H locs ht hvm hw hB hz1 hk1 hS => ?_)
    obtain ⟨hP1, hD1⟩ := hB
    rw [ht] at hP1
    obtain ⟨hP, hD⟩ := va_join (wr := [(xa 0, .inr (10, [.ref (xa 1), .ref (xa 2), .ref (na 0), .ref (pa 0), .ref (xa 3), .ref (na 1), .ref (na 2), .ref (xa 4), .ref (xa 5), .ref (xa 6), .ref (xa 7), .ref (xa 8), .ref (xa 9), .int 0, .int 0, .int 0, .long 0, .long 1, .int (-1), .int (-1)])), (na 1, .inr (4, [.ref (na 4), .ref (na 5), .ref (na 6), .ref (na 7), .ref (na 8), .ref (na 9), .ref (na 10), .ref (na 11), .ref (na 12), .ref (na 13), .ref (na 14), .ref (na 15), .int 0, .int 0, .int 0, .int 0, .int 0, .int 0, .int 5, .int 0])), (xa 2, .inl (kc 3, 4, .inr (.inr (.inr (.inr (tg xa)))))), (xa 10, .inr (8, [.ref (xa 14), .int 0, .int 0, .int 0])), (xa 11, .inr (8, [.ref (xa 15), .int 0, .int 0, .int 0])), (xa 12, .inr (8, [.ref (xa 16), .int 0, .int 0, .int 0])), (xa 13, .inr (8, [.ref (xa 17), .int 0, .int 0, .int 0]))]) (w1 := []) hP hD [] [0, 1, 2, 3, 4, 5, 6] rfl rfl (by decide) (by decide) hk1 hFc hP1 hD1
    have hP : va_P D vwCl [(xa 0, .inr (10, [.ref (xa 1), .ref (xa 2), .ref (na 0), .ref (pa 0), .ref (xa 3), .ref (na 1), .ref (na 2), .ref (xa 4), .ref (xa 5), .ref (xa 6), .ref (xa 7), .ref (xa 8), .ref (xa 9), .int 0, .int 0, .int 0, .long 0, .long 1, .int (-1), .int (-1)])), (na 1, .inr (4, [.ref (na 4), .ref (na 5), .ref (na 6), .ref (na 7), .ref (na 8), .ref (na 9), .ref (na 10), .ref (na 11), .ref (na 12), .ref (na 13), .ref (na 14), .ref (na 15), .int 0, .int 0, .int 0, .int 0, .int 0, .int 0, .int 5, .int 0])), (xa 2, .inl (kc 3, 4, .inr (.inr (.inr (.inr (tg xa)))))), (xa 10, .inr (8, [.ref (xa 14), .int 0, .int 0, .int 0])), (xa 11, .inr (8, [.ref (xa 15), .int 0, .int 0, .int 0])), (xa 12, .inr (8, [.ref (xa 16), .int 0, .int 0, .int 0])), (xa 13, .inr (8, [.ref (xa 17), .int 0, .int 0, .int 0]))] H := hP
    have hD : va_D A [(xa 0, .inr (10, [.ref (xa 1), .ref (xa 2), .ref (na 0), .ref (pa 0), .ref (xa 3), .ref (na 1), .ref (na 2), .ref (xa 4), .ref (xa 5), .ref (xa 6), .ref (xa 7), .ref (xa 8), .ref (xa 9), .int 0, .int 0, .int 0, .long 0, .long 1, .int (-1), .int (-1)])), (na 1, .inr (4, [.ref (na 4), .ref (na 5), .ref (na 6), .ref (na 7), .ref (na 8), .ref (na 9), .ref (na 10), .ref (na 11), .ref (na 12), .ref (na 13), .ref (na 14), .ref (na 15), .int 0, .int 0, .int 0, .int 0, .int 0, .int 0, .int 5, .int 0])), (xa 2, .inl (kc 3, 4, .inr (.inr (.inr (.inr (tg xa)))))), (xa 10, .inr (8, [.ref (xa 14), .int 0, .int 0, .int 0])), (xa 11, .inr (8, [.ref (xa 15), .int 0, .int 0, .int 0])), (xa 12, .inr (8, [.ref (xa 16), .int 0, .int 0, .int 0])), (xa 13, .inr (8, [.ref (xa 17), .int 0, .int 0, .int 0]))] := hD
    subst hw
    refine lv_if_ne (tgt := 24) hx hb dX11_who_15 (by decide) (fun c_15 => ?_) (fun c_15 => ?_)
    · refine lv_aload_n hx hb dX11_who_24 rfl (lv_at hl 0 rfl) ?_
      refine va_get (D := D) (ci := 10) (v := .ref (xa 2)) (C := RX11) (T := TX11) (N := 20) hx hb hts ip_who_X11 hown hK hP 0 rfl rfl 1 (by decide) (hts (.fieldLink RX11 15 "SaltStreet" "trays" "[LSaltStreet$Tray;") (List.mem_of_getElem? (i := 13) rfl)) (fun _ h9 => h9) rfl dX11_who_25 ?_
      refine lv_iload_n hx hb dX11_who_28 rfl (lv_at hl 1 rfl) ?_
      refine va_aldq hx hb hK hP 2 3 (f := (tg xa)) rfl rfl (by unfold vp_in; decide) dX11_who_29 ?_
      refine lv_cv (y := .ref (xa 13)) (rfl) ?_
      refine va_getN (D := D) (ci := 8) (v := .int 0) (C := RX8) (T := TX8) (N := 4) hx hb hts ip_who_X8 hown hK hP 6 rfl rfl 1 (by decide) (hE.nw 114 rfl) (fun _ h9 => h9) rfl dX11_who_30 ?_
      refine lv_if_ne (tgt := 42) hx hb dX11_who_33 (by decide) (fun h => absurd (by decide) h) (fun _ => ?_)
      refine lv_aload_n hx hb dX11_who_36 rfl (lv_at hl 0 rfl) ?_
      refine lv_iconst (v := 2) hx hb dX11_who_37 (by decide) ?_
      have hPc := hP.sub (ws' := [(xa 0, .inr (10, [.ref (xa 1), .ref (xa 2), .ref (na 0), .ref (pa 0), .ref (xa 3), .ref (na 1), .ref (na 2), .ref (xa 4), .ref (xa 5), .ref (xa 6), .ref (xa 7), .ref (xa 8), .ref (xa 9), .int 0, .int 0, .int 0, .long 0, .long 1, .int (-1), .int (-1)]))]) [0] rfl
      have hDc := hD.sub (ws' := [(xa 0, .inr (10, [.ref (xa 1), .ref (xa 2), .ref (na 0), .ref (pa 0), .ref (xa 3), .ref (na 1), .ref (na 2), .ref (xa 4), .ref (xa 5), .ref (xa 6), .ref (xa 7), .ref (xa 8), .ref (xa 9), .int 0, .int 0, .int 0, .long 0, .long 1, .int (-1), .int (-1)]))]) [0] (by decide) rfl
      have hFc := va_free (wc := [(xa 0, .inr (10, [.ref (xa 1), .ref (xa 2), .ref (na 0), .ref (pa 0), .ref (xa 3), .ref (na 1), .ref (na 2), .ref (xa 4), .ref (xa 5), .ref (xa 6), .ref (xa 7), .ref (xa 8), .ref (xa 9), .int 0, .int 0, .int 0, .long 0, .long 1, .int (-1), .int (-1)]))]) hD hS hA [0] rfl
      refine va_calli (va_runV (As := [.int 2]) (rest := []) ⟨hx, hb, hml, hown, hts⟩ (c_refuse l D kc H.size xa na pa 0 0 0 0 1 (-1) (-1) 2) (cwV 1 hts gp_who_136_c_refuse rfl rfl rfl (by decide +kernel) ⟨Nat.le_of_ble_eq_true rfl, Nat.le_of_ble_eq_true rfl⟩) (preV_ok hPc hDc hE (ci := 10) (q0 := 0) rfl rfl) rfl rfl hl.1 rfl (lv_room (Nat.le_of_ble_eq_true rfl)) dX11_who_38 ⟨Nat.le_of_ble_eq_true rfl, Nat.le_of_ble_eq_true rfl⟩) hS (fun q _ h => hFc q h) hFc (fun r_38_4 u9 t9 H locs ht hvm hw hB hz1 hk1 hS => ?_)
      obtain ⟨hP1, hD1⟩ := hB
      rw [ht] at hP1
      obtain ⟨hP, hD⟩ := va_join (wr := [(na 1, .inr (4, [.ref (na 4), .ref (na 5), .ref (na 6), .ref (na 7), .ref (na 8), .ref (na 9), .ref (na 10), .ref (na 11), .ref (na 12), .ref (na 13), .ref (na 14), .ref (na 15), .int 0, .int 0, .int 0, .int 0, .int 0, .int 0, .int 5, .int 0])), (xa 2, .inl (kc 3, 4, .inr (.inr (.inr (.inr (tg xa)))))), (xa 10, .inr (8, [.ref (xa 14), .int 0, .int 0, .int 0])), (xa 11, .inr (8, [.ref (xa 15), .int 0, .int 0, .int 0])), (xa 12, .inr (8, [.ref (xa 16), .int 0, .int 0, .int 0])), (xa 13, .inr (8, [.ref (xa 17), .int 0, .int 0, .int 0]))]) (w1 := [(xa 0, .inr (10, [.ref (xa 1), .ref (xa 2), .ref (na 0), .ref (pa 0), .ref (xa 3), .ref (na 1), .ref (na 2), .ref (xa 4), .ref (xa 5), .ref (xa 6), .ref (xa 7), .ref (xa 8), .ref (xa 9), .int 0, .int 0, .int 2, .long 0, .long 1, .int (-1), .int (-1)]))]) hP hD [0] [1, 2, 3, 4, 5, 6] rfl rfl (by decide) (by decide) hk1 hFc hP1 hD1
      have hP : va_P D vwCl [(na 1, .inr (4, [.ref (na 4), .ref (na 5), .ref (na 6), .ref (na 7), .ref (na 8), .ref (na 9), .ref (na 10), .ref (na 11), .ref (na 12), .ref (na 13), .ref (na 14), .ref (na 15), .int 0, .int 0, .int 0, .int 0, .int 0, .int 0, .int 5, .int 0])), (xa 2, .inl (kc 3, 4, .inr (.inr (.inr (.inr (tg xa)))))), (xa 10, .inr (8, [.ref (xa 14), .int 0, .int 0, .int 0])), (xa 11, .inr (8, [.ref (xa 15), .int 0, .int 0, .int 0])), (xa 12, .inr (8, [.ref (xa 16), .int 0, .int 0, .int 0])), (xa 13, .inr (8, [.ref (xa 17), .int 0, .int 0, .int 0])), (xa 0, .inr (10, [.ref (xa 1), .ref (xa 2), .ref (na 0), .ref (pa 0), .ref (xa 3), .ref (na 1), .ref (na 2), .ref (xa 4), .ref (xa 5), .ref (xa 6), .ref (xa 7), .ref (xa 8), .ref (xa 9), .int 0, .int 0, .int 2, .long 0, .long 1, .int (-1), .int (-1)]))] H := hP
      have hD : va_D A [(na 1, .inr (4, [.ref (na 4), .ref (na 5), .ref (na 6), .ref (na 7), .ref (na 8), .ref (na 9), .ref (na 10), .ref (na 11), .ref (na 12), .ref (na 13), .ref (na 14), .ref (na 15), .int 0, .int 0, .int 0, .int 0, .int 0, .int 0, .int 5, .int 0])), (xa 2, .inl (kc 3, 4, .inr (.inr (.inr (.inr (tg xa)))))), (xa 10, .inr (8, [.ref (xa 14), .int 0, .int 0, .int 0])), (xa 11, .inr (8, [.ref (xa 15), .int 0, .int 0, .int 0])), (xa 12, .inr (8, [.ref (xa 16), .int 0, .int 0, .int 0])), (xa 13, .inr (8, [.ref (xa 17), .int 0, .int 0, .int 0])), (xa 0, .inr (10, [.ref (xa 1), .ref (xa 2), .ref (na 0), .ref (pa 0), .ref (xa 3), .ref (na 1), .ref (na 2), .ref (xa 4), .ref (xa 5), .ref (xa 6), .ref (xa 7), .ref (xa 8), .ref (xa 9), .int 0, .int 0, .int 2, .long 0, .long 1, .int (-1), .int (-1)]))] := hD
      subst hw
      exact W.iret (v := (-1)) hx hb hr (fun t9 ht hW => ⟨⟨(-1), (), rfl, rfl, trivial⟩, hS.F ht⟩) hS.2.2 dX11_who_41
    · refine lv_aload_n hx hb dX11_who_18 rfl (lv_at hl 0 rfl) ?_
      refine lv_iconst (v := 1) hx hb dX11_who_19 (by decide) ?_
      have hPc := hP.sub (ws' := [(xa 0, .inr (10, [.ref (xa 1), .ref (xa 2), .ref (na 0), .ref (pa 0), .ref (xa 3), .ref (na 1), .ref (na 2), .ref (xa 4), .ref (xa 5), .ref (xa 6), .ref (xa 7), .ref (xa 8), .ref (xa 9), .int 0, .int 0, .int 0, .long 0, .long 1, .int (-1), .int (-1)]))]) [0] rfl
      have hDc := hD.sub (ws' := [(xa 0, .inr (10, [.ref (xa 1), .ref (xa 2), .ref (na 0), .ref (pa 0), .ref (xa 3), .ref (na 1), .ref (na 2), .ref (xa 4), .ref (xa 5), .ref (xa 6), .ref (xa 7), .ref (xa 8), .ref (xa 9), .int 0, .int 0, .int 0, .long 0, .long 1, .int (-1), .int (-1)]))]) [0] (by decide) rfl
      have hFc := va_free (wc := [(xa 0, .inr (10, [.ref (xa 1), .ref (xa 2), .ref (na 0), .ref (pa 0), .ref (xa 3), .ref (na 1), .ref (na 2), .ref (xa 4), .ref (xa 5), .ref (xa 6), .ref (xa 7), .ref (xa 8), .ref (xa 9), .int 0, .int 0, .int 0, .long 0, .long 1, .int (-1), .int (-1)]))]) hD hS hA [0] rfl
      refine va_calli (va_runV (As := [.int 1]) (rest := []) ⟨hx, hb, hml, hown, hts⟩ (c_refuse l D kc H.size xa na pa 0 0 0 0 1 (-1) (-1) 1) (cwV 1 hts gp_who_136_c_refuse rfl rfl rfl (by decide +kernel) ⟨Nat.le_of_ble_eq_true rfl, Nat.le_of_ble_eq_true rfl⟩) (preV_ok hPc hDc hE (ci := 10) (q0 := 0) rfl rfl) rfl rfl hl.1 rfl (lv_room (Nat.le_of_ble_eq_true rfl)) dX11_who_20 ⟨Nat.le_of_ble_eq_true rfl, Nat.le_of_ble_eq_true rfl⟩) hS (fun q _ h => hFc q h) hFc (fun r_20_4 u9 t9 H locs ht hvm hw hB hz1 hk1 hS => ?_)
      obtain ⟨hP1, hD1⟩ := hB
      rw [ht] at hP1
      obtain ⟨hP, hD⟩ := va_join (wr := [(na 1, .inr (4, [.ref (na 4), .ref (na 5), .ref (na 6), .ref (na 7), .ref (na 8), .ref (na 9), .ref (na 10), .ref (na 11), .ref (na 12), .ref (na 13), .ref (na 14), .ref (na 15), .int 0, .int 0, .int 0, .int 0, .int 0, .int 0, .int 5, .int 0])), (xa 2, .inl (kc 3, 4, .inr (.inr (.inr (.inr (tg xa)))))), (xa 10, .inr (8, [.ref (xa 14), .int 0, .int 0, .int 0])), (xa 11, .inr (8, [.ref (xa 15), .int 0, .int 0, .int 0])), (xa 12, .inr (8, [.ref (xa 16), .int 0, .int 0, .int 0])), (xa 13, .inr (8, [.ref (xa 17), .int 0, .int 0, .int 0]))]) (w1 := [(xa 0, .inr (10, [.ref (xa 1), .ref (xa 2), .ref (na 0), .ref (pa 0), .ref (xa 3), .ref (na 1), .ref (na 2), .ref (xa 4), .ref (xa 5), .ref (xa 6), .ref (xa 7), .ref (xa 8), .ref (xa 9), .int 0, .int 0, .int 1, .long 0, .long 1, .int (-1), .int (-1)]))]) hP hD [0] [1, 2, 3, 4, 5, 6] rfl rfl (by decide) (by decide) hk1 hFc hP1 hD1
      have hP : va_P D vwCl [(na 1, .inr (4, [.ref (na 4), .ref (na 5), .ref (na 6), .ref (na 7), .ref (na 8), .ref (na 9), .ref (na 10), .ref (na 11), .ref (na 12), .ref (na 13), .ref (na 14), .ref (na 15), .int 0, .int 0, .int 0, .int 0, .int 0, .int 0, .int 5, .int 0])), (xa 2, .inl (kc 3, 4, .inr (.inr (.inr (.inr (tg xa)))))), (xa 10, .inr (8, [.ref (xa 14), .int 0, .int 0, .int 0])), (xa 11, .inr (8, [.ref (xa 15), .int 0, .int 0, .int 0])), (xa 12, .inr (8, [.ref (xa 16), .int 0, .int 0, .int 0])), (xa 13, .inr (8, [.ref (xa 17), .int 0, .int 0, .int 0])), (xa 0, .inr (10, [.ref (xa 1), .ref (xa 2), .ref (na 0), .ref (pa 0), .ref (xa 3), .ref (na 1), .ref (na 2), .ref (xa 4), .ref (xa 5), .ref (xa 6), .ref (xa 7), .ref (xa 8), .ref (xa 9), .int 0, .int 0, .int 1, .long 0, .long 1, .int (-1), .int (-1)]))] H := hP
      have hD : va_D A [(na 1, .inr (4, [.ref (na 4), .ref (na 5), .ref (na 6), .ref (na 7), .ref (na 8), .ref (na 9), .ref (na 10), .ref (na 11), .ref (na 12), .ref (na 13), .ref (na 14), .ref (na 15), .int 0, .int 0, .int 0, .int 0, .int 0, .int 0, .int 5, .int 0])), (xa 2, .inl (kc 3, 4, .inr (.inr (.inr (.inr (tg xa)))))), (xa 10, .inr (8, [.ref (xa 14), .int 0, .int 0, .int 0])), (xa 11, .inr (8, [.ref (xa 15), .int 0, .int 0, .int 0])), (xa 12, .inr (8, [.ref (xa 16), .int 0, .int 0, .int 0])), (xa 13, .inr (8, [.ref (xa 17), .int 0, .int 0, .int 0])), (xa 0, .inr (10, [.ref (xa 1), .ref (xa 2), .ref (na 0), .ref (pa 0), .ref (xa 3), .ref (na 1), .ref (na 2), .ref (xa 4), .ref (xa 5), .ref (xa 6), .ref (xa 7), .ref (xa 8), .ref (xa 9), .int 0, .int 0, .int 1, .long 0, .long 1, .int (-1), .int (-1)]))] := hD
      subst hw
      exact W.iret (v := (-1)) hx hb hr (fun t9 ht hW => ⟨⟨(-1), (), rfl, rfl, trivial⟩, hS.F ht⟩) hS.2.2 dX11_who_23
theorem dX8_lay_0 : decode cX8_lay 0 = .ok (.aload_n 0, 1) := by decide +kernel
theorem dX8_lay_1 : decode cX8_lay 1 = .ok (.iconst 1, 1) := by decide +kernel
theorem dX8_lay_2 : decode cX8_lay 2 = .ok (.putfield 15, 3) := by decide +kernel
theorem dX8_lay_5 : decode cX8_lay 5 = .ok (.aload_n 0, 1) := by decide +kernel
theorem dX8_lay_6 : decode cX8_lay 6 = .ok (.iload_n 1, 1) := by decide +kernel
theorem dX8_lay_7 : decode cX8_lay 7 = .ok (.putfield 19, 3) := by decide +kernel
theorem dX8_lay_10 : decode cX8_lay 10 = .ok (.aload_n 0, 1) := by decide +kernel
theorem dX8_lay_11 : decode cX8_lay 11 = .ok (.iload_n 2, 1) := by decide +kernel
theorem dX8_lay_12 : decode cX8_lay 12 = .ok (.putfield 23, 3) := by decide +kernel
theorem dX8_lay_15 : decode cX8_lay 15 = .ok (.iconst 0, 1) := by decide +kernel
theorem dX8_lay_16 : decode cX8_lay 16 = .ok (.istore_n 3, 1) := by decide +kernel
theorem dX8_lay_17 : decode cX8_lay 17 = .ok (.iload_n 3, 1) := by decide +kernel
theorem dX8_lay_18 : decode cX8_lay 18 = .ok (.bipush 60, 2) := by decide +kernel
theorem dX8_lay_20 : decode cX8_lay 20 = .ok (.if_icmp .ge 16, 3) := by decide +kernel
theorem dX8_lay_23 : decode cX8_lay 23 = .ok (.aload_n 0, 1) := by decide +kernel
theorem dX8_lay_24 : decode cX8_lay 24 = .ok (.getfield 9, 3) := by decide +kernel
theorem dX8_lay_27 : decode cX8_lay 27 = .ok (.iload_n 3, 1) := by decide +kernel
theorem dX8_lay_28 : decode cX8_lay 28 = .ok (.lconst 0, 1) := by decide +kernel
theorem dX8_lay_29 : decode cX8_lay 29 = .ok (.lastore, 1) := by decide +kernel
theorem dX8_lay_30 : decode cX8_lay 30 = .ok (.iinc 3 1, 3) := by decide +kernel
theorem dX8_lay_33 : decode cX8_lay 33 = .ok (.goto (-16), 3) := by decide +kernel
theorem dX8_lay_36 : decode cX8_lay 36 = .ok (.return_, 1) := by decide +kernel
def vdc_lay : List Cond := [.code yX8_lay cX8_lay 4 none, .fieldLink RX8 15 "SaltStreet$Tray" "there" "Z", .fieldLink RX8 19 "SaltStreet$Tray" "sort" "I", .fieldLink RX8 23 "SaltStreet$Tray" "size" "I", .fieldLink RX8 9 "SaltStreet$Tray" "row" "[J"]
def vc_lay : List Cond := vdc_lay ++ (wsX80 ++ ([] : List Cond))
theorem ic_lay_X8 : ∀ w ∈ wsX80, w ∈ vc_lay := fun _ h => List.mem_append_right _ (List.mem_append_left _ h)
set_option maxHeartbeats 4000000 in
set_option maxRecDepth 100000 in
theorem c_lay (l : Launch) (D : va_G) (kc : Nat → ClassId) (sz : Nat) (a : Nat) (rw : Nat) (so : Int32) (mn : Int32) : Met l yX8_lay vc_lay ({ frames := 0, cells := 0, slots := 0, locals := 0 }) (va_Pc [.ref a, .int so, .int mn] (wPre D kc [(a, .inr (8, [.ref rw, .int 0, .int 0, .int 0])), (rw, .inl (kc 1, 60, .inr (.inl z1)))] sz)) (va_Qv (fun (_ : Unit) => True) wAny (va_A [(a, .inr (8, [.ref rw, .int 0, .int 0, .int 0])), (rw, .inl (kc 1, 60, .inr (.inl z1)))] sz)) 0 0 (va_A [(a, .inr (8, [.ref rw, .int 0, .int 0, .int 0])), (rw, .inl (kc 1, 60, .inr (.inl z1)))] sz) := by
  refine Met.ofW (cc := cX8_lay) (maxL := 4) (ret := none) (by decide) rfl ?_
  intro p e s m args below meth c s₁ B hml hv
  obtain ⟨rfl, hsz, hP, hE, hD0⟩ := hv
  have hx := B.exec
  have hb := B.bytes
  have hr := B.returns
  have hts := atoms_spec (ws := vc_lay) B.pre
  have hown : s.vm.findClass RX8 = some m.cls := findClass_of_methodNamed B.named
  have hlocks := B.notSynchronized
  subst hsz
  have hD := hD0.self (sz := s.heap.size)
  generalize hAe : va_A [(a, .inr (8, [.ref rw, .int 0, .int 0, .int 0])), (rw, .inl (kc 1, 60, .inr (.inl z1)))] s.heap.size = A at hD ⊢
  have hA : ∀ q : Nat, s.heap.size ≤ q → A q := fun q h => by rw [← hAe]; exact Or.inr h
  have hS : va_S A s.heap s.heap [] := va_S.rf
  have hK := hE.1
  have hP : va_P D vwCl [(a, .inr (8, [.ref rw, .int 0, .int 0, .int 0])), (rw, .inl (kc 1, 60, .inr (.inl z1)))] s.heap := hP
  have hl := lv_entry ([.ref a, .int so, .int mn]) (n := 4) (Nat.le_of_ble_eq_true rfl)
  rw [lg_entry_eq]
  generalize (lg_sl ([.ref a, .int so, .int mn]) ++ List.replicate (4 - (lg_sl ([.ref a, .int so, .int mn])).length) Slot.unset).toArray = ls at hl ⊢
  have hl : lv_has ls 4 [(0, .ref a), (1, .int so), (2, .int mn)] := hl
  refine lv_aload_n hx hb dX8_lay_0 rfl (lv_at hl 0 rfl) ?_
  refine lv_iconst (v := 1) hx hb dX8_lay_1 (by decide) ?_
  refine va_put (D := D) (ci := 8) (v := .int 1) (ty := .boolean) (C := RX8) (T := TX8) (N := 4) hx hb hts ic_lay_X8 tyX8 tyX8_ok nmX8 hown hK hP hD hS 0 rfl rfl 1 (by decide) (hts (.fieldLink RX8 15 "SaltStreet$Tray" "there" "Z") (List.mem_of_getElem? (i := 1) rfl)) (fun _ h9 => h9) rfl (by decide +kernel) rfl rfl (Nat.le_of_ble_eq_true rfl) dX8_lay_2 (fun H locs hP hD hS => ?_)
  have hP : va_P D vwCl [(a, .inr (8, [.ref rw, .int 1, .int 0, .int 0])), (rw, .inl (kc 1, 60, .inr (.inl z1)))] H := hP
  have hD : va_D A [(a, .inr (8, [.ref rw, .int 1, .int 0, .int 0])), (rw, .inl (kc 1, 60, .inr (.inl z1)))] := hD
  refine lv_aload_n hx hb dX8_lay_5 rfl (lv_at hl 0 rfl) ?_
  refine lv_iload_n hx hb dX8_lay_6 rfl (lv_at hl 1 rfl) ?_
  refine va_put (D := D) (ci := 8) (v := .int so) (ty := .int) (C := RX8) (T := TX8) (N := 4) hx hb hts ic_lay_X8 tyX8 tyX8_ok nmX8 hown hK hP hD hS 0 rfl rfl 2 (by decide) (hts (.fieldLink RX8 19 "SaltStreet$Tray" "sort" "I") (List.mem_of_getElem? (i := 2) rfl)) (fun _ h9 => h9) rfl (by decide +kernel) rfl rfl (Nat.le_of_ble_eq_true rfl) dX8_lay_7 (fun H locs hP hD hS => ?_)
  have hP : va_P D vwCl [(a, .inr (8, [.ref rw, .int 1, .int so, .int 0])), (rw, .inl (kc 1, 60, .inr (.inl z1)))] H := hP
  have hD : va_D A [(a, .inr (8, [.ref rw, .int 1, .int so, .int 0])), (rw, .inl (kc 1, 60, .inr (.inl z1)))] := hD
  refine lv_aload_n hx hb dX8_lay_10 rfl (lv_at hl 0 rfl) ?_
  refine lv_iload_n hx hb dX8_lay_11 rfl (lv_at hl 2 rfl) ?_
  refine va_put (D := D) (ci := 8) (v := .int mn) (ty := .int) (C := RX8) (T := TX8) (N := 4) hx hb hts ic_lay_X8 tyX8 tyX8_ok nmX8 hown hK hP hD hS 0 rfl rfl 3 (by decide) (hts (.fieldLink RX8 23 "SaltStreet$Tray" "size" "I") (List.mem_of_getElem? (i := 3) rfl)) (fun _ h9 => h9) rfl (by decide +kernel) rfl rfl (Nat.le_of_ble_eq_true rfl) dX8_lay_12 (fun H locs hP hD hS => ?_)
  have hP : va_P D vwCl [(a, .inr (8, [.ref rw, .int 1, .int so, .int mn])), (rw, .inl (kc 1, 60, .inr (.inl z1)))] H := hP
  have hD : va_D A [(a, .inr (8, [.ref rw, .int 1, .int so, .int mn])), (rw, .inl (kc 1, 60, .inr (.inl z1)))] := hD
  refine lv_iconst (v := 0) hx hb dX8_lay_15 (by decide) ?_
  refine lv_istore_n (lv' := [(3, .int 0), (0, .ref a), (1, .int so), (2, .int mn)]) hx hb dX8_lay_16 rfl hl (by decide) rfl (fun ls hl => ?_)
  refine lv_iload_n hx hb dX8_lay_17 rfl (lv_at hl 0 rfl) ?_
  refine lv_bipush (v := 60) hx hb dX8_lay_18 (by decide) ?_
  refine lv_icmp_ge (tgt := 36) hx hb dX8_lay_20 (by decide) (fun h => absurd h (by decide)) (fun _ => ?_)
  refine lv_aload_n hx hb dX8_lay_23 rfl (lv_at hl 1 rfl) ?_
  refine va_get (D := D) (ci := 8) (v := .ref rw) (C := RX8) (T := TX8) (N := 4) hx hb hts ic_lay_X8 hown hK hP 0 rfl rfl 0 (by decide) (hts (.fieldLink RX8 9 "SaltStreet$Tray" "row" "[J") (List.mem_of_getElem? (i := 4) rfl)) (fun _ h9 => h9) rfl dX8_lay_24 ?_
  refine lv_iload_n hx hb dX8_lay_27 rfl (lv_at hl 0 rfl) ?_
  refine lv_lconst (v := 0) hx hb dX8_lay_28 (by decide) ?_
  refine va_last hx hb hK hP hD hS 1 1 (f := z1) rfl rfl (by unfold vp_in; decide) dX8_lay_29 (fun H locs hP hD hS => ?_)
  have hP : va_P D vwCl [(a, .inr (8, [.ref rw, .int 1, .int so, .int mn])), (rw, .inl (kc 1, 60, .inr (.inl (vp_updL z1 (0 : Int32).toNatClampNeg 0))))] H := hP
  have hD : va_D A [(a, .inr (8, [.ref rw, .int 1, .int so, .int mn])), (rw, .inl (kc 1, 60, .inr (.inl (vp_updL z1 (0 : Int32).toNatClampNeg 0))))] := hD
  rw [show (vp_updL z1 (0 : Int32).toNatClampNeg 0) = z1 from updl_z1 _] at hP hD
  refine lv_iinc (v := 1) (lv' := [(3, .int 1), (0, .ref a), (1, .int so), (2, .int mn)]) hx hb dX8_lay_30 hl (k := 0) rfl (by decide) (by decide) rfl (fun ls hl => ?_)
  refine lv_goto (tgt := 17) hx hb dX8_lay_33 (by decide) ?_
  refine lv_iload_n hx hb dX8_lay_17 rfl (lv_at hl 0 rfl) ?_
  refine lv_bipush (v := 60) hx hb dX8_lay_18 (by decide) ?_
  refine lv_icmp_ge (tgt := 36) hx hb dX8_lay_20 (by decide) (fun h => absurd h (by decide)) (fun _ => ?_)
  refine lv_aload_n hx hb dX8_lay_23 rfl (lv_at hl 1 rfl) ?_
  refine va_get (D := D) (ci := 8) (v := .ref rw) (C := RX8) (T := TX8) (N := 4) hx hb hts ic_lay_X8 hown hK hP 0 rfl rfl 0 (by decide) (hts (.fieldLink RX8 9 "SaltStreet$Tray" "row" "[J") (List.mem_of_getElem? (i := 4) rfl)) (fun _ h9 => h9) rfl dX8_lay_24 ?_
  refine lv_iload_n hx hb dX8_lay_27 rfl (lv_at hl 0 rfl) ?_
  refine lv_lconst (v := 0) hx hb dX8_lay_28 (by decide) ?_
  refine va_last hx hb hK hP hD hS 1 1 (f := z1) rfl rfl (by unfold vp_in; decide) dX8_lay_29 (fun H locs hP hD hS => ?_)
  have hP : va_P D vwCl [(a, .inr (8, [.ref rw, .int 1, .int so, .int mn])), (rw, .inl (kc 1, 60, .inr (.inl (vp_updL z1 (1 : Int32).toNatClampNeg 0))))] H := hP
  have hD : va_D A [(a, .inr (8, [.ref rw, .int 1, .int so, .int mn])), (rw, .inl (kc 1, 60, .inr (.inl (vp_updL z1 (1 : Int32).toNatClampNeg 0))))] := hD
  rw [show (vp_updL z1 (1 : Int32).toNatClampNeg 0) = z1 from updl_z1 _] at hP hD
  refine lv_iinc (v := 2) (lv' := [(3, .int 2), (0, .ref a), (1, .int so), (2, .int mn)]) hx hb dX8_lay_30 hl (k := 0) rfl (by decide) (by decide) rfl (fun ls hl => ?_)
  refine lv_goto (tgt := 17) hx hb dX8_lay_33 (by decide) ?_
  refine lv_iload_n hx hb dX8_lay_17 rfl (lv_at hl 0 rfl) ?_
  refine lv_bipush (v := 60) hx hb dX8_lay_18 (by decide) ?_
  refine lv_icmp_ge (tgt := 36) hx hb dX8_lay_20 (by decide) (fun h => absurd h (by decide)) (fun _ => ?_)
  refine lv_aload_n hx hb dX8_lay_23 rfl (lv_at hl 1 rfl) ?_
  refine va_get (D := D) (ci := 8) (v := .ref rw) (C := RX8) (T := TX8) (N := 4) hx hb hts ic_lay_X8 hown hK hP 0 rfl rfl 0 (by decide) (hts (.fieldLink RX8 9 "SaltStreet$Tray" "row" "[J") (List.mem_of_getElem? (i := 4) rfl)) (fun _ h9 => h9) rfl dX8_lay_24 ?_
  refine lv_iload_n hx hb dX8_lay_27 rfl (lv_at hl 0 rfl) ?_
  refine lv_lconst (v := 0) hx hb dX8_lay_28 (by decide) ?_
  refine va_last hx hb hK hP hD hS 1 1 (f := z1) rfl rfl (by unfold vp_in; decide) dX8_lay_29 (fun H locs hP hD hS => ?_)
  have hP : va_P D vwCl [(a, .inr (8, [.ref rw, .int 1, .int so, .int mn])), (rw, .inl (kc 1, 60, .inr (.inl (vp_updL z1 (2 : Int32).toNatClampNeg 0))))] H := hP
  have hD : va_D A [(a, .inr (8, [.ref rw, .int 1, .int so, .int mn])), (rw, .inl (kc 1, 60, .inr (.inl (vp_updL z1 (2 : Int32).toNatClampNeg 0))))] := hD
  rw [show (vp_updL z1 (2 : Int32).toNatClampNeg 0) = z1 from updl_z1 _] at hP hD
  refine lv_iinc (v := 3) (lv' := [(3, .int 3), (0, .ref a), (1, .int so), (2, .int mn)]) hx hb dX8_lay_30 hl (k := 0) rfl (by decide) (by decide) rfl (fun ls hl => ?_)
  refine lv_goto (tgt := 17) hx hb dX8_lay_33 (by decide) ?_
  refine lv_iload_n hx hb dX8_lay_17 rfl (lv_at hl 0 rfl) ?_
  refine lv_bipush (v := 60) hx hb dX8_lay_18 (by decide) ?_
  refine lv_icmp_ge (tgt := 36) hx hb dX8_lay_20 (by decide) (fun h => absurd h (by decide)) (fun _ => ?_)
  refine lv_aload_n hx hb dX8_lay_23 rfl (lv_at hl 1 rfl) ?_
  refine va_get (D := D) (ci := 8) (v := .ref rw) (C := RX8) (T := TX8) (N := 4) hx hb hts ic_lay_X8 hown hK hP 0 rfl rfl 0 (by decide) (hts (.fieldLink RX8 9 "SaltStreet$Tray" "row" "[J") (List.mem_of_getElem? (i := 4) rfl)) (fun _ h9 => h9) rfl dX8_lay_24 ?_
  refine lv_iload_n hx hb dX8_lay_27 rfl (lv_at hl 0 rfl) ?_
  refine lv_lconst (v := 0) hx hb dX8_lay_28 (by decide) ?_
  refine va_last hx hb hK hP hD hS 1 1 (f := z1) rfl rfl (by unfold vp_in; decide) dX8_lay_29 (fun H locs hP hD hS => ?_)
  have hP : va_P D vwCl [(a, .inr (8, [.ref rw, .int 1, .int so, .int mn])), (rw, .inl (kc 1, 60, .inr (.inl (vp_updL z1 (3 : Int32).toNatClampNeg 0))))] H := hP
  have hD : va_D A [(a, .inr (8, [.ref rw, .int 1, .int so, .int mn])), (rw, .inl (kc 1, 60, .inr (.inl (vp_updL z1 (3 : Int32).toNatClampNeg 0))))] := hD
  rw [show (vp_updL z1 (3 : Int32).toNatClampNeg 0) = z1 from updl_z1 _] at hP hD
  refine lv_iinc (v := 4) (lv' := [(3, .int 4), (0, .ref a), (1, .int so), (2, .int mn)]) hx hb dX8_lay_30 hl (k := 0) rfl (by decide) (by decide) rfl (fun ls hl => ?_)
  refine lv_goto (tgt := 17) hx hb dX8_lay_33 (by decide) ?_
  refine lv_iload_n hx hb dX8_lay_17 rfl (lv_at hl 0 rfl) ?_
  refine lv_bipush (v := 60) hx hb dX8_lay_18 (by decide) ?_
  refine lv_icmp_ge (tgt := 36) hx hb dX8_lay_20 (by decide) (fun h => absurd h (by decide)) (fun _ => ?_)
  refine lv_aload_n hx hb dX8_lay_23 rfl (lv_at hl 1 rfl) ?_
  refine va_get (D := D) (ci := 8) (v := .ref rw) (C := RX8) (T := TX8) (N := 4) hx hb hts ic_lay_X8 hown hK hP 0 rfl rfl 0 (by decide) (hts (.fieldLink RX8 9 "SaltStreet$Tray" "row" "[J") (List.mem_of_getElem? (i := 4) rfl)) (fun _ h9 => h9) rfl dX8_lay_24 ?_
  refine lv_iload_n hx hb dX8_lay_27 rfl (lv_at hl 0 rfl) ?_
  refine lv_lconst (v := 0) hx hb dX8_lay_28 (by decide) ?_
  refine va_last hx hb hK hP hD hS 1 1 (f := z1) rfl rfl (by unfold vp_in; decide) dX8_lay_29 (fun H locs hP hD hS => ?_)
  have hP : va_P D vwCl [(a, .inr (8, [.ref rw, .int 1, .int so, .int mn])), (rw, .inl (kc 1, 60, .inr (.inl (vp_updL z1 (4 : Int32).toNatClampNeg 0))))] H := hP
  have hD : va_D A [(a, .inr (8, [.ref rw, .int 1, .int so, .int mn])), (rw, .inl (kc 1, 60, .inr (.inl (vp_updL z1 (4 : Int32).toNatClampNeg 0))))] := hD
  rw [show (vp_updL z1 (4 : Int32).toNatClampNeg 0) = z1 from updl_z1 _] at hP hD
  refine lv_iinc (v := 5) (lv' := [(3, .int 5), (0, .ref a), (1, .int so), (2, .int mn)]) hx hb dX8_lay_30 hl (k := 0) rfl (by decide) (by decide) rfl (fun ls hl => ?_)
  refine lv_goto (tgt := 17) hx hb dX8_lay_33 (by decide) ?_
  refine lv_iload_n hx hb dX8_lay_17 rfl (lv_at hl 0 rfl) ?_
  refine lv_bipush (v := 60) hx hb dX8_lay_18 (by decide) ?_
  refine lv_icmp_ge (tgt := 36) hx hb dX8_lay_20 (by decide) (fun h => absurd h (by decide)) (fun _ => ?_)
  refine lv_aload_n hx hb dX8_lay_23 rfl (lv_at hl 1 rfl) ?_
  refine va_get (D := D) (ci := 8) (v := .ref rw) (C := RX8) (T := TX8) (N := 4) hx hb hts ic_lay_X8 hown hK hP 0 rfl rfl 0 (by decide) (hts (.fieldLink RX8 9 "SaltStreet$Tray" "row" "[J") (List.mem_of_getElem? (i := 4) rfl)) (fun _ h9 => h9) rfl dX8_lay_24 ?_
  refine lv_iload_n hx hb dX8_lay_27 rfl (lv_at hl 0 rfl) ?_
  refine lv_lconst (v := 0) hx hb dX8_lay_28 (by decide) ?_
  refine va_last hx hb hK hP hD hS 1 1 (f := z1) rfl rfl (by unfold vp_in; decide) dX8_lay_29 (fun H locs hP hD hS => ?_)
  have hP : va_P D vwCl [(a, .inr (8, [.ref rw, .int 1, .int so, .int mn])), (rw, .inl (kc 1, 60, .inr (.inl (vp_updL z1 (5 : Int32).toNatClampNeg 0))))] H := hP
  have hD : va_D A [(a, .inr (8, [.ref rw, .int 1, .int so, .int mn])), (rw, .inl (kc 1, 60, .inr (.inl (vp_updL z1 (5 : Int32).toNatClampNeg 0))))] := hD
  rw [show (vp_updL z1 (5 : Int32).toNatClampNeg 0) = z1 from updl_z1 _] at hP hD
  refine lv_iinc (v := 6) (lv' := [(3, .int 6), (0, .ref a), (1, .int so), (2, .int mn)]) hx hb dX8_lay_30 hl (k := 0) rfl (by decide) (by decide) rfl (fun ls hl => ?_)
  refine lv_goto (tgt := 17) hx hb dX8_lay_33 (by decide) ?_
  refine lv_iload_n hx hb dX8_lay_17 rfl (lv_at hl 0 rfl) ?_
  refine lv_bipush (v := 60) hx hb dX8_lay_18 (by decide) ?_
  refine lv_icmp_ge (tgt := 36) hx hb dX8_lay_20 (by decide) (fun h => absurd h (by decide)) (fun _ => ?_)
  refine lv_aload_n hx hb dX8_lay_23 rfl (lv_at hl 1 rfl) ?_
  refine va_get (D := D) (ci := 8) (v := .ref rw) (C := RX8) (T := TX8) (N := 4) hx hb hts ic_lay_X8 hown hK hP 0 rfl rfl 0 (by decide) (hts (.fieldLink RX8 9 "SaltStreet$Tray" "row" "[J") (List.mem_of_getElem? (i := 4) rfl)) (fun _ h9 => h9) rfl dX8_lay_24 ?_
  refine lv_iload_n hx hb dX8_lay_27 rfl (lv_at hl 0 rfl) ?_
  refine lv_lconst (v := 0) hx hb dX8_lay_28 (by decide) ?_
  refine va_last hx hb hK hP hD hS 1 1 (f := z1) rfl rfl (by unfold vp_in; decide) dX8_lay_29 (fun H locs hP hD hS => ?_)
  have hP : va_P D vwCl [(a, .inr (8, [.ref rw, .int 1, .int so, .int mn])), (rw, .inl (kc 1, 60, .inr (.inl (vp_updL z1 (6 : Int32).toNatClampNeg 0))))] H := hP
  have hD : va_D A [(a, .inr (8, [.ref rw, .int 1, .int so, .int mn])), (rw, .inl (kc 1, 60, .inr (.inl (vp_updL z1 (6 : Int32).toNatClampNeg 0))))] := hD
  rw [show (vp_updL z1 (6 : Int32).toNatClampNeg 0) = z1 from updl_z1 _] at hP hD
  refine lv_iinc (v := 7) (lv' := [(3, .int 7), (0, .ref a), (1, .int so), (2, .int mn)]) hx hb dX8_lay_30 hl (k := 0) rfl (by decide) (by decide) rfl (fun ls hl => ?_)
  refine lv_goto (tgt := 17) hx hb dX8_lay_33 (by decide) ?_
  refine lv_iload_n hx hb dX8_lay_17 rfl (lv_at hl 0 rfl) ?_
  refine lv_bipush (v := 60) hx hb dX8_lay_18 (by decide) ?_
  refine lv_icmp_ge (tgt := 36) hx hb dX8_lay_20 (by decide) (fun h => absurd h (by decide)) (fun _ => ?_)
  refine lv_aload_n hx hb dX8_lay_23 rfl (lv_at hl 1 rfl) ?_
  refine va_get (D := D) (ci := 8) (v := .ref rw) (C := RX8) (T := TX8) (N := 4) hx hb hts ic_lay_X8 hown hK hP 0 rfl rfl 0 (by decide) (hts (.fieldLink RX8 9 "SaltStreet$Tray" "row" "[J") (List.mem_of_getElem? (i := 4) rfl)) (fun _ h9 => h9) rfl dX8_lay_24 ?_
  refine lv_iload_n hx hb dX8_lay_27 rfl (lv_at hl 0 rfl) ?_
  refine lv_lconst (v := 0) hx hb dX8_lay_28 (by decide) ?_
  refine va_last hx hb hK hP hD hS 1 1 (f := z1) rfl rfl (by unfold vp_in; decide) dX8_lay_29 (fun H locs hP hD hS => ?_)
  have hP : va_P D vwCl [(a, .inr (8, [.ref rw, .int 1, .int so, .int mn])), (rw, .inl (kc 1, 60, .inr (.inl (vp_updL z1 (7 : Int32).toNatClampNeg 0))))] H := hP
  have hD : va_D A [(a, .inr (8, [.ref rw, .int 1, .int so, .int mn])), (rw, .inl (kc 1, 60, .inr (.inl (vp_updL z1 (7 : Int32).toNatClampNeg 0))))] := hD
  rw [show (vp_updL z1 (7 : Int32).toNatClampNeg 0) = z1 from updl_z1 _] at hP hD
  refine lv_iinc (v := 8) (lv' := [(3, .int 8), (0, .ref a), (1, .int so), (2, .int mn)]) hx hb dX8_lay_30 hl (k := 0) rfl (by decide) (by decide) rfl (fun ls hl => ?_)
  refine lv_goto (tgt := 17) hx hb dX8_lay_33 (by decide) ?_
  refine lv_iload_n hx hb dX8_lay_17 rfl (lv_at hl 0 rfl) ?_
  refine lv_bipush (v := 60) hx hb dX8_lay_18 (by decide) ?_
  refine lv_icmp_ge (tgt := 36) hx hb dX8_lay_20 (by decide) (fun h => absurd h (by decide)) (fun _ => ?_)
  refine lv_aload_n hx hb dX8_lay_23 rfl (lv_at hl 1 rfl) ?_
  refine va_get (D := D) (ci := 8) (v := .ref rw) (C := RX8) (T := TX8) (N := 4) hx hb hts ic_lay_X8 hown hK hP 0 rfl rfl 0 (by decide) (hts (.fieldLink RX8 9 "SaltStreet$Tray" "row" "[J") (List.mem_of_getElem? (i := 4) rfl)) (fun _ h9 => h9) rfl dX8_lay_24 ?_
  refine lv_iload_n hx hb dX8_lay_27 rfl (lv_at hl 0 rfl) ?_
  refine lv_lconst (v := 0) hx hb dX8_lay_28 (by decide) ?_
  refine va_last hx hb hK hP hD hS 1 1 (f := z1) rfl rfl (by unfold vp_in; decide) dX8_lay_29 (fun H locs hP hD hS => ?_)
  have hP : va_P D vwCl [(a, .inr (8, [.ref rw, .int 1, .int so, .int mn])), (rw, .inl (kc 1, 60, .inr (.inl (vp_updL z1 (8 : Int32).toNatClampNeg 0))))] H := hP
  have hD : va_D A [(a, .inr (8, [.ref rw, .int 1, .int so, .int mn])), (rw, .inl (kc 1, 60, .inr (.inl (vp_updL z1 (8 : Int32).toNatClampNeg 0))))] := hD
  rw [show (vp_updL z1 (8 : Int32).toNatClampNeg 0) = z1 from updl_z1 _] at hP hD
  refine lv_iinc (v := 9) (lv' := [(3, .int 9), (0, .ref a), (1, .int so), (2, .int mn)]) hx hb dX8_lay_30 hl (k := 0) rfl (by decide) (by decide) rfl (fun ls hl => ?_)
  refine lv_goto (tgt := 17) hx hb dX8_lay_33 (by decide) ?_
  refine lv_iload_n hx hb dX8_lay_17 rfl (lv_at hl 0 rfl) ?_
  refine lv_bipush (v := 60) hx hb dX8_lay_18 (by decide) ?_
  refine lv_icmp_ge (tgt := 36) hx hb dX8_lay_20 (by decide) (fun h => absurd h (by decide)) (fun _ => ?_)
  refine lv_aload_n hx hb dX8_lay_23 rfl (lv_at hl 1 rfl) ?_
  refine va_get (D := D) (ci := 8) (v := .ref rw) (C := RX8) (T := TX8) (N := 4) hx hb hts ic_lay_X8 hown hK hP 0 rfl rfl 0 (by decide) (hts (.fieldLink RX8 9 "SaltStreet$Tray" "row" "[J") (List.mem_of_getElem? (i := 4) rfl)) (fun _ h9 => h9) rfl dX8_lay_24 ?_
  refine lv_iload_n hx hb dX8_lay_27 rfl (lv_at hl 0 rfl) ?_
  refine lv_lconst (v := 0) hx hb dX8_lay_28 (by decide) ?_
  refine va_last hx hb hK hP hD hS 1 1 (f := z1) rfl rfl (by unfold vp_in; decide) dX8_lay_29 (fun H locs hP hD hS => ?_)
  have hP : va_P D vwCl [(a, .inr (8, [.ref rw, .int 1, .int so, .int mn])), (rw, .inl (kc 1, 60, .inr (.inl (vp_updL z1 (9 : Int32).toNatClampNeg 0))))] H := hP
  have hD : va_D A [(a, .inr (8, [.ref rw, .int 1, .int so, .int mn])), (rw, .inl (kc 1, 60, .inr (.inl (vp_updL z1 (9 : Int32).toNatClampNeg 0))))] := hD
  rw [show (vp_updL z1 (9 : Int32).toNatClampNeg 0) = z1 from updl_z1 _] at hP hD
  refine lv_iinc (v := 10) (lv' := [(3, .int 10), (0, .ref a), (1, .int so), (2, .int mn)]) hx hb dX8_lay_30 hl (k := 0) rfl (by decide) (by decide) rfl (fun ls hl => ?_)
  refine lv_goto (tgt := 17) hx hb dX8_lay_33 (by decide) ?_
  refine lv_iload_n hx hb dX8_lay_17 rfl (lv_at hl 0 rfl) ?_
  refine lv_bipush (v := 60) hx hb dX8_lay_18 (by decide) ?_
  refine lv_icmp_ge (tgt := 36) hx hb dX8_lay_20 (by decide) (fun h => absurd h (by decide)) (fun _ => ?_)
  refine lv_aload_n hx hb dX8_lay_23 rfl (lv_at hl 1 rfl) ?_
  refine va_get (D := D) (ci := 8) (v := .ref rw) (C := RX8) (T := TX8) (N := 4) hx hb hts ic_lay_X8 hown hK hP 0 rfl rfl 0 (by decide) (hts (.fieldLink RX8 9 "SaltStreet$Tray" "row" "[J") (List.mem_of_getElem? (i := 4) rfl)) (fun _ h9 => h9) rfl dX8_lay_24 ?_
  refine lv_iload_n hx hb dX8_lay_27 rfl (lv_at hl 0 rfl) ?_
  refine lv_lconst (v := 0) hx hb dX8_lay_28 (by decide) ?_
  refine va_last hx hb hK hP hD hS 1 1 (f := z1) rfl rfl (by unfold vp_in; decide) dX8_lay_29 (fun H locs hP hD hS => ?_)
  have hP : va_P D vwCl [(a, .inr (8, [.ref rw, .int 1, .int so, .int mn])), (rw, .inl (kc 1, 60, .inr (.inl (vp_updL z1 (10 : Int32).toNatClampNeg 0))))] H := hP
  have hD : va_D A [(a, .inr (8, [.ref rw, .int 1, .int so, .int mn])), (rw, .inl (kc 1, 60, .inr (.inl (vp_updL z1 (10 : Int32).toNatClampNeg 0))))] := hD
  rw [show (vp_updL z1 (10 : Int32).toNatClampNeg 0) = z1 from updl_z1 _] at hP hD
  refine lv_iinc (v := 11) (lv' := [(3, .int 11), (0, .ref a), (1, .int so), (2, .int mn)]) hx hb dX8_lay_30 hl (k := 0) rfl (by decide) (by decide) rfl (fun ls hl => ?_)
  refine lv_goto (tgt := 17) hx hb dX8_lay_33 (by decide) ?_
  refine lv_iload_n hx hb dX8_lay_17 rfl (lv_at hl 0 rfl) ?_
  refine lv_bipush (v := 60) hx hb dX8_lay_18 (by decide) ?_
  refine lv_icmp_ge (tgt := 36) hx hb dX8_lay_20 (by decide) (fun h => absurd h (by decide)) (fun _ => ?_)
  refine lv_aload_n hx hb dX8_lay_23 rfl (lv_at hl 1 rfl) ?_
  refine va_get (D := D) (ci := 8) (v := .ref rw) (C := RX8) (T := TX8) (N := 4) hx hb hts ic_lay_X8 hown hK hP 0 rfl rfl 0 (by decide) (hts (.fieldLink RX8 9 "SaltStreet$Tray" "row" "[J") (List.mem_of_getElem? (i := 4) rfl)) (fun _ h9 => h9) rfl dX8_lay_24 ?_
  refine lv_iload_n hx hb dX8_lay_27 rfl (lv_at hl 0 rfl) ?_
  refine lv_lconst (v := 0) hx hb dX8_lay_28 (by decide) ?_
  refine va_last hx hb hK hP hD hS 1 1 (f := z1) rfl rfl (by unfold vp_in; decide) dX8_lay_29 (fun H locs hP hD hS => ?_)
  have hP : va_P D vwCl [(a, .inr (8, [.ref rw, .int 1, .int so, .int mn])), (rw, .inl (kc 1, 60, .inr (.inl (vp_updL z1 (11 : Int32).toNatClampNeg 0))))] H := hP
  have hD : va_D A [(a, .inr (8, [.ref rw, .int 1, .int so, .int mn])), (rw, .inl (kc 1, 60, .inr (.inl (vp_updL z1 (11 : Int32).toNatClampNeg 0))))] := hD
  rw [show (vp_updL z1 (11 : Int32).toNatClampNeg 0) = z1 from updl_z1 _] at hP hD
  refine lv_iinc (v := 12) (lv' := [(3, .int 12), (0, .ref a), (1, .int so), (2, .int mn)]) hx hb dX8_lay_30 hl (k := 0) rfl (by decide) (by decide) rfl (fun ls hl => ?_)
  refine lv_goto (tgt := 17) hx hb dX8_lay_33 (by decide) ?_
  refine lv_iload_n hx hb dX8_lay_17 rfl (lv_at hl 0 rfl) ?_
  refine lv_bipush (v := 60) hx hb dX8_lay_18 (by decide) ?_
  refine lv_icmp_ge (tgt := 36) hx hb dX8_lay_20 (by decide) (fun h => absurd h (by decide)) (fun _ => ?_)
  refine lv_aload_n hx hb dX8_lay_23 rfl (lv_at hl 1 rfl) ?_
  refine va_get (D := D) (ci := 8) (v := .ref rw) (C := RX8) (T := TX8) (N := 4) hx hb hts ic_lay_X8 hown hK hP 0 rfl rfl 0 (by decide) (hts (.fieldLink RX8 9 "SaltStreet$Tray" "row" "[J") (List.mem_of_getElem? (i := 4) rfl)) (fun _ h9 => h9) rfl dX8_lay_24 ?_
  refine lv_iload_n hx hb dX8_lay_27 rfl (lv_at hl 0 rfl) ?_
  refine lv_lconst (v := 0) hx hb dX8_lay_28 (by decide) ?_
  refine va_last hx hb hK hP hD hS 1 1 (f := z1) rfl rfl (by unfold vp_in; decide) dX8_lay_29 (fun H locs hP hD hS => ?_)
  have hP : va_P D vwCl [(a, .inr (8, [.ref rw, .int 1, .int so, .int mn])), (rw, .inl (kc 1, 60, .inr (.inl (vp_updL z1 (12 : Int32).toNatClampNeg 0))))] H := hP
  have hD : va_D A [(a, .inr (8, [.ref rw, .int 1, .int so, .int mn])), (rw, .inl (kc 1, 60, .inr (.inl (vp_updL z1 (12 : Int32).toNatClampNeg 0))))] := hD
  rw [show (vp_updL z1 (12 : Int32).toNatClampNeg 0) = z1 from updl_z1 _] at hP hD
  refine lv_iinc (v := 13) (lv' := [(3, .int 13), (0, .ref a), (1, .int so), (2, .int mn)]) hx hb dX8_lay_30 hl (k := 0) rfl (by decide) (by decide) rfl (fun ls hl => ?_)
  refine lv_goto (tgt := 17) hx hb dX8_lay_33 (by decide) ?_
  refine lv_iload_n hx hb dX8_lay_17 rfl (lv_at hl 0 rfl) ?_
  refine lv_bipush (v := 60) hx hb dX8_lay_18 (by decide) ?_
  refine lv_icmp_ge (tgt := 36) hx hb dX8_lay_20 (by decide) (fun h => absurd h (by decide)) (fun _ => ?_)
  refine lv_aload_n hx hb dX8_lay_23 rfl (lv_at hl 1 rfl) ?_
  refine va_get (D := D) (ci := 8) (v := .ref rw) (C := RX8) (T := TX8) (N := 4) hx hb hts ic_lay_X8 hown hK hP 0 rfl rfl 0 (by decide) (hts (.fieldLink RX8 9 "SaltStreet$Tray" "row" "[J") (List.mem_of_getElem? (i := 4) rfl)) (fun _ h9 => h9) rfl dX8_lay_24 ?_
  refine lv_iload_n hx hb dX8_lay_27 rfl (lv_at hl 0 rfl) ?_
  refine lv_lconst (v := 0) hx hb dX8_lay_28 (by decide) ?_
  refine va_last hx hb hK hP hD hS 1 1 (f := z1) rfl rfl (by unfold vp_in; decide) dX8_lay_29 (fun H locs hP hD hS => ?_)
  have hP : va_P D vwCl [(a, .inr (8, [.ref rw, .int 1, .int so, .int mn])), (rw, .inl (kc 1, 60, .inr (.inl (vp_updL z1 (13 : Int32).toNatClampNeg 0))))] H := hP
  have hD : va_D A [(a, .inr (8, [.ref rw, .int 1, .int so, .int mn])), (rw, .inl (kc 1, 60, .inr (.inl (vp_updL z1 (13 : Int32).toNatClampNeg 0))))] := hD
  rw [show (vp_updL z1 (13 : Int32).toNatClampNeg 0) = z1 from updl_z1 _] at hP hD
  refine lv_iinc (v := 14) (lv' := [(3, .int 14), (0, .ref a), (1, .int so), (2, .int mn)]) hx hb dX8_lay_30 hl (k := 0) rfl (by decide) (by decide) rfl (fun ls hl => ?_)
  refine lv_goto (tgt := 17) hx hb dX8_lay_33 (by decide) ?_
  refine lv_iload_n hx hb dX8_lay_17 rfl (lv_at hl 0 rfl) ?_
  refine lv_bipush (v := 60) hx hb dX8_lay_18 (by decide) ?_
  refine lv_icmp_ge (tgt := 36) hx hb dX8_lay_20 (by decide) (fun h => absurd h (by decide)) (fun _ => ?_)
  refine lv_aload_n hx hb dX8_lay_23 rfl (lv_at hl 1 rfl) ?_
  refine va_get (D := D) (ci := 8) (v := .ref rw) (C := RX8) (T := TX8) (N := 4) hx hb hts ic_lay_X8 hown hK hP 0 rfl rfl 0 (by decide) (hts (.fieldLink RX8 9 "SaltStreet$Tray" "row" "[J") (List.mem_of_getElem? (i := 4) rfl)) (fun _ h9 => h9) rfl dX8_lay_24 ?_
  refine lv_iload_n hx hb dX8_lay_27 rfl (lv_at hl 0 rfl) ?_
  refine lv_lconst (v := 0) hx hb dX8_lay_28 (by decide) ?_
  refine va_last hx hb hK hP hD hS 1 1 (f := z1) rfl rfl (by unfold vp_in; decide) dX8_lay_29 (fun H locs hP hD hS => ?_)
  have hP : va_P D vwCl [(a, .inr (8, [.ref rw, .int 1, .int so, .int mn])), (rw, .inl (kc 1, 60, .inr (.inl (vp_updL z1 (14 : Int32).toNatClampNeg 0))))] H := hP
  have hD : va_D A [(a, .inr (8, [.ref rw, .int 1, .int so, .int mn])), (rw, .inl (kc 1, 60, .inr (.inl (vp_updL z1 (14 : Int32).toNatClampNeg 0))))] := hD
  rw [show (vp_updL z1 (14 : Int32).toNatClampNeg 0) = z1 from updl_z1 _] at hP hD
  refine lv_iinc (v := 15) (lv' := [(3, .int 15), (0, .ref a), (1, .int so), (2, .int mn)]) hx hb dX8_lay_30 hl (k := 0) rfl (by decide) (by decide) rfl (fun ls hl => ?_)
  refine lv_goto (tgt := 17) hx hb dX8_lay_33 (by decide) ?_
  refine lv_iload_n hx hb dX8_lay_17 rfl (lv_at hl 0 rfl) ?_
  refine lv_bipush (v := 60) hx hb dX8_lay_18 (by decide) ?_
  refine lv_icmp_ge (tgt := 36) hx hb dX8_lay_20 (by decide) (fun h => absurd h (by decide)) (fun _ => ?_)
  refine lv_aload_n hx hb dX8_lay_23 rfl (lv_at hl 1 rfl) ?_
  refine va_get (D := D) (ci := 8) (v := .ref rw) (C := RX8) (T := TX8) (N := 4) hx hb hts ic_lay_X8 hown hK hP 0 rfl rfl 0 (by decide) (hts (.fieldLink RX8 9 "SaltStreet$Tray" "row" "[J") (List.mem_of_getElem? (i := 4) rfl)) (fun _ h9 => h9) rfl dX8_lay_24 ?_
  refine lv_iload_n hx hb dX8_lay_27 rfl (lv_at hl 0 rfl) ?_
  refine lv_lconst (v := 0) hx hb dX8_lay_28 (by decide) ?_
  refine va_last hx hb hK hP hD hS 1 1 (f := z1) rfl rfl (by unfold vp_in; decide) dX8_lay_29 (fun H locs hP hD hS => ?_)
  have hP : va_P D vwCl [(a, .inr (8, [.ref rw, .int 1, .int so, .int mn])), (rw, .inl (kc 1, 60, .inr (.inl (vp_updL z1 (15 : Int32).toNatClampNeg 0))))] H := hP
  have hD : va_D A [(a, .inr (8, [.ref rw, .int 1, .int so, .int mn])), (rw, .inl (kc 1, 60, .inr (.inl (vp_updL z1 (15 : Int32).toNatClampNeg 0))))] := hD
  rw [show (vp_updL z1 (15 : Int32).toNatClampNeg 0) = z1 from updl_z1 _] at hP hD
  refine lv_iinc (v := 16) (lv' := [(3, .int 16), (0, .ref a), (1, .int so), (2, .int mn)]) hx hb dX8_lay_30 hl (k := 0) rfl (by decide) (by decide) rfl (fun ls hl => ?_)
  refine lv_goto (tgt := 17) hx hb dX8_lay_33 (by decide) ?_
  refine lv_iload_n hx hb dX8_lay_17 rfl (lv_at hl 0 rfl) ?_
  refine lv_bipush (v := 60) hx hb dX8_lay_18 (by decide) ?_
  refine lv_icmp_ge (tgt := 36) hx hb dX8_lay_20 (by decide) (fun h => absurd h (by decide)) (fun _ => ?_)
  refine lv_aload_n hx hb dX8_lay_23 rfl (lv_at hl 1 rfl) ?_
  refine va_get (D := D) (ci := 8) (v := .ref rw) (C := RX8) (T := TX8) (N := 4) hx hb hts ic_lay_X8 hown hK hP 0 rfl rfl 0 (by decide) (hts (.fieldLink RX8 9 "SaltStreet$Tray" "row" "[J") (List.mem_of_getElem? (i := 4) rfl)) (fun _ h9 => h9) rfl dX8_lay_24 ?_
  refine lv_iload_n hx hb dX8_lay_27 rfl (lv_at hl 0 rfl) ?_
  refine lv_lconst (v := 0) hx hb dX8_lay_28 (by decide) ?_
  refine va_last hx hb hK hP hD hS 1 1 (f := z1) rfl rfl (by unfold vp_in; decide) dX8_lay_29 (fun H locs hP hD hS => ?_)
  have hP : va_P D vwCl [(a, .inr (8, [.ref rw, .int 1, .int so, .int mn])), (rw, .inl (kc 1, 60, .inr (.inl (vp_updL z1 (16 : Int32).toNatClampNeg 0))))] H := hP
  have hD : va_D A [(a, .inr (8, [.ref rw, .int 1, .int so, .int mn])), (rw, .inl (kc 1, 60, .inr (.inl (vp_updL z1 (16 : Int32).toNatClampNeg 0))))] := hD
  rw [show (vp_updL z1 (16 : Int32).toNatClampNeg 0) = z1 from updl_z1 _] at hP hD
  refine lv_iinc (v := 17) (lv' := [(3, .int 17), (0, .ref a), (1, .int so), (2, .int mn)]) hx hb dX8_lay_30 hl (k := 0) rfl (by decide) (by decide) rfl (fun ls hl => ?_)
  refine lv_goto (tgt := 17) hx hb dX8_lay_33 (by decide) ?_
  refine lv_iload_n hx hb dX8_lay_17 rfl (lv_at hl 0 rfl) ?_
  refine lv_bipush (v := 60) hx hb dX8_lay_18 (by decide) ?_
  refine lv_icmp_ge (tgt := 36) hx hb dX8_lay_20 (by decide) (fun h => absurd h (by decide)) (fun _ => ?_)
  refine lv_aload_n hx hb dX8_lay_23 rfl (lv_at hl 1 rfl) ?_
  refine va_get (D := D) (ci := 8) (v := .ref rw) (C := RX8) (T := TX8) (N := 4) hx hb hts ic_lay_X8 hown hK hP 0 rfl rfl 0 (by decide) (hts (.fieldLink RX8 9 "SaltStreet$Tray" "row" "[J") (List.mem_of_getElem? (i := 4) rfl)) (fun _ h9 => h9) rfl dX8_lay_24 ?_
  refine lv_iload_n hx hb dX8_lay_27 rfl (lv_at hl 0 rfl) ?_
  refine lv_lconst (v := 0) hx hb dX8_lay_28 (by decide) ?_
  refine va_last hx hb hK hP hD hS 1 1 (f := z1) rfl rfl (by unfold vp_in; decide) dX8_lay_29 (fun H locs hP hD hS => ?_)
  have hP : va_P D vwCl [(a, .inr (8, [.ref rw, .int 1, .int so, .int mn])), (rw, .inl (kc 1, 60, .inr (.inl (vp_updL z1 (17 : Int32).toNatClampNeg 0))))] H := hP
  have hD : va_D A [(a, .inr (8, [.ref rw, .int 1, .int so, .int mn])), (rw, .inl (kc 1, 60, .inr (.inl (vp_updL z1 (17 : Int32).toNatClampNeg 0))))] := hD
  rw [show (vp_updL z1 (17 : Int32).toNatClampNeg 0) = z1 from updl_z1 _] at hP hD
  refine lv_iinc (v := 18) (lv' := [(3, .int 18), (0, .ref a), (1, .int so), (2, .int mn)]) hx hb dX8_lay_30 hl (k := 0) rfl (by decide) (by decide) rfl (fun ls hl => ?_)
  refine lv_goto (tgt := 17) hx hb dX8_lay_33 (by decide) ?_
  refine lv_iload_n hx hb dX8_lay_17 rfl (lv_at hl 0 rfl) ?_
  refine lv_bipush (v := 60) hx hb dX8_lay_18 (by decide) ?_
  refine lv_icmp_ge (tgt := 36) hx hb dX8_lay_20 (by decide) (fun h => absurd h (by decide)) (fun _ => ?_)
  refine lv_aload_n hx hb dX8_lay_23 rfl (lv_at hl 1 rfl) ?_
  refine va_get (D := D) (ci := 8) (v := .ref rw) (C := RX8) (T := TX8) (N := 4) hx hb hts ic_lay_X8 hown hK hP 0 rfl rfl 0 (by decide) (hts (.fieldLink RX8 9 "SaltStreet$Tray" "row" "[J") (List.mem_of_getElem? (i := 4) rfl)) (fun _ h9 => h9) rfl dX8_lay_24 ?_
  refine lv_iload_n hx hb dX8_lay_27 rfl (lv_at hl 0 rfl) ?_
  refine lv_lconst (v := 0) hx hb dX8_lay_28 (by decide) ?_
  refine va_last hx hb hK hP hD hS 1 1 (f := z1) rfl rfl (by unfold vp_in; decide) dX8_lay_29 (fun H locs hP hD hS => ?_)
  have hP : va_P D vwCl [(a, .inr (8, [.ref rw, .int 1, .int so, .int mn])), (rw, .inl (kc 1, 60, .inr (.inl (vp_updL z1 (18 : Int32).toNatClampNeg 0))))] H := hP
  have hD : va_D A [(a, .inr (8, [.ref rw, .int 1, .int so, .int mn])), (rw, .inl (kc 1, 60, .inr (.inl (vp_updL z1 (18 : Int32).toNatClampNeg 0))))] := hD
  rw [show (vp_updL z1 (18 : Int32).toNatClampNeg 0) = z1 from updl_z1 _] at hP hD
  refine lv_iinc (v := 19) (lv' := [(3, .int 19), (0, .ref a), (1, .int so), (2, .int mn)]) hx hb dX8_lay_30 hl (k := 0) rfl (by decide) (by decide) rfl (fun ls hl => ?_)
  refine lv_goto (tgt := 17) hx hb dX8_lay_33 (by decide) ?_
  refine lv_iload_n hx hb dX8_lay_17 rfl (lv_at hl 0 rfl) ?_
  refine lv_bipush (v := 60) hx hb dX8_lay_18 (by decide) ?_
  refine lv_icmp_ge (tgt := 36) hx hb dX8_lay_20 (by decide) (fun h => absurd h (by decide)) (fun _ => ?_)
  refine lv_aload_n hx hb dX8_lay_23 rfl (lv_at hl 1 rfl) ?_
  refine va_get (D := D) (ci := 8) (v := .ref rw) (C := RX8) (T := TX8) (N := 4) hx hb hts ic_lay_X8 hown hK hP 0 rfl rfl 0 (by decide) (hts (.fieldLink RX8 9 "SaltStreet$Tray" "row" "[J") (List.mem_of_getElem? (i := 4) rfl)) (fun _ h9 => h9) rfl dX8_lay_24 ?_
  refine lv_iload_n hx hb dX8_lay_27 rfl (lv_at hl 0 rfl) ?_
  refine lv_lconst (v := 0) hx hb dX8_lay_28 (by decide) ?_
  refine va_last hx hb hK hP hD hS 1 1 (f := z1) rfl rfl (by unfold vp_in; decide) dX8_lay_29 (fun H locs hP hD hS => ?_)
  have hP : va_P D vwCl [(a, .inr (8, [.ref rw, .int 1, .int so, .int mn])), (rw, .inl (kc 1, 60, .inr (.inl (vp_updL z1 (19 : Int32).toNatClampNeg 0))))] H := hP
  have hD : va_D A [(a, .inr (8, [.ref rw, .int 1, .int so, .int mn])), (rw, .inl (kc 1, 60, .inr (.inl (vp_updL z1 (19 : Int32).toNatClampNeg 0))))] := hD
  rw [show (vp_updL z1 (19 : Int32).toNatClampNeg 0) = z1 from updl_z1 _] at hP hD
  refine lv_iinc (v := 20) (lv' := [(3, .int 20), (0, .ref a), (1, .int so), (2, .int mn)]) hx hb dX8_lay_30 hl (k := 0) rfl (by decide) (by decide) rfl (fun ls hl => ?_)
  refine lv_goto (tgt := 17) hx hb dX8_lay_33 (by decide) ?_
  refine lv_iload_n hx hb dX8_lay_17 rfl (lv_at hl 0 rfl) ?_
  refine lv_bipush (v := 60) hx hb dX8_lay_18 (by decide) ?_
  refine lv_icmp_ge (tgt := 36) hx hb dX8_lay_20 (by decide) (fun h => absurd h (by decide)) (fun _ => ?_)
  refine lv_aload_n hx hb dX8_lay_23 rfl (lv_at hl 1 rfl) ?_
  refine va_get (D := D) (ci := 8) (v := .ref rw) (C := RX8) (T := TX8) (N := 4) hx hb hts ic_lay_X8 hown hK hP 0 rfl rfl 0 (by decide) (hts (.fieldLink RX8 9 "SaltStreet$Tray" "row" "[J") (List.mem_of_getElem? (i := 4) rfl)) (fun _ h9 => h9) rfl dX8_lay_24 ?_
  refine lv_iload_n hx hb dX8_lay_27 rfl (lv_at hl 0 rfl) ?_
  refine lv_lconst (v := 0) hx hb dX8_lay_28 (by decide) ?_
  refine va_last hx hb hK hP hD hS 1 1 (f := z1) rfl rfl (by unfold vp_in; decide) dX8_lay_29 (fun H locs hP hD hS => ?_)
  have hP : va_P D vwCl [(a, .inr (8, [.ref rw, .int 1, .int so, .int mn])), (rw, .inl (kc 1, 60, .inr (.inl (vp_updL z1 (20 : Int32).toNatClampNeg 0))))] H := hP
  have hD : va_D A [(a, .inr (8, [.ref rw, .int 1, .int so, .int mn])), (rw, .inl (kc 1, 60, .inr (.inl (vp_updL z1 (20 : Int32).toNatClampNeg 0))))] := hD
  rw [show (vp_updL z1 (20 : Int32).toNatClampNeg 0) = z1 from updl_z1 _] at hP hD
  refine lv_iinc (v := 21) (lv' := [(3, .int 21), (0, .ref a), (1, .int so), (2, .int mn)]) hx hb dX8_lay_30 hl (k := 0) rfl (by decide) (by decide) rfl (fun ls hl => ?_)
  refine lv_goto (tgt := 17) hx hb dX8_lay_33 (by decide) ?_
  refine lv_iload_n hx hb dX8_lay_17 rfl (lv_at hl 0 rfl) ?_
  refine lv_bipush (v := 60) hx hb dX8_lay_18 (by decide) ?_
  refine lv_icmp_ge (tgt := 36) hx hb dX8_lay_20 (by decide) (fun h => absurd h (by decide)) (fun _ => ?_)
  refine lv_aload_n hx hb dX8_lay_23 rfl (lv_at hl 1 rfl) ?_
  refine va_get (D := D) (ci := 8) (v := .ref rw) (C := RX8) (T := TX8) (N := 4) hx hb hts ic_lay_X8 hown hK hP 0 rfl rfl 0 (by decide) (hts (.fieldLink RX8 9 "SaltStreet$Tray" "row" "[J") (List.mem_of_getElem? (i := 4) rfl)) (fun _ h9 => h9) rfl dX8_lay_24 ?_
  refine lv_iload_n hx hb dX8_lay_27 rfl (lv_at hl 0 rfl) ?_
  refine lv_lconst (v := 0) hx hb dX8_lay_28 (by decide) ?_
  refine va_last hx hb hK hP hD hS 1 1 (f := z1) rfl rfl (by unfold vp_in; decide) dX8_lay_29 (fun H locs hP hD hS => ?_)
  have hP : va_P D vwCl [(a, .inr (8, [.ref rw, .int 1, .int so, .int mn])), (rw, .inl (kc 1, 60, .inr (.inl (vp_updL z1 (21 : Int32).toNatClampNeg 0))))] H := hP
  have hD : va_D A [(a, .inr (8, [.ref rw, .int 1, .int so, .int mn])), (rw, .inl (kc 1, 60, .inr (.inl (vp_updL z1 (21 : Int32).toNatClampNeg 0))))] := hD
  rw [show (vp_updL z1 (21 : Int32).toNatClampNeg 0) = z1 from updl_z1 _] at hP hD
  refine lv_iinc (v := 22) (lv' := [(3, .int 22), (0, .ref a), (1, .int so), (2, .int mn)]) hx hb dX8_lay_30 hl (k := 0) rfl (by decide) (by decide) rfl (fun ls hl => ?_)
  refine lv_goto (tgt := 17) hx hb dX8_lay_33 (by decide) ?_
  refine lv_iload_n hx hb dX8_lay_17 rfl (lv_at hl 0 rfl) ?_
  refine lv_bipush (v := 60) hx hb dX8_lay_18 (by decide) ?_
  refine lv_icmp_ge (tgt := 36) hx hb dX8_lay_20 (by decide) (fun h => absurd h (by decide)) (fun _ => ?_)
  refine lv_aload_n hx hb dX8_lay_23 rfl (lv_at hl 1 rfl) ?_
  refine va_get (D := D) (ci := 8) (v := .ref rw) (C := RX8) (T := TX8) (N := 4) hx hb hts ic_lay_X8 hown hK hP 0 rfl rfl 0 (by decide) (hts (.fieldLink RX8 9 "SaltStreet$Tray" "row" "[J") (List.mem_of_getElem? (i := 4) rfl)) (fun _ h9 => h9) rfl dX8_lay_24 ?_
  refine lv_iload_n hx hb dX8_lay_27 rfl (lv_at hl 0 rfl) ?_
  refine lv_lconst (v := 0) hx hb dX8_lay_28 (by decide) ?_
  refine va_last hx hb hK hP hD hS 1 1 (f := z1) rfl rfl (by unfold vp_in; decide) dX8_lay_29 (fun H locs hP hD hS => ?_)
  have hP : va_P D vwCl [(a, .inr (8, [.ref rw, .int 1, .int so, .int mn])), (rw, .inl (kc 1, 60, .inr (.inl (vp_updL z1 (22 : Int32).toNatClampNeg 0))))] H := hP
  have hD : va_D A [(a, .inr (8, [.ref rw, .int 1, .int so, .int mn])), (rw, .inl (kc 1, 60, .inr (.inl (vp_updL z1 (22 : Int32).toNatClampNeg 0))))] := hD
  rw [show (vp_updL z1 (22 : Int32).toNatClampNeg 0) = z1 from updl_z1 _] at hP hD
  refine lv_iinc (v := 23) (lv' := [(3, .int 23), (0, .ref a), (1, .int so), (2, .int mn)]) hx hb dX8_lay_30 hl (k := 0) rfl (by decide) (by decide) rfl (fun ls hl => ?_)
  refine lv_goto (tgt := 17) hx hb dX8_lay_33 (by decide) ?_
  refine lv_iload_n hx hb dX8_lay_17 rfl (lv_at hl 0 rfl) ?_
  refine lv_bipush (v := 60) hx hb dX8_lay_18 (by decide) ?_
  refine lv_icmp_ge (tgt := 36) hx hb dX8_lay_20 (by decide) (fun h => absurd h (by decide)) (fun _ => ?_)
  refine lv_aload_n hx hb dX8_lay_23 rfl (lv_at hl 1 rfl) ?_
  refine va_get (D := D) (ci := 8) (v := .ref rw) (C := RX8) (T := TX8) (N := 4) hx hb hts ic_lay_X8 hown hK hP 0 rfl rfl 0 (by decide) (hts (.fieldLink RX8 9 "SaltStreet$Tray" "row" "[J") (List.mem_of_getElem? (i := 4) rfl)) (fun _ h9 => h9) rfl dX8_lay_24 ?_
  refine lv_iload_n hx hb dX8_lay_27 rfl (lv_at hl 0 rfl) ?_
  refine lv_lconst (v := 0) hx hb dX8_lay_28 (by decide) ?_
  refine va_last hx hb hK hP hD hS 1 1 (f := z1) rfl rfl (by unfold vp_in; decide) dX8_lay_29 (fun H locs hP hD hS => ?_)
  have hP : va_P D vwCl [(a, .inr (8, [.ref rw, .int 1, .int so, .int mn])), (rw, .inl (kc 1, 60, .inr (.inl (vp_updL z1 (23 : Int32).toNatClampNeg 0))))] H := hP
  have hD : va_D A [(a, .inr (8, [.ref rw, .int 1, .int so, .int mn])), (rw, .inl (kc 1, 60, .inr (.inl (vp_updL z1 (23 : Int32).toNatClampNeg 0))))] := hD
  rw [show (vp_updL z1 (23 : Int32).toNatClampNeg 0) = z1 from updl_z1 _] at hP hD
  refine lv_iinc (v := 24) (lv' := [(3, .int 24), (0, .ref a), (1, .int so), (2, .int mn)]) hx hb dX8_lay_30 hl (k := 0) rfl (by decide) (by decide) rfl (fun ls hl => ?_)
  refine lv_goto (tgt := 17) hx hb dX8_lay_33 (by decide) ?_
  refine lv_iload_n hx hb dX8_lay_17 rfl (lv_at hl 0 rfl) ?_
  refine lv_bipush (v := 60) hx hb dX8_lay_18 (by decide) ?_
  refine lv_icmp_ge (tgt := 36) hx hb dX8_lay_20 (by decide) (fun h => absurd h (by decide)) (fun _ => ?_)
  refine lv_aload_n hx hb dX8_lay_23 rfl (lv_at hl 1 rfl) ?_
  refine va_get (D := D) (ci := 8) (v := .ref rw) (C := RX8) (T := TX8) (N := 4) hx hb hts ic_lay_X8 hown hK hP 0 rfl rfl 0 (by decide) (hts (.fieldLink RX8 9 "SaltStreet$Tray" "row" "[J") (List.mem_of_getElem? (i := 4) rfl)) (fun _ h9 => h9) rfl dX8_lay_24 ?_
  refine lv_iload_n hx hb dX8_lay_27 rfl (lv_at hl 0 rfl) ?_
  refine lv_lconst (v := 0) hx hb dX8_lay_28 (by decide) ?_
  refine va_last hx hb hK hP hD hS 1 1 (f := z1) rfl rfl (by unfold vp_in; decide) dX8_lay_29 (fun H locs hP hD hS => ?_)
  have hP : va_P D vwCl [(a, .inr (8, [.ref rw, .int 1, .int so, .int mn])), (rw, .inl (kc 1, 60, .inr (.inl (vp_updL z1 (24 : Int32).toNatClampNeg 0))))] H := hP
  have hD : va_D A [(a, .inr (8, [.ref rw, .int 1, .int so, .int mn])), (rw, .inl (kc 1, 60, .inr (.inl (vp_updL z1 (24 : Int32).toNatClampNeg 0))))] := hD
  rw [show (vp_updL z1 (24 : Int32).toNatClampNeg 0) = z1 from updl_z1 _] at hP hD
  refine lv_iinc (v := 25) (lv' := [(3, .int 25), (0, .ref a), (1, .int so), (2, .int mn)]) hx hb dX8_lay_30 hl (k := 0) rfl (by decide) (by decide) rfl (fun ls hl => ?_)
  refine lv_goto (tgt := 17) hx hb dX8_lay_33 (by decide) ?_
  refine lv_iload_n hx hb dX8_lay_17 rfl (lv_at hl 0 rfl) ?_
  refine lv_bipush (v := 60) hx hb dX8_lay_18 (by decide) ?_
  refine lv_icmp_ge (tgt := 36) hx hb dX8_lay_20 (by decide) (fun h => absurd h (by decide)) (fun _ => ?_)
  refine lv_aload_n hx hb dX8_lay_23 rfl (lv_at hl 1 rfl) ?_
  refine va_get (D := D) (ci := 8) (v := .ref rw) (C := RX8) (T := TX8) (N := 4) hx hb hts ic_lay_X8 hown hK hP 0 rfl rfl 0 (by decide) (hts (.fieldLink RX8 9 "SaltStreet$Tray" "row" "[J") (List.mem_of_getElem? (i := 4) rfl)) (fun _ h9 => h9) rfl dX8_lay_24 ?_
  refine lv_iload_n hx hb dX8_lay_27 rfl (lv_at hl 0 rfl) ?_
  refine lv_lconst (v := 0) hx hb dX8_lay_28 (by decide) ?_
  refine va_last hx hb hK hP hD hS 1 1 (f := z1) rfl rfl (by unfold vp_in; decide) dX8_lay_29 (fun H locs hP hD hS => ?_)
  have hP : va_P D vwCl [(a, .inr (8, [.ref rw, .int 1, .int so, .int mn])), (rw, .inl (kc 1, 60, .inr (.inl (vp_updL z1 (25 : Int32).toNatClampNeg 0))))] H := hP
  have hD : va_D A [(a, .inr (8, [.ref rw, .int 1, .int so, .int mn])), (rw, .inl (kc 1, 60, .inr (.inl (vp_updL z1 (25 : Int32).toNatClampNeg 0))))] := hD
  rw [show (vp_updL z1 (25 : Int32).toNatClampNeg 0) = z1 from updl_z1 _] at hP hD
  refine lv_iinc (v := 26) (lv' := [(3, .int 26), (0, .ref a), (1, .int so), (2, .int mn)]) hx hb dX8_lay_30 hl (k := 0) rfl (by decide) (by decide) rfl (fun ls hl => ?_)
  refine lv_goto (tgt := 17) hx hb dX8_lay_33 (by decide) ?_
  refine lv_iload_n hx hb dX8_lay_17 rfl (lv_at hl 0 rfl) ?_
  refine lv_bipush (v := 60) hx hb dX8_lay_18 (by decide) ?_
  refine lv_icmp_ge (tgt := 36) hx hb dX8_lay_20 (by decide) (fun h => absurd h (by decide)) (fun _ => ?_)
  refine lv_aload_n hx hb dX8_lay_23 rfl (lv_at hl 1 rfl) ?_
  refine va_get (D := D) (ci := 8) (v := .ref rw) (C := RX8) (T := TX8) (N := 4) hx hb hts ic_lay_X8 hown hK hP 0 rfl rfl 0 (by decide) (hts (.fieldLink RX8 9 "SaltStreet$Tray" "row" "[J") (List.mem_of_getElem? (i := 4) rfl)) (fun _ h9 => h9) rfl dX8_lay_24 ?_
  refine lv_iload_n hx hb dX8_lay_27 rfl (lv_at hl 0 rfl) ?_
  refine lv_lconst (v := 0) hx hb dX8_lay_28 (by decide) ?_
  refine va_last hx hb hK hP hD hS 1 1 (f := z1) rfl rfl (by unfold vp_in; decide) dX8_lay_29 (fun H locs hP hD hS => ?_)
  have hP : va_P D vwCl [(a, .inr (8, [.ref rw, .int 1, .int so, .int mn])), (rw, .inl (kc 1, 60, .inr (.inl (vp_updL z1 (26 : Int32).toNatClampNeg 0))))] H := hP
  have hD : va_D A [(a, .inr (8, [.ref rw, .int 1, .int so, .int mn])), (rw, .inl (kc 1, 60, .inr (.inl (vp_updL z1 (26 : Int32).toNatClampNeg 0))))] := hD
  rw [show (vp_updL z1 (26 : Int32).toNatClampNeg 0) = z1 from updl_z1 _] at hP hD
  refine lv_iinc (v := 27) (lv' := [(3, .int 27), (0, .ref a), (1, .int so), (2, .int mn)]) hx hb dX8_lay_30 hl (k := 0) rfl (by decide) (by decide) rfl (fun ls hl => ?_)
  refine lv_goto (tgt := 17) hx hb dX8_lay_33 (by decide) ?_
  refine lv_iload_n hx hb dX8_lay_17 rfl (lv_at hl 0 rfl) ?_
  refine lv_bipush (v := 60) hx hb dX8_lay_18 (by decide) ?_
  refine lv_icmp_ge (tgt := 36) hx hb dX8_lay_20 (by decide) (fun h => absurd h (by decide)) (fun _ => ?_)
  refine lv_aload_n hx hb dX8_lay_23 rfl (lv_at hl 1 rfl) ?_
  refine va_get (D := D) (ci := 8) (v := .ref rw) (C := RX8) (T := TX8) (N := 4) hx hb hts ic_lay_X8 hown hK hP 0 rfl rfl 0 (by decide) (hts (.fieldLink RX8 9 "SaltStreet$Tray" "row" "[J") (List.mem_of_getElem? (i := 4) rfl)) (fun _ h9 => h9) rfl dX8_lay_24 ?_
  refine lv_iload_n hx hb dX8_lay_27 rfl (lv_at hl 0 rfl) ?_
  refine lv_lconst (v := 0) hx hb dX8_lay_28 (by decide) ?_
  refine va_last hx hb hK hP hD hS 1 1 (f := z1) rfl rfl (by unfold vp_in; decide) dX8_lay_29 (fun H locs hP hD hS => ?_)
  have hP : va_P D vwCl [(a, .inr (8, [.ref rw, .int 1, .int so, .int mn])), (rw, .inl (kc 1, 60, .inr (.inl (vp_updL z1 (27 : Int32).toNatClampNeg 0))))] H := hP
  have hD : va_D A [(a, .inr (8, [.ref rw, .int 1, .int so, .int mn])), (rw, .inl (kc 1, 60, .inr (.inl (vp_updL z1 (27 : Int32).toNatClampNeg 0))))] := hD
  rw [show (vp_updL z1 (27 : Int32).toNatClampNeg 0) = z1 from updl_z1 _] at hP hD
  refine lv_iinc (v := 28) (lv' := [(3, .int 28), (0, .ref a), (1, .int so), (2, .int mn)]) hx hb dX8_lay_30 hl (k := 0) rfl (by decide) (by decide) rfl (fun ls hl => ?_)
  refine lv_goto (tgt := 17) hx hb dX8_lay_33 (by decide) ?_
  refine lv_iload_n hx hb dX8_lay_17 rfl (lv_at hl 0 rfl) ?_
  refine lv_bipush (v := 60) hx hb dX8_lay_18 (by decide) ?_
  refine lv_icmp_ge (tgt := 36) hx hb dX8_lay_20 (by decide) (fun h => absurd h (by decide)) (fun _ => ?_)
  refine lv_aload_n hx hb dX8_lay_23 rfl (lv_at hl 1 rfl) ?_
  refine va_get (D := D) (ci := 8) (v := .ref rw) (C := RX8) (T := TX8) (N := 4) hx hb hts ic_lay_X8 hown hK hP 0 rfl rfl 0 (by decide) (hts (.fieldLink RX8 9 "SaltStreet$Tray" "row" "[J") (List.mem_of_getElem? (i := 4) rfl)) (fun _ h9 => h9) rfl dX8_lay_24 ?_
  refine lv_iload_n hx hb dX8_lay_27 rfl (lv_at hl 0 rfl) ?_
  refine lv_lconst (v := 0) hx hb dX8_lay_28 (by decide) ?_
  refine va_last hx hb hK hP hD hS 1 1 (f := z1) rfl rfl (by unfold vp_in; decide) dX8_lay_29 (fun H locs hP hD hS => ?_)
  have hP : va_P D vwCl [(a, .inr (8, [.ref rw, .int 1, .int so, .int mn])), (rw, .inl (kc 1, 60, .inr (.inl (vp_updL z1 (28 : Int32).toNatClampNeg 0))))] H := hP
  have hD : va_D A [(a, .inr (8, [.ref rw, .int 1, .int so, .int mn])), (rw, .inl (kc 1, 60, .inr (.inl (vp_updL z1 (28 : Int32).toNatClampNeg 0))))] := hD
  rw [show (vp_updL z1 (28 : Int32).toNatClampNeg 0) = z1 from updl_z1 _] at hP hD
  refine lv_iinc (v := 29) (lv' := [(3, .int 29), (0, .ref a), (1, .int so), (2, .int mn)]) hx hb dX8_lay_30 hl (k := 0) rfl (by decide) (by decide) rfl (fun ls hl => ?_)
  refine lv_goto (tgt := 17) hx hb dX8_lay_33 (by decide) ?_
  refine lv_iload_n hx hb dX8_lay_17 rfl (lv_at hl 0 rfl) ?_
  refine lv_bipush (v := 60) hx hb dX8_lay_18 (by decide) ?_
  refine lv_icmp_ge (tgt := 36) hx hb dX8_lay_20 (by decide) (fun h => absurd h (by decide)) (fun _ => ?_)
  refine lv_aload_n hx hb dX8_lay_23 rfl (lv_at hl 1 rfl) ?_
  refine va_get (D := D) (ci := 8) (v := .ref rw) (C := RX8) (T := TX8) (N := 4) hx hb hts ic_lay_X8 hown hK hP 0 rfl rfl 0 (by decide) (hts (.fieldLink RX8 9 "SaltStreet$Tray" "row" "[J") (List.mem_of_getElem? (i := 4) rfl)) (fun _ h9 => h9) rfl dX8_lay_24 ?_
  refine lv_iload_n hx hb dX8_lay_27 rfl (lv_at hl 0 rfl) ?_
  refine lv_lconst (v := 0) hx hb dX8_lay_28 (by decide) ?_
  refine va_last hx hb hK hP hD hS 1 1 (f := z1) rfl rfl (by unfold vp_in; decide) dX8_lay_29 (fun H locs hP hD hS => ?_)
  have hP : va_P D vwCl [(a, .inr (8, [.ref rw, .int 1, .int so, .int mn])), (rw, .inl (kc 1, 60, .inr (.inl (vp_updL z1 (29 : Int32).toNatClampNeg 0))))] H := hP
  have hD : va_D A [(a, .inr (8, [.ref rw, .int 1, .int so, .int mn])), (rw, .inl (kc 1, 60, .inr (.inl (vp_updL z1 (29 : Int32).toNatClampNeg 0))))] := hD
  rw [show (vp_updL z1 (29 : Int32).toNatClampNeg 0) = z1 from updl_z1 _] at hP hD
  refine lv_iinc (v := 30) (lv' := [(3, .int 30), (0, .ref a), (1, .int so), (2, .int mn)]) hx hb dX8_lay_30 hl (k := 0) rfl (by decide) (by decide) rfl (fun ls hl => ?_)
  refine lv_goto (tgt := 17) hx hb dX8_lay_33 (by decide) ?_
  refine lv_iload_n hx hb dX8_lay_17 rfl (lv_at hl 0 rfl) ?_
  refine lv_bipush (v := 60) hx hb dX8_lay_18 (by decide) ?_
  refine lv_icmp_ge (tgt := 36) hx hb dX8_lay_20 (by decide) (fun h => absurd h (by decide)) (fun _ => ?_)
  refine lv_aload_n hx hb dX8_lay_23 rfl (lv_at hl 1 rfl) ?_
  refine va_get (D := D) (ci := 8) (v := .ref rw) (C := RX8) (T := TX8) (N := 4) hx hb hts ic_lay_X8 hown hK hP 0 rfl rfl 0 (by decide) (hts (.fieldLink RX8 9 "SaltStreet$Tray" "row" "[J") (List.mem_of_getElem? (i := 4) rfl)) (fun _ h9 => h9) rfl dX8_lay_24 ?_
  refine lv_iload_n hx hb dX8_lay_27 rfl (lv_at hl 0 rfl) ?_
  refine lv_lconst (v := 0) hx hb dX8_lay_28 (by decide) ?_
  refine va_last hx hb hK hP hD hS 1 1 (f := z1) rfl rfl (by unfold vp_in; decide) dX8_lay_29 (fun H locs hP hD hS => ?_)
  have hP : va_P D vwCl [(a, .inr (8, [.ref rw, .int 1, .int so, .int mn])), (rw, .inl (kc 1, 60, .inr (.inl (vp_updL z1 (30 : Int32).toNatClampNeg 0))))] H := hP
  have hD : va_D A [(a, .inr (8, [.ref rw, .int 1, .int so, .int mn])), (rw, .inl (kc 1, 60, .inr (.inl (vp_updL z1 (30 : Int32).toNatClampNeg 0))))] := hD
  rw [show (vp_updL z1 (30 : Int32).toNatClampNeg 0) = z1 from updl_z1 _] at hP hD
  refine lv_iinc (v := 31) (lv' := [(3, .int 31), (0, .ref a), (1, .int so), (2, .int mn)]) hx hb dX8_lay_30 hl (k := 0) rfl (by decide) (by decide) rfl (fun ls hl => ?_)
  refine lv_goto (tgt := 17) hx hb dX8_lay_33 (by decide) ?_
  refine lv_iload_n hx hb dX8_lay_17 rfl (lv_at hl 0 rfl) ?_
  refine lv_bipush (v := 60) hx hb dX8_lay_18 (by decide) ?_
  refine lv_icmp_ge (tgt := 36) hx hb dX8_lay_20 (by decide) (fun h => absurd h (by decide)) (fun _ => ?_)
  refine lv_aload_n hx hb dX8_lay_23 rfl (lv_at hl 1 rfl) ?_
  refine va_get (D := D) (ci := 8) (v := .ref rw) (C := RX8) (T := TX8) (N := 4) hx hb hts ic_lay_X8 hown hK hP 0 rfl rfl 0 (by decide) (hts (.fieldLink RX8 9 "SaltStreet$Tray" "row" "[J") (List.mem_of_getElem? (i := 4) rfl)) (fun _ h9 => h9) rfl dX8_lay_24 ?_
  refine lv_iload_n hx hb dX8_lay_27 rfl (lv_at hl 0 rfl) ?_
  refine lv_lconst (v := 0) hx hb dX8_lay_28 (by decide) ?_
  refine va_last hx hb hK hP hD hS 1 1 (f := z1) rfl rfl (by unfold vp_in; decide) dX8_lay_29 (fun H locs hP hD hS => ?_)
  have hP : va_P D vwCl [(a, .inr (8, [.ref rw, .int 1, .int so, .int mn])), (rw, .inl (kc 1, 60, .inr (.inl (vp_updL z1 (31 : Int32).toNatClampNeg 0))))] H := hP
  have hD : va_D A [(a, .inr (8, [.ref rw, .int 1, .int so, .int mn])), (rw, .inl (kc 1, 60, .inr (.inl (vp_updL z1 (31 : Int32).toNatClampNeg 0))))] := hD
  rw [show (vp_updL z1 (31 : Int32).toNatClampNeg 0) = z1 from updl_z1 _] at hP hD
  refine lv_iinc (v := 32) (lv' := [(3, .int 32), (0, .ref a), (1, .int so), (2, .int mn)]) hx hb dX8_lay_30 hl (k := 0) rfl (by decide) (by decide) rfl (fun ls hl => ?_)
  refine lv_goto (tgt := 17) hx hb dX8_lay_33 (by decide) ?_
  refine lv_iload_n hx hb dX8_lay_17 rfl (lv_at hl 0 rfl) ?_
  refine lv_bipush (v := 60) hx hb dX8_lay_18 (by decide) ?_
  refine lv_icmp_ge (tgt := 36) hx hb dX8_lay_20 (by decide) (fun h => absurd h (by decide)) (fun _ => ?_)
  refine lv_aload_n hx hb dX8_lay_23 rfl (lv_at hl 1 rfl) ?_
  refine va_get (D := D) (ci := 8) (v := .ref rw) (C := RX8) (T := TX8) (N := 4) hx hb hts ic_lay_X8 hown hK hP 0 rfl rfl 0 (by decide) (hts (.fieldLink RX8 9 "SaltStreet$Tray" "row" "[J") (List.mem_of_getElem? (i := 4) rfl)) (fun _ h9 => h9) rfl dX8_lay_24 ?_
  refine lv_iload_n hx hb dX8_lay_27 rfl (lv_at hl 0 rfl) ?_
  refine lv_lconst (v := 0) hx hb dX8_lay_28 (by decide) ?_
  refine va_last hx hb hK hP hD hS 1 1 (f := z1) rfl rfl (by unfold vp_in; decide) dX8_lay_29 (fun H locs hP hD hS => ?_)
  have hP : va_P D vwCl [(a, .inr (8, [.ref rw, .int 1, .int so, .int mn])), (rw, .inl (kc 1, 60, .inr (.inl (vp_updL z1 (32 : Int32).toNatClampNeg 0))))] H := hP
  have hD : va_D A [(a, .inr (8, [.ref rw, .int 1, .int so, .int mn])), (rw, .inl (kc 1, 60, .inr (.inl (vp_updL z1 (32 : Int32).toNatClampNeg 0))))] := hD
  rw [show (vp_updL z1 (32 : Int32).toNatClampNeg 0) = z1 from updl_z1 _] at hP hD
  refine lv_iinc (v := 33) (lv' := [(3, .int 33), (0, .ref a), (1, .int so), (2, .int mn)]) hx hb dX8_lay_30 hl (k := 0) rfl (by decide) (by decide) rfl (fun ls hl => ?_)
  refine lv_goto (tgt := 17) hx hb dX8_lay_33 (by decide) ?_
  refine lv_iload_n hx hb dX8_lay_17 rfl (lv_at hl 0 rfl) ?_
  refine lv_bipush (v := 60) hx hb dX8_lay_18 (by decide) ?_
  refine lv_icmp_ge (tgt := 36) hx hb dX8_lay_20 (by decide) (fun h => absurd h (by decide)) (fun _ => ?_)
  refine lv_aload_n hx hb dX8_lay_23 rfl (lv_at hl 1 rfl) ?_
  refine va_get (D := D) (ci := 8) (v := .ref rw) (C := RX8) (T := TX8) (N := 4) hx hb hts ic_lay_X8 hown hK hP 0 rfl rfl 0 (by decide) (hts (.fieldLink RX8 9 "SaltStreet$Tray" "row" "[J") (List.mem_of_getElem? (i := 4) rfl)) (fun _ h9 => h9) rfl dX8_lay_24 ?_
  refine lv_iload_n hx hb dX8_lay_27 rfl (lv_at hl 0 rfl) ?_
  refine lv_lconst (v := 0) hx hb dX8_lay_28 (by decide) ?_
  refine va_last hx hb hK hP hD hS 1 1 (f := z1) rfl rfl (by unfold vp_in; decide) dX8_lay_29 (fun H locs hP hD hS => ?_)
  have hP : va_P D vwCl [(a, .inr (8, [.ref rw, .int 1, .int so, .int mn])), (rw, .inl (kc 1, 60, .inr (.inl (vp_updL z1 (33 : Int32).toNatClampNeg 0))))] H := hP
  have hD : va_D A [(a, .inr (8, [.ref rw, .int 1, .int so, .int mn])), (rw, .inl (kc 1, 60, .inr (.inl (vp_updL z1 (33 : Int32).toNatClampNeg 0))))] := hD
  rw [show (vp_updL z1 (33 : Int32).toNatClampNeg 0) = z1 from updl_z1 _] at hP hD
  refine lv_iinc (v := 34) (lv' := [(3, .int 34), (0, .ref a), (1, .int so), (2, .int mn)]) hx hb dX8_lay_30 hl (k := 0) rfl (by decide) (by decide) rfl (fun ls hl => ?_)
  refine lv_goto (tgt := 17) hx hb dX8_lay_33 (by decide) ?_
  refine lv_iload_n hx hb dX8_lay_17 rfl (lv_at hl 0 rfl) ?_
  refine lv_bipush (v := 60) hx hb dX8_lay_18 (by decide) ?_
  refine lv_icmp_ge (tgt := 36) hx hb dX8_lay_20 (by decide) (fun h => absurd h (by decide)) (fun _ => ?_)
  refine lv_aload_n hx hb dX8_lay_23 rfl (lv_at hl 1 rfl) ?_
  refine va_get (D := D) (ci := 8) (v := .ref rw) (C := RX8) (T := TX8) (N := 4) hx hb hts ic_lay_X8 hown hK hP 0 rfl rfl 0 (by decide) (hts (.fieldLink RX8 9 "SaltStreet$Tray" "row" "[J") (List.mem_of_getElem? (i := 4) rfl)) (fun _ h9 => h9) rfl dX8_lay_24 ?_
  refine lv_iload_n hx hb dX8_lay_27 rfl (lv_at hl 0 rfl) ?_
  refine lv_lconst (v := 0) hx hb dX8_lay_28 (by decide) ?_
  refine va_last hx hb hK hP hD hS 1 1 (f := z1) rfl rfl (by unfold vp_in; decide) dX8_lay_29 (fun H locs hP hD hS => ?_)
  have hP : va_P D vwCl [(a, .inr (8, [.ref rw, .int 1, .int so, .int mn])), (rw, .inl (kc 1, 60, .inr (.inl (vp_updL z1 (34 : Int32).toNatClampNeg 0))))] H := hP
  have hD : va_D A [(a, .inr (8, [.ref rw, .int 1, .int so, .int mn])), (rw, .inl (kc 1, 60, .inr (.inl (vp_updL z1 (34 : Int32).toNatClampNeg 0))))] := hD
  rw [show (vp_updL z1 (34 : Int32).toNatClampNeg 0) = z1 from updl_z1 _] at hP hD
  refine lv_iinc (v := 35) (lv' := [(3, .int 35), (0, .ref a), (1, .int so), (2, .int mn)]) hx hb dX8_lay_30 hl (k := 0) rfl (by decide) (by decide) rfl (fun ls hl => ?_)
  refine lv_goto (tgt := 17) hx hb dX8_lay_33 (by decide) ?_
  refine lv_iload_n hx hb dX8_lay_17 rfl (lv_at hl 0 rfl) ?_
  refine lv_bipush (v := 60) hx hb dX8_lay_18 (by decide) ?_
  refine lv_icmp_ge (tgt := 36) hx hb dX8_lay_20 (by decide) (fun h => absurd h (by decide)) (fun _ => ?_)
  refine lv_aload_n hx hb dX8_lay_23 rfl (lv_at hl 1 rfl) ?_
  refine va_get (D := D) (ci := 8) (v := .ref rw) (C := RX8) (T := TX8) (N := 4) hx hb hts ic_lay_X8 hown hK hP 0 rfl rfl 0 (by decide) (hts (.fieldLink RX8 9 "SaltStreet$Tray" "row" "[J") (List.mem_of_getElem? (i := 4) rfl)) (fun _ h9 => h9) rfl dX8_lay_24 ?_
  refine lv_iload_n hx hb dX8_lay_27 rfl (lv_at hl 0 rfl) ?_
  refine lv_lconst (v := 0) hx hb dX8_lay_28 (by decide) ?_
  refine va_last hx hb hK hP hD hS 1 1 (f := z1) rfl rfl (by unfold vp_in; decide) dX8_lay_29 (fun H locs hP hD hS => ?_)
  have hP : va_P D vwCl [(a, .inr (8, [.ref rw, .int 1, .int so, .int mn])), (rw, .inl (kc 1, 60, .inr (.inl (vp_updL z1 (35 : Int32).toNatClampNeg 0))))] H := hP
  have hD : va_D A [(a, .inr (8, [.ref rw, .int 1, .int so, .int mn])), (rw, .inl (kc 1, 60, .inr (.inl (vp_updL z1 (35 : Int32).toNatClampNeg 0))))] := hD
  rw [show (vp_updL z1 (35 : Int32).toNatClampNeg 0) = z1 from updl_z1 _] at hP hD
  refine lv_iinc (v := 36) (lv' := [(3, .int 36), (0, .ref a), (1, .int so), (2, .int mn)]) hx hb dX8_lay_30 hl (k := 0) rfl (by decide) (by decide) rfl (fun ls hl => ?_)
  refine lv_goto (tgt := 17) hx hb dX8_lay_33 (by decide) ?_
  refine lv_iload_n hx hb dX8_lay_17 rfl (lv_at hl 0 rfl) ?_
  refine lv_bipush (v := 60) hx hb dX8_lay_18 (by decide) ?_
  refine lv_icmp_ge (tgt := 36) hx hb dX8_lay_20 (by decide) (fun h => absurd h (by decide)) (fun _ => ?_)
  refine lv_aload_n hx hb dX8_lay_23 rfl (lv_at hl 1 rfl) ?_
  refine va_get (D := D) (ci := 8) (v := .ref rw) (C := RX8) (T := TX8) (N := 4) hx hb hts ic_lay_X8 hown hK hP 0 rfl rfl 0 (by decide) (hts (.fieldLink RX8 9 "SaltStreet$Tray" "row" "[J") (List.mem_of_getElem? (i := 4) rfl)) (fun _ h9 => h9) rfl dX8_lay_24 ?_
  refine lv_iload_n hx hb dX8_lay_27 rfl (lv_at hl 0 rfl) ?_
  refine lv_lconst (v := 0) hx hb dX8_lay_28 (by decide) ?_
  refine va_last hx hb hK hP hD hS 1 1 (f := z1) rfl rfl (by unfold vp_in; decide) dX8_lay_29 (fun H locs hP hD hS => ?_)
  have hP : va_P D vwCl [(a, .inr (8, [.ref rw, .int 1, .int so, .int mn])), (rw, .inl (kc 1, 60, .inr (.inl (vp_updL z1 (36 : Int32).toNatClampNeg 0))))] H := hP
  have hD : va_D A [(a, .inr (8, [.ref rw, .int 1, .int so, .int mn])), (rw, .inl (kc 1, 60, .inr (.inl (vp_updL z1 (36 : Int32).toNatClampNeg 0))))] := hD
  rw [show (vp_updL z1 (36 : Int32).toNatClampNeg 0) = z1 from updl_z1 _] at hP hD
  refine lv_iinc (v := 37) (lv' := [(3, .int 37), (0, .ref a), (1, .int so), (2, .int mn)]) hx hb dX8_lay_30 hl (k := 0) rfl (by decide) (by decide) rfl (fun ls hl => ?_)
  refine lv_goto (tgt := 17) hx hb dX8_lay_33 (by decide) ?_
  refine lv_iload_n hx hb dX8_lay_17 rfl (lv_at hl 0 rfl) ?_
  refine lv_bipush (v := 60) hx hb dX8_lay_18 (by decide) ?_
  refine lv_icmp_ge (tgt := 36) hx hb dX8_lay_20 (by decide) (fun h => absurd h (by decide)) (fun _ => ?_)
  refine lv_aload_n hx hb dX8_lay_23 rfl (lv_at hl 1 rfl) ?_
  refine va_get (D := D) (ci := 8) (v := .ref rw) (C := RX8) (T := TX8) (N := 4) hx hb hts ic_lay_X8 hown hK hP 0 rfl rfl 0 (by decide) (hts (.fieldLink RX8 9 "SaltStreet$Tray" "row" "[J") (List.mem_of_getElem? (i := 4) rfl)) (fun _ h9 => h9) rfl dX8_lay_24 ?_
  refine lv_iload_n hx hb dX8_lay_27 rfl (lv_at hl 0 rfl) ?_
  refine lv_lconst (v := 0) hx hb dX8_lay_28 (by decide) ?_
  refine va_last hx hb hK hP hD hS 1 1 (f := z1) rfl rfl (by unfold vp_in; decide) dX8_lay_29 (fun H locs hP hD hS => ?_)
  have hP : va_P D vwCl [(a, .inr (8, [.ref rw, .int 1, .int so, .int mn])), (rw, .inl (kc 1, 60, .inr (.inl (vp_updL z1 (37 : Int32).toNatClampNeg 0))))] H := hP
  have hD : va_D A [(a, .inr (8, [.ref rw, .int 1, .int so, .int mn])), (rw, .inl (kc 1, 60, .inr (.inl (vp_updL z1 (37 : Int32).toNatClampNeg 0))))] := hD
  rw [show (vp_updL z1 (37 : Int32).toNatClampNeg 0) = z1 from updl_z1 _] at hP hD
  refine lv_iinc (v := 38) (lv' := [(3, .int 38), (0, .ref a), (1, .int so), (2, .int mn)]) hx hb dX8_lay_30 hl (k := 0) rfl (by decide) (by decide) rfl (fun ls hl => ?_)
  refine lv_goto (tgt := 17) hx hb dX8_lay_33 (by decide) ?_
  refine lv_iload_n hx hb dX8_lay_17 rfl (lv_at hl 0 rfl) ?_
  refine lv_bipush (v := 60) hx hb dX8_lay_18 (by decide) ?_
  refine lv_icmp_ge (tgt := 36) hx hb dX8_lay_20 (by decide) (fun h => absurd h (by decide)) (fun _ => ?_)
  refine lv_aload_n hx hb dX8_lay_23 rfl (lv_at hl 1 rfl) ?_
  refine va_get (D := D) (ci := 8) (v := .ref rw) (C := RX8) (T := TX8) (N := 4) hx hb hts ic_lay_X8 hown hK hP 0 rfl rfl 0 (by decide) (hts (.fieldLink RX8 9 "SaltStreet$Tray" "row" "[J") (List.mem_of_getElem? (i := 4) rfl)) (fun _ h9 => h9) rfl dX8_lay_24 ?_
  refine lv_iload_n hx hb dX8_lay_27 rfl (lv_at hl 0 rfl) ?_
  refine lv_lconst (v := 0) hx hb dX8_lay_28 (by decide) ?_
  refine va_last hx hb hK hP hD hS 1 1 (f := z1) rfl rfl (by unfold vp_in; decide) dX8_lay_29 (fun H locs hP hD hS => ?_)
  have hP : va_P D vwCl [(a, .inr (8, [.ref rw, .int 1, .int so, .int mn])), (rw, .inl (kc 1, 60, .inr (.inl (vp_updL z1 (38 : Int32).toNatClampNeg 0))))] H := hP
  have hD : va_D A [(a, .inr (8, [.ref rw, .int 1, .int so, .int mn])), (rw, .inl (kc 1, 60, .inr (.inl (vp_updL z1 (38 : Int32).toNatClampNeg 0))))] := hD
  rw [show (vp_updL z1 (38 : Int32).toNatClampNeg 0) = z1 from updl_z1 _] at hP hD
  refine lv_iinc (v := 39) (lv' := [(3, .int 39), (0, .ref a), (1, .int so), (2, .int mn)]) hx hb dX8_lay_30 hl (k := 0) rfl (by decide) (by decide) rfl (fun ls hl => ?_)
  refine lv_goto (tgt := 17) hx hb dX8_lay_33 (by decide) ?_
  refine lv_iload_n hx hb dX8_lay_17 rfl (lv_at hl 0 rfl) ?_
  refine lv_bipush (v := 60) hx hb dX8_lay_18 (by decide) ?_
  refine lv_icmp_ge (tgt := 36) hx hb dX8_lay_20 (by decide) (fun h => absurd h (by decide)) (fun _ => ?_)
  refine lv_aload_n hx hb dX8_lay_23 rfl (lv_at hl 1 rfl) ?_
  refine va_get (D := D) (ci := 8) (v := .ref rw) (C := RX8) (T := TX8) (N := 4) hx hb hts ic_lay_X8 hown hK hP 0 rfl rfl 0 (by decide) (hts (.fieldLink RX8 9 "SaltStreet$Tray" "row" "[J") (List.mem_of_getElem? (i := 4) rfl)) (fun _ h9 => h9) rfl dX8_lay_24 ?_
  refine lv_iload_n hx hb dX8_lay_27 rfl (lv_at hl 0 rfl) ?_
  refine lv_lconst (v := 0) hx hb dX8_lay_28 (by decide) ?_
  refine va_last hx hb hK hP hD hS 1 1 (f := z1) rfl rfl (by unfold vp_in; decide) dX8_lay_29 (fun H locs hP hD hS => ?_)
  have hP : va_P D vwCl [(a, .inr (8, [.ref rw, .int 1, .int so, .int mn])), (rw, .inl (kc 1, 60, .inr (.inl (vp_updL z1 (39 : Int32).toNatClampNeg 0))))] H := hP
  have hD : va_D A [(a, .inr (8, [.ref rw, .int 1, .int so, .int mn])), (rw, .inl (kc 1, 60, .inr (.inl (vp_updL z1 (39 : Int32).toNatClampNeg 0))))] := hD
  rw [show (vp_updL z1 (39 : Int32).toNatClampNeg 0) = z1 from updl_z1 _] at hP hD
  refine lv_iinc (v := 40) (lv' := [(3, .int 40), (0, .ref a), (1, .int so), (2, .int mn)]) hx hb dX8_lay_30 hl (k := 0) rfl (by decide) (by decide) rfl (fun ls hl => ?_)
  refine lv_goto (tgt := 17) hx hb dX8_lay_33 (by decide) ?_
  refine lv_iload_n hx hb dX8_lay_17 rfl (lv_at hl 0 rfl) ?_
  refine lv_bipush (v := 60) hx hb dX8_lay_18 (by decide) ?_
  refine lv_icmp_ge (tgt := 36) hx hb dX8_lay_20 (by decide) (fun h => absurd h (by decide)) (fun _ => ?_)
  refine lv_aload_n hx hb dX8_lay_23 rfl (lv_at hl 1 rfl) ?_
  refine va_get (D := D) (ci := 8) (v := .ref rw) (C := RX8) (T := TX8) (N := 4) hx hb hts ic_lay_X8 hown hK hP 0 rfl rfl 0 (by decide) (hts (.fieldLink RX8 9 "SaltStreet$Tray" "row" "[J") (List.mem_of_getElem? (i := 4) rfl)) (fun _ h9 => h9) rfl dX8_lay_24 ?_
  refine lv_iload_n hx hb dX8_lay_27 rfl (lv_at hl 0 rfl) ?_
  refine lv_lconst (v := 0) hx hb dX8_lay_28 (by decide) ?_
  refine va_last hx hb hK hP hD hS 1 1 (f := z1) rfl rfl (by unfold vp_in; decide) dX8_lay_29 (fun H locs hP hD hS => ?_)
  have hP : va_P D vwCl [(a, .inr (8, [.ref rw, .int 1, .int so, .int mn])), (rw, .inl (kc 1, 60, .inr (.inl (vp_updL z1 (40 : Int32).toNatClampNeg 0))))] H := hP
  have hD : va_D A [(a, .inr (8, [.ref rw, .int 1, .int so, .int mn])), (rw, .inl (kc 1, 60, .inr (.inl (vp_updL z1 (40 : Int32).toNatClampNeg 0))))] := hD
  rw [show (vp_updL z1 (40 : Int32).toNatClampNeg 0) = z1 from updl_z1 _] at hP hD
  refine lv_iinc (v := 41) (lv' := [(3, .int 41), (0, .ref a), (1, .int so), (2, .int mn)]) hx hb dX8_lay_30 hl (k := 0) rfl (by decide) (by decide) rfl (fun ls hl => ?_)
  refine lv_goto (tgt := 17) hx hb dX8_lay_33 (by decide) ?_
  refine lv_iload_n hx hb dX8_lay_17 rfl (lv_at hl 0 rfl) ?_
  refine lv_bipush (v := 60) hx hb dX8_lay_18 (by decide) ?_
  refine lv_icmp_ge (tgt := 36) hx hb dX8_lay_20 (by decide) (fun h => absurd h (by decide)) (fun _ => ?_)
  refine lv_aload_n hx hb dX8_lay_23 rfl (lv_at hl 1 rfl) ?_
  refine va_get (D := D) (ci := 8) (v := .ref rw) (C := RX8) (T := TX8) (N := 4) hx hb hts ic_lay_X8 hown hK hP 0 rfl rfl 0 (by decide) (hts (.fieldLink RX8 9 "SaltStreet$Tray" "row" "[J") (List.mem_of_getElem? (i := 4) rfl)) (fun _ h9 => h9) rfl dX8_lay_24 ?_
  refine lv_iload_n hx hb dX8_lay_27 rfl (lv_at hl 0 rfl) ?_
  refine lv_lconst (v := 0) hx hb dX8_lay_28 (by decide) ?_
  refine va_last hx hb hK hP hD hS 1 1 (f := z1) rfl rfl (by unfold vp_in; decide) dX8_lay_29 (fun H locs hP hD hS => ?_)
  have hP : va_P D vwCl [(a, .inr (8, [.ref rw, .int 1, .int so, .int mn])), (rw, .inl (kc 1, 60, .inr (.inl (vp_updL z1 (41 : Int32).toNatClampNeg 0))))] H := hP
  have hD : va_D A [(a, .inr (8, [.ref rw, .int 1, .int so, .int mn])), (rw, .inl (kc 1, 60, .inr (.inl (vp_updL z1 (41 : Int32).toNatClampNeg 0))))] := hD
  rw [show (vp_updL z1 (41 : Int32).toNatClampNeg 0) = z1 from updl_z1 _] at hP hD
  refine lv_iinc (v := 42) (lv' := [(3, .int 42), (0, .ref a), (1, .int so), (2, .int mn)]) hx hb dX8_lay_30 hl (k := 0) rfl (by decide) (by decide) rfl (fun ls hl => ?_)
  refine lv_goto (tgt := 17) hx hb dX8_lay_33 (by decide) ?_
  refine lv_iload_n hx hb dX8_lay_17 rfl (lv_at hl 0 rfl) ?_
  refine lv_bipush (v := 60) hx hb dX8_lay_18 (by decide) ?_
  refine lv_icmp_ge (tgt := 36) hx hb dX8_lay_20 (by decide) (fun h => absurd h (by decide)) (fun _ => ?_)
  refine lv_aload_n hx hb dX8_lay_23 rfl (lv_at hl 1 rfl) ?_
  refine va_get (D := D) (ci := 8) (v := .ref rw) (C := RX8) (T := TX8) (N := 4) hx hb hts ic_lay_X8 hown hK hP 0 rfl rfl 0 (by decide) (hts (.fieldLink RX8 9 "SaltStreet$Tray" "row" "[J") (List.mem_of_getElem? (i := 4) rfl)) (fun _ h9 => h9) rfl dX8_lay_24 ?_
  refine lv_iload_n hx hb dX8_lay_27 rfl (lv_at hl 0 rfl) ?_
  refine lv_lconst (v := 0) hx hb dX8_lay_28 (by decide) ?_
  refine va_last hx hb hK hP hD hS 1 1 (f := z1) rfl rfl (by unfold vp_in; decide) dX8_lay_29 (fun H locs hP hD hS => ?_)
  have hP : va_P D vwCl [(a, .inr (8, [.ref rw, .int 1, .int so, .int mn])), (rw, .inl (kc 1, 60, .inr (.inl (vp_updL z1 (42 : Int32).toNatClampNeg 0))))] H := hP
  have hD : va_D A [(a, .inr (8, [.ref rw, .int 1, .int so, .int mn])), (rw, .inl (kc 1, 60, .inr (.inl (vp_updL z1 (42 : Int32).toNatClampNeg 0))))] := hD
  rw [show (vp_updL z1 (42 : Int32).toNatClampNeg 0) = z1 from updl_z1 _] at hP hD
  refine lv_iinc (v := 43) (lv' := [(3, .int 43), (0, .ref a), (1, .int so), (2, .int mn)]) hx hb dX8_lay_30 hl (k := 0) rfl (by decide) (by decide) rfl (fun ls hl => ?_)
  refine lv_goto (tgt := 17) hx hb dX8_lay_33 (by decide) ?_
  refine lv_iload_n hx hb dX8_lay_17 rfl (lv_at hl 0 rfl) ?_
  refine lv_bipush (v := 60) hx hb dX8_lay_18 (by decide) ?_
  refine lv_icmp_ge (tgt := 36) hx hb dX8_lay_20 (by decide) (fun h => absurd h (by decide)) (fun _ => ?_)
  refine lv_aload_n hx hb dX8_lay_23 rfl (lv_at hl 1 rfl) ?_
  refine va_get (D := D) (ci := 8) (v := .ref rw) (C := RX8) (T := TX8) (N := 4) hx hb hts ic_lay_X8 hown hK hP 0 rfl rfl 0 (by decide) (hts (.fieldLink RX8 9 "SaltStreet$Tray" "row" "[J") (List.mem_of_getElem? (i := 4) rfl)) (fun _ h9 => h9) rfl dX8_lay_24 ?_
  refine lv_iload_n hx hb dX8_lay_27 rfl (lv_at hl 0 rfl) ?_
  refine lv_lconst (v := 0) hx hb dX8_lay_28 (by decide) ?_
  refine va_last hx hb hK hP hD hS 1 1 (f := z1) rfl rfl (by unfold vp_in; decide) dX8_lay_29 (fun H locs hP hD hS => ?_)
  have hP : va_P D vwCl [(a, .inr (8, [.ref rw, .int 1, .int so, .int mn])), (rw, .inl (kc 1, 60, .inr (.inl (vp_updL z1 (43 : Int32).toNatClampNeg 0))))] H := hP
  have hD : va_D A [(a, .inr (8, [.ref rw, .int 1, .int so, .int mn])), (rw, .inl (kc 1, 60, .inr (.inl (vp_updL z1 (43 : Int32).toNatClampNeg 0))))] := hD
  rw [show (vp_updL z1 (43 : Int32).toNatClampNeg 0) = z1 from updl_z1 _] at hP hD
  refine lv_iinc (v := 44) (lv' := [(3, .int 44), (0, .ref a), (1, .int so), (2, .int mn)]) hx hb dX8_lay_30 hl (k := 0) rfl (by decide) (by decide) rfl (fun ls hl => ?_)
  refine lv_goto (tgt := 17) hx hb dX8_lay_33 (by decide) ?_
  refine lv_iload_n hx hb dX8_lay_17 rfl (lv_at hl 0 rfl) ?_
  refine lv_bipush (v := 60) hx hb dX8_lay_18 (by decide) ?_
  refine lv_icmp_ge (tgt := 36) hx hb dX8_lay_20 (by decide) (fun h => absurd h (by decide)) (fun _ => ?_)
  refine lv_aload_n hx hb dX8_lay_23 rfl (lv_at hl 1 rfl) ?_
  refine va_get (D := D) (ci := 8) (v := .ref rw) (C := RX8) (T := TX8) (N := 4) hx hb hts ic_lay_X8 hown hK hP 0 rfl rfl 0 (by decide) (hts (.fieldLink RX8 9 "SaltStreet$Tray" "row" "[J") (List.mem_of_getElem? (i := 4) rfl)) (fun _ h9 => h9) rfl dX8_lay_24 ?_
  refine lv_iload_n hx hb dX8_lay_27 rfl (lv_at hl 0 rfl) ?_
  refine lv_lconst (v := 0) hx hb dX8_lay_28 (by decide) ?_
  refine va_last hx hb hK hP hD hS 1 1 (f := z1) rfl rfl (by unfold vp_in; decide) dX8_lay_29 (fun H locs hP hD hS => ?_)
  have hP : va_P D vwCl [(a, .inr (8, [.ref rw, .int 1, .int so, .int mn])), (rw, .inl (kc 1, 60, .inr (.inl (vp_updL z1 (44 : Int32).toNatClampNeg 0))))] H := hP
  have hD : va_D A [(a, .inr (8, [.ref rw, .int 1, .int so, .int mn])), (rw, .inl (kc 1, 60, .inr (.inl (vp_updL z1 (44 : Int32).toNatClampNeg 0))))] := hD
  rw [show (vp_updL z1 (44 : Int32).toNatClampNeg 0) = z1 from updl_z1 _] at hP hD
  refine lv_iinc (v := 45) (lv' := [(3, .int 45), (0, .ref a), (1, .int so), (2, .int mn)]) hx hb dX8_lay_30 hl (k := 0) rfl (by decide) (by decide) rfl (fun ls hl => ?_)
  refine lv_goto (tgt := 17) hx hb dX8_lay_33 (by decide) ?_
  refine lv_iload_n hx hb dX8_lay_17 rfl (lv_at hl 0 rfl) ?_
  refine lv_bipush (v := 60) hx hb dX8_lay_18 (by decide) ?_
  refine lv_icmp_ge (tgt := 36) hx hb dX8_lay_20 (by decide) (fun h => absurd h (by decide)) (fun _ => ?_)
  refine lv_aload_n hx hb dX8_lay_23 rfl (lv_at hl 1 rfl) ?_
  refine va_get (D := D) (ci := 8) (v := .ref rw) (C := RX8) (T := TX8) (N := 4) hx hb hts ic_lay_X8 hown hK hP 0 rfl rfl 0 (by decide) (hts (.fieldLink RX8 9 "SaltStreet$Tray" "row" "[J") (List.mem_of_getElem? (i := 4) rfl)) (fun _ h9 => h9) rfl dX8_lay_24 ?_
  refine lv_iload_n hx hb dX8_lay_27 rfl (lv_at hl 0 rfl) ?_
  refine lv_lconst (v := 0) hx hb dX8_lay_28 (by decide) ?_
  refine va_last hx hb hK hP hD hS 1 1 (f := z1) rfl rfl (by unfold vp_in; decide) dX8_lay_29 (fun H locs hP hD hS => ?_)
  have hP : va_P D vwCl [(a, .inr (8, [.ref rw, .int 1, .int so, .int mn])), (rw, .inl (kc 1, 60, .inr (.inl (vp_updL z1 (45 : Int32).toNatClampNeg 0))))] H := hP
  have hD : va_D A [(a, .inr (8, [.ref rw, .int 1, .int so, .int mn])), (rw, .inl (kc 1, 60, .inr (.inl (vp_updL z1 (45 : Int32).toNatClampNeg 0))))] := hD
  rw [show (vp_updL z1 (45 : Int32).toNatClampNeg 0) = z1 from updl_z1 _] at hP hD
  refine lv_iinc (v := 46) (lv' := [(3, .int 46), (0, .ref a), (1, .int so), (2, .int mn)]) hx hb dX8_lay_30 hl (k := 0) rfl (by decide) (by decide) rfl (fun ls hl => ?_)
  refine lv_goto (tgt := 17) hx hb dX8_lay_33 (by decide) ?_
  refine lv_iload_n hx hb dX8_lay_17 rfl (lv_at hl 0 rfl) ?_
  refine lv_bipush (v := 60) hx hb dX8_lay_18 (by decide) ?_
  refine lv_icmp_ge (tgt := 36) hx hb dX8_lay_20 (by decide) (fun h => absurd h (by decide)) (fun _ => ?_)
  refine lv_aload_n hx hb dX8_lay_23 rfl (lv_at hl 1 rfl) ?_
  refine va_get (D := D) (ci := 8) (v := .ref rw) (C := RX8) (T := TX8) (N := 4) hx hb hts ic_lay_X8 hown hK hP 0 rfl rfl 0 (by decide) (hts (.fieldLink RX8 9 "SaltStreet$Tray" "row" "[J") (List.mem_of_getElem? (i := 4) rfl)) (fun _ h9 => h9) rfl dX8_lay_24 ?_
  refine lv_iload_n hx hb dX8_lay_27 rfl (lv_at hl 0 rfl) ?_
  refine lv_lconst (v := 0) hx hb dX8_lay_28 (by decide) ?_
  refine va_last hx hb hK hP hD hS 1 1 (f := z1) rfl rfl (by unfold vp_in; decide) dX8_lay_29 (fun H locs hP hD hS => ?_)
  have hP : va_P D vwCl [(a, .inr (8, [.ref rw, .int 1, .int so, .int mn])), (rw, .inl (kc 1, 60, .inr (.inl (vp_updL z1 (46 : Int32).toNatClampNeg 0))))] H := hP
  have hD : va_D A [(a, .inr (8, [.ref rw, .int 1, .int so, .int mn])), (rw, .inl (kc 1, 60, .inr (.inl (vp_updL z1 (46 : Int32).toNatClampNeg 0))))] := hD
  rw [show (vp_updL z1 (46 : Int32).toNatClampNeg 0) = z1 from updl_z1 _] at hP hD
  refine lv_iinc (v := 47) (lv' := [(3, .int 47), (0, .ref a), (1, .int so), (2, .int mn)]) hx hb dX8_lay_30 hl (k := 0) rfl (by decide) (by decide) rfl (fun ls hl => ?_)
  refine lv_goto (tgt := 17) hx hb dX8_lay_33 (by decide) ?_
  refine lv_iload_n hx hb dX8_lay_17 rfl (lv_at hl 0 rfl) ?_
  refine lv_bipush (v := 60) hx hb dX8_lay_18 (by decide) ?_
  refine lv_icmp_ge (tgt := 36) hx hb dX8_lay_20 (by decide) (fun h => absurd h (by decide)) (fun _ => ?_)
  refine lv_aload_n hx hb dX8_lay_23 rfl (lv_at hl 1 rfl) ?_
  refine va_get (D := D) (ci := 8) (v := .ref rw) (C := RX8) (T := TX8) (N := 4) hx hb hts ic_lay_X8 hown hK hP 0 rfl rfl 0 (by decide) (hts (.fieldLink RX8 9 "SaltStreet$Tray" "row" "[J") (List.mem_of_getElem? (i := 4) rfl)) (fun _ h9 => h9) rfl dX8_lay_24 ?_
  refine lv_iload_n hx hb dX8_lay_27 rfl (lv_at hl 0 rfl) ?_
  refine lv_lconst (v := 0) hx hb dX8_lay_28 (by decide) ?_
  refine va_last hx hb hK hP hD hS 1 1 (f := z1) rfl rfl (by unfold vp_in; decide) dX8_lay_29 (fun H locs hP hD hS => ?_)
  have hP : va_P D vwCl [(a, .inr (8, [.ref rw, .int 1, .int so, .int mn])), (rw, .inl (kc 1, 60, .inr (.inl (vp_updL z1 (47 : Int32).toNatClampNeg 0))))] H := hP
  have hD : va_D A [(a, .inr (8, [.ref rw, .int 1, .int so, .int mn])), (rw, .inl (kc 1, 60, .inr (.inl (vp_updL z1 (47 : Int32).toNatClampNeg 0))))] := hD
  rw [show (vp_updL z1 (47 : Int32).toNatClampNeg 0) = z1 from updl_z1 _] at hP hD
  refine lv_iinc (v := 48) (lv' := [(3, .int 48), (0, .ref a), (1, .int so), (2, .int mn)]) hx hb dX8_lay_30 hl (k := 0) rfl (by decide) (by decide) rfl (fun ls hl => ?_)
  refine lv_goto (tgt := 17) hx hb dX8_lay_33 (by decide) ?_
  refine lv_iload_n hx hb dX8_lay_17 rfl (lv_at hl 0 rfl) ?_
  refine lv_bipush (v := 60) hx hb dX8_lay_18 (by decide) ?_
  refine lv_icmp_ge (tgt := 36) hx hb dX8_lay_20 (by decide) (fun h => absurd h (by decide)) (fun _ => ?_)
  refine lv_aload_n hx hb dX8_lay_23 rfl (lv_at hl 1 rfl) ?_
  refine va_get (D := D) (ci := 8) (v := .ref rw) (C := RX8) (T := TX8) (N := 4) hx hb hts ic_lay_X8 hown hK hP 0 rfl rfl 0 (by decide) (hts (.fieldLink RX8 9 "SaltStreet$Tray" "row" "[J") (List.mem_of_getElem? (i := 4) rfl)) (fun _ h9 => h9) rfl dX8_lay_24 ?_
  refine lv_iload_n hx hb dX8_lay_27 rfl (lv_at hl 0 rfl) ?_
  refine lv_lconst (v := 0) hx hb dX8_lay_28 (by decide) ?_
  refine va_last hx hb hK hP hD hS 1 1 (f := z1) rfl rfl (by unfold vp_in; decide) dX8_lay_29 (fun H locs hP hD hS => ?_)
  have hP : va_P D vwCl [(a, .inr (8, [.ref rw, .int 1, .int so, .int mn])), (rw, .inl (kc 1, 60, .inr (.inl (vp_updL z1 (48 : Int32).toNatClampNeg 0))))] H := hP
  have hD : va_D A [(a, .inr (8, [.ref rw, .int 1, .int so, .int mn])), (rw, .inl (kc 1, 60, .inr (.inl (vp_updL z1 (48 : Int32).toNatClampNeg 0))))] := hD
  rw [show (vp_updL z1 (48 : Int32).toNatClampNeg 0) = z1 from updl_z1 _] at hP hD
  refine lv_iinc (v := 49) (lv' := [(3, .int 49), (0, .ref a), (1, .int so), (2, .int mn)]) hx hb dX8_lay_30 hl (k := 0) rfl (by decide) (by decide) rfl (fun ls hl => ?_)
  refine lv_goto (tgt := 17) hx hb dX8_lay_33 (by decide) ?_
  refine lv_iload_n hx hb dX8_lay_17 rfl (lv_at hl 0 rfl) ?_
  refine lv_bipush (v := 60) hx hb dX8_lay_18 (by decide) ?_
  refine lv_icmp_ge (tgt := 36) hx hb dX8_lay_20 (by decide) (fun h => absurd h (by decide)) (fun _ => ?_)
  refine lv_aload_n hx hb dX8_lay_23 rfl (lv_at hl 1 rfl) ?_
  refine va_get (D := D) (ci := 8) (v := .ref rw) (C := RX8) (T := TX8) (N := 4) hx hb hts ic_lay_X8 hown hK hP 0 rfl rfl 0 (by decide) (hts (.fieldLink RX8 9 "SaltStreet$Tray" "row" "[J") (List.mem_of_getElem? (i := 4) rfl)) (fun _ h9 => h9) rfl dX8_lay_24 ?_
  refine lv_iload_n hx hb dX8_lay_27 rfl (lv_at hl 0 rfl) ?_
  refine lv_lconst (v := 0) hx hb dX8_lay_28 (by decide) ?_
  refine va_last hx hb hK hP hD hS 1 1 (f := z1) rfl rfl (by unfold vp_in; decide) dX8_lay_29 (fun H locs hP hD hS => ?_)
  have hP : va_P D vwCl [(a, .inr (8, [.ref rw, .int 1, .int so, .int mn])), (rw, .inl (kc 1, 60, .inr (.inl (vp_updL z1 (49 : Int32).toNatClampNeg 0))))] H := hP
  have hD : va_D A [(a, .inr (8, [.ref rw, .int 1, .int so, .int mn])), (rw, .inl (kc 1, 60, .inr (.inl (vp_updL z1 (49 : Int32).toNatClampNeg 0))))] := hD
  rw [show (vp_updL z1 (49 : Int32).toNatClampNeg 0) = z1 from updl_z1 _] at hP hD
  refine lv_iinc (v := 50) (lv' := [(3, .int 50), (0, .ref a), (1, .int so), (2, .int mn)]) hx hb dX8_lay_30 hl (k := 0) rfl (by decide) (by decide) rfl (fun ls hl => ?_)
  refine lv_goto (tgt := 17) hx hb dX8_lay_33 (by decide) ?_
  refine lv_iload_n hx hb dX8_lay_17 rfl (lv_at hl 0 rfl) ?_
  refine lv_bipush (v := 60) hx hb dX8_lay_18 (by decide) ?_
  refine lv_icmp_ge (tgt := 36) hx hb dX8_lay_20 (by decide) (fun h => absurd h (by decide)) (fun _ => ?_)
  refine lv_aload_n hx hb dX8_lay_23 rfl (lv_at hl 1 rfl) ?_
  refine va_get (D := D) (ci := 8) (v := .ref rw) (C := RX8) (T := TX8) (N := 4) hx hb hts ic_lay_X8 hown hK hP 0 rfl rfl 0 (by decide) (hts (.fieldLink RX8 9 "SaltStreet$Tray" "row" "[J") (List.mem_of_getElem? (i := 4) rfl)) (fun _ h9 => h9) rfl dX8_lay_24 ?_
  refine lv_iload_n hx hb dX8_lay_27 rfl (lv_at hl 0 rfl) ?_
  refine lv_lconst (v := 0) hx hb dX8_lay_28 (by decide) ?_
  refine va_last hx hb hK hP hD hS 1 1 (f := z1) rfl rfl (by unfold vp_in; decide) dX8_lay_29 (fun H locs hP hD hS => ?_)
  have hP : va_P D vwCl [(a, .inr (8, [.ref rw, .int 1, .int so, .int mn])), (rw, .inl (kc 1, 60, .inr (.inl (vp_updL z1 (50 : Int32).toNatClampNeg 0))))] H := hP
  have hD : va_D A [(a, .inr (8, [.ref rw, .int 1, .int so, .int mn])), (rw, .inl (kc 1, 60, .inr (.inl (vp_updL z1 (50 : Int32).toNatClampNeg 0))))] := hD
  rw [show (vp_updL z1 (50 : Int32).toNatClampNeg 0) = z1 from updl_z1 _] at hP hD
  refine lv_iinc (v := 51) (lv' := [(3, .int 51), (0, .ref a), (1, .int so), (2, .int mn)]) hx hb dX8_lay_30 hl (k := 0) rfl (by decide) (by decide) rfl (fun ls hl => ?_)
  refine lv_goto (tgt := 17) hx hb dX8_lay_33 (by decide) ?_
  refine lv_iload_n hx hb dX8_lay_17 rfl (lv_at hl 0 rfl) ?_
  refine lv_bipush (v := 60) hx hb dX8_lay_18 (by decide) ?_
  refine lv_icmp_ge (tgt := 36) hx hb dX8_lay_20 (by decide) (fun h => absurd h (by decide)) (fun _ => ?_)
  refine lv_aload_n hx hb dX8_lay_23 rfl (lv_at hl 1 rfl) ?_
  refine va_get (D := D) (ci := 8) (v := .ref rw) (C := RX8) (T := TX8) (N := 4) hx hb hts ic_lay_X8 hown hK hP 0 rfl rfl 0 (by decide) (hts (.fieldLink RX8 9 "SaltStreet$Tray" "row" "[J") (List.mem_of_getElem? (i := 4) rfl)) (fun _ h9 => h9) rfl dX8_lay_24 ?_
  refine lv_iload_n hx hb dX8_lay_27 rfl (lv_at hl 0 rfl) ?_
  refine lv_lconst (v := 0) hx hb dX8_lay_28 (by decide) ?_
  refine va_last hx hb hK hP hD hS 1 1 (f := z1) rfl rfl (by unfold vp_in; decide) dX8_lay_29 (fun H locs hP hD hS => ?_)
  have hP : va_P D vwCl [(a, .inr (8, [.ref rw, .int 1, .int so, .int mn])), (rw, .inl (kc 1, 60, .inr (.inl (vp_updL z1 (51 : Int32).toNatClampNeg 0))))] H := hP
  have hD : va_D A [(a, .inr (8, [.ref rw, .int 1, .int so, .int mn])), (rw, .inl (kc 1, 60, .inr (.inl (vp_updL z1 (51 : Int32).toNatClampNeg 0))))] := hD
  rw [show (vp_updL z1 (51 : Int32).toNatClampNeg 0) = z1 from updl_z1 _] at hP hD
  refine lv_iinc (v := 52) (lv' := [(3, .int 52), (0, .ref a), (1, .int so), (2, .int mn)]) hx hb dX8_lay_30 hl (k := 0) rfl (by decide) (by decide) rfl (fun ls hl => ?_)
  refine lv_goto (tgt := 17) hx hb dX8_lay_33 (by decide) ?_
  refine lv_iload_n hx hb dX8_lay_17 rfl (lv_at hl 0 rfl) ?_
  refine lv_bipush (v := 60) hx hb dX8_lay_18 (by decide) ?_
  refine lv_icmp_ge (tgt := 36) hx hb dX8_lay_20 (by decide) (fun h => absurd h (by decide)) (fun _ => ?_)
  refine lv_aload_n hx hb dX8_lay_23 rfl (lv_at hl 1 rfl) ?_
  refine va_get (D := D) (ci := 8) (v := .ref rw) (C := RX8) (T := TX8) (N := 4) hx hb hts ic_lay_X8 hown hK hP 0 rfl rfl 0 (by decide) (hts (.fieldLink RX8 9 "SaltStreet$Tray" "row" "[J") (List.mem_of_getElem? (i := 4) rfl)) (fun _ h9 => h9) rfl dX8_lay_24 ?_
  refine lv_iload_n hx hb dX8_lay_27 rfl (lv_at hl 0 rfl) ?_
  refine lv_lconst (v := 0) hx hb dX8_lay_28 (by decide) ?_
  refine va_last hx hb hK hP hD hS 1 1 (f := z1) rfl rfl (by unfold vp_in; decide) dX8_lay_29 (fun H locs hP hD hS => ?_)
  have hP : va_P D vwCl [(a, .inr (8, [.ref rw, .int 1, .int so, .int mn])), (rw, .inl (kc 1, 60, .inr (.inl (vp_updL z1 (52 : Int32).toNatClampNeg 0))))] H := hP
  have hD : va_D A [(a, .inr (8, [.ref rw, .int 1, .int so, .int mn])), (rw, .inl (kc 1, 60, .inr (.inl (vp_updL z1 (52 : Int32).toNatClampNeg 0))))] := hD
  rw [show (vp_updL z1 (52 : Int32).toNatClampNeg 0) = z1 from updl_z1 _] at hP hD
  refine lv_iinc (v := 53) (lv' := [(3, .int 53), (0, .ref a), (1, .int so), (2, .int mn)]) hx hb dX8_lay_30 hl (k := 0) rfl (by decide) (by decide) rfl (fun ls hl => ?_)
  refine lv_goto (tgt := 17) hx hb dX8_lay_33 (by decide) ?_
  refine lv_iload_n hx hb dX8_lay_17 rfl (lv_at hl 0 rfl) ?_
  refine lv_bipush (v := 60) hx hb dX8_lay_18 (by decide) ?_
  refine lv_icmp_ge (tgt := 36) hx hb dX8_lay_20 (by decide) (fun h => absurd h (by decide)) (fun _ => ?_)
  refine lv_aload_n hx hb dX8_lay_23 rfl (lv_at hl 1 rfl) ?_
  refine va_get (D := D) (ci := 8) (v := .ref rw) (C := RX8) (T := TX8) (N := 4) hx hb hts ic_lay_X8 hown hK hP 0 rfl rfl 0 (by decide) (hts (.fieldLink RX8 9 "SaltStreet$Tray" "row" "[J") (List.mem_of_getElem? (i := 4) rfl)) (fun _ h9 => h9) rfl dX8_lay_24 ?_
  refine lv_iload_n hx hb dX8_lay_27 rfl (lv_at hl 0 rfl) ?_
  refine lv_lconst (v := 0) hx hb dX8_lay_28 (by decide) ?_
  refine va_last hx hb hK hP hD hS 1 1 (f := z1) rfl rfl (by unfold vp_in; decide) dX8_lay_29 (fun H locs hP hD hS => ?_)
  have hP : va_P D vwCl [(a, .inr (8, [.ref rw, .int 1, .int so, .int mn])), (rw, .inl (kc 1, 60, .inr (.inl (vp_updL z1 (53 : Int32).toNatClampNeg 0))))] H := hP
  have hD : va_D A [(a, .inr (8, [.ref rw, .int 1, .int so, .int mn])), (rw, .inl (kc 1, 60, .inr (.inl (vp_updL z1 (53 : Int32).toNatClampNeg 0))))] := hD
  rw [show (vp_updL z1 (53 : Int32).toNatClampNeg 0) = z1 from updl_z1 _] at hP hD
  refine lv_iinc (v := 54) (lv' := [(3, .int 54), (0, .ref a), (1, .int so), (2, .int mn)]) hx hb dX8_lay_30 hl (k := 0) rfl (by decide) (by decide) rfl (fun ls hl => ?_)
  refine lv_goto (tgt := 17) hx hb dX8_lay_33 (by decide) ?_
  refine lv_iload_n hx hb dX8_lay_17 rfl (lv_at hl 0 rfl) ?_
  refine lv_bipush (v := 60) hx hb dX8_lay_18 (by decide) ?_
  refine lv_icmp_ge (tgt := 36) hx hb dX8_lay_20 (by decide) (fun h => absurd h (by decide)) (fun _ => ?_)
  refine lv_aload_n hx hb dX8_lay_23 rfl (lv_at hl 1 rfl) ?_
  refine va_get (D := D) (ci := 8) (v := .ref rw) (C := RX8) (T := TX8) (N := 4) hx hb hts ic_lay_X8 hown hK hP 0 rfl rfl 0 (by decide) (hts (.fieldLink RX8 9 "SaltStreet$Tray" "row" "[J") (List.mem_of_getElem? (i := 4) rfl)) (fun _ h9 => h9) rfl dX8_lay_24 ?_
  refine lv_iload_n hx hb dX8_lay_27 rfl (lv_at hl 0 rfl) ?_
  refine lv_lconst (v := 0) hx hb dX8_lay_28 (by decide) ?_
  refine va_last hx hb hK hP hD hS 1 1 (f := z1) rfl rfl (by unfold vp_in; decide) dX8_lay_29 (fun H locs hP hD hS => ?_)
  have hP : va_P D vwCl [(a, .inr (8, [.ref rw, .int 1, .int so, .int mn])), (rw, .inl (kc 1, 60, .inr (.inl (vp_updL z1 (54 : Int32).toNatClampNeg 0))))] H := hP
  have hD : va_D A [(a, .inr (8, [.ref rw, .int 1, .int so, .int mn])), (rw, .inl (kc 1, 60, .inr (.inl (vp_updL z1 (54 : Int32).toNatClampNeg 0))))] := hD
  rw [show (vp_updL z1 (54 : Int32).toNatClampNeg 0) = z1 from updl_z1 _] at hP hD
  refine lv_iinc (v := 55) (lv' := [(3, .int 55), (0, .ref a), (1, .int so), (2, .int mn)]) hx hb dX8_lay_30 hl (k := 0) rfl (by decide) (by decide) rfl (fun ls hl => ?_)
  refine lv_goto (tgt := 17) hx hb dX8_lay_33 (by decide) ?_
  refine lv_iload_n hx hb dX8_lay_17 rfl (lv_at hl 0 rfl) ?_
  refine lv_bipush (v := 60) hx hb dX8_lay_18 (by decide) ?_
  refine lv_icmp_ge (tgt := 36) hx hb dX8_lay_20 (by decide) (fun h => absurd h (by decide)) (fun _ => ?_)
  refine lv_aload_n hx hb dX8_lay_23 rfl (lv_at hl 1 rfl) ?_
  refine va_get (D := D) (ci := 8) (v := .ref rw) (C := RX8) (T := TX8) (N := 4) hx hb hts ic_lay_X8 hown hK hP 0 rfl rfl 0 (by decide) (hts (.fieldLink RX8 9 "SaltStreet$Tray" "row" "[J") (List.mem_of_getElem? (i := 4) rfl)) (fun _ h9 => h9) rfl dX8_lay_24 ?_
  refine lv_iload_n hx hb dX8_lay_27 rfl (lv_at hl 0 rfl) ?_
  refine lv_lconst (v := 0) hx hb dX8_lay_28 (by decide) ?_
  refine va_last hx hb hK hP hD hS 1 1 (f := z1) rfl rfl (by unfold vp_in; decide) dX8_lay_29 (fun H locs hP hD hS => ?_)
  have hP : va_P D vwCl [(a, .inr (8, [.ref rw, .int 1, .int so, .int mn])), (rw, .inl (kc 1, 60, .inr (.inl (vp_updL z1 (55 : Int32).toNatClampNeg 0))))] H := hP
  have hD : va_D A [(a, .inr (8, [.ref rw, .int 1, .int so, .int mn])), (rw, .inl (kc 1, 60, .inr (.inl (vp_updL z1 (55 : Int32).toNatClampNeg 0))))] := hD
  rw [show (vp_updL z1 (55 : Int32).toNatClampNeg 0) = z1 from updl_z1 _] at hP hD
  refine lv_iinc (v := 56) (lv' := [(3, .int 56), (0, .ref a), (1, .int so), (2, .int mn)]) hx hb dX8_lay_30 hl (k := 0) rfl (by decide) (by decide) rfl (fun ls hl => ?_)
  refine lv_goto (tgt := 17) hx hb dX8_lay_33 (by decide) ?_
  refine lv_iload_n hx hb dX8_lay_17 rfl (lv_at hl 0 rfl) ?_
  refine lv_bipush (v := 60) hx hb dX8_lay_18 (by decide) ?_
  refine lv_icmp_ge (tgt := 36) hx hb dX8_lay_20 (by decide) (fun h => absurd h (by decide)) (fun _ => ?_)
  refine lv_aload_n hx hb dX8_lay_23 rfl (lv_at hl 1 rfl) ?_
  refine va_get (D := D) (ci := 8) (v := .ref rw) (C := RX8) (T := TX8) (N := 4) hx hb hts ic_lay_X8 hown hK hP 0 rfl rfl 0 (by decide) (hts (.fieldLink RX8 9 "SaltStreet$Tray" "row" "[J") (List.mem_of_getElem? (i := 4) rfl)) (fun _ h9 => h9) rfl dX8_lay_24 ?_
  refine lv_iload_n hx hb dX8_lay_27 rfl (lv_at hl 0 rfl) ?_
  refine lv_lconst (v := 0) hx hb dX8_lay_28 (by decide) ?_
  refine va_last hx hb hK hP hD hS 1 1 (f := z1) rfl rfl (by unfold vp_in; decide) dX8_lay_29 (fun H locs hP hD hS => ?_)
  have hP : va_P D vwCl [(a, .inr (8, [.ref rw, .int 1, .int so, .int mn])), (rw, .inl (kc 1, 60, .inr (.inl (vp_updL z1 (56 : Int32).toNatClampNeg 0))))] H := hP
  have hD : va_D A [(a, .inr (8, [.ref rw, .int 1, .int so, .int mn])), (rw, .inl (kc 1, 60, .inr (.inl (vp_updL z1 (56 : Int32).toNatClampNeg 0))))] := hD
  rw [show (vp_updL z1 (56 : Int32).toNatClampNeg 0) = z1 from updl_z1 _] at hP hD
  refine lv_iinc (v := 57) (lv' := [(3, .int 57), (0, .ref a), (1, .int so), (2, .int mn)]) hx hb dX8_lay_30 hl (k := 0) rfl (by decide) (by decide) rfl (fun ls hl => ?_)
  refine lv_goto (tgt := 17) hx hb dX8_lay_33 (by decide) ?_
  refine lv_iload_n hx hb dX8_lay_17 rfl (lv_at hl 0 rfl) ?_
  refine lv_bipush (v := 60) hx hb dX8_lay_18 (by decide) ?_
  refine lv_icmp_ge (tgt := 36) hx hb dX8_lay_20 (by decide) (fun h => absurd h (by decide)) (fun _ => ?_)
  refine lv_aload_n hx hb dX8_lay_23 rfl (lv_at hl 1 rfl) ?_
  refine va_get (D := D) (ci := 8) (v := .ref rw) (C := RX8) (T := TX8) (N := 4) hx hb hts ic_lay_X8 hown hK hP 0 rfl rfl 0 (by decide) (hts (.fieldLink RX8 9 "SaltStreet$Tray" "row" "[J") (List.mem_of_getElem? (i := 4) rfl)) (fun _ h9 => h9) rfl dX8_lay_24 ?_
  refine lv_iload_n hx hb dX8_lay_27 rfl (lv_at hl 0 rfl) ?_
  refine lv_lconst (v := 0) hx hb dX8_lay_28 (by decide) ?_
  refine va_last hx hb hK hP hD hS 1 1 (f := z1) rfl rfl (by unfold vp_in; decide) dX8_lay_29 (fun H locs hP hD hS => ?_)
  have hP : va_P D vwCl [(a, .inr (8, [.ref rw, .int 1, .int so, .int mn])), (rw, .inl (kc 1, 60, .inr (.inl (vp_updL z1 (57 : Int32).toNatClampNeg 0))))] H := hP
  have hD : va_D A [(a, .inr (8, [.ref rw, .int 1, .int so, .int mn])), (rw, .inl (kc 1, 60, .inr (.inl (vp_updL z1 (57 : Int32).toNatClampNeg 0))))] := hD
  rw [show (vp_updL z1 (57 : Int32).toNatClampNeg 0) = z1 from updl_z1 _] at hP hD
  refine lv_iinc (v := 58) (lv' := [(3, .int 58), (0, .ref a), (1, .int so), (2, .int mn)]) hx hb dX8_lay_30 hl (k := 0) rfl (by decide) (by decide) rfl (fun ls hl => ?_)
  refine lv_goto (tgt := 17) hx hb dX8_lay_33 (by decide) ?_
  refine lv_iload_n hx hb dX8_lay_17 rfl (lv_at hl 0 rfl) ?_
  refine lv_bipush (v := 60) hx hb dX8_lay_18 (by decide) ?_
  refine lv_icmp_ge (tgt := 36) hx hb dX8_lay_20 (by decide) (fun h => absurd h (by decide)) (fun _ => ?_)
  refine lv_aload_n hx hb dX8_lay_23 rfl (lv_at hl 1 rfl) ?_
  refine va_get (D := D) (ci := 8) (v := .ref rw) (C := RX8) (T := TX8) (N := 4) hx hb hts ic_lay_X8 hown hK hP 0 rfl rfl 0 (by decide) (hts (.fieldLink RX8 9 "SaltStreet$Tray" "row" "[J") (List.mem_of_getElem? (i := 4) rfl)) (fun _ h9 => h9) rfl dX8_lay_24 ?_
  refine lv_iload_n hx hb dX8_lay_27 rfl (lv_at hl 0 rfl) ?_
  refine lv_lconst (v := 0) hx hb dX8_lay_28 (by decide) ?_
  refine va_last hx hb hK hP hD hS 1 1 (f := z1) rfl rfl (by unfold vp_in; decide) dX8_lay_29 (fun H locs hP hD hS => ?_)
  have hP : va_P D vwCl [(a, .inr (8, [.ref rw, .int 1, .int so, .int mn])), (rw, .inl (kc 1, 60, .inr (.inl (vp_updL z1 (58 : Int32).toNatClampNeg 0))))] H := hP
  have hD : va_D A [(a, .inr (8, [.ref rw, .int 1, .int so, .int mn])), (rw, .inl (kc 1, 60, .inr (.inl (vp_updL z1 (58 : Int32).toNatClampNeg 0))))] := hD
  rw [show (vp_updL z1 (58 : Int32).toNatClampNeg 0) = z1 from updl_z1 _] at hP hD
  refine lv_iinc (v := 59) (lv' := [(3, .int 59), (0, .ref a), (1, .int so), (2, .int mn)]) hx hb dX8_lay_30 hl (k := 0) rfl (by decide) (by decide) rfl (fun ls hl => ?_)
  refine lv_goto (tgt := 17) hx hb dX8_lay_33 (by decide) ?_
  refine lv_iload_n hx hb dX8_lay_17 rfl (lv_at hl 0 rfl) ?_
  refine lv_bipush (v := 60) hx hb dX8_lay_18 (by decide) ?_
  refine lv_icmp_ge (tgt := 36) hx hb dX8_lay_20 (by decide) (fun h => absurd h (by decide)) (fun _ => ?_)
  refine lv_aload_n hx hb dX8_lay_23 rfl (lv_at hl 1 rfl) ?_
  refine va_get (D := D) (ci := 8) (v := .ref rw) (C := RX8) (T := TX8) (N := 4) hx hb hts ic_lay_X8 hown hK hP 0 rfl rfl 0 (by decide) (hts (.fieldLink RX8 9 "SaltStreet$Tray" "row" "[J") (List.mem_of_getElem? (i := 4) rfl)) (fun _ h9 => h9) rfl dX8_lay_24 ?_
  refine lv_iload_n hx hb dX8_lay_27 rfl (lv_at hl 0 rfl) ?_
  refine lv_lconst (v := 0) hx hb dX8_lay_28 (by decide) ?_
  refine va_last hx hb hK hP hD hS 1 1 (f := z1) rfl rfl (by unfold vp_in; decide) dX8_lay_29 (fun H locs hP hD hS => ?_)
  have hP : va_P D vwCl [(a, .inr (8, [.ref rw, .int 1, .int so, .int mn])), (rw, .inl (kc 1, 60, .inr (.inl (vp_updL z1 (59 : Int32).toNatClampNeg 0))))] H := hP
  have hD : va_D A [(a, .inr (8, [.ref rw, .int 1, .int so, .int mn])), (rw, .inl (kc 1, 60, .inr (.inl (vp_updL z1 (59 : Int32).toNatClampNeg 0))))] := hD
  rw [show (vp_updL z1 (59 : Int32).toNatClampNeg 0) = z1 from updl_z1 _] at hP hD
  refine lv_iinc (v := 60) (lv' := [(3, .int 60), (0, .ref a), (1, .int so), (2, .int mn)]) hx hb dX8_lay_30 hl (k := 0) rfl (by decide) (by decide) rfl (fun ls hl => ?_)
  refine lv_goto (tgt := 17) hx hb dX8_lay_33 (by decide) ?_
  refine lv_iload_n hx hb dX8_lay_17 rfl (lv_at hl 0 rfl) ?_
  refine lv_bipush (v := 60) hx hb dX8_lay_18 (by decide) ?_
  refine lv_icmp_ge (tgt := 36) hx hb dX8_lay_20 (by decide) (fun _ => ?_) (fun h => absurd (by decide) h)
  exact W.vret hx hb hr (fun t9 ht hW => ⟨⟨(), rfl, trivial, trivial⟩, hS.F ht⟩) hS.2.2 dX8_lay_36
theorem dX11_tray_0 : decode cX11_tray 0 = .ok (.iload_n 1, 1) := by decide +kernel
theorem dX11_tray_1 : decode cX11_tray 1 = .ok (.invokestatic 109, 3) := by decide +kernel
theorem dX11_tray_4 : decode cX11_tray 4 = .ok (.ifCond .eq 22, 3) := by decide +kernel
theorem dX11_tray_26 : decode cX11_tray 26 = .ok (.aload_n 0, 1) := by decide +kernel
theorem dX11_tray_27 : decode cX11_tray 27 = .ok (.iconst 1, 1) := by decide +kernel
theorem dX11_tray_28 : decode cX11_tray 28 = .ok (.invokevirtual 117, 3) := by decide +kernel
theorem dX11_tray_31 : decode cX11_tray 31 = .ok (.ireturn, 1) := by decide +kernel
theorem dX11_tray_7 : decode cX11_tray 7 = .ok (.iload_n 2, 1) := by decide +kernel
theorem dX11_tray_8 : decode cX11_tray 8 = .ok (.iconst 0, 1) := by decide +kernel
theorem dX11_tray_9 : decode cX11_tray 9 = .ok (.iconst 3, 1) := by decide +kernel
theorem dX11_tray_10 : decode cX11_tray 10 = .ok (.invokestatic 113, 3) := by decide +kernel
theorem dX11_tray_13 : decode cX11_tray 13 = .ok (.ifCond .eq 13, 3) := by decide +kernel
theorem dX11_tray_16 : decode cX11_tray 16 = .ok (.iload_n 3, 1) := by decide +kernel
theorem dX11_tray_17 : decode cX11_tray 17 = .ok (.iconst 0, 1) := by decide +kernel
theorem dX11_tray_18 : decode cX11_tray 18 = .ok (.bipush 60, 2) := by decide +kernel
theorem dX11_tray_20 : decode cX11_tray 20 = .ok (.invokestatic 113, 3) := by decide +kernel
theorem dX11_tray_23 : decode cX11_tray 23 = .ok (.ifCond .ne 9, 3) := by decide +kernel
theorem dX11_tray_32 : decode cX11_tray 32 = .ok (.aload_n 0, 1) := by decide +kernel
theorem dX11_tray_33 : decode cX11_tray 33 = .ok (.getfield 15, 3) := by decide +kernel
theorem dX11_tray_36 : decode cX11_tray 36 = .ok (.iload_n 1, 1) := by decide +kernel
theorem dX11_tray_37 : decode cX11_tray 37 = .ok (.aaload, 1) := by decide +kernel
theorem dX11_tray_38 : decode cX11_tray 38 = .ok (.iload_n 2, 1) := by decide +kernel
theorem dX11_tray_39 : decode cX11_tray 39 = .ok (.iload_n 3, 1) := by decide +kernel
theorem dX11_tray_40 : decode cX11_tray 40 = .ok (.invokevirtual 120, 3) := by decide +kernel
theorem dX11_tray_43 : decode cX11_tray 43 = .ok (.aload_n 0, 1) := by decide +kernel
theorem dX11_tray_44 : decode cX11_tray 44 = .ok (.invokevirtual 124, 3) := by decide +kernel
theorem dX11_tray_47 : decode cX11_tray 47 = .ok (.ireturn, 1) := by decide +kernel
def vdp_tray_0 : List Cond := [.code yX11_tray cX11_tray 4 (some .boolean), .methodLink RX11 109 yX11_isTray, .code yX11_isTray cX11_isTray 1 (some .boolean), .methodLink RX11 113 yX11_within, .code yX11_within cX11_within 3 (some .boolean), .static yX11_within, .initialized RX11, .static yX11_isTray, .methodLink RX11 117 yX11_refused, .code yX11_refused cX11_refused 2 (some .boolean), .fieldLink RX11 103 "SaltStreet" "status" "I", .instanceMethod yX11_refused, .selects RX11 yX11_refused yX11_refused, .fieldLink RX11 15 "SaltStreet" "trays" "[LSaltStreet$Tray;", .methodLink RX11 120 yX8_lay, .code yX8_lay cX8_lay 4 none, .fieldLink RX8 15 "SaltStreet$Tray" "there" "Z", .fieldLink RX8 19 "SaltStreet$Tray" "sort" "I", .fieldLink RX8 23 "SaltStreet$Tray" "size" "I", .fieldLink RX8 9 "SaltStreet$Tray" "row" "[J", .instanceMethod yX8_lay, .selects RX8 yX8_lay yX8_lay, .initialized RX8, .methodLink RX11 124 yX11_granted]
def vdp_tray_1 : List Cond := [.code yX11_granted cX11_granted 1 (some .boolean), .instanceMethod yX11_granted, .selects RX11 yX11_granted yX11_granted]
def vdp_tray : List Cond := (vdp_tray_0 ++ vdp_tray_1)
def vp_tray : List Cond := vdp_tray ++ (wsX110 ++ (wsX80 ++ ([] : List Cond)))
theorem ip_tray_X11 : ∀ w ∈ wsX110, w ∈ vp_tray := fun _ h => List.mem_append_right _ (List.mem_append_left _ h)
theorem ip_tray_X8 : ∀ w ∈ wsX80, w ∈ vp_tray := fun _ h => List.mem_append_right _ (List.mem_append_right _ (List.mem_append_left _ h))
set_option maxRecDepth 20000 in
theorem gp_tray_109_c_isTray : GoodIn vp_tray (va_wsS RX11 109 yX11_isTray vc_isTray) := (goodIn_app (goodIn_r _ [1, 7, 6] rfl (by decide +kernel)) (goodIn_app (goodIn_r vdc_isTray [2, 3, 4, 5, 6] rfl (by decide +kernel)) goodIn_nil))
set_option maxRecDepth 20000 in
theorem gp_tray_117_c_refused : GoodIn vp_tray (wsV RX11 117 RX11 yX11_refused vc_refused) := (goodIn_app (goodIn_r _ [8, 11, 12, 6] rfl (by decide +kernel)) (goodIn_app (goodIn_r vdc_refused [9, 10] rfl (by decide +kernel)) (goodIn_app (goodIn_sub ip_tray_X11 gdX11) goodIn_nil)))
set_option maxRecDepth 20000 in
theorem gp_tray_113_c_within : GoodIn vp_tray (va_wsS RX11 113 yX11_within vc_within) := (goodIn_app (goodIn_r _ [3, 5, 6] rfl (by decide +kernel)) (goodIn_app (goodIn_r vdc_within [4] rfl (by decide +kernel)) goodIn_nil))
set_option maxRecDepth 20000 in
theorem gp_tray_120_c_lay : GoodIn vp_tray (wsV RX11 120 RX8 yX8_lay vc_lay) := (goodIn_app (goodIn_r _ [14, 20, 21, 22] rfl (by decide +kernel)) (goodIn_app (goodIn_r vdc_lay [15, 16, 17, 18, 19] rfl (by decide +kernel)) (goodIn_app (goodIn_sub ip_tray_X8 gdX8) goodIn_nil)))
set_option maxRecDepth 20000 in
theorem gp_tray_124_c_granted : GoodIn vp_tray (wsV RX11 124 RX11 yX11_granted vc_granted) := (goodIn_app (goodIn_r _ [23, 25, 26, 6] rfl (by decide +kernel)) (goodIn_app (goodIn_r vdc_granted [24, 10] rfl (by decide +kernel)) (goodIn_app (goodIn_sub ip_tray_X11 gdX11) goodIn_nil)))
set_option maxHeartbeats 4000000 in
set_option maxRecDepth 100000 in
theorem p_tray (l : Launch) (D : va_G) (kc : Nat → ClassId) (sz : Nat) (xa : Nat → Nat) (na : Nat → Nat) (pa : Nat → Nat) (a0 : Int32) (a1 : Int32) (a2 : Int32) : Met l yX11_tray vp_tray ({ frames := 2, cells := 0, slots := 0, locals := 42 }) (va_Pc [.ref (xa 0), .int a0, .int a1, .int a2] (wPre D kc [(xa 0, .inr (10, [.ref (xa 1), .ref (xa 2), .ref (na 0), .ref (pa 0), .ref (xa 3), .ref (na 1), .ref (na 2), .ref (xa 4), .ref (xa 5), .ref (xa 6), .ref (xa 7), .ref (xa 8), .ref (xa 9), .int 0, .int 0, .int 0, .long 0, .long 1, .int (-1), .int (-1)])), (xa 2, .inl (kc 3, 4, .inr (.inr (.inr (.inr (tg xa)))))), (xa 10, .inr (8, [.ref (xa 14), .int 0, .int 0, .int 0])), (xa 11, .inr (8, [.ref (xa 15), .int 0, .int 0, .int 0])), (xa 12, .inr (8, [.ref (xa 16), .int 0, .int 0, .int 0])), (xa 13, .inr (8, [.ref (xa 17), .int 0, .int 0, .int 0])), (xa 14, .inl (kc 1, 60, .inr (.inl z1))), (xa 15, .inl (kc 1, 60, .inr (.inl z1))), (xa 16, .inl (kc 1, 60, .inr (.inl z1))), (xa 17, .inl (kc 1, 60, .inr (.inl z1)))] sz)) (va_Qi (fun (r : Int32) (_ : Unit) => r = (sTray a0 a1 a2)) wAny (va_A [(xa 0, .inr (10, [.ref (xa 1), .ref (xa 2), .ref (na 0), .ref (pa 0), .ref (xa 3), .ref (na 1), .ref (na 2), .ref (xa 4), .ref (xa 5), .ref (xa 6), .ref (xa 7), .ref (xa 8), .ref (xa 9), .int 0, .int 0, .int 0, .long 0, .long 1, .int (-1), .int (-1)])), (xa 2, .inl (kc 3, 4, .inr (.inr (.inr (.inr (tg xa)))))), (xa 10, .inr (8, [.ref (xa 14), .int 0, .int 0, .int 0])), (xa 11, .inr (8, [.ref (xa 15), .int 0, .int 0, .int 0])), (xa 12, .inr (8, [.ref (xa 16), .int 0, .int 0, .int 0])), (xa 13, .inr (8, [.ref (xa 17), .int 0, .int 0, .int 0])), (xa 14, .inl (kc 1, 60, .inr (.inl z1))), (xa 15, .inl (kc 1, 60, .inr (.inl z1))), (xa 16, .inl (kc 1, 60, .inr (.inl z1))), (xa 17, .inl (kc 1, 60, .inr (.inl z1)))] sz)) 0 0 (va_A [(xa 0, .inr (10, [.ref (xa 1), .ref (xa 2), .ref (na 0), .ref (pa 0), .ref (xa 3), .ref (na 1), .ref (na 2), .ref (xa 4), .ref (xa 5), .ref (xa 6), .ref (xa 7), .ref (xa 8), .ref (xa 9), .int 0, .int 0, .int 0, .long 0, .long 1, .int (-1), .int (-1)])), (xa 2, .inl (kc 3, 4, .inr (.inr (.inr (.inr (tg xa)))))), (xa 10, .inr (8, [.ref (xa 14), .int 0, .int 0, .int 0])), (xa 11, .inr (8, [.ref (xa 15), .int 0, .int 0, .int 0])), (xa 12, .inr (8, [.ref (xa 16), .int 0, .int 0, .int 0])), (xa 13, .inr (8, [.ref (xa 17), .int 0, .int 0, .int 0])), (xa 14, .inl (kc 1, 60, .inr (.inl z1))), (xa 15, .inl (kc 1, 60, .inr (.inl z1))), (xa 16, .inl (kc 1, 60, .inr (.inl z1))), (xa 17, .inl (kc 1, 60, .inr (.inl z1)))] sz) := by
  refine Met.ofW (cc := cX11_tray) (maxL := 4) (ret := (some .boolean)) (by decide) rfl ?_
  intro p e s m args below meth c s₁ B hml hv
  obtain ⟨rfl, hsz, hP, hE, hD0⟩ := hv
  have hx := B.exec
  have hb := B.bytes
  have hr := B.returns
  have hts := atoms_spec (ws := vp_tray) B.pre
  have hown : s.vm.findClass RX11 = some m.cls := findClass_of_methodNamed B.named
  have hlocks := B.notSynchronized
  subst hsz
  have hD := hD0.self (sz := s.heap.size)
  generalize hAe : va_A [(xa 0, .inr (10, [.ref (xa 1), .ref (xa 2), .ref (na 0), .ref (pa 0), .ref (xa 3), .ref (na 1), .ref (na 2), .ref (xa 4), .ref (xa 5), .ref (xa 6), .ref (xa 7), .ref (xa 8), .ref (xa 9), .int 0, .int 0, .int 0, .long 0, .long 1, .int (-1), .int (-1)])), (xa 2, .inl (kc 3, 4, .inr (.inr (.inr (.inr (tg xa)))))), (xa 10, .inr (8, [.ref (xa 14), .int 0, .int 0, .int 0])), (xa 11, .inr (8, [.ref (xa 15), .int 0, .int 0, .int 0])), (xa 12, .inr (8, [.ref (xa 16), .int 0, .int 0, .int 0])), (xa 13, .inr (8, [.ref (xa 17), .int 0, .int 0, .int 0])), (xa 14, .inl (kc 1, 60, .inr (.inl z1))), (xa 15, .inl (kc 1, 60, .inr (.inl z1))), (xa 16, .inl (kc 1, 60, .inr (.inl z1))), (xa 17, .inl (kc 1, 60, .inr (.inl z1)))] s.heap.size = A at hD ⊢
  have hA : ∀ q : Nat, s.heap.size ≤ q → A q := fun q h => by rw [← hAe]; exact Or.inr h
  have hS : va_S A s.heap s.heap [] := va_S.rf
  have hK := hE.1
  have hP : va_P D vwCl [(xa 0, .inr (10, [.ref (xa 1), .ref (xa 2), .ref (na 0), .ref (pa 0), .ref (xa 3), .ref (na 1), .ref (na 2), .ref (xa 4), .ref (xa 5), .ref (xa 6), .ref (xa 7), .ref (xa 8), .ref (xa 9), .int 0, .int 0, .int 0, .long 0, .long 1, .int (-1), .int (-1)])), (xa 2, .inl (kc 3, 4, .inr (.inr (.inr (.inr (tg xa)))))), (xa 10, .inr (8, [.ref (xa 14), .int 0, .int 0, .int 0])), (xa 11, .inr (8, [.ref (xa 15), .int 0, .int 0, .int 0])), (xa 12, .inr (8, [.ref (xa 16), .int 0, .int 0, .int 0])), (xa 13, .inr (8, [.ref (xa 17), .int 0, .int 0, .int 0])), (xa 14, .inl (kc 1, 60, .inr (.inl z1))), (xa 15, .inl (kc 1, 60, .inr (.inl z1))), (xa 16, .inl (kc 1, 60, .inr (.inl z1))), (xa 17, .inl (kc 1, 60, .inr (.inl z1)))] s.heap := hP
  have hl := lv_entry ([.ref (xa 0), .int a0, .int a1, .int a2]) (n := 4) (Nat.le_of_ble_eq_true rfl)
  rw [lg_entry_eq]
  generalize (lg_sl ([.ref (xa 0), .int a0, .int a1, .int a2]) ++ List.replicate (4 - (lg_sl ([.ref (xa 0), .int a0, .int a1, .int a2])).length) Slot.unset).toArray = ls at hl ⊢
  have hl : lv_has ls 4 [(0, .ref (xa 0)), (1, .int a0), (2, .int a1), (3, .int a2)] := hl
  rcases tr_cases a0 with h_a0 | rfl | rfl | rfl | rfl
  · refine lv_iload_n hx hb dX11_tray_0 rfl (lv_at hl 1 rfl) ?_
    have hPc := hP.sub (ws' := []) [] rfl
    have hDc := hD.sub (ws' := []) [] (by decide) rfl
    have hFc := va_free (wc := []) hD hS hA [] rfl
    refine va_calli (va_runS (As := [.int a0]) (rest := []) ⟨hx, hb, hml, hown, hts⟩ (c_isTray l D kc s.heap.size a0) (va_cwS 1 hts gp_tray_109_c_isTray rfl rfl rfl (by decide +kernel) ⟨Nat.le_of_ble_eq_true rfl, Nat.le_of_ble_eq_true rfl⟩) (preS_ok hPc hDc hE) rfl rfl hl.1 rfl (lv_room (Nat.le_of_ble_eq_true rfl)) dX11_tray_1 ⟨Nat.le_of_ble_eq_true rfl, Nat.le_of_ble_eq_true rfl⟩) hS (fun q _ h => hFc q h) hFc (fun r_1 u9 t9 H locs ht hvm hw hB hz1 hk1 hS => ?_)
    obtain ⟨hP1, hD1⟩ := hB
    rw [ht] at hP1
    obtain ⟨hP, hD⟩ := va_join (wr := [(xa 0, .inr (10, [.ref (xa 1), .ref (xa 2), .ref (na 0), .ref (pa 0), .ref (xa 3), .ref (na 1), .ref (na 2), .ref (xa 4), .ref (xa 5), .ref (xa 6), .ref (xa 7), .ref (xa 8), .ref (xa 9), .int 0, .int 0, .int 0, .long 0, .long 1, .int (-1), .int (-1)])), (xa 2, .inl (kc 3, 4, .inr (.inr (.inr (.inr (tg xa)))))), (xa 10, .inr (8, [.ref (xa 14), .int 0, .int 0, .int 0])), (xa 11, .inr (8, [.ref (xa 15), .int 0, .int 0, .int 0])), (xa 12, .inr (8, [.ref (xa 16), .int 0, .int 0, .int 0])), (xa 13, .inr (8, [.ref (xa 17), .int 0, .int 0, .int 0])), (xa 14, .inl (kc 1, 60, .inr (.inl z1))), (xa 15, .inl (kc 1, 60, .inr (.inl z1))), (xa 16, .inl (kc 1, 60, .inr (.inl z1))), (xa 17, .inl (kc 1, 60, .inr (.inl z1)))]) (w1 := []) hP hD [] [0, 1, 2, 3, 4, 5, 6, 7, 8, 9] rfl rfl (by decide) (by decide) hk1 hFc hP1 hD1
    have hP : va_P D vwCl [(xa 0, .inr (10, [.ref (xa 1), .ref (xa 2), .ref (na 0), .ref (pa 0), .ref (xa 3), .ref (na 1), .ref (na 2), .ref (xa 4), .ref (xa 5), .ref (xa 6), .ref (xa 7), .ref (xa 8), .ref (xa 9), .int 0, .int 0, .int 0, .long 0, .long 1, .int (-1), .int (-1)])), (xa 2, .inl (kc 3, 4, .inr (.inr (.inr (.inr (tg xa)))))), (xa 10, .inr (8, [.ref (xa 14), .int 0, .int 0, .int 0])), (xa 11, .inr (8, [.ref (xa 15), .int 0, .int 0, .int 0])), (xa 12, .inr (8, [.ref (xa 16), .int 0, .int 0, .int 0])), (xa 13, .inr (8, [.ref (xa 17), .int 0, .int 0, .int 0])), (xa 14, .inl (kc 1, 60, .inr (.inl z1))), (xa 15, .inl (kc 1, 60, .inr (.inl z1))), (xa 16, .inl (kc 1, 60, .inr (.inl z1))), (xa 17, .inl (kc 1, 60, .inr (.inl z1)))] H := hP
    have hD : va_D A [(xa 0, .inr (10, [.ref (xa 1), .ref (xa 2), .ref (na 0), .ref (pa 0), .ref (xa 3), .ref (na 1), .ref (na 2), .ref (xa 4), .ref (xa 5), .ref (xa 6), .ref (xa 7), .ref (xa 8), .ref (xa 9), .int 0, .int 0, .int 0, .long 0, .long 1, .int (-1), .int (-1)])), (xa 2, .inl (kc 3, 4, .inr (.inr (.inr (.inr (tg xa)))))), (xa 10, .inr (8, [.ref (xa 14), .int 0, .int 0, .int 0])), (xa 11, .inr (8, [.ref (xa 15), .int 0, .int 0, .int 0])), (xa 12, .inr (8, [.ref (xa 16), .int 0, .int 0, .int 0])), (xa 13, .inr (8, [.ref (xa 17), .int 0, .int 0, .int 0])), (xa 14, .inl (kc 1, 60, .inr (.inl z1))), (xa 15, .inl (kc 1, 60, .inr (.inl z1))), (xa 16, .inl (kc 1, 60, .inr (.inl z1))), (xa 17, .inl (kc 1, 60, .inr (.inl z1)))] := hD
    subst hw
    refine lv_ci (y := 0) (h_a0) ?_
    refine lv_if_eq (tgt := 26) hx hb dX11_tray_4 (by decide) (fun _ => ?_) (fun h => absurd (by decide) h)
    refine lv_aload_n hx hb dX11_tray_26 rfl (lv_at hl 0 rfl) ?_
    refine lv_iconst (v := 1) hx hb dX11_tray_27 (by decide) ?_
    have hPc := hP.sub (ws' := [(xa 0, .inr (10, [.ref (xa 1), .ref (xa 2), .ref (na 0), .ref (pa 0), .ref (xa 3), .ref (na 1), .ref (na 2), .ref (xa 4), .ref (xa 5), .ref (xa 6), .ref (xa 7), .ref (xa 8), .ref (xa 9), .int 0, .int 0, .int 0, .long 0, .long 1, .int (-1), .int (-1)]))]) [0] rfl
    have hDc := hD.sub (ws' := [(xa 0, .inr (10, [.ref (xa 1), .ref (xa 2), .ref (na 0), .ref (pa 0), .ref (xa 3), .ref (na 1), .ref (na 2), .ref (xa 4), .ref (xa 5), .ref (xa 6), .ref (xa 7), .ref (xa 8), .ref (xa 9), .int 0, .int 0, .int 0, .long 0, .long 1, .int (-1), .int (-1)]))]) [0] (by decide) rfl
    have hFc := va_free (wc := [(xa 0, .inr (10, [.ref (xa 1), .ref (xa 2), .ref (na 0), .ref (pa 0), .ref (xa 3), .ref (na 1), .ref (na 2), .ref (xa 4), .ref (xa 5), .ref (xa 6), .ref (xa 7), .ref (xa 8), .ref (xa 9), .int 0, .int 0, .int 0, .long 0, .long 1, .int (-1), .int (-1)]))]) hD hS hA [0] rfl
    refine va_calli (va_runV (As := [.int 1]) (rest := []) ⟨hx, hb, hml, hown, hts⟩ (c_refused l D kc H.size xa na pa 0 0 0 0 1 (-1) (-1) 1) (cwV 1 hts gp_tray_117_c_refused rfl rfl rfl (by decide +kernel) ⟨Nat.le_of_ble_eq_true rfl, Nat.le_of_ble_eq_true rfl⟩) (preV_ok hPc hDc hE (ci := 10) (q0 := 0) rfl rfl) rfl rfl hl.1 rfl (lv_room (Nat.le_of_ble_eq_true rfl)) dX11_tray_28 ⟨Nat.le_of_ble_eq_true rfl, Nat.le_of_ble_eq_true rfl⟩) hS (fun q _ h => hFc q h) hFc (fun r_28 u9 t9 H locs ht hvm hw hB hz1 hk1 hS => ?_)
    obtain ⟨hP1, hD1⟩ := hB
    rw [ht] at hP1
    obtain ⟨hP, hD⟩ := va_join (wr := [(xa 2, .inl (kc 3, 4, .inr (.inr (.inr (.inr (tg xa)))))), (xa 10, .inr (8, [.ref (xa 14), .int 0, .int 0, .int 0])), (xa 11, .inr (8, [.ref (xa 15), .int 0, .int 0, .int 0])), (xa 12, .inr (8, [.ref (xa 16), .int 0, .int 0, .int 0])), (xa 13, .inr (8, [.ref (xa 17), .int 0, .int 0, .int 0])), (xa 14, .inl (kc 1, 60, .inr (.inl z1))), (xa 15, .inl (kc 1, 60, .inr (.inl z1))), (xa 16, .inl (kc 1, 60, .inr (.inl z1))), (xa 17, .inl (kc 1, 60, .inr (.inl z1)))]) (w1 := [(xa 0, .inr (10, [.ref (xa 1), .ref (xa 2), .ref (na 0), .ref (pa 0), .ref (xa 3), .ref (na 1), .ref (na 2), .ref (xa 4), .ref (xa 5), .ref (xa 6), .ref (xa 7), .ref (xa 8), .ref (xa 9), .int 0, .int 0, .int 1, .long 0, .long 1, .int (-1), .int (-1)]))]) hP hD [0] [1, 2, 3, 4, 5, 6, 7, 8, 9] rfl rfl (by decide) (by decide) hk1 hFc hP1 hD1
    have hP : va_P D vwCl [(xa 2, .inl (kc 3, 4, .inr (.inr (.inr (.inr (tg xa)))))), (xa 10, .inr (8, [.ref (xa 14), .int 0, .int 0, .int 0])), (xa 11, .inr (8, [.ref (xa 15), .int 0, .int 0, .int 0])), (xa 12, .inr (8, [.ref (xa 16), .int 0, .int 0, .int 0])), (xa 13, .inr (8, [.ref (xa 17), .int 0, .int 0, .int 0])), (xa 14, .inl (kc 1, 60, .inr (.inl z1))), (xa 15, .inl (kc 1, 60, .inr (.inl z1))), (xa 16, .inl (kc 1, 60, .inr (.inl z1))), (xa 17, .inl (kc 1, 60, .inr (.inl z1))), (xa 0, .inr (10, [.ref (xa 1), .ref (xa 2), .ref (na 0), .ref (pa 0), .ref (xa 3), .ref (na 1), .ref (na 2), .ref (xa 4), .ref (xa 5), .ref (xa 6), .ref (xa 7), .ref (xa 8), .ref (xa 9), .int 0, .int 0, .int 1, .long 0, .long 1, .int (-1), .int (-1)]))] H := hP
    have hD : va_D A [(xa 2, .inl (kc 3, 4, .inr (.inr (.inr (.inr (tg xa)))))), (xa 10, .inr (8, [.ref (xa 14), .int 0, .int 0, .int 0])), (xa 11, .inr (8, [.ref (xa 15), .int 0, .int 0, .int 0])), (xa 12, .inr (8, [.ref (xa 16), .int 0, .int 0, .int 0])), (xa 13, .inr (8, [.ref (xa 17), .int 0, .int 0, .int 0])), (xa 14, .inl (kc 1, 60, .inr (.inl z1))), (xa 15, .inl (kc 1, 60, .inr (.inl z1))), (xa 16, .inl (kc 1, 60, .inr (.inl z1))), (xa 17, .inl (kc 1, 60, .inr (.inl z1))), (xa 0, .inr (10, [.ref (xa 1), .ref (xa 2), .ref (na 0), .ref (pa 0), .ref (xa 3), .ref (na 1), .ref (na 2), .ref (xa 4), .ref (xa 5), .ref (xa 6), .ref (xa 7), .ref (xa 8), .ref (xa 9), .int 0, .int 0, .int 1, .long 0, .long 1, .int (-1), .int (-1)]))] := hD
    subst hw
    exact W.zret (v := 0) hx hb hr rfl (fun t9 ht hW => ⟨⟨0, (), rfl, by first | exact (if_pos h_a0).symm | exact (st_1 _ (by decide) c_4).symm | exact (st_1 _ (by decide) c_13).symm | exact (st_1 _ (by decide) c_23).symm | exact (st_2 _ _ (by decide) c_4 c_13).symm | exact (st_3 _ _ _ (by decide) c_4 c_13).symm | exact (st_2 _ _ (by decide) c_4 c_23).symm | exact (st_3 _ _ _ (by decide) c_4 c_23).symm | exact (st_2 _ _ (by decide) c_13 c_4).symm | exact (st_3 _ _ _ (by decide) c_13 c_4).symm | exact (st_2 _ _ (by decide) c_13 c_23).symm | exact (st_3 _ _ _ (by decide) c_13 c_23).symm | exact (st_2 _ _ (by decide) c_23 c_4).symm | exact (st_3 _ _ _ (by decide) c_23 c_4).symm | exact (st_2 _ _ (by decide) c_23 c_13).symm | exact (st_3 _ _ _ (by decide) c_23 c_13).symm, trivial⟩, hS.F ht⟩) hS.2.2 dX11_tray_31
  · refine lv_iload_n hx hb dX11_tray_0 rfl (lv_at hl 1 rfl) ?_
    have hPc := hP.sub (ws' := []) [] rfl
    have hDc := hD.sub (ws' := []) [] (by decide) rfl
    have hFc := va_free (wc := []) hD hS hA [] rfl
    refine va_calli (va_runS (As := [.int 0]) (rest := []) ⟨hx, hb, hml, hown, hts⟩ (c_isTray l D kc s.heap.size 0) (va_cwS 1 hts gp_tray_109_c_isTray rfl rfl rfl (by decide +kernel) ⟨Nat.le_of_ble_eq_true rfl, Nat.le_of_ble_eq_true rfl⟩) (preS_ok hPc hDc hE) rfl rfl hl.1 rfl (lv_room (Nat.le_of_ble_eq_true rfl)) dX11_tray_1 ⟨Nat.le_of_ble_eq_true rfl, Nat.le_of_ble_eq_true rfl⟩) hS (fun q _ h => hFc q h) hFc (fun r_1 u9 t9 H locs ht hvm hw hB hz1 hk1 hS => ?_)
    obtain ⟨hP1, hD1⟩ := hB
    rw [ht] at hP1
    obtain ⟨hP, hD⟩ := va_join (wr := [(xa 0, .inr (10, [.ref (xa 1), .ref (xa 2), .ref (na 0), .ref (pa 0), .ref (xa 3), .ref (na 1), .ref (na 2), .ref (xa 4), .ref (xa 5), .ref (xa 6), .ref (xa 7), .ref (xa 8), .ref (xa 9), .int 0, .int 0, .int 0, .long 0, .long 1, .int (-1), .int (-1)])), (xa 2, .inl (kc 3, 4, .inr (.inr (.inr (.inr (tg xa)))))), (xa 10, .inr (8, [.ref (xa 14), .int 0, .int 0, .int 0])), (xa 11, .inr (8, [.ref (xa 15), .int 0, .int 0, .int 0])), (xa 12, .inr (8, [.ref (xa 16), .int 0, .int 0, .int 0])), (xa 13, .inr (8, [.ref (xa 17), .int 0, .int 0, .int 0])), (xa 14, .inl (kc 1, 60, .inr (.inl z1))), (xa 15, .inl (kc 1, 60, .inr (.inl z1))), (xa 16, .inl (kc 1, 60, .inr (.inl z1))), (xa 17, .inl (kc 1, 60, .inr (.inl z1)))]) (w1 := []) hP hD [] [0, 1, 2, 3, 4, 5, 6, 7, 8, 9] rfl rfl (by decide) (by decide) hk1 hFc hP1 hD1
    have hP : va_P D vwCl [(xa 0, .inr (10, [.ref (xa 1), .ref (xa 2), .ref (na 0), .ref (pa 0), .ref (xa 3), .ref (na 1), .ref (na 2), .ref (xa 4), .ref (xa 5), .ref (xa 6), .ref (xa 7), .ref (xa 8), .ref (xa 9), .int 0, .int 0, .int 0, .long 0, .long 1, .int (-1), .int (-1)])), (xa 2, .inl (kc 3, 4, .inr (.inr (.inr (.inr (tg xa)))))), (xa 10, .inr (8, [.ref (xa 14), .int 0, .int 0, .int 0])), (xa 11, .inr (8, [.ref (xa 15), .int 0, .int 0, .int 0])), (xa 12, .inr (8, [.ref (xa 16), .int 0, .int 0, .int 0])), (xa 13, .inr (8, [.ref (xa 17), .int 0, .int 0, .int 0])), (xa 14, .inl (kc 1, 60, .inr (.inl z1))), (xa 15, .inl (kc 1, 60, .inr (.inl z1))), (xa 16, .inl (kc 1, 60, .inr (.inl z1))), (xa 17, .inl (kc 1, 60, .inr (.inl z1)))] H := hP
    have hD : va_D A [(xa 0, .inr (10, [.ref (xa 1), .ref (xa 2), .ref (na 0), .ref (pa 0), .ref (xa 3), .ref (na 1), .ref (na 2), .ref (xa 4), .ref (xa 5), .ref (xa 6), .ref (xa 7), .ref (xa 8), .ref (xa 9), .int 0, .int 0, .int 0, .long 0, .long 1, .int (-1), .int (-1)])), (xa 2, .inl (kc 3, 4, .inr (.inr (.inr (.inr (tg xa)))))), (xa 10, .inr (8, [.ref (xa 14), .int 0, .int 0, .int 0])), (xa 11, .inr (8, [.ref (xa 15), .int 0, .int 0, .int 0])), (xa 12, .inr (8, [.ref (xa 16), .int 0, .int 0, .int 0])), (xa 13, .inr (8, [.ref (xa 17), .int 0, .int 0, .int 0])), (xa 14, .inl (kc 1, 60, .inr (.inl z1))), (xa 15, .inl (kc 1, 60, .inr (.inl z1))), (xa 16, .inl (kc 1, 60, .inr (.inl z1))), (xa 17, .inl (kc 1, 60, .inr (.inl z1)))] := hD
    subst hw
    refine lv_ci (y := 1) (by decide) ?_
    refine lv_if_eq (tgt := 26) hx hb dX11_tray_4 (by decide) (fun h => absurd h (by decide)) (fun _ => ?_)
    refine lv_iload_n hx hb dX11_tray_7 rfl (lv_at hl 2 rfl) ?_
    refine lv_iconst (v := 0) hx hb dX11_tray_8 (by decide) ?_
    refine lv_iconst (v := 3) hx hb dX11_tray_9 (by decide) ?_
    have hPc := hP.sub (ws' := []) [] rfl
    have hDc := hD.sub (ws' := []) [] (by decide) rfl
    have hFc := va_free (wc := []) hD hS hA [] rfl
    refine va_calli (va_runS (As := [.int a1, .int 0, .int 3]) (rest := []) ⟨hx, hb, hml, hown, hts⟩ (c_within l D kc H.size a1 0 3) (va_cwS 3 hts gp_tray_113_c_within rfl rfl rfl (by decide +kernel) ⟨Nat.le_of_ble_eq_true rfl, Nat.le_of_ble_eq_true rfl⟩) (preS_ok hPc hDc hE) rfl rfl hl.1 rfl (lv_room (Nat.le_of_ble_eq_true rfl)) dX11_tray_10 ⟨Nat.le_of_ble_eq_true rfl, Nat.le_of_ble_eq_true rfl⟩) hS (fun q _ h => hFc q h) hFc (fun r_10 u9 t9 H locs ht hvm hw hB hz1 hk1 hS => ?_)
    obtain ⟨hP1, hD1⟩ := hB
    rw [ht] at hP1
    obtain ⟨hP, hD⟩ := va_join (wr := [(xa 0, .inr (10, [.ref (xa 1), .ref (xa 2), .ref (na 0), .ref (pa 0), .ref (xa 3), .ref (na 1), .ref (na 2), .ref (xa 4), .ref (xa 5), .ref (xa 6), .ref (xa 7), .ref (xa 8), .ref (xa 9), .int 0, .int 0, .int 0, .long 0, .long 1, .int (-1), .int (-1)])), (xa 2, .inl (kc 3, 4, .inr (.inr (.inr (.inr (tg xa)))))), (xa 10, .inr (8, [.ref (xa 14), .int 0, .int 0, .int 0])), (xa 11, .inr (8, [.ref (xa 15), .int 0, .int 0, .int 0])), (xa 12, .inr (8, [.ref (xa 16), .int 0, .int 0, .int 0])), (xa 13, .inr (8, [.ref (xa 17), .int 0, .int 0, .int 0])), (xa 14, .inl (kc 1, 60, .inr (.inl z1))), (xa 15, .inl (kc 1, 60, .inr (.inl z1))), (xa 16, .inl (kc 1, 60, .inr (.inl z1))), (xa 17, .inl (kc 1, 60, .inr (.inl z1)))]) (w1 := []) hP hD [] [0, 1, 2, 3, 4, 5, 6, 7, 8, 9] rfl rfl (by decide) (by decide) hk1 hFc hP1 hD1
    have hP : va_P D vwCl [(xa 0, .inr (10, [.ref (xa 1), .ref (xa 2), .ref (na 0), .ref (pa 0), .ref (xa 3), .ref (na 1), .ref (na 2), .ref (xa 4), .ref (xa 5), .ref (xa 6), .ref (xa 7), .ref (xa 8), .ref (xa 9), .int 0, .int 0, .int 0, .long 0, .long 1, .int (-1), .int (-1)])), (xa 2, .inl (kc 3, 4, .inr (.inr (.inr (.inr (tg xa)))))), (xa 10, .inr (8, [.ref (xa 14), .int 0, .int 0, .int 0])), (xa 11, .inr (8, [.ref (xa 15), .int 0, .int 0, .int 0])), (xa 12, .inr (8, [.ref (xa 16), .int 0, .int 0, .int 0])), (xa 13, .inr (8, [.ref (xa 17), .int 0, .int 0, .int 0])), (xa 14, .inl (kc 1, 60, .inr (.inl z1))), (xa 15, .inl (kc 1, 60, .inr (.inl z1))), (xa 16, .inl (kc 1, 60, .inr (.inl z1))), (xa 17, .inl (kc 1, 60, .inr (.inl z1)))] H := hP
    have hD : va_D A [(xa 0, .inr (10, [.ref (xa 1), .ref (xa 2), .ref (na 0), .ref (pa 0), .ref (xa 3), .ref (na 1), .ref (na 2), .ref (xa 4), .ref (xa 5), .ref (xa 6), .ref (xa 7), .ref (xa 8), .ref (xa 9), .int 0, .int 0, .int 0, .long 0, .long 1, .int (-1), .int (-1)])), (xa 2, .inl (kc 3, 4, .inr (.inr (.inr (.inr (tg xa)))))), (xa 10, .inr (8, [.ref (xa 14), .int 0, .int 0, .int 0])), (xa 11, .inr (8, [.ref (xa 15), .int 0, .int 0, .int 0])), (xa 12, .inr (8, [.ref (xa 16), .int 0, .int 0, .int 0])), (xa 13, .inr (8, [.ref (xa 17), .int 0, .int 0, .int 0])), (xa 14, .inl (kc 1, 60, .inr (.inl z1))), (xa 15, .inl (kc 1, 60, .inr (.inl z1))), (xa 16, .inl (kc 1, 60, .inr (.inl z1))), (xa 17, .inl (kc 1, 60, .inr (.inl z1)))] := hD
    subst hw
    refine lv_if_eq (tgt := 26) hx hb dX11_tray_13 (by decide) (fun c_13 => ?_) (fun c_13 => ?_)
    · refine lv_aload_n hx hb dX11_tray_26 rfl (lv_at hl 0 rfl) ?_
      refine lv_iconst (v := 1) hx hb dX11_tray_27 (by decide) ?_
      have hPc := hP.sub (ws' := [(xa 0, .inr (10, [.ref (xa 1), .ref (xa 2), .ref (na 0), .ref (pa 0), .ref (xa 3), .ref (na 1), .ref (na 2), .ref (xa 4), .ref (xa 5), .ref (xa 6), .ref (xa 7), .ref (xa 8), .ref (xa 9), .int 0, .int 0, .int 0, .long 0, .long 1, .int (-1), .int (-1)]))]) [0] rfl
      have hDc := hD.sub (ws' := [(xa 0, .inr (10, [.ref (xa 1), .ref (xa 2), .ref (na 0), .ref (pa 0), .ref (xa 3), .ref (na 1), .ref (na 2), .ref (xa 4), .ref (xa 5), .ref (xa 6), .ref (xa 7), .ref (xa 8), .ref (xa 9), .int 0, .int 0, .int 0, .long 0, .long 1, .int (-1), .int (-1)]))]) [0] (by decide) rfl
      have hFc := va_free (wc := [(xa 0, .inr (10, [.ref (xa 1), .ref (xa 2), .ref (na 0), .ref (pa 0), .ref (xa 3), .ref (na 1), .ref (na 2), .ref (xa 4), .ref (xa 5), .ref (xa 6), .ref (xa 7), .ref (xa 8), .ref (xa 9), .int 0, .int 0, .int 0, .long 0, .long 1, .int (-1), .int (-1)]))]) hD hS hA [0] rfl
      refine va_calli (va_runV (As := [.int 1]) (rest := []) ⟨hx, hb, hml, hown, hts⟩ (c_refused l D kc H.size xa na pa 0 0 0 0 1 (-1) (-1) 1) (cwV 1 hts gp_tray_117_c_refused rfl rfl rfl (by decide +kernel) ⟨Nat.le_of_ble_eq_true rfl, Nat.le_of_ble_eq_true rfl⟩) (preV_ok hPc hDc hE (ci := 10) (q0 := 0) rfl rfl) rfl rfl hl.1 rfl (lv_room (Nat.le_of_ble_eq_true rfl)) dX11_tray_28 ⟨Nat.le_of_ble_eq_true rfl, Nat.le_of_ble_eq_true rfl⟩) hS (fun q _ h => hFc q h) hFc (fun r_28_1 u9 t9 H locs ht hvm hw hB hz1 hk1 hS => ?_)
      obtain ⟨hP1, hD1⟩ := hB
      rw [ht] at hP1
      obtain ⟨hP, hD⟩ := va_join (wr := [(xa 2, .inl (kc 3, 4, .inr (.inr (.inr (.inr (tg xa)))))), (xa 10, .inr (8, [.ref (xa 14), .int 0, .int 0, .int 0])), (xa 11, .inr (8, [.ref (xa 15), .int 0, .int 0, .int 0])), (xa 12, .inr (8, [.ref (xa 16), .int 0, .int 0, .int 0])), (xa 13, .inr (8, [.ref (xa 17), .int 0, .int 0, .int 0])), (xa 14, .inl (kc 1, 60, .inr (.inl z1))), (xa 15, .inl (kc 1, 60, .inr (.inl z1))), (xa 16, .inl (kc 1, 60, .inr (.inl z1))), (xa 17, .inl (kc 1, 60, .inr (.inl z1)))]) (w1 := [(xa 0, .inr (10, [.ref (xa 1), .ref (xa 2), .ref (na 0), .ref (pa 0), .ref (xa 3), .ref (na 1), .ref (na 2), .ref (xa 4), .ref (xa 5), .ref (xa 6), .ref (xa 7), .ref (xa 8), .ref (xa 9), .int 0, .int 0, .int 1, .long 0, .long 1, .int (-1), .int (-1)]))]) hP hD [0] [1, 2, 3, 4, 5, 6, 7, 8, 9] rfl rfl (by decide) (by decide) hk1 hFc hP1 hD1
      have hP : va_P D vwCl [(xa 2, .inl (kc 3, 4, .inr (.inr (.inr (.inr (tg xa)))))), (xa 10, .inr (8, [.ref (xa 14), .int 0, .int 0, .int 0])), (xa 11, .inr (8, [.ref (xa 15), .int 0, .int 0, .int 0])), (xa 12, .inr (8, [.ref (xa 16), .int 0, .int 0, .int 0])), (xa 13, .inr (8, [.ref (xa 17), .int 0, .int 0, .int 0])), (xa 14, .inl (kc 1, 60, .inr (.inl z1))), (xa 15, .inl (kc 1, 60, .inr (.inl z1))), (xa 16, .inl (kc 1, 60, .inr (.inl z1))), (xa 17, .inl (kc 1, 60, .inr (.inl z1))), (xa 0, .inr (10, [.ref (xa 1), .ref (xa 2), .ref (na 0), .ref (pa 0), .ref (xa 3), .ref (na 1), .ref (na 2), .ref (xa 4), .ref (xa 5), .ref (xa 6), .ref (xa 7), .ref (xa 8), .ref (xa 9), .int 0, .int 0, .int 1, .long 0, .long 1, .int (-1), .int (-1)]))] H := hP
      have hD : va_D A [(xa 2, .inl (kc 3, 4, .inr (.inr (.inr (.inr (tg xa)))))), (xa 10, .inr (8, [.ref (xa 14), .int 0, .int 0, .int 0])), (xa 11, .inr (8, [.ref (xa 15), .int 0, .int 0, .int 0])), (xa 12, .inr (8, [.ref (xa 16), .int 0, .int 0, .int 0])), (xa 13, .inr (8, [.ref (xa 17), .int 0, .int 0, .int 0])), (xa 14, .inl (kc 1, 60, .inr (.inl z1))), (xa 15, .inl (kc 1, 60, .inr (.inl z1))), (xa 16, .inl (kc 1, 60, .inr (.inl z1))), (xa 17, .inl (kc 1, 60, .inr (.inl z1))), (xa 0, .inr (10, [.ref (xa 1), .ref (xa 2), .ref (na 0), .ref (pa 0), .ref (xa 3), .ref (na 1), .ref (na 2), .ref (xa 4), .ref (xa 5), .ref (xa 6), .ref (xa 7), .ref (xa 8), .ref (xa 9), .int 0, .int 0, .int 1, .long 0, .long 1, .int (-1), .int (-1)]))] := hD
      subst hw
      exact W.zret (v := 0) hx hb hr rfl (fun t9 ht hW => ⟨⟨0, (), rfl, by first | exact (if_pos h_a0).symm | exact (st_1 _ (by decide) c_4).symm | exact (st_1 _ (by decide) c_13).symm | exact (st_1 _ (by decide) c_23).symm | exact (st_2 _ _ (by decide) c_4 c_13).symm | exact (st_3 _ _ _ (by decide) c_4 c_13).symm | exact (st_2 _ _ (by decide) c_4 c_23).symm | exact (st_3 _ _ _ (by decide) c_4 c_23).symm | exact (st_2 _ _ (by decide) c_13 c_4).symm | exact (st_3 _ _ _ (by decide) c_13 c_4).symm | exact (st_2 _ _ (by decide) c_13 c_23).symm | exact (st_3 _ _ _ (by decide) c_13 c_23).symm | exact (st_2 _ _ (by decide) c_23 c_4).symm | exact (st_3 _ _ _ (by decide) c_23 c_4).symm | exact (st_2 _ _ (by decide) c_23 c_13).symm | exact (st_3 _ _ _ (by decide) c_23 c_13).symm, trivial⟩, hS.F ht⟩) hS.2.2 dX11_tray_31
    · refine lv_iload_n hx hb dX11_tray_16 rfl (lv_at hl 3 rfl) ?_
      refine lv_iconst (v := 0) hx hb dX11_tray_17 (by decide) ?_
      refine lv_bipush (v := 60) hx hb dX11_tray_18 (by decide) ?_
      have hPc := hP.sub (ws' := []) [] rfl
      have hDc := hD.sub (ws' := []) [] (by decide) rfl
      have hFc := va_free (wc := []) hD hS hA [] rfl
      refine va_calli (va_runS (As := [.int a2, .int 0, .int 60]) (rest := []) ⟨hx, hb, hml, hown, hts⟩ (c_within l D kc H.size a2 0 60) (va_cwS 3 hts gp_tray_113_c_within rfl rfl rfl (by decide +kernel) ⟨Nat.le_of_ble_eq_true rfl, Nat.le_of_ble_eq_true rfl⟩) (preS_ok hPc hDc hE) rfl rfl hl.1 rfl (lv_room (Nat.le_of_ble_eq_true rfl)) dX11_tray_20 ⟨Nat.le_of_ble_eq_true rfl, Nat.le_of_ble_eq_true rfl⟩) hS (fun q _ h => hFc q h) hFc (fun r_20_1 u9 t9 H locs ht hvm hw hB hz1 hk1 hS => ?_)
      obtain ⟨hP1, hD1⟩ := hB
      rw [ht] at hP1
      obtain ⟨hP, hD⟩ := va_join (wr := [(xa 0, .inr (10, [.ref (xa 1), .ref (xa 2), .ref (na 0), .ref (pa 0), .ref (xa 3), .ref (na 1), .ref (na 2), .ref (xa 4), .ref (xa 5), .ref (xa 6), .ref (xa 7), .ref (xa 8), .ref (xa 9), .int 0, .int 0, .int 0, .long 0, .long 1, .int (-1), .int (-1)])), (xa 2, .inl (kc 3, 4, .inr (.inr (.inr (.inr (tg xa)))))), (xa 10, .inr (8, [.ref (xa 14), .int 0, .int 0, .int 0])), (xa 11, .inr (8, [.ref (xa 15), .int 0, .int 0, .int 0])), (xa 12, .inr (8, [.ref (xa 16), .int 0, .int 0, .int 0])), (xa 13, .inr (8, [.ref (xa 17), .int 0, .int 0, .int 0])), (xa 14, .inl (kc 1, 60, .inr (.inl z1))), (xa 15, .inl (kc 1, 60, .inr (.inl z1))), (xa 16, .inl (kc 1, 60, .inr (.inl z1))), (xa 17, .inl (kc 1, 60, .inr (.inl z1)))]) (w1 := []) hP hD [] [0, 1, 2, 3, 4, 5, 6, 7, 8, 9] rfl rfl (by decide) (by decide) hk1 hFc hP1 hD1
      have hP : va_P D vwCl [(xa 0, .inr (10, [.ref (xa 1), .ref (xa 2), .ref (na 0), .ref (pa 0), .ref (xa 3), .ref (na 1), .ref (na 2), .ref (xa 4), .ref (xa 5), .ref (xa 6), .ref (xa 7), .ref (xa 8), .ref (xa 9), .int 0, .int 0, .int 0, .long 0, .long 1, .int (-1), .int (-1)])), (xa 2, .inl (kc 3, 4, .inr (.inr (.inr (.inr (tg xa)))))), (xa 10, .inr (8, [.ref (xa 14), .int 0, .int 0, .int 0])), (xa 11, .inr (8, [.ref (xa 15), .int 0, .int 0, .int 0])), (xa 12, .inr (8, [.ref (xa 16), .int 0, .int 0, .int 0])), (xa 13, .inr (8, [.ref (xa 17), .int 0, .int 0, .int 0])), (xa 14, .inl (kc 1, 60, .inr (.inl z1))), (xa 15, .inl (kc 1, 60, .inr (.inl z1))), (xa 16, .inl (kc 1, 60, .inr (.inl z1))), (xa 17, .inl (kc 1, 60, .inr (.inl z1)))] H := hP
      have hD : va_D A [(xa 0, .inr (10, [.ref (xa 1), .ref (xa 2), .ref (na 0), .ref (pa 0), .ref (xa 3), .ref (na 1), .ref (na 2), .ref (xa 4), .ref (xa 5), .ref (xa 6), .ref (xa 7), .ref (xa 8), .ref (xa 9), .int 0, .int 0, .int 0, .long 0, .long 1, .int (-1), .int (-1)])), (xa 2, .inl (kc 3, 4, .inr (.inr (.inr (.inr (tg xa)))))), (xa 10, .inr (8, [.ref (xa 14), .int 0, .int 0, .int 0])), (xa 11, .inr (8, [.ref (xa 15), .int 0, .int 0, .int 0])), (xa 12, .inr (8, [.ref (xa 16), .int 0, .int 0, .int 0])), (xa 13, .inr (8, [.ref (xa 17), .int 0, .int 0, .int 0])), (xa 14, .inl (kc 1, 60, .inr (.inl z1))), (xa 15, .inl (kc 1, 60, .inr (.inl z1))), (xa 16, .inl (kc 1, 60, .inr (.inl z1))), (xa 17, .inl (kc 1, 60, .inr (.inl z1)))] := hD
      subst hw
      refine lv_if_ne (tgt := 32) hx hb dX11_tray_23 (by decide) (fun c_23 => ?_) (fun c_23 => ?_)
      · refine lv_aload_n hx hb dX11_tray_32 rfl (lv_at hl 0 rfl) ?_
        refine va_get (D := D) (ci := 10) (v := .ref (xa 2)) (C := RX11) (T := TX11) (N := 20) hx hb hts ip_tray_X11 hown hK hP 0 rfl rfl 1 (by decide) (hts (.fieldLink RX11 15 "SaltStreet" "trays" "[LSaltStreet$Tray;") (List.mem_of_getElem? (i := 13) rfl)) (fun _ h9 => h9) rfl dX11_tray_33 ?_
        refine lv_iload_n hx hb dX11_tray_36 rfl (lv_at hl 1 rfl) ?_
        refine va_aldq hx hb hK hP 1 3 (f := (tg xa)) rfl rfl (by unfold vp_in; decide) dX11_tray_37 ?_
        refine lv_cv (y := .ref (xa 10)) (rfl) ?_
        refine lv_iload_n hx hb dX11_tray_38 rfl (lv_at hl 2 rfl) ?_
        refine lv_iload_n hx hb dX11_tray_39 rfl (lv_at hl 3 rfl) ?_
        have hPc := hP.sub (ws' := [(xa 10, .inr (8, [.ref (xa 14), .int 0, .int 0, .int 0])), (xa 14, .inl (kc 1, 60, .inr (.inl z1)))]) [2, 6] rfl
        have hDc := hD.sub (ws' := [(xa 10, .inr (8, [.ref (xa 14), .int 0, .int 0, .int 0])), (xa 14, .inl (kc 1, 60, .inr (.inl z1)))]) [2, 6] (by decide) rfl
        have hFc := va_free (wc := [(xa 10, .inr (8, [.ref (xa 14), .int 0, .int 0, .int 0])), (xa 14, .inl (kc 1, 60, .inr (.inl z1)))]) hD hS hA [2, 6] rfl
        refine va_callv (va_runV (As := [.int a1, .int a2]) (rest := []) ⟨hx, hb, hml, hown, hts⟩ (c_lay l D kc H.size (xa 10) (xa 14) a1 a2) (cwV 2 hts gp_tray_120_c_lay rfl rfl rfl (by decide +kernel) ⟨Nat.le_of_ble_eq_true rfl, Nat.le_of_ble_eq_true rfl⟩) (preV_ok hPc hDc hE (ci := 8) (q0 := 0) rfl rfl) rfl rfl hl.1 rfl (lv_room (Nat.le_of_ble_eq_true rfl)) dX11_tray_40 ⟨Nat.le_of_ble_eq_true rfl, Nat.le_of_ble_eq_true rfl⟩) hS (fun q _ h => hFc q h) hFc (fun u9 t9 H locs ht hvm hw hB hz1 hk1 hS => ?_)
        obtain ⟨hP, hD⟩ := va_join (wr := [(xa 0, .inr (10, [.ref (xa 1), .ref (xa 2), .ref (na 0), .ref (pa 0), .ref (xa 3), .ref (na 1), .ref (na 2), .ref (xa 4), .ref (xa 5), .ref (xa 6), .ref (xa 7), .ref (xa 8), .ref (xa 9), .int 0, .int 0, .int 0, .long 0, .long 1, .int (-1), .int (-1)])), (xa 2, .inl (kc 3, 4, .inr (.inr (.inr (.inr (tg xa)))))), (xa 11, .inr (8, [.ref (xa 15), .int 0, .int 0, .int 0])), (xa 12, .inr (8, [.ref (xa 16), .int 0, .int 0, .int 0])), (xa 13, .inr (8, [.ref (xa 17), .int 0, .int 0, .int 0])), (xa 15, .inl (kc 1, 60, .inr (.inl z1))), (xa 16, .inl (kc 1, 60, .inr (.inl z1))), (xa 17, .inl (kc 1, 60, .inr (.inl z1)))]) (w1 := []) hP hD [2, 6] [0, 1, 3, 4, 5, 7, 8, 9] rfl rfl (by decide) (by decide) hk1 hFc (fun _ _ h => by simp at h) ⟨fun _ _ _ _ h => by simp at h, fun _ _ h => by simp at h⟩
        have hP : va_P D vwCl [(xa 0, .inr (10, [.ref (xa 1), .ref (xa 2), .ref (na 0), .ref (pa 0), .ref (xa 3), .ref (na 1), .ref (na 2), .ref (xa 4), .ref (xa 5), .ref (xa 6), .ref (xa 7), .ref (xa 8), .ref (xa 9), .int 0, .int 0, .int 0, .long 0, .long 1, .int (-1), .int (-1)])), (xa 2, .inl (kc 3, 4, .inr (.inr (.inr (.inr (tg xa)))))), (xa 11, .inr (8, [.ref (xa 15), .int 0, .int 0, .int 0])), (xa 12, .inr (8, [.ref (xa 16), .int 0, .int 0, .int 0])), (xa 13, .inr (8, [.ref (xa 17), .int 0, .int 0, .int 0])), (xa 15, .inl (kc 1, 60, .inr (.inl z1))), (xa 16, .inl (kc 1, 60, .inr (.inl z1))), (xa 17, .inl (kc 1, 60, .inr (.inl z1)))] H := hP
        have hD : va_D A [(xa 0, .inr (10, [.ref (xa 1), .ref (xa 2), .ref (na 0), .ref (pa 0), .ref (xa 3), .ref (na 1), .ref (na 2), .ref (xa 4), .ref (xa 5), .ref (xa 6), .ref (xa 7), .ref (xa 8), .ref (xa 9), .int 0, .int 0, .int 0, .long 0, .long 1, .int (-1), .int (-1)])), (xa 2, .inl (kc 3, 4, .inr (.inr (.inr (.inr (tg xa)))))), (xa 11, .inr (8, [.ref (xa 15), .int 0, .int 0, .int 0])), (xa 12, .inr (8, [.ref (xa 16), .int 0, .int 0, .int 0])), (xa 13, .inr (8, [.ref (xa 17), .int 0, .int 0, .int 0])), (xa 15, .inl (kc 1, 60, .inr (.inl z1))), (xa 16, .inl (kc 1, 60, .inr (.inl z1))), (xa 17, .inl (kc 1, 60, .inr (.inl z1)))] := hD
        refine lv_aload_n hx hb dX11_tray_43 rfl (lv_at hl 0 rfl) ?_
        have hPc := hP.sub (ws' := [(xa 0, .inr (10, [.ref (xa 1), .ref (xa 2), .ref (na 0), .ref (pa 0), .ref (xa 3), .ref (na 1), .ref (na 2), .ref (xa 4), .ref (xa 5), .ref (xa 6), .ref (xa 7), .ref (xa 8), .ref (xa 9), .int 0, .int 0, .int 0, .long 0, .long 1, .int (-1), .int (-1)]))]) [0] rfl
        have hDc := hD.sub (ws' := [(xa 0, .inr (10, [.ref (xa 1), .ref (xa 2), .ref (na 0), .ref (pa 0), .ref (xa 3), .ref (na 1), .ref (na 2), .ref (xa 4), .ref (xa 5), .ref (xa 6), .ref (xa 7), .ref (xa 8), .ref (xa 9), .int 0, .int 0, .int 0, .long 0, .long 1, .int (-1), .int (-1)]))]) [0] (by decide) rfl
        have hFc := va_free (wc := [(xa 0, .inr (10, [.ref (xa 1), .ref (xa 2), .ref (na 0), .ref (pa 0), .ref (xa 3), .ref (na 1), .ref (na 2), .ref (xa 4), .ref (xa 5), .ref (xa 6), .ref (xa 7), .ref (xa 8), .ref (xa 9), .int 0, .int 0, .int 0, .long 0, .long 1, .int (-1), .int (-1)]))]) hD hS hA [0] rfl
        refine va_calli (va_runV (As := []) (rest := []) ⟨hx, hb, hml, hown, hts⟩ (c_granted l D kc H.size xa na pa 0 0 0 0 1 (-1) (-1)) (cwV 0 hts gp_tray_124_c_granted rfl rfl rfl (by decide +kernel) ⟨Nat.le_of_ble_eq_true rfl, Nat.le_of_ble_eq_true rfl⟩) (preV_ok hPc hDc hE (ci := 10) (q0 := 0) rfl rfl) rfl rfl hl.1 rfl (lv_room (Nat.le_of_ble_eq_true rfl)) dX11_tray_44 ⟨Nat.le_of_ble_eq_true rfl, Nat.le_of_ble_eq_true rfl⟩) hS (fun q _ h => hFc q h) hFc (fun r_44_2 u9 t9 H locs ht hvm hw hB hz1 hk1 hS => ?_)
        obtain ⟨hP1, hD1⟩ := hB
        rw [ht] at hP1
        obtain ⟨hP, hD⟩ := va_join (wr := [(xa 2, .inl (kc 3, 4, .inr (.inr (.inr (.inr (tg xa)))))), (xa 11, .inr (8, [.ref (xa 15), .int 0, .int 0, .int 0])), (xa 12, .inr (8, [.ref (xa 16), .int 0, .int 0, .int 0])), (xa 13, .inr (8, [.ref (xa 17), .int 0, .int 0, .int 0])), (xa 15, .inl (kc 1, 60, .inr (.inl z1))), (xa 16, .inl (kc 1, 60, .inr (.inl z1))), (xa 17, .inl (kc 1, 60, .inr (.inl z1)))]) (w1 := [(xa 0, .inr (10, [.ref (xa 1), .ref (xa 2), .ref (na 0), .ref (pa 0), .ref (xa 3), .ref (na 1), .ref (na 2), .ref (xa 4), .ref (xa 5), .ref (xa 6), .ref (xa 7), .ref (xa 8), .ref (xa 9), .int 0, .int 0, .int 0, .long 0, .long 1, .int (-1), .int (-1)]))]) hP hD [0] [1, 2, 3, 4, 5, 6, 7] rfl rfl (by decide) (by decide) hk1 hFc hP1 hD1
        have hP : va_P D vwCl [(xa 2, .inl (kc 3, 4, .inr (.inr (.inr (.inr (tg xa)))))), (xa 11, .inr (8, [.ref (xa 15), .int 0, .int 0, .int 0])), (xa 12, .inr (8, [.ref (xa 16), .int 0, .int 0, .int 0])), (xa 13, .inr (8, [.ref (xa 17), .int 0, .int 0, .int 0])), (xa 15, .inl (kc 1, 60, .inr (.inl z1))), (xa 16, .inl (kc 1, 60, .inr (.inl z1))), (xa 17, .inl (kc 1, 60, .inr (.inl z1))), (xa 0, .inr (10, [.ref (xa 1), .ref (xa 2), .ref (na 0), .ref (pa 0), .ref (xa 3), .ref (na 1), .ref (na 2), .ref (xa 4), .ref (xa 5), .ref (xa 6), .ref (xa 7), .ref (xa 8), .ref (xa 9), .int 0, .int 0, .int 0, .long 0, .long 1, .int (-1), .int (-1)]))] H := hP
        have hD : va_D A [(xa 2, .inl (kc 3, 4, .inr (.inr (.inr (.inr (tg xa)))))), (xa 11, .inr (8, [.ref (xa 15), .int 0, .int 0, .int 0])), (xa 12, .inr (8, [.ref (xa 16), .int 0, .int 0, .int 0])), (xa 13, .inr (8, [.ref (xa 17), .int 0, .int 0, .int 0])), (xa 15, .inl (kc 1, 60, .inr (.inl z1))), (xa 16, .inl (kc 1, 60, .inr (.inl z1))), (xa 17, .inl (kc 1, 60, .inr (.inl z1))), (xa 0, .inr (10, [.ref (xa 1), .ref (xa 2), .ref (na 0), .ref (pa 0), .ref (xa 3), .ref (na 1), .ref (na 2), .ref (xa 4), .ref (xa 5), .ref (xa 6), .ref (xa 7), .ref (xa 8), .ref (xa 9), .int 0, .int 0, .int 0, .long 0, .long 1, .int (-1), .int (-1)]))] := hD
        subst hw
        exact W.zret (v := 1) hx hb hr rfl (fun t9 ht hW => ⟨⟨1, (), rfl, by first | exact (if_pos h_a0).symm | exact (st_1 _ (by decide) c_4).symm | exact (st_1 _ (by decide) c_13).symm | exact (st_1 _ (by decide) c_23).symm | exact (st_2 _ _ (by decide) c_4 c_13).symm | exact (st_3 _ _ _ (by decide) c_4 c_13).symm | exact (st_2 _ _ (by decide) c_4 c_23).symm | exact (st_3 _ _ _ (by decide) c_4 c_23).symm | exact (st_2 _ _ (by decide) c_13 c_4).symm | exact (st_3 _ _ _ (by decide) c_13 c_4).symm | exact (st_2 _ _ (by decide) c_13 c_23).symm | exact (st_3 _ _ _ (by decide) c_13 c_23).symm | exact (st_2 _ _ (by decide) c_23 c_4).symm | exact (st_3 _ _ _ (by decide) c_23 c_4).symm | exact (st_2 _ _ (by decide) c_23 c_13).symm | exact (st_3 _ _ _ (by decide) c_23 c_13).symm, trivial⟩, hS.F ht⟩) hS.2.2 dX11_tray_47
      · refine lv_aload_n hx hb dX11_tray_26 rfl (lv_at hl 0 rfl) ?_
        refine lv_iconst (v := 1) hx hb dX11_tray_27 (by decide) ?_
        have hPc := hP.sub (ws' := [(xa 0, .inr (10, [.ref (xa 1), .ref (xa 2), .ref (na 0), .ref (pa 0), .ref (xa 3), .ref (na 1), .ref (na 2), .ref (xa 4), .ref (xa 5), .ref (xa 6), .ref (xa 7), .ref (xa 8), .ref (xa 9), .int 0, .int 0, .int 0, .long 0, .long 1, .int (-1), .int (-1)]))]) [0] rfl
        have hDc := hD.sub (ws' := [(xa 0, .inr (10, [.ref (xa 1), .ref (xa 2), .ref (na 0), .ref (pa 0), .ref (xa 3), .ref (na 1), .ref (na 2), .ref (xa 4), .ref (xa 5), .ref (xa 6), .ref (xa 7), .ref (xa 8), .ref (xa 9), .int 0, .int 0, .int 0, .long 0, .long 1, .int (-1), .int (-1)]))]) [0] (by decide) rfl
        have hFc := va_free (wc := [(xa 0, .inr (10, [.ref (xa 1), .ref (xa 2), .ref (na 0), .ref (pa 0), .ref (xa 3), .ref (na 1), .ref (na 2), .ref (xa 4), .ref (xa 5), .ref (xa 6), .ref (xa 7), .ref (xa 8), .ref (xa 9), .int 0, .int 0, .int 0, .long 0, .long 1, .int (-1), .int (-1)]))]) hD hS hA [0] rfl
        refine va_calli (va_runV (As := [.int 1]) (rest := []) ⟨hx, hb, hml, hown, hts⟩ (c_refused l D kc H.size xa na pa 0 0 0 0 1 (-1) (-1) 1) (cwV 1 hts gp_tray_117_c_refused rfl rfl rfl (by decide +kernel) ⟨Nat.le_of_ble_eq_true rfl, Nat.le_of_ble_eq_true rfl⟩) (preV_ok hPc hDc hE (ci := 10) (q0 := 0) rfl rfl) rfl rfl hl.1 rfl (lv_room (Nat.le_of_ble_eq_true rfl)) dX11_tray_28 ⟨Nat.le_of_ble_eq_true rfl, Nat.le_of_ble_eq_true rfl⟩) hS (fun q _ h => hFc q h) hFc (fun r_28_2 u9 t9 H locs ht hvm hw hB hz1 hk1 hS => ?_)
        obtain ⟨hP1, hD1⟩ := hB
        rw [ht] at hP1
        obtain ⟨hP, hD⟩ := va_join (wr := [(xa 2, .inl (kc 3, 4, .inr (.inr (.inr (.inr (tg xa)))))), (xa 10, .inr (8, [.ref (xa 14), .int 0, .int 0, .int 0])), (xa 11, .inr (8, [.ref (xa 15), .int 0, .int 0, .int 0])), (xa 12, .inr (8, [.ref (xa 16), .int 0, .int 0, .int 0])), (xa 13, .inr (8, [.ref (xa 17), .int 0, .int 0, .int 0])), (xa 14, .inl (kc 1, 60, .inr (.inl z1))), (xa 15, .inl (kc 1, 60, .inr (.inl z1))), (xa 16, .inl (kc 1, 60, .inr (.inl z1))), (xa 17, .inl (kc 1, 60, .inr (.inl z1)))]) (w1 := [(xa 0, .inr (10, [.ref (xa 1), .ref (xa 2), .ref (na 0), .ref (pa 0), .ref (xa 3), .ref (na 1), .ref (na 2), .ref (xa 4), .ref (xa 5), .ref (xa 6), .ref (xa 7), .ref (xa 8), .ref (xa 9), .int 0, .int 0, .int 1, .long 0, .long 1, .int (-1), .int (-1)]))]) hP hD [0] [1, 2, 3, 4, 5, 6, 7, 8, 9] rfl rfl (by decide) (by decide) hk1 hFc hP1 hD1
        have hP : va_P D vwCl [(xa 2, .inl (kc 3, 4, .inr (.inr (.inr (.inr (tg xa)))))), (xa 10, .inr (8, [.ref (xa 14), .int 0, .int 0, .int 0])), (xa 11, .inr (8, [.ref (xa 15), .int 0, .int 0, .int 0])), (xa 12, .inr (8, [.ref (xa 16), .int 0, .int 0, .int 0])), (xa 13, .inr (8, [.ref (xa 17), .int 0, .int 0, .int 0])), (xa 14, .inl (kc 1, 60, .inr (.inl z1))), (xa 15, .inl (kc 1, 60, .inr (.inl z1))), (xa 16, .inl (kc 1, 60, .inr (.inl z1))), (xa 17, .inl (kc 1, 60, .inr (.inl z1))), (xa 0, .inr (10, [.ref (xa 1), .ref (xa 2), .ref (na 0), .ref (pa 0), .ref (xa 3), .ref (na 1), .ref (na 2), .ref (xa 4), .ref (xa 5), .ref (xa 6), .ref (xa 7), .ref (xa 8), .ref (xa 9), .int 0, .int 0, .int 1, .long 0, .long 1, .int (-1), .int (-1)]))] H := hP
        have hD : va_D A [(xa 2, .inl (kc 3, 4, .inr (.inr (.inr (.inr (tg xa)))))), (xa 10, .inr (8, [.ref (xa 14), .int 0, .int 0, .int 0])), (xa 11, .inr (8, [.ref (xa 15), .int 0, .int 0, .int 0])), (xa 12, .inr (8, [.ref (xa 16), .int 0, .int 0, .int 0])), (xa 13, .inr (8, [.ref (xa 17), .int 0, .int 0, .int 0])), (xa 14, .inl (kc 1, 60, .inr (.inl z1))), (xa 15, .inl (kc 1, 60, .inr (.inl z1))), (xa 16, .inl (kc 1, 60, .inr (.inl z1))), (xa 17, .inl (kc 1, 60, .inr (.inl z1))), (xa 0, .inr (10, [.ref (xa 1), .ref (xa 2), .ref (na 0), .ref (pa 0), .ref (xa 3), .ref (na 1), .ref (na 2), .ref (xa 4), .ref (xa 5), .ref (xa 6), .ref (xa 7), .ref (xa 8), .ref (xa 9), .int 0, .int 0, .int 1, .long 0, .long 1, .int (-1), .int (-1)]))] := hD
        subst hw
        exact W.zret (v := 0) hx hb hr rfl (fun t9 ht hW => ⟨⟨0, (), rfl, by first | exact (if_pos h_a0).symm | exact (st_1 _ (by decide) c_4).symm | exact (st_1 _ (by decide) c_13).symm | exact (st_1 _ (by decide) c_23).symm | exact (st_2 _ _ (by decide) c_4 c_13).symm | exact (st_3 _ _ _ (by decide) c_4 c_13).symm | exact (st_2 _ _ (by decide) c_4 c_23).symm | exact (st_3 _ _ _ (by decide) c_4 c_23).symm | exact (st_2 _ _ (by decide) c_13 c_4).symm | exact (st_3 _ _ _ (by decide) c_13 c_4).symm | exact (st_2 _ _ (by decide) c_13 c_23).symm | exact (st_3 _ _ _ (by decide) c_13 c_23).symm | exact (st_2 _ _ (by decide) c_23 c_4).symm | exact (st_3 _ _ _ (by decide) c_23 c_4).symm | exact (st_2 _ _ (by decide) c_23 c_13).symm | exact (st_3 _ _ _ (by decide) c_23 c_13).symm, trivial⟩, hS.F ht⟩) hS.2.2 dX11_tray_31
  · refine lv_iload_n hx hb dX11_tray_0 rfl (lv_at hl 1 rfl) ?_
    have hPc := hP.sub (ws' := []) [] rfl
    have hDc := hD.sub (ws' := []) [] (by decide) rfl
    have hFc := va_free (wc := []) hD hS hA [] rfl
    refine va_calli (va_runS (As := [.int 1]) (rest := []) ⟨hx, hb, hml, hown, hts⟩ (c_isTray l D kc s.heap.size 1) (va_cwS 1 hts gp_tray_109_c_isTray rfl rfl rfl (by decide +kernel) ⟨Nat.le_of_ble_eq_true rfl, Nat.le_of_ble_eq_true rfl⟩) (preS_ok hPc hDc hE) rfl rfl hl.1 rfl (lv_room (Nat.le_of_ble_eq_true rfl)) dX11_tray_1 ⟨Nat.le_of_ble_eq_true rfl, Nat.le_of_ble_eq_true rfl⟩) hS (fun q _ h => hFc q h) hFc (fun r_1_2 u9 t9 H locs ht hvm hw hB hz1 hk1 hS => ?_)
    obtain ⟨hP1, hD1⟩ := hB
    rw [ht] at hP1
    obtain ⟨hP, hD⟩ := va_join (wr := [(xa 0, .inr (10, [.ref (xa 1), .ref (xa 2), .ref (na 0), .ref (pa 0), .ref (xa 3), .ref (na 1), .ref (na 2), .ref (xa 4), .ref (xa 5), .ref (xa 6), .ref (xa 7), .ref (xa 8), .ref (xa 9), .int 0, .int 0, .int 0, .long 0, .long 1, .int (-1), .int (-1)])), (xa 2, .inl (kc 3, 4, .inr (.inr (.inr (.inr (tg xa)))))), (xa 10, .inr (8, [.ref (xa 14), .int 0, .int 0, .int 0])), (xa 11, .inr (8, [.ref (xa 15), .int 0, .int 0, .int 0])), (xa 12, .inr (8, [.ref (xa 16), .int 0, .int 0, .int 0])), (xa 13, .inr (8, [.ref (xa 17), .int 0, .int 0, .int 0])), (xa 14, .inl (kc 1, 60, .inr (.inl z1))), (xa 15, .inl (kc 1, 60, .inr (.inl z1))), (xa 16, .inl (kc 1, 60, .inr (.inl z1))), (xa 17, .inl (kc 1, 60, .inr (.inl z1)))]) (w1 := []) hP hD [] [0, 1, 2, 3, 4, 5, 6, 7, 8, 9] rfl rfl (by decide) (by decide) hk1 hFc hP1 hD1
    have hP : va_P D vwCl [(xa 0, .inr (10, [.ref (xa 1), .ref (xa 2), .ref (na 0), .ref (pa 0), .ref (xa 3), .ref (na 1), .ref (na 2), .ref (xa 4), .ref (xa 5), .ref (xa 6), .ref (xa 7), .ref (xa 8), .ref (xa 9), .int 0, .int 0, .int 0, .long 0, .long 1, .int (-1), .int (-1)])), (xa 2, .inl (kc 3, 4, .inr (.inr (.inr (.inr (tg xa)))))), (xa 10, .inr (8, [.ref (xa 14), .int 0, .int 0, .int 0])), (xa 11, .inr (8, [.ref (xa 15), .int 0, .int 0, .int 0])), (xa 12, .inr (8, [.ref (xa 16), .int 0, .int 0, .int 0])), (xa 13, .inr (8, [.ref (xa 17), .int 0, .int 0, .int 0])), (xa 14, .inl (kc 1, 60, .inr (.inl z1))), (xa 15, .inl (kc 1, 60, .inr (.inl z1))), (xa 16, .inl (kc 1, 60, .inr (.inl z1))), (xa 17, .inl (kc 1, 60, .inr (.inl z1)))] H := hP
    have hD : va_D A [(xa 0, .inr (10, [.ref (xa 1), .ref (xa 2), .ref (na 0), .ref (pa 0), .ref (xa 3), .ref (na 1), .ref (na 2), .ref (xa 4), .ref (xa 5), .ref (xa 6), .ref (xa 7), .ref (xa 8), .ref (xa 9), .int 0, .int 0, .int 0, .long 0, .long 1, .int (-1), .int (-1)])), (xa 2, .inl (kc 3, 4, .inr (.inr (.inr (.inr (tg xa)))))), (xa 10, .inr (8, [.ref (xa 14), .int 0, .int 0, .int 0])), (xa 11, .inr (8, [.ref (xa 15), .int 0, .int 0, .int 0])), (xa 12, .inr (8, [.ref (xa 16), .int 0, .int 0, .int 0])), (xa 13, .inr (8, [.ref (xa 17), .int 0, .int 0, .int 0])), (xa 14, .inl (kc 1, 60, .inr (.inl z1))), (xa 15, .inl (kc 1, 60, .inr (.inl z1))), (xa 16, .inl (kc 1, 60, .inr (.inl z1))), (xa 17, .inl (kc 1, 60, .inr (.inl z1)))] := hD
    subst hw
    refine lv_ci (y := 1) (by decide) ?_
    refine lv_if_eq (tgt := 26) hx hb dX11_tray_4 (by decide) (fun h => absurd h (by decide)) (fun _ => ?_)
    refine lv_iload_n hx hb dX11_tray_7 rfl (lv_at hl 2 rfl) ?_
    refine lv_iconst (v := 0) hx hb dX11_tray_8 (by decide) ?_
    refine lv_iconst (v := 3) hx hb dX11_tray_9 (by decide) ?_
    have hPc := hP.sub (ws' := []) [] rfl
    have hDc := hD.sub (ws' := []) [] (by decide) rfl
    have hFc := va_free (wc := []) hD hS hA [] rfl
    refine va_calli (va_runS (As := [.int a1, .int 0, .int 3]) (rest := []) ⟨hx, hb, hml, hown, hts⟩ (c_within l D kc H.size a1 0 3) (va_cwS 3 hts gp_tray_113_c_within rfl rfl rfl (by decide +kernel) ⟨Nat.le_of_ble_eq_true rfl, Nat.le_of_ble_eq_true rfl⟩) (preS_ok hPc hDc hE) rfl rfl hl.1 rfl (lv_room (Nat.le_of_ble_eq_true rfl)) dX11_tray_10 ⟨Nat.le_of_ble_eq_true rfl, Nat.le_of_ble_eq_true rfl⟩) hS (fun q _ h => hFc q h) hFc (fun r_10_2 u9 t9 H locs ht hvm hw hB hz1 hk1 hS => ?_)
    obtain ⟨hP1, hD1⟩ := hB
    rw [ht] at hP1
    obtain ⟨hP, hD⟩ := va_join (wr := [(xa 0, .inr (10, [.ref (xa 1), .ref (xa 2), .ref (na 0), .ref (pa 0), .ref (xa 3), .ref (na 1), .ref (na 2), .ref (xa 4), .ref (xa 5), .ref (xa 6), .ref (xa 7), .ref (xa 8), .ref (xa 9), .int 0, .int 0, .int 0, .long 0, .long 1, .int (-1), .int (-1)])), (xa 2, .inl (kc 3, 4, .inr (.inr (.inr (.inr (tg xa)))))), (xa 10, .inr (8, [.ref (xa 14), .int 0, .int 0, .int 0])), (xa 11, .inr (8, [.ref (xa 15), .int 0, .int 0, .int 0])), (xa 12, .inr (8, [.ref (xa 16), .int 0, .int 0, .int 0])), (xa 13, .inr (8, [.ref (xa 17), .int 0, .int 0, .int 0])), (xa 14, .inl (kc 1, 60, .inr (.inl z1))), (xa 15, .inl (kc 1, 60, .inr (.inl z1))), (xa 16, .inl (kc 1, 60, .inr (.inl z1))), (xa 17, .inl (kc 1, 60, .inr (.inl z1)))]) (w1 := []) hP hD [] [0, 1, 2, 3, 4, 5, 6, 7, 8, 9] rfl rfl (by decide) (by decide) hk1 hFc hP1 hD1
    have hP : va_P D vwCl [(xa 0, .inr (10, [.ref (xa 1), .ref (xa 2), .ref (na 0), .ref (pa 0), .ref (xa 3), .ref (na 1), .ref (na 2), .ref (xa 4), .ref (xa 5), .ref (xa 6), .ref (xa 7), .ref (xa 8), .ref (xa 9), .int 0, .int 0, .int 0, .long 0, .long 1, .int (-1), .int (-1)])), (xa 2, .inl (kc 3, 4, .inr (.inr (.inr (.inr (tg xa)))))), (xa 10, .inr (8, [.ref (xa 14), .int 0, .int 0, .int 0])), (xa 11, .inr (8, [.ref (xa 15), .int 0, .int 0, .int 0])), (xa 12, .inr (8, [.ref (xa 16), .int 0, .int 0, .int 0])), (xa 13, .inr (8, [.ref (xa 17), .int 0, .int 0, .int 0])), (xa 14, .inl (kc 1, 60, .inr (.inl z1))), (xa 15, .inl (kc 1, 60, .inr (.inl z1))), (xa 16, .inl (kc 1, 60, .inr (.inl z1))), (xa 17, .inl (kc 1, 60, .inr (.inl z1)))] H := hP
    have hD : va_D A [(xa 0, .inr (10, [.ref (xa 1), .ref (xa 2), .ref (na 0), .ref (pa 0), .ref (xa 3), .ref (na 1), .ref (na 2), .ref (xa 4), .ref (xa 5), .ref (xa 6), .ref (xa 7), .ref (xa 8), .ref (xa 9), .int 0, .int 0, .int 0, .long 0, .long 1, .int (-1), .int (-1)])), (xa 2, .inl (kc 3, 4, .inr (.inr (.inr (.inr (tg xa)))))), (xa 10, .inr (8, [.ref (xa 14), .int 0, .int 0, .int 0])), (xa 11, .inr (8, [.ref (xa 15), .int 0, .int 0, .int 0])), (xa 12, .inr (8, [.ref (xa 16), .int 0, .int 0, .int 0])), (xa 13, .inr (8, [.ref (xa 17), .int 0, .int 0, .int 0])), (xa 14, .inl (kc 1, 60, .inr (.inl z1))), (xa 15, .inl (kc 1, 60, .inr (.inl z1))), (xa 16, .inl (kc 1, 60, .inr (.inl z1))), (xa 17, .inl (kc 1, 60, .inr (.inl z1)))] := hD
    subst hw
    refine lv_if_eq (tgt := 26) hx hb dX11_tray_13 (by decide) (fun c_13 => ?_) (fun c_13 => ?_)
    · refine lv_aload_n hx hb dX11_tray_26 rfl (lv_at hl 0 rfl) ?_
      refine lv_iconst (v := 1) hx hb dX11_tray_27 (by decide) ?_
      have hPc := hP.sub (ws' := [(xa 0, .inr (10, [.ref (xa 1), .ref (xa 2), .ref (na 0), .ref (pa 0), .ref (xa 3), .ref (na 1), .ref (na 2), .ref (xa 4), .ref (xa 5), .ref (xa 6), .ref (xa 7), .ref (xa 8), .ref (xa 9), .int 0, .int 0, .int 0, .long 0, .long 1, .int (-1), .int (-1)]))]) [0] rfl
      have hDc := hD.sub (ws' := [(xa 0, .inr (10, [.ref (xa 1), .ref (xa 2), .ref (na 0), .ref (pa 0), .ref (xa 3), .ref (na 1), .ref (na 2), .ref (xa 4), .ref (xa 5), .ref (xa 6), .ref (xa 7), .ref (xa 8), .ref (xa 9), .int 0, .int 0, .int 0, .long 0, .long 1, .int (-1), .int (-1)]))]) [0] (by decide) rfl
      have hFc := va_free (wc := [(xa 0, .inr (10, [.ref (xa 1), .ref (xa 2), .ref (na 0), .ref (pa 0), .ref (xa 3), .ref (na 1), .ref (na 2), .ref (xa 4), .ref (xa 5), .ref (xa 6), .ref (xa 7), .ref (xa 8), .ref (xa 9), .int 0, .int 0, .int 0, .long 0, .long 1, .int (-1), .int (-1)]))]) hD hS hA [0] rfl
      refine va_calli (va_runV (As := [.int 1]) (rest := []) ⟨hx, hb, hml, hown, hts⟩ (c_refused l D kc H.size xa na pa 0 0 0 0 1 (-1) (-1) 1) (cwV 1 hts gp_tray_117_c_refused rfl rfl rfl (by decide +kernel) ⟨Nat.le_of_ble_eq_true rfl, Nat.le_of_ble_eq_true rfl⟩) (preV_ok hPc hDc hE (ci := 10) (q0 := 0) rfl rfl) rfl rfl hl.1 rfl (lv_room (Nat.le_of_ble_eq_true rfl)) dX11_tray_28 ⟨Nat.le_of_ble_eq_true rfl, Nat.le_of_ble_eq_true rfl⟩) hS (fun q _ h => hFc q h) hFc (fun r_28_3 u9 t9 H locs ht hvm hw hB hz1 hk1 hS => ?_)
      obtain ⟨hP1, hD1⟩ := hB
      rw [ht] at hP1
      obtain ⟨hP, hD⟩ := va_join (wr := [(xa 2, .inl (kc 3, 4, .inr (.inr (.inr (.inr (tg xa)))))), (xa 10, .inr (8, [.ref (xa 14), .int 0, .int 0, .int 0])), (xa 11, .inr (8, [.ref (xa 15), .int 0, .int 0, .int 0])), (xa 12, .inr (8, [.ref (xa 16), .int 0, .int 0, .int 0])), (xa 13, .inr (8, [.ref (xa 17), .int 0, .int 0, .int 0])), (xa 14, .inl (kc 1, 60, .inr (.inl z1))), (xa 15, .inl (kc 1, 60, .inr (.inl z1))), (xa 16, .inl (kc 1, 60, .inr (.inl z1))), (xa 17, .inl (kc 1, 60, .inr (.inl z1)))]) (w1 := [(xa 0, .inr (10, [.ref (xa 1), .ref (xa 2), .ref (na 0), .ref (pa 0), .ref (xa 3), .ref (na 1), .ref (na 2), .ref (xa 4), .ref (xa 5), .ref (xa 6), .ref (xa 7), .ref (xa 8), .ref (xa 9), .int 0, .int 0, .int 1, .long 0, .long 1, .int (-1), .int (-1)]))]) hP hD [0] [1, 2, 3, 4, 5, 6, 7, 8, 9] rfl rfl (by decide) (by decide) hk1 hFc hP1 hD1
      have hP : va_P D vwCl [(xa 2, .inl (kc 3, 4, .inr (.inr (.inr (.inr (tg xa)))))), (xa 10, .inr (8, [.ref (xa 14), .int 0, .int 0, .int 0])), (xa 11, .inr (8, [.ref (xa 15), .int 0, .int 0, .int 0])), (xa 12, .inr (8, [.ref (xa 16), .int 0, .int 0, .int 0])), (xa 13, .inr (8, [.ref (xa 17), .int 0, .int 0, .int 0])), (xa 14, .inl (kc 1, 60, .inr (.inl z1))), (xa 15, .inl (kc 1, 60, .inr (.inl z1))), (xa 16, .inl (kc 1, 60, .inr (.inl z1))), (xa 17, .inl (kc 1, 60, .inr (.inl z1))), (xa 0, .inr (10, [.ref (xa 1), .ref (xa 2), .ref (na 0), .ref (pa 0), .ref (xa 3), .ref (na 1), .ref (na 2), .ref (xa 4), .ref (xa 5), .ref (xa 6), .ref (xa 7), .ref (xa 8), .ref (xa 9), .int 0, .int 0, .int 1, .long 0, .long 1, .int (-1), .int (-1)]))] H := hP
      have hD : va_D A [(xa 2, .inl (kc 3, 4, .inr (.inr (.inr (.inr (tg xa)))))), (xa 10, .inr (8, [.ref (xa 14), .int 0, .int 0, .int 0])), (xa 11, .inr (8, [.ref (xa 15), .int 0, .int 0, .int 0])), (xa 12, .inr (8, [.ref (xa 16), .int 0, .int 0, .int 0])), (xa 13, .inr (8, [.ref (xa 17), .int 0, .int 0, .int 0])), (xa 14, .inl (kc 1, 60, .inr (.inl z1))), (xa 15, .inl (kc 1, 60, .inr (.inl z1))), (xa 16, .inl (kc 1, 60, .inr (.inl z1))), (xa 17, .inl (kc 1, 60, .inr (.inl z1))), (xa 0, .inr (10, [.ref (xa 1), .ref (xa 2), .ref (na 0), .ref (pa 0), .ref (xa 3), .ref (na 1), .ref (na 2), .ref (xa 4), .ref (xa 5), .ref (xa 6), .ref (xa 7), .ref (xa 8), .ref (xa 9), .int 0, .int 0, .int 1, .long 0, .long 1, .int (-1), .int (-1)]))] := hD
      subst hw
      exact W.zret (v := 0) hx hb hr rfl (fun t9 ht hW => ⟨⟨0, (), rfl, by first | exact (if_pos h_a0).symm | exact (st_1 _ (by decide) c_4).symm | exact (st_1 _ (by decide) c_13).symm | exact (st_1 _ (by decide) c_23).symm | exact (st_2 _ _ (by decide) c_4 c_13).symm | exact (st_3 _ _ _ (by decide) c_4 c_13).symm | exact (st_2 _ _ (by decide) c_4 c_23).symm | exact (st_3 _ _ _ (by decide) c_4 c_23).symm | exact (st_2 _ _ (by decide) c_13 c_4).symm | exact (st_3 _ _ _ (by decide) c_13 c_4).symm | exact (st_2 _ _ (by decide) c_13 c_23).symm | exact (st_3 _ _ _ (by decide) c_13 c_23).symm | exact (st_2 _ _ (by decide) c_23 c_4).symm | exact (st_3 _ _ _ (by decide) c_23 c_4).symm | exact (st_2 _ _ (by decide) c_23 c_13).symm | exact (st_3 _ _ _ (by decide) c_23 c_13).symm, trivial⟩, hS.F ht⟩) hS.2.2 dX11_tray_31
    · refine lv_iload_n hx hb dX11_tray_16 rfl (lv_at hl 3 rfl) ?_
      refine lv_iconst (v := 0) hx hb dX11_tray_17 (by decide) ?_
      refine lv_bipush (v := 60) hx hb dX11_tray_18 (by decide) ?_
      have hPc := hP.sub (ws' := []) [] rfl
      have hDc := hD.sub (ws' := []) [] (by decide) rfl
      have hFc := va_free (wc := []) hD hS hA [] rfl
      refine va_calli (va_runS (As := [.int a2, .int 0, .int 60]) (rest := []) ⟨hx, hb, hml, hown, hts⟩ (c_within l D kc H.size a2 0 60) (va_cwS 3 hts gp_tray_113_c_within rfl rfl rfl (by decide +kernel) ⟨Nat.le_of_ble_eq_true rfl, Nat.le_of_ble_eq_true rfl⟩) (preS_ok hPc hDc hE) rfl rfl hl.1 rfl (lv_room (Nat.le_of_ble_eq_true rfl)) dX11_tray_20 ⟨Nat.le_of_ble_eq_true rfl, Nat.le_of_ble_eq_true rfl⟩) hS (fun q _ h => hFc q h) hFc (fun r_20_3 u9 t9 H locs ht hvm hw hB hz1 hk1 hS => ?_)
      obtain ⟨hP1, hD1⟩ := hB
      rw [ht] at hP1
      obtain ⟨hP, hD⟩ := va_join (wr := [(xa 0, .inr (10, [.ref (xa 1), .ref (xa 2), .ref (na 0), .ref (pa 0), .ref (xa 3), .ref (na 1), .ref (na 2), .ref (xa 4), .ref (xa 5), .ref (xa 6), .ref (xa 7), .ref (xa 8), .ref (xa 9), .int 0, .int 0, .int 0, .long 0, .long 1, .int (-1), .int (-1)])), (xa 2, .inl (kc 3, 4, .inr (.inr (.inr (.inr (tg xa)))))), (xa 10, .inr (8, [.ref (xa 14), .int 0, .int 0, .int 0])), (xa 11, .inr (8, [.ref (xa 15), .int 0, .int 0, .int 0])), (xa 12, .inr (8, [.ref (xa 16), .int 0, .int 0, .int 0])), (xa 13, .inr (8, [.ref (xa 17), .int 0, .int 0, .int 0])), (xa 14, .inl (kc 1, 60, .inr (.inl z1))), (xa 15, .inl (kc 1, 60, .inr (.inl z1))), (xa 16, .inl (kc 1, 60, .inr (.inl z1))), (xa 17, .inl (kc 1, 60, .inr (.inl z1)))]) (w1 := []) hP hD [] [0, 1, 2, 3, 4, 5, 6, 7, 8, 9] rfl rfl (by decide) (by decide) hk1 hFc hP1 hD1
      have hP : va_P D vwCl [(xa 0, .inr (10, [.ref (xa 1), .ref (xa 2), .ref (na 0), .ref (pa 0), .ref (xa 3), .ref (na 1), .ref (na 2), .ref (xa 4), .ref (xa 5), .ref (xa 6), .ref (xa 7), .ref (xa 8), .ref (xa 9), .int 0, .int 0, .int 0, .long 0, .long 1, .int (-1), .int (-1)])), (xa 2, .inl (kc 3, 4, .inr (.inr (.inr (.inr (tg xa)))))), (xa 10, .inr (8, [.ref (xa 14), .int 0, .int 0, .int 0])), (xa 11, .inr (8, [.ref (xa 15), .int 0, .int 0, .int 0])), (xa 12, .inr (8, [.ref (xa 16), .int 0, .int 0, .int 0])), (xa 13, .inr (8, [.ref (xa 17), .int 0, .int 0, .int 0])), (xa 14, .inl (kc 1, 60, .inr (.inl z1))), (xa 15, .inl (kc 1, 60, .inr (.inl z1))), (xa 16, .inl (kc 1, 60, .inr (.inl z1))), (xa 17, .inl (kc 1, 60, .inr (.inl z1)))] H := hP
      have hD : va_D A [(xa 0, .inr (10, [.ref (xa 1), .ref (xa 2), .ref (na 0), .ref (pa 0), .ref (xa 3), .ref (na 1), .ref (na 2), .ref (xa 4), .ref (xa 5), .ref (xa 6), .ref (xa 7), .ref (xa 8), .ref (xa 9), .int 0, .int 0, .int 0, .long 0, .long 1, .int (-1), .int (-1)])), (xa 2, .inl (kc 3, 4, .inr (.inr (.inr (.inr (tg xa)))))), (xa 10, .inr (8, [.ref (xa 14), .int 0, .int 0, .int 0])), (xa 11, .inr (8, [.ref (xa 15), .int 0, .int 0, .int 0])), (xa 12, .inr (8, [.ref (xa 16), .int 0, .int 0, .int 0])), (xa 13, .inr (8, [.ref (xa 17), .int 0, .int 0, .int 0])), (xa 14, .inl (kc 1, 60, .inr (.inl z1))), (xa 15, .inl (kc 1, 60, .inr (.inl z1))), (xa 16, .inl (kc 1, 60, .inr (.inl z1))), (xa 17, .inl (kc 1, 60, .inr (.inl z1)))] := hD
      subst hw
      refine lv_if_ne (tgt := 32) hx hb dX11_tray_23 (by decide) (fun c_23 => ?_) (fun c_23 => ?_)
      · refine lv_aload_n hx hb dX11_tray_32 rfl (lv_at hl 0 rfl) ?_
        refine va_get (D := D) (ci := 10) (v := .ref (xa 2)) (C := RX11) (T := TX11) (N := 20) hx hb hts ip_tray_X11 hown hK hP 0 rfl rfl 1 (by decide) (hts (.fieldLink RX11 15 "SaltStreet" "trays" "[LSaltStreet$Tray;") (List.mem_of_getElem? (i := 13) rfl)) (fun _ h9 => h9) rfl dX11_tray_33 ?_
        refine lv_iload_n hx hb dX11_tray_36 rfl (lv_at hl 1 rfl) ?_
        refine va_aldq hx hb hK hP 1 3 (f := (tg xa)) rfl rfl (by unfold vp_in; decide) dX11_tray_37 ?_
        refine lv_cv (y := .ref (xa 11)) (rfl) ?_
        refine lv_iload_n hx hb dX11_tray_38 rfl (lv_at hl 2 rfl) ?_
        refine lv_iload_n hx hb dX11_tray_39 rfl (lv_at hl 3 rfl) ?_
        have hPc := hP.sub (ws' := [(xa 11, .inr (8, [.ref (xa 15), .int 0, .int 0, .int 0])), (xa 15, .inl (kc 1, 60, .inr (.inl z1)))]) [3, 7] rfl
        have hDc := hD.sub (ws' := [(xa 11, .inr (8, [.ref (xa 15), .int 0, .int 0, .int 0])), (xa 15, .inl (kc 1, 60, .inr (.inl z1)))]) [3, 7] (by decide) rfl
        have hFc := va_free (wc := [(xa 11, .inr (8, [.ref (xa 15), .int 0, .int 0, .int 0])), (xa 15, .inl (kc 1, 60, .inr (.inl z1)))]) hD hS hA [3, 7] rfl
        refine va_callv (va_runV (As := [.int a1, .int a2]) (rest := []) ⟨hx, hb, hml, hown, hts⟩ (c_lay l D kc H.size (xa 11) (xa 15) a1 a2) (cwV 2 hts gp_tray_120_c_lay rfl rfl rfl (by decide +kernel) ⟨Nat.le_of_ble_eq_true rfl, Nat.le_of_ble_eq_true rfl⟩) (preV_ok hPc hDc hE (ci := 8) (q0 := 0) rfl rfl) rfl rfl hl.1 rfl (lv_room (Nat.le_of_ble_eq_true rfl)) dX11_tray_40 ⟨Nat.le_of_ble_eq_true rfl, Nat.le_of_ble_eq_true rfl⟩) hS (fun q _ h => hFc q h) hFc (fun u9 t9 H locs ht hvm hw hB hz1 hk1 hS => ?_)
        obtain ⟨hP, hD⟩ := va_join (wr := [(xa 0, .inr (10, [.ref (xa 1), .ref (xa 2), .ref (na 0), .ref (pa 0), .ref (xa 3), .ref (na 1), .ref (na 2), .ref (xa 4), .ref (xa 5), .ref (xa 6), .ref (xa 7), .ref (xa 8), .ref (xa 9), .int 0, .int 0, .int 0, .long 0, .long 1, .int (-1), .int (-1)])), (xa 2, .inl (kc 3, 4, .inr (.inr (.inr (.inr (tg xa)))))), (xa 10, .inr (8, [.ref (xa 14), .int 0, .int 0, .int 0])), (xa 12, .inr (8, [.ref (xa 16), .int 0, .int 0, .int 0])), (xa 13, .inr (8, [.ref (xa 17), .int 0, .int 0, .int 0])), (xa 14, .inl (kc 1, 60, .inr (.inl z1))), (xa 16, .inl (kc 1, 60, .inr (.inl z1))), (xa 17, .inl (kc 1, 60, .inr (.inl z1)))]) (w1 := []) hP hD [3, 7] [0, 1, 2, 4, 5, 6, 8, 9] rfl rfl (by decide) (by decide) hk1 hFc (fun _ _ h => by simp at h) ⟨fun _ _ _ _ h => by simp at h, fun _ _ h => by simp at h⟩
        have hP : va_P D vwCl [(xa 0, .inr (10, [.ref (xa 1), .ref (xa 2), .ref (na 0), .ref (pa 0), .ref (xa 3), .ref (na 1), .ref (na 2), .ref (xa 4), .ref (xa 5), .ref (xa 6), .ref (xa 7), .ref (xa 8), .ref (xa 9), .int 0, .int 0, .int 0, .long 0, .long 1, .int (-1), .int (-1)])), (xa 2, .inl (kc 3, 4, .inr (.inr (.inr (.inr (tg xa)))))), (xa 10, .inr (8, [.ref (xa 14), .int 0, .int 0, .int 0])), (xa 12, .inr (8, [.ref (xa 16), .int 0, .int 0, .int 0])), (xa 13, .inr (8, [.ref (xa 17), .int 0, .int 0, .int 0])), (xa 14, .inl (kc 1, 60, .inr (.inl z1))), (xa 16, .inl (kc 1, 60, .inr (.inl z1))), (xa 17, .inl (kc 1, 60, .inr (.inl z1)))] H := hP
        have hD : va_D A [(xa 0, .inr (10, [.ref (xa 1), .ref (xa 2), .ref (na 0), .ref (pa 0), .ref (xa 3), .ref (na 1), .ref (na 2), .ref (xa 4), .ref (xa 5), .ref (xa 6), .ref (xa 7), .ref (xa 8), .ref (xa 9), .int 0, .int 0, .int 0, .long 0, .long 1, .int (-1), .int (-1)])), (xa 2, .inl (kc 3, 4, .inr (.inr (.inr (.inr (tg xa)))))), (xa 10, .inr (8, [.ref (xa 14), .int 0, .int 0, .int 0])), (xa 12, .inr (8, [.ref (xa 16), .int 0, .int 0, .int 0])), (xa 13, .inr (8, [.ref (xa 17), .int 0, .int 0, .int 0])), (xa 14, .inl (kc 1, 60, .inr (.inl z1))), (xa 16, .inl (kc 1, 60, .inr (.inl z1))), (xa 17, .inl (kc 1, 60, .inr (.inl z1)))] := hD
        refine lv_aload_n hx hb dX11_tray_43 rfl (lv_at hl 0 rfl) ?_
        have hPc := hP.sub (ws' := [(xa 0, .inr (10, [.ref (xa 1), .ref (xa 2), .ref (na 0), .ref (pa 0), .ref (xa 3), .ref (na 1), .ref (na 2), .ref (xa 4), .ref (xa 5), .ref (xa 6), .ref (xa 7), .ref (xa 8), .ref (xa 9), .int 0, .int 0, .int 0, .long 0, .long 1, .int (-1), .int (-1)]))]) [0] rfl
        have hDc := hD.sub (ws' := [(xa 0, .inr (10, [.ref (xa 1), .ref (xa 2), .ref (na 0), .ref (pa 0), .ref (xa 3), .ref (na 1), .ref (na 2), .ref (xa 4), .ref (xa 5), .ref (xa 6), .ref (xa 7), .ref (xa 8), .ref (xa 9), .int 0, .int 0, .int 0, .long 0, .long 1, .int (-1), .int (-1)]))]) [0] (by decide) rfl
        have hFc := va_free (wc := [(xa 0, .inr (10, [.ref (xa 1), .ref (xa 2), .ref (na 0), .ref (pa 0), .ref (xa 3), .ref (na 1), .ref (na 2), .ref (xa 4), .ref (xa 5), .ref (xa 6), .ref (xa 7), .ref (xa 8), .ref (xa 9), .int 0, .int 0, .int 0, .long 0, .long 1, .int (-1), .int (-1)]))]) hD hS hA [0] rfl
        refine va_calli (va_runV (As := []) (rest := []) ⟨hx, hb, hml, hown, hts⟩ (c_granted l D kc H.size xa na pa 0 0 0 0 1 (-1) (-1)) (cwV 0 hts gp_tray_124_c_granted rfl rfl rfl (by decide +kernel) ⟨Nat.le_of_ble_eq_true rfl, Nat.le_of_ble_eq_true rfl⟩) (preV_ok hPc hDc hE (ci := 10) (q0 := 0) rfl rfl) rfl rfl hl.1 rfl (lv_room (Nat.le_of_ble_eq_true rfl)) dX11_tray_44 ⟨Nat.le_of_ble_eq_true rfl, Nat.le_of_ble_eq_true rfl⟩) hS (fun q _ h => hFc q h) hFc (fun r_44_4 u9 t9 H locs ht hvm hw hB hz1 hk1 hS => ?_)
        obtain ⟨hP1, hD1⟩ := hB
        rw [ht] at hP1
        obtain ⟨hP, hD⟩ := va_join (wr := [(xa 2, .inl (kc 3, 4, .inr (.inr (.inr (.inr (tg xa)))))), (xa 10, .inr (8, [.ref (xa 14), .int 0, .int 0, .int 0])), (xa 12, .inr (8, [.ref (xa 16), .int 0, .int 0, .int 0])), (xa 13, .inr (8, [.ref (xa 17), .int 0, .int 0, .int 0])), (xa 14, .inl (kc 1, 60, .inr (.inl z1))), (xa 16, .inl (kc 1, 60, .inr (.inl z1))), (xa 17, .inl (kc 1, 60, .inr (.inl z1)))]) (w1 := [(xa 0, .inr (10, [.ref (xa 1), .ref (xa 2), .ref (na 0), .ref (pa 0), .ref (xa 3), .ref (na 1), .ref (na 2), .ref (xa 4), .ref (xa 5), .ref (xa 6), .ref (xa 7), .ref (xa 8), .ref (xa 9), .int 0, .int 0, .int 0, .long 0, .long 1, .int (-1), .int (-1)]))]) hP hD [0] [1, 2, 3, 4, 5, 6, 7] rfl rfl (by decide) (by decide) hk1 hFc hP1 hD1
        have hP : va_P D vwCl [(xa 2, .inl (kc 3, 4, .inr (.inr (.inr (.inr (tg xa)))))), (xa 10, .inr (8, [.ref (xa 14), .int 0, .int 0, .int 0])), (xa 12, .inr (8, [.ref (xa 16), .int 0, .int 0, .int 0])), (xa 13, .inr (8, [.ref (xa 17), .int 0, .int 0, .int 0])), (xa 14, .inl (kc 1, 60, .inr (.inl z1))), (xa 16, .inl (kc 1, 60, .inr (.inl z1))), (xa 17, .inl (kc 1, 60, .inr (.inl z1))), (xa 0, .inr (10, [.ref (xa 1), .ref (xa 2), .ref (na 0), .ref (pa 0), .ref (xa 3), .ref (na 1), .ref (na 2), .ref (xa 4), .ref (xa 5), .ref (xa 6), .ref (xa 7), .ref (xa 8), .ref (xa 9), .int 0, .int 0, .int 0, .long 0, .long 1, .int (-1), .int (-1)]))] H := hP
        have hD : va_D A [(xa 2, .inl (kc 3, 4, .inr (.inr (.inr (.inr (tg xa)))))), (xa 10, .inr (8, [.ref (xa 14), .int 0, .int 0, .int 0])), (xa 12, .inr (8, [.ref (xa 16), .int 0, .int 0, .int 0])), (xa 13, .inr (8, [.ref (xa 17), .int 0, .int 0, .int 0])), (xa 14, .inl (kc 1, 60, .inr (.inl z1))), (xa 16, .inl (kc 1, 60, .inr (.inl z1))), (xa 17, .inl (kc 1, 60, .inr (.inl z1))), (xa 0, .inr (10, [.ref (xa 1), .ref (xa 2), .ref (na 0), .ref (pa 0), .ref (xa 3), .ref (na 1), .ref (na 2), .ref (xa 4), .ref (xa 5), .ref (xa 6), .ref (xa 7), .ref (xa 8), .ref (xa 9), .int 0, .int 0, .int 0, .long 0, .long 1, .int (-1), .int (-1)]))] := hD
        subst hw
        exact W.zret (v := 1) hx hb hr rfl (fun t9 ht hW => ⟨⟨1, (), rfl, by first | exact (if_pos h_a0).symm | exact (st_1 _ (by decide) c_4).symm | exact (st_1 _ (by decide) c_13).symm | exact (st_1 _ (by decide) c_23).symm | exact (st_2 _ _ (by decide) c_4 c_13).symm | exact (st_3 _ _ _ (by decide) c_4 c_13).symm | exact (st_2 _ _ (by decide) c_4 c_23).symm | exact (st_3 _ _ _ (by decide) c_4 c_23).symm | exact (st_2 _ _ (by decide) c_13 c_4).symm | exact (st_3 _ _ _ (by decide) c_13 c_4).symm | exact (st_2 _ _ (by decide) c_13 c_23).symm | exact (st_3 _ _ _ (by decide) c_13 c_23).symm | exact (st_2 _ _ (by decide) c_23 c_4).symm | exact (st_3 _ _ _ (by decide) c_23 c_4).symm | exact (st_2 _ _ (by decide) c_23 c_13).symm | exact (st_3 _ _ _ (by decide) c_23 c_13).symm, trivial⟩, hS.F ht⟩) hS.2.2 dX11_tray_47
      · refine lv_aload_n hx hb dX11_tray_26 rfl (lv_at hl 0 rfl) ?_
        refine lv_iconst (v := 1) hx hb dX11_tray_27 (by decide) ?_
        have hPc := hP.sub (ws' := [(xa 0, .inr (10, [.ref (xa 1), .ref (xa 2), .ref (na 0), .ref (pa 0), .ref (xa 3), .ref (na 1), .ref (na 2), .ref (xa 4), .ref (xa 5), .ref (xa 6), .ref (xa 7), .ref (xa 8), .ref (xa 9), .int 0, .int 0, .int 0, .long 0, .long 1, .int (-1), .int (-1)]))]) [0] rfl
        have hDc := hD.sub (ws' := [(xa 0, .inr (10, [.ref (xa 1), .ref (xa 2), .ref (na 0), .ref (pa 0), .ref (xa 3), .ref (na 1), .ref (na 2), .ref (xa 4), .ref (xa 5), .ref (xa 6), .ref (xa 7), .ref (xa 8), .ref (xa 9), .int 0, .int 0, .int 0, .long 0, .long 1, .int (-1), .int (-1)]))]) [0] (by decide) rfl
        have hFc := va_free (wc := [(xa 0, .inr (10, [.ref (xa 1), .ref (xa 2), .ref (na 0), .ref (pa 0), .ref (xa 3), .ref (na 1), .ref (na 2), .ref (xa 4), .ref (xa 5), .ref (xa 6), .ref (xa 7), .ref (xa 8), .ref (xa 9), .int 0, .int 0, .int 0, .long 0, .long 1, .int (-1), .int (-1)]))]) hD hS hA [0] rfl
        refine va_calli (va_runV (As := [.int 1]) (rest := []) ⟨hx, hb, hml, hown, hts⟩ (c_refused l D kc H.size xa na pa 0 0 0 0 1 (-1) (-1) 1) (cwV 1 hts gp_tray_117_c_refused rfl rfl rfl (by decide +kernel) ⟨Nat.le_of_ble_eq_true rfl, Nat.le_of_ble_eq_true rfl⟩) (preV_ok hPc hDc hE (ci := 10) (q0 := 0) rfl rfl) rfl rfl hl.1 rfl (lv_room (Nat.le_of_ble_eq_true rfl)) dX11_tray_28 ⟨Nat.le_of_ble_eq_true rfl, Nat.le_of_ble_eq_true rfl⟩) hS (fun q _ h => hFc q h) hFc (fun r_28_4 u9 t9 H locs ht hvm hw hB hz1 hk1 hS => ?_)
        obtain ⟨hP1, hD1⟩ := hB
        rw [ht] at hP1
        obtain ⟨hP, hD⟩ := va_join (wr := [(xa 2, .inl (kc 3, 4, .inr (.inr (.inr (.inr (tg xa)))))), (xa 10, .inr (8, [.ref (xa 14), .int 0, .int 0, .int 0])), (xa 11, .inr (8, [.ref (xa 15), .int 0, .int 0, .int 0])), (xa 12, .inr (8, [.ref (xa 16), .int 0, .int 0, .int 0])), (xa 13, .inr (8, [.ref (xa 17), .int 0, .int 0, .int 0])), (xa 14, .inl (kc 1, 60, .inr (.inl z1))), (xa 15, .inl (kc 1, 60, .inr (.inl z1))), (xa 16, .inl (kc 1, 60, .inr (.inl z1))), (xa 17, .inl (kc 1, 60, .inr (.inl z1)))]) (w1 := [(xa 0, .inr (10, [.ref (xa 1), .ref (xa 2), .ref (na 0), .ref (pa 0), .ref (xa 3), .ref (na 1), .ref (na 2), .ref (xa 4), .ref (xa 5), .ref (xa 6), .ref (xa 7), .ref (xa 8), .ref (xa 9), .int 0, .int 0, .int 1, .long 0, .long 1, .int (-1), .int (-1)]))]) hP hD [0] [1, 2, 3, 4, 5, 6, 7, 8, 9] rfl rfl (by decide) (by decide) hk1 hFc hP1 hD1
        have hP : va_P D vwCl [(xa 2, .inl (kc 3, 4, .inr (.inr (.inr (.inr (tg xa)))))), (xa 10, .inr (8, [.ref (xa 14), .int 0, .int 0, .int 0])), (xa 11, .inr (8, [.ref (xa 15), .int 0, .int 0, .int 0])), (xa 12, .inr (8, [.ref (xa 16), .int 0, .int 0, .int 0])), (xa 13, .inr (8, [.ref (xa 17), .int 0, .int 0, .int 0])), (xa 14, .inl (kc 1, 60, .inr (.inl z1))), (xa 15, .inl (kc 1, 60, .inr (.inl z1))), (xa 16, .inl (kc 1, 60, .inr (.inl z1))), (xa 17, .inl (kc 1, 60, .inr (.inl z1))), (xa 0, .inr (10, [.ref (xa 1), .ref (xa 2), .ref (na 0), .ref (pa 0), .ref (xa 3), .ref (na 1), .ref (na 2), .ref (xa 4), .ref (xa 5), .ref (xa 6), .ref (xa 7), .ref (xa 8), .ref (xa 9), .int 0, .int 0, .int 1, .long 0, .long 1, .int (-1), .int (-1)]))] H := hP
        have hD : va_D A [(xa 2, .inl (kc 3, 4, .inr (.inr (.inr (.inr (tg xa)))))), (xa 10, .inr (8, [.ref (xa 14), .int 0, .int 0, .int 0])), (xa 11, .inr (8, [.ref (xa 15), .int 0, .int 0, .int 0])), (xa 12, .inr (8, [.ref (xa 16), .int 0, .int 0, .int 0])), (xa 13, .inr (8, [.ref (xa 17), .int 0, .int 0, .int 0])), (xa 14, .inl (kc 1, 60, .inr (.inl z1))), (xa 15, .inl (kc 1, 60, .inr (.inl z1))), (xa 16, .inl (kc 1, 60, .inr (.inl z1))), (xa 17, .inl (kc 1, 60, .inr (.inl z1))), (xa 0, .inr (10, [.ref (xa 1), .ref (xa 2), .ref (na 0), .ref (pa 0), .ref (xa 3), .ref (na 1), .ref (na 2), .ref (xa 4), .ref (xa 5), .ref (xa 6), .ref (xa 7), .ref (xa 8), .ref (xa 9), .int 0, .int 0, .int 1, .long 0, .long 1, .int (-1), .int (-1)]))] := hD
        subst hw
        exact W.zret (v := 0) hx hb hr rfl (fun t9 ht hW => ⟨⟨0, (), rfl, by first | exact (if_pos h_a0).symm | exact (st_1 _ (by decide) c_4).symm | exact (st_1 _ (by decide) c_13).symm | exact (st_1 _ (by decide) c_23).symm | exact (st_2 _ _ (by decide) c_4 c_13).symm | exact (st_3 _ _ _ (by decide) c_4 c_13).symm | exact (st_2 _ _ (by decide) c_4 c_23).symm | exact (st_3 _ _ _ (by decide) c_4 c_23).symm | exact (st_2 _ _ (by decide) c_13 c_4).symm | exact (st_3 _ _ _ (by decide) c_13 c_4).symm | exact (st_2 _ _ (by decide) c_13 c_23).symm | exact (st_3 _ _ _ (by decide) c_13 c_23).symm | exact (st_2 _ _ (by decide) c_23 c_4).symm | exact (st_3 _ _ _ (by decide) c_23 c_4).symm | exact (st_2 _ _ (by decide) c_23 c_13).symm | exact (st_3 _ _ _ (by decide) c_23 c_13).symm, trivial⟩, hS.F ht⟩) hS.2.2 dX11_tray_31
  · refine lv_iload_n hx hb dX11_tray_0 rfl (lv_at hl 1 rfl) ?_
    have hPc := hP.sub (ws' := []) [] rfl
    have hDc := hD.sub (ws' := []) [] (by decide) rfl
    have hFc := va_free (wc := []) hD hS hA [] rfl
    refine va_calli (va_runS (As := [.int 2]) (rest := []) ⟨hx, hb, hml, hown, hts⟩ (c_isTray l D kc s.heap.size 2) (va_cwS 1 hts gp_tray_109_c_isTray rfl rfl rfl (by decide +kernel) ⟨Nat.le_of_ble_eq_true rfl, Nat.le_of_ble_eq_true rfl⟩) (preS_ok hPc hDc hE) rfl rfl hl.1 rfl (lv_room (Nat.le_of_ble_eq_true rfl)) dX11_tray_1 ⟨Nat.le_of_ble_eq_true rfl, Nat.le_of_ble_eq_true rfl⟩) hS (fun q _ h => hFc q h) hFc (fun r_1_4 u9 t9 H locs ht hvm hw hB hz1 hk1 hS => ?_)
    obtain ⟨hP1, hD1⟩ := hB
    rw [ht] at hP1
    obtain ⟨hP, hD⟩ := va_join (wr := [(xa 0, .inr (10, [.ref (xa 1), .ref (xa 2), .ref (na 0), .ref (pa 0), .ref (xa 3), .ref (na 1), .ref (na 2), .ref (xa 4), .ref (xa 5), .ref (xa 6), .ref (xa 7), .ref (xa 8), .ref (xa 9), .int 0, .int 0, .int 0, .long 0, .long 1, .int (-1), .int (-1)])), (xa 2, .inl (kc 3, 4, .inr (.inr (.inr (.inr (tg xa)))))), (xa 10, .inr (8, [.ref (xa 14), .int 0, .int 0, .int 0])), (xa 11, .inr (8, [.ref (xa 15), .int 0, .int 0, .int 0])), (xa 12, .inr (8, [.ref (xa 16), .int 0, .int 0, .int 0])), (xa 13, .inr (8, [.ref (xa 17), .int 0, .int 0, .int 0])), (xa 14, .inl (kc 1, 60, .inr (.inl z1))), (xa 15, .inl (kc 1, 60, .inr (.inl z1))), (xa 16, .inl (kc 1, 60, .inr (.inl z1))), (xa 17, .inl (kc 1, 60, .inr (.inl z1)))]) (w1 := []) hP hD [] [0, 1, 2, 3, 4, 5, 6, 7, 8, 9] rfl rfl (by decide) (by decide) hk1 hFc hP1 hD1
    have hP : va_P D vwCl [(xa 0, .inr (10, [.ref (xa 1), .ref (xa 2), .ref (na 0), .ref (pa 0), .ref (xa 3), .ref (na 1), .ref (na 2), .ref (xa 4), .ref (xa 5), .ref (xa 6), .ref (xa 7), .ref (xa 8), .ref (xa 9), .int 0, .int 0, .int 0, .long 0, .long 1, .int (-1), .int (-1)])), (xa 2, .inl (kc 3, 4, .inr (.inr (.inr (.inr (tg xa)))))), (xa 10, .inr (8, [.ref (xa 14), .int 0, .int 0, .int 0])), (xa 11, .inr (8, [.ref (xa 15), .int 0, .int 0, .int 0])), (xa 12, .inr (8, [.ref (xa 16), .int 0, .int 0, .int 0])), (xa 13, .inr (8, [.ref (xa 17), .int 0, .int 0, .int 0])), (xa 14, .inl (kc 1, 60, .inr (.inl z1))), (xa 15, .inl (kc 1, 60, .inr (.inl z1))), (xa 16, .inl (kc 1, 60, .inr (.inl z1))), (xa 17, .inl (kc 1, 60, .inr (.inl z1)))] H := hP
    have hD : va_D A [(xa 0, .inr (10, [.ref (xa 1), .ref (xa 2), .ref (na 0), .ref (pa 0), .ref (xa 3), .ref (na 1), .ref (na 2), .ref (xa 4), .ref (xa 5), .ref (xa 6), .ref (xa 7), .ref (xa 8), .ref (xa 9), .int 0, .int 0, .int 0, .long 0, .long 1, .int (-1), .int (-1)])), (xa 2, .inl (kc 3, 4, .inr (.inr (.inr (.inr (tg xa)))))), (xa 10, .inr (8, [.ref (xa 14), .int 0, .int 0, .int 0])), (xa 11, .inr (8, [.ref (xa 15), .int 0, .int 0, .int 0])), (xa 12, .inr (8, [.ref (xa 16), .int 0, .int 0, .int 0])), (xa 13, .inr (8, [.ref (xa 17), .int 0, .int 0, .int 0])), (xa 14, .inl (kc 1, 60, .inr (.inl z1))), (xa 15, .inl (kc 1, 60, .inr (.inl z1))), (xa 16, .inl (kc 1, 60, .inr (.inl z1))), (xa 17, .inl (kc 1, 60, .inr (.inl z1)))] := hD
    subst hw
    refine lv_ci (y := 1) (by decide) ?_
    refine lv_if_eq (tgt := 26) hx hb dX11_tray_4 (by decide) (fun h => absurd h (by decide)) (fun _ => ?_)
    refine lv_iload_n hx hb dX11_tray_7 rfl (lv_at hl 2 rfl) ?_
    refine lv_iconst (v := 0) hx hb dX11_tray_8 (by decide) ?_
    refine lv_iconst (v := 3) hx hb dX11_tray_9 (by decide) ?_
    have hPc := hP.sub (ws' := []) [] rfl
    have hDc := hD.sub (ws' := []) [] (by decide) rfl
    have hFc := va_free (wc := []) hD hS hA [] rfl
    refine va_calli (va_runS (As := [.int a1, .int 0, .int 3]) (rest := []) ⟨hx, hb, hml, hown, hts⟩ (c_within l D kc H.size a1 0 3) (va_cwS 3 hts gp_tray_113_c_within rfl rfl rfl (by decide +kernel) ⟨Nat.le_of_ble_eq_true rfl, Nat.le_of_ble_eq_true rfl⟩) (preS_ok hPc hDc hE) rfl rfl hl.1 rfl (lv_room (Nat.le_of_ble_eq_true rfl)) dX11_tray_10 ⟨Nat.le_of_ble_eq_true rfl, Nat.le_of_ble_eq_true rfl⟩) hS (fun q _ h => hFc q h) hFc (fun r_10_4 u9 t9 H locs ht hvm hw hB hz1 hk1 hS => ?_)
    obtain ⟨hP1, hD1⟩ := hB
    rw [ht] at hP1
    obtain ⟨hP, hD⟩ := va_join (wr := [(xa 0, .inr (10, [.ref (xa 1), .ref (xa 2), .ref (na 0), .ref (pa 0), .ref (xa 3), .ref (na 1), .ref (na 2), .ref (xa 4), .ref (xa 5), .ref (xa 6), .ref (xa 7), .ref (xa 8), .ref (xa 9), .int 0, .int 0, .int 0, .long 0, .long 1, .int (-1), .int (-1)])), (xa 2, .inl (kc 3, 4, .inr (.inr (.inr (.inr (tg xa)))))), (xa 10, .inr (8, [.ref (xa 14), .int 0, .int 0, .int 0])), (xa 11, .inr (8, [.ref (xa 15), .int 0, .int 0, .int 0])), (xa 12, .inr (8, [.ref (xa 16), .int 0, .int 0, .int 0])), (xa 13, .inr (8, [.ref (xa 17), .int 0, .int 0, .int 0])), (xa 14, .inl (kc 1, 60, .inr (.inl z1))), (xa 15, .inl (kc 1, 60, .inr (.inl z1))), (xa 16, .inl (kc 1, 60, .inr (.inl z1))), (xa 17, .inl (kc 1, 60, .inr (.inl z1)))]) (w1 := []) hP hD [] [0, 1, 2, 3, 4, 5, 6, 7, 8, 9] rfl rfl (by decide) (by decide) hk1 hFc hP1 hD1
    have hP : va_P D vwCl [(xa 0, .inr (10, [.ref (xa 1), .ref (xa 2), .ref (na 0), .ref (pa 0), .ref (xa 3), .ref (na 1), .ref (na 2), .ref (xa 4), .ref (xa 5), .ref (xa 6), .ref (xa 7), .ref (xa 8), .ref (xa 9), .int 0, .int 0, .int 0, .long 0, .long 1, .int (-1), .int (-1)])), (xa 2, .inl (kc 3, 4, .inr (.inr (.inr (.inr (tg xa)))))), (xa 10, .inr (8, [.ref (xa 14), .int 0, .int 0, .int 0])), (xa 11, .inr (8, [.ref (xa 15), .int 0, .int 0, .int 0])), (xa 12, .inr (8, [.ref (xa 16), .int 0, .int 0, .int 0])), (xa 13, .inr (8, [.ref (xa 17), .int 0, .int 0, .int 0])), (xa 14, .inl (kc 1, 60, .inr (.inl z1))), (xa 15, .inl (kc 1, 60, .inr (.inl z1))), (xa 16, .inl (kc 1, 60, .inr (.inl z1))), (xa 17, .inl (kc 1, 60, .inr (.inl z1)))] H := hP
    have hD : va_D A [(xa 0, .inr (10, [.ref (xa 1), .ref (xa 2), .ref (na 0), .ref (pa 0), .ref (xa 3), .ref (na 1), .ref (na 2), .ref (xa 4), .ref (xa 5), .ref (xa 6), .ref (xa 7), .ref (xa 8), .ref (xa 9), .int 0, .int 0, .int 0, .long 0, .long 1, .int (-1), .int (-1)])), (xa 2, .inl (kc 3, 4, .inr (.inr (.inr (.inr (tg xa)))))), (xa 10, .inr (8, [.ref (xa 14), .int 0, .int 0, .int 0])), (xa 11, .inr (8, [.ref (xa 15), .int 0, .int 0, .int 0])), (xa 12, .inr (8, [.ref (xa 16), .int 0, .int 0, .int 0])), (xa 13, .inr (8, [.ref (xa 17), .int 0, .int 0, .int 0])), (xa 14, .inl (kc 1, 60, .inr (.inl z1))), (xa 15, .inl (kc 1, 60, .inr (.inl z1))), (xa 16, .inl (kc 1, 60, .inr (.inl z1))), (xa 17, .inl (kc 1, 60, .inr (.inl z1)))] := hD
    subst hw
    refine lv_if_eq (tgt := 26) hx hb dX11_tray_13 (by decide) (fun c_13 => ?_) (fun c_13 => ?_)
    · refine lv_aload_n hx hb dX11_tray_26 rfl (lv_at hl 0 rfl) ?_
      refine lv_iconst (v := 1) hx hb dX11_tray_27 (by decide) ?_
      have hPc := hP.sub (ws' := [(xa 0, .inr (10, [.ref (xa 1), .ref (xa 2), .ref (na 0), .ref (pa 0), .ref (xa 3), .ref (na 1), .ref (na 2), .ref (xa 4), .ref (xa 5), .ref (xa 6), .ref (xa 7), .ref (xa 8), .ref (xa 9), .int 0, .int 0, .int 0, .long 0, .long 1, .int (-1), .int (-1)]))]) [0] rfl
      have hDc := hD.sub (ws' := [(xa 0, .inr (10, [.ref (xa 1), .ref (xa 2), .ref (na 0), .ref (pa 0), .ref (xa 3), .ref (na 1), .ref (na 2), .ref (xa 4), .ref (xa 5), .ref (xa 6), .ref (xa 7), .ref (xa 8), .ref (xa 9), .int 0, .int 0, .int 0, .long 0, .long 1, .int (-1), .int (-1)]))]) [0] (by decide) rfl
      have hFc := va_free (wc := [(xa 0, .inr (10, [.ref (xa 1), .ref (xa 2), .ref (na 0), .ref (pa 0), .ref (xa 3), .ref (na 1), .ref (na 2), .ref (xa 4), .ref (xa 5), .ref (xa 6), .ref (xa 7), .ref (xa 8), .ref (xa 9), .int 0, .int 0, .int 0, .long 0, .long 1, .int (-1), .int (-1)]))]) hD hS hA [0] rfl
      refine va_calli (va_runV (As := [.int 1]) (rest := []) ⟨hx, hb, hml, hown, hts⟩ (c_refused l D kc H.size xa na pa 0 0 0 0 1 (-1) (-1) 1) (cwV 1 hts gp_tray_117_c_refused rfl rfl rfl (by decide +kernel) ⟨Nat.le_of_ble_eq_true rfl, Nat.le_of_ble_eq_true rfl⟩) (preV_ok hPc hDc hE (ci := 10) (q0 := 0) rfl rfl) rfl rfl hl.1 rfl (lv_room (Nat.le_of_ble_eq_true rfl)) dX11_tray_28 ⟨Nat.le_of_ble_eq_true rfl, Nat.le_of_ble_eq_true rfl⟩) hS (fun q _ h => hFc q h) hFc (fun r_28_5 u9 t9 H locs ht hvm hw hB hz1 hk1 hS => ?_)
      obtain ⟨hP1, hD1⟩ := hB
      rw [ht] at hP1
      obtain ⟨hP, hD⟩ := va_join (wr := [(xa 2, .inl (kc 3, 4, .inr (.inr (.inr (.inr (tg xa)))))), (xa 10, .inr (8, [.ref (xa 14), .int 0, .int 0, .int 0])), (xa 11, .inr (8, [.ref (xa 15), .int 0, .int 0, .int 0])), (xa 12, .inr (8, [.ref (xa 16), .int 0, .int 0, .int 0])), (xa 13, .inr (8, [.ref (xa 17), .int 0, .int 0, .int 0])), (xa 14, .inl (kc 1, 60, .inr (.inl z1))), (xa 15, .inl (kc 1, 60, .inr (.inl z1))), (xa 16, .inl (kc 1, 60, .inr (.inl z1))), (xa 17, .inl (kc 1, 60, .inr (.inl z1)))]) (w1 := [(xa 0, .inr (10, [.ref (xa 1), .ref (xa 2), .ref (na 0), .ref (pa 0), .ref (xa 3), .ref (na 1), .ref (na 2), .ref (xa 4), .ref (xa 5), .ref (xa 6), .ref (xa 7), .ref (xa 8), .ref (xa 9), .int 0, .int 0, .int 1, .long 0, .long 1, .int (-1), .int (-1)]))]) hP hD [0] [1, 2, 3, 4, 5, 6, 7, 8, 9] rfl rfl (by decide) (by decide) hk1 hFc hP1 hD1
      have hP : va_P D vwCl [(xa 2, .inl (kc 3, 4, .inr (.inr (.inr (.inr (tg xa)))))), (xa 10, .inr (8, [.ref (xa 14), .int 0, .int 0, .int 0])), (xa 11, .inr (8, [.ref (xa 15), .int 0, .int 0, .int 0])), (xa 12, .inr (8, [.ref (xa 16), .int 0, .int 0, .int 0])), (xa 13, .inr (8, [.ref (xa 17), .int 0, .int 0, .int 0])), (xa 14, .inl (kc 1, 60, .inr (.inl z1))), (xa 15, .inl (kc 1, 60, .inr (.inl z1))), (xa 16, .inl (kc 1, 60, .inr (.inl z1))), (xa 17, .inl (kc 1, 60, .inr (.inl z1))), (xa 0, .inr (10, [.ref (xa 1), .ref (xa 2), .ref (na 0), .ref (pa 0), .ref (xa 3), .ref (na 1), .ref (na 2), .ref (xa 4), .ref (xa 5), .ref (xa 6), .ref (xa 7), .ref (xa 8), .ref (xa 9), .int 0, .int 0, .int 1, .long 0, .long 1, .int (-1), .int (-1)]))] H := hP
      have hD : va_D A [(xa 2, .inl (kc 3, 4, .inr (.inr (.inr (.inr (tg xa)))))), (xa 10, .inr (8, [.ref (xa 14), .int 0, .int 0, .int 0])), (xa 11, .inr (8, [.ref (xa 15), .int 0, .int 0, .int 0])), (xa 12, .inr (8, [.ref (xa 16), .int 0, .int 0, .int 0])), (xa 13, .inr (8, [.ref (xa 17), .int 0, .int 0, .int 0])), (xa 14, .inl (kc 1, 60, .inr (.inl z1))), (xa 15, .inl (kc 1, 60, .inr (.inl z1))), (xa 16, .inl (kc 1, 60, .inr (.inl z1))), (xa 17, .inl (kc 1, 60, .inr (.inl z1))), (xa 0, .inr (10, [.ref (xa 1), .ref (xa 2), .ref (na 0), .ref (pa 0), .ref (xa 3), .ref (na 1), .ref (na 2), .ref (xa 4), .ref (xa 5), .ref (xa 6), .ref (xa 7), .ref (xa 8), .ref (xa 9), .int 0, .int 0, .int 1, .long 0, .long 1, .int (-1), .int (-1)]))] := hD
      subst hw
      exact W.zret (v := 0) hx hb hr rfl (fun t9 ht hW => ⟨⟨0, (), rfl, by first | exact (if_pos h_a0).symm | exact (st_1 _ (by decide) c_4).symm | exact (st_1 _ (by decide) c_13).symm | exact (st_1 _ (by decide) c_23).symm | exact (st_2 _ _ (by decide) c_4 c_13).symm | exact (st_3 _ _ _ (by decide) c_4 c_13).symm | exact (st_2 _ _ (by decide) c_4 c_23).symm | exact (st_3 _ _ _ (by decide) c_4 c_23).symm | exact (st_2 _ _ (by decide) c_13 c_4).symm | exact (st_3 _ _ _ (by decide) c_13 c_4).symm | exact (st_2 _ _ (by decide) c_13 c_23).symm | exact (st_3 _ _ _ (by decide) c_13 c_23).symm | exact (st_2 _ _ (by decide) c_23 c_4).symm | exact (st_3 _ _ _ (by decide) c_23 c_4).symm | exact (st_2 _ _ (by decide) c_23 c_13).symm | exact (st_3 _ _ _ (by decide) c_23 c_13).symm, trivial⟩, hS.F ht⟩) hS.2.2 dX11_tray_31
    · refine lv_iload_n hx hb dX11_tray_16 rfl (lv_at hl 3 rfl) ?_
      refine lv_iconst (v := 0) hx hb dX11_tray_17 (by decide) ?_
      refine lv_bipush (v := 60) hx hb dX11_tray_18 (by decide) ?_
      have hPc := hP.sub (ws' := []) [] rfl
      have hDc := hD.sub (ws' := []) [] (by decide) rfl
      have hFc := va_free (wc := []) hD hS hA [] rfl
      refine va_calli (va_runS (As := [.int a2, .int 0, .int 60]) (rest := []) ⟨hx, hb, hml, hown, hts⟩ (c_within l D kc H.size a2 0 60) (va_cwS 3 hts gp_tray_113_c_within rfl rfl rfl (by decide +kernel) ⟨Nat.le_of_ble_eq_true rfl, Nat.le_of_ble_eq_true rfl⟩) (preS_ok hPc hDc hE) rfl rfl hl.1 rfl (lv_room (Nat.le_of_ble_eq_true rfl)) dX11_tray_20 ⟨Nat.le_of_ble_eq_true rfl, Nat.le_of_ble_eq_true rfl⟩) hS (fun q _ h => hFc q h) hFc (fun r_20_5 u9 t9 H locs ht hvm hw hB hz1 hk1 hS => ?_)
      obtain ⟨hP1, hD1⟩ := hB
      rw [ht] at hP1
      obtain ⟨hP, hD⟩ := va_join (wr := [(xa 0, .inr (10, [.ref (xa 1), .ref (xa 2), .ref (na 0), .ref (pa 0), .ref (xa 3), .ref (na 1), .ref (na 2), .ref (xa 4), .ref (xa 5), .ref (xa 6), .ref (xa 7), .ref (xa 8), .ref (xa 9), .int 0, .int 0, .int 0, .long 0, .long 1, .int (-1), .int (-1)])), (xa 2, .inl (kc 3, 4, .inr (.inr (.inr (.inr (tg xa)))))), (xa 10, .inr (8, [.ref (xa 14), .int 0, .int 0, .int 0])), (xa 11, .inr (8, [.ref (xa 15), .int 0, .int 0, .int 0])), (xa 12, .inr (8, [.ref (xa 16), .int 0, .int 0, .int 0])), (xa 13, .inr (8, [.ref (xa 17), .int 0, .int 0, .int 0])), (xa 14, .inl (kc 1, 60, .inr (.inl z1))), (xa 15, .inl (kc 1, 60, .inr (.inl z1))), (xa 16, .inl (kc 1, 60, .inr (.inl z1))), (xa 17, .inl (kc 1, 60, .inr (.inl z1)))]) (w1 := []) hP hD [] [0, 1, 2, 3, 4, 5, 6, 7, 8, 9] rfl rfl (by decide) (by decide) hk1 hFc hP1 hD1
      have hP : va_P D vwCl [(xa 0, .inr (10, [.ref (xa 1), .ref (xa 2), .ref (na 0), .ref (pa 0), .ref (xa 3), .ref (na 1), .ref (na 2), .ref (xa 4), .ref (xa 5), .ref (xa 6), .ref (xa 7), .ref (xa 8), .ref (xa 9), .int 0, .int 0, .int 0, .long 0, .long 1, .int (-1), .int (-1)])), (xa 2, .inl (kc 3, 4, .inr (.inr (.inr (.inr (tg xa)))))), (xa 10, .inr (8, [.ref (xa 14), .int 0, .int 0, .int 0])), (xa 11, .inr (8, [.ref (xa 15), .int 0, .int 0, .int 0])), (xa 12, .inr (8, [.ref (xa 16), .int 0, .int 0, .int 0])), (xa 13, .inr (8, [.ref (xa 17), .int 0, .int 0, .int 0])), (xa 14, .inl (kc 1, 60, .inr (.inl z1))), (xa 15, .inl (kc 1, 60, .inr (.inl z1))), (xa 16, .inl (kc 1, 60, .inr (.inl z1))), (xa 17, .inl (kc 1, 60, .inr (.inl z1)))] H := hP
      have hD : va_D A [(xa 0, .inr (10, [.ref (xa 1), .ref (xa 2), .ref (na 0), .ref (pa 0), .ref (xa 3), .ref (na 1), .ref (na 2), .ref (xa 4), .ref (xa 5), .ref (xa 6), .ref (xa 7), .ref (xa 8), .ref (xa 9), .int 0, .int 0, .int 0, .long 0, .long 1, .int (-1), .int (-1)])), (xa 2, .inl (kc 3, 4, .inr (.inr (.inr (.inr (tg xa)))))), (xa 10, .inr (8, [.ref (xa 14), .int 0, .int 0, .int 0])), (xa 11, .inr (8, [.ref (xa 15), .int 0, .int 0, .int 0])), (xa 12, .inr (8, [.ref (xa 16), .int 0, .int 0, .int 0])), (xa 13, .inr (8, [.ref (xa 17), .int 0, .int 0, .int 0])), (xa 14, .inl (kc 1, 60, .inr (.inl z1))), (xa 15, .inl (kc 1, 60, .inr (.inl z1))), (xa 16, .inl (kc 1, 60, .inr (.inl z1))), (xa 17, .inl (kc 1, 60, .inr (.inl z1)))] := hD
      subst hw
      refine lv_if_ne (tgt := 32) hx hb dX11_tray_23 (by decide) (fun c_23 => ?_) (fun c_23 => ?_)
      · refine lv_aload_n hx hb dX11_tray_32 rfl (lv_at hl 0 rfl) ?_
        refine va_get (D := D) (ci := 10) (v := .ref (xa 2)) (C := RX11) (T := TX11) (N := 20) hx hb hts ip_tray_X11 hown hK hP 0 rfl rfl 1 (by decide) (hts (.fieldLink RX11 15 "SaltStreet" "trays" "[LSaltStreet$Tray;") (List.mem_of_getElem? (i := 13) rfl)) (fun _ h9 => h9) rfl dX11_tray_33 ?_
        refine lv_iload_n hx hb dX11_tray_36 rfl (lv_at hl 1 rfl) ?_
        refine va_aldq hx hb hK hP 1 3 (f := (tg xa)) rfl rfl (by unfold vp_in; decide) dX11_tray_37 ?_
        refine lv_cv (y := .ref (xa 12)) (rfl) ?_
        refine lv_iload_n hx hb dX11_tray_38 rfl (lv_at hl 2 rfl) ?_
        refine lv_iload_n hx hb dX11_tray_39 rfl (lv_at hl 3 rfl) ?_
        have hPc := hP.sub (ws' := [(xa 12, .inr (8, [.ref (xa 16), .int 0, .int 0, .int 0])), (xa 16, .inl (kc 1, 60, .inr (.inl z1)))]) [4, 8] rfl
        have hDc := hD.sub (ws' := [(xa 12, .inr (8, [.ref (xa 16), .int 0, .int 0, .int 0])), (xa 16, .inl (kc 1, 60, .inr (.inl z1)))]) [4, 8] (by decide) rfl
        have hFc := va_free (wc := [(xa 12, .inr (8, [.ref (xa 16), .int 0, .int 0, .int 0])), (xa 16, .inl (kc 1, 60, .inr (.inl z1)))]) hD hS hA [4, 8] rfl
        refine va_callv (va_runV (As := [.int a1, .int a2]) (rest := []) ⟨hx, hb, hml, hown, hts⟩ (c_lay l D kc H.size (xa 12) (xa 16) a1 a2) (cwV 2 hts gp_tray_120_c_lay rfl rfl rfl (by decide +kernel) ⟨Nat.le_of_ble_eq_true rfl, Nat.le_of_ble_eq_true rfl⟩) (preV_ok hPc hDc hE (ci := 8) (q0 := 0) rfl rfl) rfl rfl hl.1 rfl (lv_room (Nat.le_of_ble_eq_true rfl)) dX11_tray_40 ⟨Nat.le_of_ble_eq_true rfl, Nat.le_of_ble_eq_true rfl⟩) hS (fun q _ h => hFc q h) hFc (fun u9 t9 H locs ht hvm hw hB hz1 hk1 hS => ?_)
        obtain ⟨hP, hD⟩ := va_join (wr := [(xa 0, .inr (10, [.ref (xa 1), .ref (xa 2), .ref (na 0), .ref (pa 0), .ref (xa 3), .ref (na 1), .ref (na 2), .ref (xa 4), .ref (xa 5), .ref (xa 6), .ref (xa 7), .ref (xa 8), .ref (xa 9), .int 0, .int 0, .int 0, .long 0, .long 1, .int (-1), .int (-1)])), (xa 2, .inl (kc 3, 4, .inr (.inr (.inr (.inr (tg xa)))))), (xa 10, .inr (8, [.ref (xa 14), .int 0, .int 0, .int 0])), (xa 11, .inr (8, [.ref (xa 15), .int 0, .int 0, .int 0])), (xa 13, .inr (8, [.ref (xa 17), .int 0, .int 0, .int 0])), (xa 14, .inl (kc 1, 60, .inr (.inl z1))), (xa 15, .inl (kc 1, 60, .inr (.inl z1))), (xa 17, .inl (kc 1, 60, .inr (.inl z1)))]) (w1 := []) hP hD [4, 8] [0, 1, 2, 3, 5, 6, 7, 9] rfl rfl (by decide) (by decide) hk1 hFc (fun _ _ h => by simp at h) ⟨fun _ _ _ _ h => by simp at h, fun _ _ h => by simp at h⟩
        have hP : va_P D vwCl [(xa 0, .inr (10, [.ref (xa 1), .ref (xa 2), .ref (na 0), .ref (pa 0), .ref (xa 3), .ref (na 1), .ref (na 2), .ref (xa 4), .ref (xa 5), .ref (xa 6), .ref (xa 7), .ref (xa 8), .ref (xa 9), .int 0, .int 0, .int 0, .long 0, .long 1, .int (-1), .int (-1)])), (xa 2, .inl (kc 3, 4, .inr (.inr (.inr (.inr (tg xa)))))), (xa 10, .inr (8, [.ref (xa 14), .int 0, .int 0, .int 0])), (xa 11, .inr (8, [.ref (xa 15), .int 0, .int 0, .int 0])), (xa 13, .inr (8, [.ref (xa 17), .int 0, .int 0, .int 0])), (xa 14, .inl (kc 1, 60, .inr (.inl z1))), (xa 15, .inl (kc 1, 60, .inr (.inl z1))), (xa 17, .inl (kc 1, 60, .inr (.inl z1)))] H := hP
        have hD : va_D A [(xa 0, .inr (10, [.ref (xa 1), .ref (xa 2), .ref (na 0), .ref (pa 0), .ref (xa 3), .ref (na 1), .ref (na 2), .ref (xa 4), .ref (xa 5), .ref (xa 6), .ref (xa 7), .ref (xa 8), .ref (xa 9), .int 0, .int 0, .int 0, .long 0, .long 1, .int (-1), .int (-1)])), (xa 2, .inl (kc 3, 4, .inr (.inr (.inr (.inr (tg xa)))))), (xa 10, .inr (8, [.ref (xa 14), .int 0, .int 0, .int 0])), (xa 11, .inr (8, [.ref (xa 15), .int 0, .int 0, .int 0])), (xa 13, .inr (8, [.ref (xa 17), .int 0, .int 0, .int 0])), (xa 14, .inl (kc 1, 60, .inr (.inl z1))), (xa 15, .inl (kc 1, 60, .inr (.inl z1))), (xa 17, .inl (kc 1, 60, .inr (.inl z1)))] := hD
        refine lv_aload_n hx hb dX11_tray_43 rfl (lv_at hl 0 rfl) ?_
        have hPc := hP.sub (ws' := [(xa 0, .inr (10, [.ref (xa 1), .ref (xa 2), .ref (na 0), .ref (pa 0), .ref (xa 3), .ref (na 1), .ref (na 2), .ref (xa 4), .ref (xa 5), .ref (xa 6), .ref (xa 7), .ref (xa 8), .ref (xa 9), .int 0, .int 0, .int 0, .long 0, .long 1, .int (-1), .int (-1)]))]) [0] rfl
        have hDc := hD.sub (ws' := [(xa 0, .inr (10, [.ref (xa 1), .ref (xa 2), .ref (na 0), .ref (pa 0), .ref (xa 3), .ref (na 1), .ref (na 2), .ref (xa 4), .ref (xa 5), .ref (xa 6), .ref (xa 7), .ref (xa 8), .ref (xa 9), .int 0, .int 0, .int 0, .long 0, .long 1, .int (-1), .int (-1)]))]) [0] (by decide) rfl
        have hFc := va_free (wc := [(xa 0, .inr (10, [.ref (xa 1), .ref (xa 2), .ref (na 0), .ref (pa 0), .ref (xa 3), .ref (na 1), .ref (na 2), .ref (xa 4), .ref (xa 5), .ref (xa 6), .ref (xa 7), .ref (xa 8), .ref (xa 9), .int 0, .int 0, .int 0, .long 0, .long 1, .int (-1), .int (-1)]))]) hD hS hA [0] rfl
        refine va_calli (va_runV (As := []) (rest := []) ⟨hx, hb, hml, hown, hts⟩ (c_granted l D kc H.size xa na pa 0 0 0 0 1 (-1) (-1)) (cwV 0 hts gp_tray_124_c_granted rfl rfl rfl (by decide +kernel) ⟨Nat.le_of_ble_eq_true rfl, Nat.le_of_ble_eq_true rfl⟩) (preV_ok hPc hDc hE (ci := 10) (q0 := 0) rfl rfl) rfl rfl hl.1 rfl (lv_room (Nat.le_of_ble_eq_true rfl)) dX11_tray_44 ⟨Nat.le_of_ble_eq_true rfl, Nat.le_of_ble_eq_true rfl⟩) hS (fun q _ h => hFc q h) hFc (fun r_44_6 u9 t9 H locs ht hvm hw hB hz1 hk1 hS => ?_)
        obtain ⟨hP1, hD1⟩ := hB
        rw [ht] at hP1
        obtain ⟨hP, hD⟩ := va_join (wr := [(xa 2, .inl (kc 3, 4, .inr (.inr (.inr (.inr (tg xa)))))), (xa 10, .inr (8, [.ref (xa 14), .int 0, .int 0, .int 0])), (xa 11, .inr (8, [.ref (xa 15), .int 0, .int 0, .int 0])), (xa 13, .inr (8, [.ref (xa 17), .int 0, .int 0, .int 0])), (xa 14, .inl (kc 1, 60, .inr (.inl z1))), (xa 15, .inl (kc 1, 60, .inr (.inl z1))), (xa 17, .inl (kc 1, 60, .inr (.inl z1)))]) (w1 := [(xa 0, .inr (10, [.ref (xa 1), .ref (xa 2), .ref (na 0), .ref (pa 0), .ref (xa 3), .ref (na 1), .ref (na 2), .ref (xa 4), .ref (xa 5), .ref (xa 6), .ref (xa 7), .ref (xa 8), .ref (xa 9), .int 0, .int 0, .int 0, .long 0, .long 1, .int (-1), .int (-1)]))]) hP hD [0] [1, 2, 3, 4, 5, 6, 7] rfl rfl (by decide) (by decide) hk1 hFc hP1 hD1
        have hP : va_P D vwCl [(xa 2, .inl (kc 3, 4, .inr (.inr (.inr (.inr (tg xa)))))), (xa 10, .inr (8, [.ref (xa 14), .int 0, .int 0, .int 0])), (xa 11, .inr (8, [.ref (xa 15), .int 0, .int 0, .int 0])), (xa 13, .inr (8, [.ref (xa 17), .int 0, .int 0, .int 0])), (xa 14, .inl (kc 1, 60, .inr (.inl z1))), (xa 15, .inl (kc 1, 60, .inr (.inl z1))), (xa 17, .inl (kc 1, 60, .inr (.inl z1))), (xa 0, .inr (10, [.ref (xa 1), .ref (xa 2), .ref (na 0), .ref (pa 0), .ref (xa 3), .ref (na 1), .ref (na 2), .ref (xa 4), .ref (xa 5), .ref (xa 6), .ref (xa 7), .ref (xa 8), .ref (xa 9), .int 0, .int 0, .int 0, .long 0, .long 1, .int (-1), .int (-1)]))] H := hP
        have hD : va_D A [(xa 2, .inl (kc 3, 4, .inr (.inr (.inr (.inr (tg xa)))))), (xa 10, .inr (8, [.ref (xa 14), .int 0, .int 0, .int 0])), (xa 11, .inr (8, [.ref (xa 15), .int 0, .int 0, .int 0])), (xa 13, .inr (8, [.ref (xa 17), .int 0, .int 0, .int 0])), (xa 14, .inl (kc 1, 60, .inr (.inl z1))), (xa 15, .inl (kc 1, 60, .inr (.inl z1))), (xa 17, .inl (kc 1, 60, .inr (.inl z1))), (xa 0, .inr (10, [.ref (xa 1), .ref (xa 2), .ref (na 0), .ref (pa 0), .ref (xa 3), .ref (na 1), .ref (na 2), .ref (xa 4), .ref (xa 5), .ref (xa 6), .ref (xa 7), .ref (xa 8), .ref (xa 9), .int 0, .int 0, .int 0, .long 0, .long 1, .int (-1), .int (-1)]))] := hD
        subst hw
        exact W.zret (v := 1) hx hb hr rfl (fun t9 ht hW => ⟨⟨1, (), rfl, by first | exact (if_pos h_a0).symm | exact (st_1 _ (by decide) c_4).symm | exact (st_1 _ (by decide) c_13).symm | exact (st_1 _ (by decide) c_23).symm | exact (st_2 _ _ (by decide) c_4 c_13).symm | exact (st_3 _ _ _ (by decide) c_4 c_13).symm | exact (st_2 _ _ (by decide) c_4 c_23).symm | exact (st_3 _ _ _ (by decide) c_4 c_23).symm | exact (st_2 _ _ (by decide) c_13 c_4).symm | exact (st_3 _ _ _ (by decide) c_13 c_4).symm | exact (st_2 _ _ (by decide) c_13 c_23).symm | exact (st_3 _ _ _ (by decide) c_13 c_23).symm | exact (st_2 _ _ (by decide) c_23 c_4).symm | exact (st_3 _ _ _ (by decide) c_23 c_4).symm | exact (st_2 _ _ (by decide) c_23 c_13).symm | exact (st_3 _ _ _ (by decide) c_23 c_13).symm, trivial⟩, hS.F ht⟩) hS.2.2 dX11_tray_47
      · refine lv_aload_n hx hb dX11_tray_26 rfl (lv_at hl 0 rfl) ?_
        refine lv_iconst (v := 1) hx hb dX11_tray_27 (by decide) ?_
        have hPc := hP.sub (ws' := [(xa 0, .inr (10, [.ref (xa 1), .ref (xa 2), .ref (na 0), .ref (pa 0), .ref (xa 3), .ref (na 1), .ref (na 2), .ref (xa 4), .ref (xa 5), .ref (xa 6), .ref (xa 7), .ref (xa 8), .ref (xa 9), .int 0, .int 0, .int 0, .long 0, .long 1, .int (-1), .int (-1)]))]) [0] rfl
        have hDc := hD.sub (ws' := [(xa 0, .inr (10, [.ref (xa 1), .ref (xa 2), .ref (na 0), .ref (pa 0), .ref (xa 3), .ref (na 1), .ref (na 2), .ref (xa 4), .ref (xa 5), .ref (xa 6), .ref (xa 7), .ref (xa 8), .ref (xa 9), .int 0, .int 0, .int 0, .long 0, .long 1, .int (-1), .int (-1)]))]) [0] (by decide) rfl
        have hFc := va_free (wc := [(xa 0, .inr (10, [.ref (xa 1), .ref (xa 2), .ref (na 0), .ref (pa 0), .ref (xa 3), .ref (na 1), .ref (na 2), .ref (xa 4), .ref (xa 5), .ref (xa 6), .ref (xa 7), .ref (xa 8), .ref (xa 9), .int 0, .int 0, .int 0, .long 0, .long 1, .int (-1), .int (-1)]))]) hD hS hA [0] rfl
        refine va_calli (va_runV (As := [.int 1]) (rest := []) ⟨hx, hb, hml, hown, hts⟩ (c_refused l D kc H.size xa na pa 0 0 0 0 1 (-1) (-1) 1) (cwV 1 hts gp_tray_117_c_refused rfl rfl rfl (by decide +kernel) ⟨Nat.le_of_ble_eq_true rfl, Nat.le_of_ble_eq_true rfl⟩) (preV_ok hPc hDc hE (ci := 10) (q0 := 0) rfl rfl) rfl rfl hl.1 rfl (lv_room (Nat.le_of_ble_eq_true rfl)) dX11_tray_28 ⟨Nat.le_of_ble_eq_true rfl, Nat.le_of_ble_eq_true rfl⟩) hS (fun q _ h => hFc q h) hFc (fun r_28_6 u9 t9 H locs ht hvm hw hB hz1 hk1 hS => ?_)
        obtain ⟨hP1, hD1⟩ := hB
        rw [ht] at hP1
        obtain ⟨hP, hD⟩ := va_join (wr := [(xa 2, .inl (kc 3, 4, .inr (.inr (.inr (.inr (tg xa)))))), (xa 10, .inr (8, [.ref (xa 14), .int 0, .int 0, .int 0])), (xa 11, .inr (8, [.ref (xa 15), .int 0, .int 0, .int 0])), (xa 12, .inr (8, [.ref (xa 16), .int 0, .int 0, .int 0])), (xa 13, .inr (8, [.ref (xa 17), .int 0, .int 0, .int 0])), (xa 14, .inl (kc 1, 60, .inr (.inl z1))), (xa 15, .inl (kc 1, 60, .inr (.inl z1))), (xa 16, .inl (kc 1, 60, .inr (.inl z1))), (xa 17, .inl (kc 1, 60, .inr (.inl z1)))]) (w1 := [(xa 0, .inr (10, [.ref (xa 1), .ref (xa 2), .ref (na 0), .ref (pa 0), .ref (xa 3), .ref (na 1), .ref (na 2), .ref (xa 4), .ref (xa 5), .ref (xa 6), .ref (xa 7), .ref (xa 8), .ref (xa 9), .int 0, .int 0, .int 1, .long 0, .long 1, .int (-1), .int (-1)]))]) hP hD [0] [1, 2, 3, 4, 5, 6, 7, 8, 9] rfl rfl (by decide) (by decide) hk1 hFc hP1 hD1
        have hP : va_P D vwCl [(xa 2, .inl (kc 3, 4, .inr (.inr (.inr (.inr (tg xa)))))), (xa 10, .inr (8, [.ref (xa 14), .int 0, .int 0, .int 0])), (xa 11, .inr (8, [.ref (xa 15), .int 0, .int 0, .int 0])), (xa 12, .inr (8, [.ref (xa 16), .int 0, .int 0, .int 0])), (xa 13, .inr (8, [.ref (xa 17), .int 0, .int 0, .int 0])), (xa 14, .inl (kc 1, 60, .inr (.inl z1))), (xa 15, .inl (kc 1, 60, .inr (.inl z1))), (xa 16, .inl (kc 1, 60, .inr (.inl z1))), (xa 17, .inl (kc 1, 60, .inr (.inl z1))), (xa 0, .inr (10, [.ref (xa 1), .ref (xa 2), .ref (na 0), .ref (pa 0), .ref (xa 3), .ref (na 1), .ref (na 2), .ref (xa 4), .ref (xa 5), .ref (xa 6), .ref (xa 7), .ref (xa 8), .ref (xa 9), .int 0, .int 0, .int 1, .long 0, .long 1, .int (-1), .int (-1)]))] H := hP
        have hD : va_D A [(xa 2, .inl (kc 3, 4, .inr (.inr (.inr (.inr (tg xa)))))), (xa 10, .inr (8, [.ref (xa 14), .int 0, .int 0, .int 0])), (xa 11, .inr (8, [.ref (xa 15), .int 0, .int 0, .int 0])), (xa 12, .inr (8, [.ref (xa 16), .int 0, .int 0, .int 0])), (xa 13, .inr (8, [.ref (xa 17), .int 0, .int 0, .int 0])), (xa 14, .inl (kc 1, 60, .inr (.inl z1))), (xa 15, .inl (kc 1, 60, .inr (.inl z1))), (xa 16, .inl (kc 1, 60, .inr (.inl z1))), (xa 17, .inl (kc 1, 60, .inr (.inl z1))), (xa 0, .inr (10, [.ref (xa 1), .ref (xa 2), .ref (na 0), .ref (pa 0), .ref (xa 3), .ref (na 1), .ref (na 2), .ref (xa 4), .ref (xa 5), .ref (xa 6), .ref (xa 7), .ref (xa 8), .ref (xa 9), .int 0, .int 0, .int 1, .long 0, .long 1, .int (-1), .int (-1)]))] := hD
        subst hw
        exact W.zret (v := 0) hx hb hr rfl (fun t9 ht hW => ⟨⟨0, (), rfl, by first | exact (if_pos h_a0).symm | exact (st_1 _ (by decide) c_4).symm | exact (st_1 _ (by decide) c_13).symm | exact (st_1 _ (by decide) c_23).symm | exact (st_2 _ _ (by decide) c_4 c_13).symm | exact (st_3 _ _ _ (by decide) c_4 c_13).symm | exact (st_2 _ _ (by decide) c_4 c_23).symm | exact (st_3 _ _ _ (by decide) c_4 c_23).symm | exact (st_2 _ _ (by decide) c_13 c_4).symm | exact (st_3 _ _ _ (by decide) c_13 c_4).symm | exact (st_2 _ _ (by decide) c_13 c_23).symm | exact (st_3 _ _ _ (by decide) c_13 c_23).symm | exact (st_2 _ _ (by decide) c_23 c_4).symm | exact (st_3 _ _ _ (by decide) c_23 c_4).symm | exact (st_2 _ _ (by decide) c_23 c_13).symm | exact (st_3 _ _ _ (by decide) c_23 c_13).symm, trivial⟩, hS.F ht⟩) hS.2.2 dX11_tray_31
  · refine lv_iload_n hx hb dX11_tray_0 rfl (lv_at hl 1 rfl) ?_
    have hPc := hP.sub (ws' := []) [] rfl
    have hDc := hD.sub (ws' := []) [] (by decide) rfl
    have hFc := va_free (wc := []) hD hS hA [] rfl
    refine va_calli (va_runS (As := [.int 3]) (rest := []) ⟨hx, hb, hml, hown, hts⟩ (c_isTray l D kc s.heap.size 3) (va_cwS 1 hts gp_tray_109_c_isTray rfl rfl rfl (by decide +kernel) ⟨Nat.le_of_ble_eq_true rfl, Nat.le_of_ble_eq_true rfl⟩) (preS_ok hPc hDc hE) rfl rfl hl.1 rfl (lv_room (Nat.le_of_ble_eq_true rfl)) dX11_tray_1 ⟨Nat.le_of_ble_eq_true rfl, Nat.le_of_ble_eq_true rfl⟩) hS (fun q _ h => hFc q h) hFc (fun r_1_6 u9 t9 H locs ht hvm hw hB hz1 hk1 hS => ?_)
    obtain ⟨hP1, hD1⟩ := hB
    rw [ht] at hP1
    obtain ⟨hP, hD⟩ := va_join (wr := [(xa 0, .inr (10, [.ref (xa 1), .ref (xa 2), .ref (na 0), .ref (pa 0), .ref (xa 3), .ref (na 1), .ref (na 2), .ref (xa 4), .ref (xa 5), .ref (xa 6), .ref (xa 7), .ref (xa 8), .ref (xa 9), .int 0, .int 0, .int 0, .long 0, .long 1, .int (-1), .int (-1)])), (xa 2, .inl (kc 3, 4, .inr (.inr (.inr (.inr (tg xa)))))), (xa 10, .inr (8, [.ref (xa 14), .int 0, .int 0, .int 0])), (xa 11, .inr (8, [.ref (xa 15), .int 0, .int 0, .int 0])), (xa 12, .inr (8, [.ref (xa 16), .int 0, .int 0, .int 0])), (xa 13, .inr (8, [.ref (xa 17), .int 0, .int 0, .int 0])), (xa 14, .inl (kc 1, 60, .inr (.inl z1))), (xa 15, .inl (kc 1, 60, .inr (.inl z1))), (xa 16, .inl (kc 1, 60, .inr (.inl z1))), (xa 17, .inl (kc 1, 60, .inr (.inl z1)))]) (w1 := []) hP hD [] [0, 1, 2, 3, 4, 5, 6, 7, 8, 9] rfl rfl (by decide) (by decide) hk1 hFc hP1 hD1
    have hP : va_P D vwCl [(xa 0, .inr (10, [.ref (xa 1), .ref (xa 2), .ref (na 0), .ref (pa 0), .ref (xa 3), .ref (na 1), .ref (na 2), .ref (xa 4), .ref (xa 5), .ref (xa 6), .ref (xa 7), .ref (xa 8), .ref (xa 9), .int 0, .int 0, .int 0, .long 0, .long 1, .int (-1), .int (-1)])), (xa 2, .inl (kc 3, 4, .inr (.inr (.inr (.inr (tg xa)))))), (xa 10, .inr (8, [.ref (xa 14), .int 0, .int 0, .int 0])), (xa 11, .inr (8, [.ref (xa 15), .int 0, .int 0, .int 0])), (xa 12, .inr (8, [.ref (xa 16), .int 0, .int 0, .int 0])), (xa 13, .inr (8, [.ref (xa 17), .int 0, .int 0, .int 0])), (xa 14, .inl (kc 1, 60, .inr (.inl z1))), (xa 15, .inl (kc 1, 60, .inr (.inl z1))), (xa 16, .inl (kc 1, 60, .inr (.inl z1))), (xa 17, .inl (kc 1, 60, .inr (.inl z1)))] H := hP
    have hD : va_D A [(xa 0, .inr (10, [.ref (xa 1), .ref (xa 2), .ref (na 0), .ref (pa 0), .ref (xa 3), .ref (na 1), .ref (na 2), .ref (xa 4), .ref (xa 5), .ref (xa 6), .ref (xa 7), .ref (xa 8), .ref (xa 9), .int 0, .int 0, .int 0, .long 0, .long 1, .int (-1), .int (-1)])), (xa 2, .inl (kc 3, 4, .inr (.inr (.inr (.inr (tg xa)))))), (xa 10, .inr (8, [.ref (xa 14), .int 0, .int 0, .int 0])), (xa 11, .inr (8, [.ref (xa 15), .int 0, .int 0, .int 0])), (xa 12, .inr (8, [.ref (xa 16), .int 0, .int 0, .int 0])), (xa 13, .inr (8, [.ref (xa 17), .int 0, .int 0, .int 0])), (xa 14, .inl (kc 1, 60, .inr (.inl z1))), (xa 15, .inl (kc 1, 60, .inr (.inl z1))), (xa 16, .inl (kc 1, 60, .inr (.inl z1))), (xa 17, .inl (kc 1, 60, .inr (.inl z1)))] := hD
    subst hw
    refine lv_ci (y := 1) (by decide) ?_
    refine lv_if_eq (tgt := 26) hx hb dX11_tray_4 (by decide) (fun h => absurd h (by decide)) (fun _ => ?_)
    refine lv_iload_n hx hb dX11_tray_7 rfl (lv_at hl 2 rfl) ?_
    refine lv_iconst (v := 0) hx hb dX11_tray_8 (by decide) ?_
    refine lv_iconst (v := 3) hx hb dX11_tray_9 (by decide) ?_
    have hPc := hP.sub (ws' := []) [] rfl
    have hDc := hD.sub (ws' := []) [] (by decide) rfl
    have hFc := va_free (wc := []) hD hS hA [] rfl
    refine va_calli (va_runS (As := [.int a1, .int 0, .int 3]) (rest := []) ⟨hx, hb, hml, hown, hts⟩ (c_within l D kc H.size a1 0 3) (va_cwS 3 hts gp_tray_113_c_within rfl rfl rfl (by decide +kernel) ⟨Nat.le_of_ble_eq_true rfl, Nat.le_of_ble_eq_true rfl⟩) (preS_ok hPc hDc hE) rfl rfl hl.1 rfl (lv_room (Nat.le_of_ble_eq_true rfl)) dX11_tray_10 ⟨Nat.le_of_ble_eq_true rfl, Nat.le_of_ble_eq_true rfl⟩) hS (fun q _ h => hFc q h) hFc (fun r_10_6 u9 t9 H locs ht hvm hw hB hz1 hk1 hS => ?_)
    obtain ⟨hP1, hD1⟩ := hB
    rw [ht] at hP1
    obtain ⟨hP, hD⟩ := va_join (wr := [(xa 0, .inr (10, [.ref (xa 1), .ref (xa 2), .ref (na 0), .ref (pa 0), .ref (xa 3), .ref (na 1), .ref (na 2), .ref (xa 4), .ref (xa 5), .ref (xa 6), .ref (xa 7), .ref (xa 8), .ref (xa 9), .int 0, .int 0, .int 0, .long 0, .long 1, .int (-1), .int (-1)])), (xa 2, .inl (kc 3, 4, .inr (.inr (.inr (.inr (tg xa)))))), (xa 10, .inr (8, [.ref (xa 14), .int 0, .int 0, .int 0])), (xa 11, .inr (8, [.ref (xa 15), .int 0, .int 0, .int 0])), (xa 12, .inr (8, [.ref (xa 16), .int 0, .int 0, .int 0])), (xa 13, .inr (8, [.ref (xa 17), .int 0, .int 0, .int 0])), (xa 14, .inl (kc 1, 60, .inr (.inl z1))), (xa 15, .inl (kc 1, 60, .inr (.inl z1))), (xa 16, .inl (kc 1, 60, .inr (.inl z1))), (xa 17, .inl (kc 1, 60, .inr (.inl z1)))]) (w1 := []) hP hD [] [0, 1, 2, 3, 4, 5, 6, 7, 8, 9] rfl rfl (by decide) (by decide) hk1 hFc hP1 hD1
    have hP : va_P D vwCl [(xa 0, .inr (10, [.ref (xa 1), .ref (xa 2), .ref (na 0), .ref (pa 0), .ref (xa 3), .ref (na 1), .ref (na 2), .ref (xa 4), .ref (xa 5), .ref (xa 6), .ref (xa 7), .ref (xa 8), .ref (xa 9), .int 0, .int 0, .int 0, .long 0, .long 1, .int (-1), .int (-1)])), (xa 2, .inl (kc 3, 4, .inr (.inr (.inr (.inr (tg xa)))))), (xa 10, .inr (8, [.ref (xa 14), .int 0, .int 0, .int 0])), (xa 11, .inr (8, [.ref (xa 15), .int 0, .int 0, .int 0])), (xa 12, .inr (8, [.ref (xa 16), .int 0, .int 0, .int 0])), (xa 13, .inr (8, [.ref (xa 17), .int 0, .int 0, .int 0])), (xa 14, .inl (kc 1, 60, .inr (.inl z1))), (xa 15, .inl (kc 1, 60, .inr (.inl z1))), (xa 16, .inl (kc 1, 60, .inr (.inl z1))), (xa 17, .inl (kc 1, 60, .inr (.inl z1)))] H := hP
    have hD : va_D A [(xa 0, .inr (10, [.ref (xa 1), .ref (xa 2), .ref (na 0), .ref (pa 0), .ref (xa 3), .ref (na 1), .ref (na 2), .ref (xa 4), .ref (xa 5), .ref (xa 6), .ref (xa 7), .ref (xa 8), .ref (xa 9), .int 0, .int 0, .int 0, .long 0, .long 1, .int (-1), .int (-1)])), (xa 2, .inl (kc 3, 4, .inr (.inr (.inr (.inr (tg xa)))))), (xa 10, .inr (8, [.ref (xa 14), .int 0, .int 0, .int 0])), (xa 11, .inr (8, [.ref (xa 15), .int 0, .int 0, .int 0])), (xa 12, .inr (8, [.ref (xa 16), .int 0, .int 0, .int 0])), (xa 13, .inr (8, [.ref (xa 17), .int 0, .int 0, .int 0])), (xa 14, .inl (kc 1, 60, .inr (.inl z1))), (xa 15, .inl (kc 1, 60, .inr (.inl z1))), (xa 16, .inl (kc 1, 60, .inr (.inl z1))), (xa 17, .inl (kc 1, 60, .inr (.inl z1)))] := hD
    subst hw
    refine lv_if_eq (tgt := 26) hx hb dX11_tray_13 (by decide) (fun c_13 => ?_) (fun c_13 => ?_)
    · refine lv_aload_n hx hb dX11_tray_26 rfl (lv_at hl 0 rfl) ?_
      refine lv_iconst (v := 1) hx hb dX11_tray_27 (by decide) ?_
      have hPc := hP.sub (ws' := [(xa 0, .inr (10, [.ref (xa 1), .ref (xa 2), .ref (na 0), .ref (pa 0), .ref (xa 3), .ref (na 1), .ref (na 2), .ref (xa 4), .ref (xa 5), .ref (xa 6), .ref (xa 7), .ref (xa 8), .ref (xa 9), .int 0, .int 0, .int 0, .long 0, .long 1, .int (-1), .int (-1)]))]) [0] rfl
      have hDc := hD.sub (ws' := [(xa 0, .inr (10, [.ref (xa 1), .ref (xa 2), .ref (na 0), .ref (pa 0), .ref (xa 3), .ref (na 1), .ref (na 2), .ref (xa 4), .ref (xa 5), .ref (xa 6), .ref (xa 7), .ref (xa 8), .ref (xa 9), .int 0, .int 0, .int 0, .long 0, .long 1, .int (-1), .int (-1)]))]) [0] (by decide) rfl
      have hFc := va_free (wc := [(xa 0, .inr (10, [.ref (xa 1), .ref (xa 2), .ref (na 0), .ref (pa 0), .ref (xa 3), .ref (na 1), .ref (na 2), .ref (xa 4), .ref (xa 5), .ref (xa 6), .ref (xa 7), .ref (xa 8), .ref (xa 9), .int 0, .int 0, .int 0, .long 0, .long 1, .int (-1), .int (-1)]))]) hD hS hA [0] rfl
      refine va_calli (va_runV (As := [.int 1]) (rest := []) ⟨hx, hb, hml, hown, hts⟩ (c_refused l D kc H.size xa na pa 0 0 0 0 1 (-1) (-1) 1) (cwV 1 hts gp_tray_117_c_refused rfl rfl rfl (by decide +kernel) ⟨Nat.le_of_ble_eq_true rfl, Nat.le_of_ble_eq_true rfl⟩) (preV_ok hPc hDc hE (ci := 10) (q0 := 0) rfl rfl) rfl rfl hl.1 rfl (lv_room (Nat.le_of_ble_eq_true rfl)) dX11_tray_28 ⟨Nat.le_of_ble_eq_true rfl, Nat.le_of_ble_eq_true rfl⟩) hS (fun q _ h => hFc q h) hFc (fun r_28_7 u9 t9 H locs ht hvm hw hB hz1 hk1 hS => ?_)
      obtain ⟨hP1, hD1⟩ := hB
      rw [ht] at hP1
      obtain ⟨hP, hD⟩ := va_join (wr := [(xa 2, .inl (kc 3, 4, .inr (.inr (.inr (.inr (tg xa)))))), (xa 10, .inr (8, [.ref (xa 14), .int 0, .int 0, .int 0])), (xa 11, .inr (8, [.ref (xa 15), .int 0, .int 0, .int 0])), (xa 12, .inr (8, [.ref (xa 16), .int 0, .int 0, .int 0])), (xa 13, .inr (8, [.ref (xa 17), .int 0, .int 0, .int 0])), (xa 14, .inl (kc 1, 60, .inr (.inl z1))), (xa 15, .inl (kc 1, 60, .inr (.inl z1))), (xa 16, .inl (kc 1, 60, .inr (.inl z1))), (xa 17, .inl (kc 1, 60, .inr (.inl z1)))]) (w1 := [(xa 0, .inr (10, [.ref (xa 1), .ref (xa 2), .ref (na 0), .ref (pa 0), .ref (xa 3), .ref (na 1), .ref (na 2), .ref (xa 4), .ref (xa 5), .ref (xa 6), .ref (xa 7), .ref (xa 8), .ref (xa 9), .int 0, .int 0, .int 1, .long 0, .long 1, .int (-1), .int (-1)]))]) hP hD [0] [1, 2, 3, 4, 5, 6, 7, 8, 9] rfl rfl (by decide) (by decide) hk1 hFc hP1 hD1
      have hP : va_P D vwCl [(xa 2, .inl (kc 3, 4, .inr (.inr (.inr (.inr (tg xa)))))), (xa 10, .inr (8, [.ref (xa 14), .int 0, .int 0, .int 0])), (xa 11, .inr (8, [.ref (xa 15), .int 0, .int 0, .int 0])), (xa 12, .inr (8, [.ref (xa 16), .int 0, .int 0, .int 0])), (xa 13, .inr (8, [.ref (xa 17), .int 0, .int 0, .int 0])), (xa 14, .inl (kc 1, 60, .inr (.inl z1))), (xa 15, .inl (kc 1, 60, .inr (.inl z1))), (xa 16, .inl (kc 1, 60, .inr (.inl z1))), (xa 17, .inl (kc 1, 60, .inr (.inl z1))), (xa 0, .inr (10, [.ref (xa 1), .ref (xa 2), .ref (na 0), .ref (pa 0), .ref (xa 3), .ref (na 1), .ref (na 2), .ref (xa 4), .ref (xa 5), .ref (xa 6), .ref (xa 7), .ref (xa 8), .ref (xa 9), .int 0, .int 0, .int 1, .long 0, .long 1, .int (-1), .int (-1)]))] H := hP
      have hD : va_D A [(xa 2, .inl (kc 3, 4, .inr (.inr (.inr (.inr (tg xa)))))), (xa 10, .inr (8, [.ref (xa 14), .int 0, .int 0, .int 0])), (xa 11, .inr (8, [.ref (xa 15), .int 0, .int 0, .int 0])), (xa 12, .inr (8, [.ref (xa 16), .int 0, .int 0, .int 0])), (xa 13, .inr (8, [.ref (xa 17), .int 0, .int 0, .int 0])), (xa 14, .inl (kc 1, 60, .inr (.inl z1))), (xa 15, .inl (kc 1, 60, .inr (.inl z1))), (xa 16, .inl (kc 1, 60, .inr (.inl z1))), (xa 17, .inl (kc 1, 60, .inr (.inl z1))), (xa 0, .inr (10, [.ref (xa 1), .ref (xa 2), .ref (na 0), .ref (pa 0), .ref (xa 3), .ref (na 1), .ref (na 2), .ref (xa 4), .ref (xa 5), .ref (xa 6), .ref (xa 7), .ref (xa 8), .ref (xa 9), .int 0, .int 0, .int 1, .long 0, .long 1, .int (-1), .int (-1)]))] := hD
      subst hw
      exact W.zret (v := 0) hx hb hr rfl (fun t9 ht hW => ⟨⟨0, (), rfl, by first | exact (if_pos h_a0).symm | exact (st_1 _ (by decide) c_4).symm | exact (st_1 _ (by decide) c_13).symm | exact (st_1 _ (by decide) c_23).symm | exact (st_2 _ _ (by decide) c_4 c_13).symm | exact (st_3 _ _ _ (by decide) c_4 c_13).symm | exact (st_2 _ _ (by decide) c_4 c_23).symm | exact (st_3 _ _ _ (by decide) c_4 c_23).symm | exact (st_2 _ _ (by decide) c_13 c_4).symm | exact (st_3 _ _ _ (by decide) c_13 c_4).symm | exact (st_2 _ _ (by decide) c_13 c_23).symm | exact (st_3 _ _ _ (by decide) c_13 c_23).symm | exact (st_2 _ _ (by decide) c_23 c_4).symm | exact (st_3 _ _ _ (by decide) c_23 c_4).symm | exact (st_2 _ _ (by decide) c_23 c_13).symm | exact (st_3 _ _ _ (by decide) c_23 c_13).symm, trivial⟩, hS.F ht⟩) hS.2.2 dX11_tray_31
    · refine lv_iload_n hx hb dX11_tray_16 rfl (lv_at hl 3 rfl) ?_
      refine lv_iconst (v := 0) hx hb dX11_tray_17 (by decide) ?_
      refine lv_bipush (v := 60) hx hb dX11_tray_18 (by decide) ?_
      have hPc := hP.sub (ws' := []) [] rfl
      have hDc := hD.sub (ws' := []) [] (by decide) rfl
      have hFc := va_free (wc := []) hD hS hA [] rfl
      refine va_calli (va_runS (As := [.int a2, .int 0, .int 60]) (rest := []) ⟨hx, hb, hml, hown, hts⟩ (c_within l D kc H.size a2 0 60) (va_cwS 3 hts gp_tray_113_c_within rfl rfl rfl (by decide +kernel) ⟨Nat.le_of_ble_eq_true rfl, Nat.le_of_ble_eq_true rfl⟩) (preS_ok hPc hDc hE) rfl rfl hl.1 rfl (lv_room (Nat.le_of_ble_eq_true rfl)) dX11_tray_20 ⟨Nat.le_of_ble_eq_true rfl, Nat.le_of_ble_eq_true rfl⟩) hS (fun q _ h => hFc q h) hFc (fun r_20_7 u9 t9 H locs ht hvm hw hB hz1 hk1 hS => ?_)
      obtain ⟨hP1, hD1⟩ := hB
      rw [ht] at hP1
      obtain ⟨hP, hD⟩ := va_join (wr := [(xa 0, .inr (10, [.ref (xa 1), .ref (xa 2), .ref (na 0), .ref (pa 0), .ref (xa 3), .ref (na 1), .ref (na 2), .ref (xa 4), .ref (xa 5), .ref (xa 6), .ref (xa 7), .ref (xa 8), .ref (xa 9), .int 0, .int 0, .int 0, .long 0, .long 1, .int (-1), .int (-1)])), (xa 2, .inl (kc 3, 4, .inr (.inr (.inr (.inr (tg xa)))))), (xa 10, .inr (8, [.ref (xa 14), .int 0, .int 0, .int 0])), (xa 11, .inr (8, [.ref (xa 15), .int 0, .int 0, .int 0])), (xa 12, .inr (8, [.ref (xa 16), .int 0, .int 0, .int 0])), (xa 13, .inr (8, [.ref (xa 17), .int 0, .int 0, .int 0])), (xa 14, .inl (kc 1, 60, .inr (.inl z1))), (xa 15, .inl (kc 1, 60, .inr (.inl z1))), (xa 16, .inl (kc 1, 60, .inr (.inl z1))), (xa 17, .inl (kc 1, 60, .inr (.inl z1)))]) (w1 := []) hP hD [] [0, 1, 2, 3, 4, 5, 6, 7, 8, 9] rfl rfl (by decide) (by decide) hk1 hFc hP1 hD1
      have hP : va_P D vwCl [(xa 0, .inr (10, [.ref (xa 1), .ref (xa 2), .ref (na 0), .ref (pa 0), .ref (xa 3), .ref (na 1), .ref (na 2), .ref (xa 4), .ref (xa 5), .ref (xa 6), .ref (xa 7), .ref (xa 8), .ref (xa 9), .int 0, .int 0, .int 0, .long 0, .long 1, .int (-1), .int (-1)])), (xa 2, .inl (kc 3, 4, .inr (.inr (.inr (.inr (tg xa)))))), (xa 10, .inr (8, [.ref (xa 14), .int 0, .int 0, .int 0])), (xa 11, .inr (8, [.ref (xa 15), .int 0, .int 0, .int 0])), (xa 12, .inr (8, [.ref (xa 16), .int 0, .int 0, .int 0])), (xa 13, .inr (8, [.ref (xa 17), .int 0, .int 0, .int 0])), (xa 14, .inl (kc 1, 60, .inr (.inl z1))), (xa 15, .inl (kc 1, 60, .inr (.inl z1))), (xa 16, .inl (kc 1, 60, .inr (.inl z1))), (xa 17, .inl (kc 1, 60, .inr (.inl z1)))] H := hP
      have hD : va_D A [(xa 0, .inr (10, [.ref (xa 1), .ref (xa 2), .ref (na 0), .ref (pa 0), .ref (xa 3), .ref (na 1), .ref (na 2), .ref (xa 4), .ref (xa 5), .ref (xa 6), .ref (xa 7), .ref (xa 8), .ref (xa 9), .int 0, .int 0, .int 0, .long 0, .long 1, .int (-1), .int (-1)])), (xa 2, .inl (kc 3, 4, .inr (.inr (.inr (.inr (tg xa)))))), (xa 10, .inr (8, [.ref (xa 14), .int 0, .int 0, .int 0])), (xa 11, .inr (8, [.ref (xa 15), .int 0, .int 0, .int 0])), (xa 12, .inr (8, [.ref (xa 16), .int 0, .int 0, .int 0])), (xa 13, .inr (8, [.ref (xa 17), .int 0, .int 0, .int 0])), (xa 14, .inl (kc 1, 60, .inr (.inl z1))), (xa 15, .inl (kc 1, 60, .inr (.inl z1))), (xa 16, .inl (kc 1, 60, .inr (.inl z1))), (xa 17, .inl (kc 1, 60, .inr (.inl z1)))] := hD
      subst hw
      refine lv_if_ne (tgt := 32) hx hb dX11_tray_23 (by decide) (fun c_23 => ?_) (fun c_23 => ?_)
      · refine lv_aload_n hx hb dX11_tray_32 rfl (lv_at hl 0 rfl) ?_
        refine va_get (D := D) (ci := 10) (v := .ref (xa 2)) (C := RX11) (T := TX11) (N := 20) hx hb hts ip_tray_X11 hown hK hP 0 rfl rfl 1 (by decide) (hts (.fieldLink RX11 15 "SaltStreet" "trays" "[LSaltStreet$Tray;") (List.mem_of_getElem? (i := 13) rfl)) (fun _ h9 => h9) rfl dX11_tray_33 ?_
        refine lv_iload_n hx hb dX11_tray_36 rfl (lv_at hl 1 rfl) ?_
        refine va_aldq hx hb hK hP 1 3 (f := (tg xa)) rfl rfl (by unfold vp_in; decide) dX11_tray_37 ?_
        refine lv_cv (y := .ref (xa 13)) (rfl) ?_
        refine lv_iload_n hx hb dX11_tray_38 rfl (lv_at hl 2 rfl) ?_
        refine lv_iload_n hx hb dX11_tray_39 rfl (lv_at hl 3 rfl) ?_
        have hPc := hP.sub (ws' := [(xa 13, .inr (8, [.ref (xa 17), .int 0, .int 0, .int 0])), (xa 17, .inl (kc 1, 60, .inr (.inl z1)))]) [5, 9] rfl
        have hDc := hD.sub (ws' := [(xa 13, .inr (8, [.ref (xa 17), .int 0, .int 0, .int 0])), (xa 17, .inl (kc 1, 60, .inr (.inl z1)))]) [5, 9] (by decide) rfl
        have hFc := va_free (wc := [(xa 13, .inr (8, [.ref (xa 17), .int 0, .int 0, .int 0])), (xa 17, .inl (kc 1, 60, .inr (.inl z1)))]) hD hS hA [5, 9] rfl
        refine va_callv (va_runV (As := [.int a1, .int a2]) (rest := []) ⟨hx, hb, hml, hown, hts⟩ (c_lay l D kc H.size (xa 13) (xa 17) a1 a2) (cwV 2 hts gp_tray_120_c_lay rfl rfl rfl (by decide +kernel) ⟨Nat.le_of_ble_eq_true rfl, Nat.le_of_ble_eq_true rfl⟩) (preV_ok hPc hDc hE (ci := 8) (q0 := 0) rfl rfl) rfl rfl hl.1 rfl (lv_room (Nat.le_of_ble_eq_true rfl)) dX11_tray_40 ⟨Nat.le_of_ble_eq_true rfl, Nat.le_of_ble_eq_true rfl⟩) hS (fun q _ h => hFc q h) hFc (fun u9 t9 H locs ht hvm hw hB hz1 hk1 hS => ?_)
        obtain ⟨hP, hD⟩ := va_join (wr := [(xa 0, .inr (10, [.ref (xa 1), .ref (xa 2), .ref (na 0), .ref (pa 0), .ref (xa 3), .ref (na 1), .ref (na 2), .ref (xa 4), .ref (xa 5), .ref (xa 6), .ref (xa 7), .ref (xa 8), .ref (xa 9), .int 0, .int 0, .int 0, .long 0, .long 1, .int (-1), .int (-1)])), (xa 2, .inl (kc 3, 4, .inr (.inr (.inr (.inr (tg xa)))))), (xa 10, .inr (8, [.ref (xa 14), .int 0, .int 0, .int 0])), (xa 11, .inr (8, [.ref (xa 15), .int 0, .int 0, .int 0])), (xa 12, .inr (8, [.ref (xa 16), .int 0, .int 0, .int 0])), (xa 14, .inl (kc 1, 60, .inr (.inl z1))), (xa 15, .inl (kc 1, 60, .inr (.inl z1))), (xa 16, .inl (kc 1, 60, .inr (.inl z1)))]) (w1 := []) hP hD [5, 9] [0, 1, 2, 3, 4, 6, 7, 8] rfl rfl (by decide) (by decide) hk1 hFc (fun _ _ h => by simp at h) ⟨fun _ _ _ _ h => by simp at h, fun _ _ h => by simp at h⟩
        have hP : va_P D vwCl [(xa 0, .inr (10, [.ref (xa 1), .ref (xa 2), .ref (na 0), .ref (pa 0), .ref (xa 3), .ref (na 1), .ref (na 2), .ref (xa 4), .ref (xa 5), .ref (xa 6), .ref (xa 7), .ref (xa 8), .ref (xa 9), .int 0, .int 0, .int 0, .long 0, .long 1, .int (-1), .int (-1)])), (xa 2, .inl (kc 3, 4, .inr (.inr (.inr (.inr (tg xa)))))), (xa 10, .inr (8, [.ref (xa 14), .int 0, .int 0, .int 0])), (xa 11, .inr (8, [.ref (xa 15), .int 0, .int 0, .int 0])), (xa 12, .inr (8, [.ref (xa 16), .int 0, .int 0, .int 0])), (xa 14, .inl (kc 1, 60, .inr (.inl z1))), (xa 15, .inl (kc 1, 60, .inr (.inl z1))), (xa 16, .inl (kc 1, 60, .inr (.inl z1)))] H := hP
        have hD : va_D A [(xa 0, .inr (10, [.ref (xa 1), .ref (xa 2), .ref (na 0), .ref (pa 0), .ref (xa 3), .ref (na 1), .ref (na 2), .ref (xa 4), .ref (xa 5), .ref (xa 6), .ref (xa 7), .ref (xa 8), .ref (xa 9), .int 0, .int 0, .int 0, .long 0, .long 1, .int (-1), .int (-1)])), (xa 2, .inl (kc 3, 4, .inr (.inr (.inr (.inr (tg xa)))))), (xa 10, .inr (8, [.ref (xa 14), .int 0, .int 0, .int 0])), (xa 11, .inr (8, [.ref (xa 15), .int 0, .int 0, .int 0])), (xa 12, .inr (8, [.ref (xa 16), .int 0, .int 0, .int 0])), (xa 14, .inl (kc 1, 60, .inr (.inl z1))), (xa 15, .inl (kc 1, 60, .inr (.inl z1))), (xa 16, .inl (kc 1, 60, .inr (.inl z1)))] := hD
        refine lv_aload_n hx hb dX11_tray_43 rfl (lv_at hl 0 rfl) ?_
        have hPc := hP.sub (ws' := [(xa 0, .inr (10, [.ref (xa 1), .ref (xa 2), .ref (na 0), .ref (pa 0), .ref (xa 3), .ref (na 1), .ref (na 2), .ref (xa 4), .ref (xa 5), .ref (xa 6), .ref (xa 7), .ref (xa 8), .ref (xa 9), .int 0, .int 0, .int 0, .long 0, .long 1, .int (-1), .int (-1)]))]) [0] rfl
        have hDc := hD.sub (ws' := [(xa 0, .inr (10, [.ref (xa 1), .ref (xa 2), .ref (na 0), .ref (pa 0), .ref (xa 3), .ref (na 1), .ref (na 2), .ref (xa 4), .ref (xa 5), .ref (xa 6), .ref (xa 7), .ref (xa 8), .ref (xa 9), .int 0, .int 0, .int 0, .long 0, .long 1, .int (-1), .int (-1)]))]) [0] (by decide) rfl
        have hFc := va_free (wc := [(xa 0, .inr (10, [.ref (xa 1), .ref (xa 2), .ref (na 0), .ref (pa 0), .ref (xa 3), .ref (na 1), .ref (na 2), .ref (xa 4), .ref (xa 5), .ref (xa 6), .ref (xa 7), .ref (xa 8), .ref (xa 9), .int 0, .int 0, .int 0, .long 0, .long 1, .int (-1), .int (-1)]))]) hD hS hA [0] rfl
        refine va_calli (va_runV (As := []) (rest := []) ⟨hx, hb, hml, hown, hts⟩ (c_granted l D kc H.size xa na pa 0 0 0 0 1 (-1) (-1)) (cwV 0 hts gp_tray_124_c_granted rfl rfl rfl (by decide +kernel) ⟨Nat.le_of_ble_eq_true rfl, Nat.le_of_ble_eq_true rfl⟩) (preV_ok hPc hDc hE (ci := 10) (q0 := 0) rfl rfl) rfl rfl hl.1 rfl (lv_room (Nat.le_of_ble_eq_true rfl)) dX11_tray_44 ⟨Nat.le_of_ble_eq_true rfl, Nat.le_of_ble_eq_true rfl⟩) hS (fun q _ h => hFc q h) hFc (fun r_44_8 u9 t9 H locs ht hvm hw hB hz1 hk1 hS => ?_)
        obtain ⟨hP1, hD1⟩ := hB
        rw [ht] at hP1
        obtain ⟨hP, hD⟩ := va_join (wr := [(xa 2, .inl (kc 3, 4, .inr (.inr (.inr (.inr (tg xa)))))), (xa 10, .inr (8, [.ref (xa 14), .int 0, .int 0, .int 0])), (xa 11, .inr (8, [.ref (xa 15), .int 0, .int 0, .int 0])), (xa 12, .inr (8, [.ref (xa 16), .int 0, .int 0, .int 0])), (xa 14, .inl (kc 1, 60, .inr (.inl z1))), (xa 15, .inl (kc 1, 60, .inr (.inl z1))), (xa 16, .inl (kc 1, 60, .inr (.inl z1)))]) (w1 := [(xa 0, .inr (10, [.ref (xa 1), .ref (xa 2), .ref (na 0), .ref (pa 0), .ref (xa 3), .ref (na 1), .ref (na 2), .ref (xa 4), .ref (xa 5), .ref (xa 6), .ref (xa 7), .ref (xa 8), .ref (xa 9), .int 0, .int 0, .int 0, .long 0, .long 1, .int (-1), .int (-1)]))]) hP hD [0] [1, 2, 3, 4, 5, 6, 7] rfl rfl (by decide) (by decide) hk1 hFc hP1 hD1
        have hP : va_P D vwCl [(xa 2, .inl (kc 3, 4, .inr (.inr (.inr (.inr (tg xa)))))), (xa 10, .inr (8, [.ref (xa 14), .int 0, .int 0, .int 0])), (xa 11, .inr (8, [.ref (xa 15), .int 0, .int 0, .int 0])), (xa 12, .inr (8, [.ref (xa 16), .int 0, .int 0, .int 0])), (xa 14, .inl (kc 1, 60, .inr (.inl z1))), (xa 15, .inl (kc 1, 60, .inr (.inl z1))), (xa 16, .inl (kc 1, 60, .inr (.inl z1))), (xa 0, .inr (10, [.ref (xa 1), .ref (xa 2), .ref (na 0), .ref (pa 0), .ref (xa 3), .ref (na 1), .ref (na 2), .ref (xa 4), .ref (xa 5), .ref (xa 6), .ref (xa 7), .ref (xa 8), .ref (xa 9), .int 0, .int 0, .int 0, .long 0, .long 1, .int (-1), .int (-1)]))] H := hP
        have hD : va_D A [(xa 2, .inl (kc 3, 4, .inr (.inr (.inr (.inr (tg xa)))))), (xa 10, .inr (8, [.ref (xa 14), .int 0, .int 0, .int 0])), (xa 11, .inr (8, [.ref (xa 15), .int 0, .int 0, .int 0])), (xa 12, .inr (8, [.ref (xa 16), .int 0, .int 0, .int 0])), (xa 14, .inl (kc 1, 60, .inr (.inl z1))), (xa 15, .inl (kc 1, 60, .inr (.inl z1))), (xa 16, .inl (kc 1, 60, .inr (.inl z1))), (xa 0, .inr (10, [.ref (xa 1), .ref (xa 2), .ref (na 0), .ref (pa 0), .ref (xa 3), .ref (na 1), .ref (na 2), .ref (xa 4), .ref (xa 5), .ref (xa 6), .ref (xa 7), .ref (xa 8), .ref (xa 9), .int 0, .int 0, .int 0, .long 0, .long 1, .int (-1), .int (-1)]))] := hD
        subst hw
        exact W.zret (v := 1) hx hb hr rfl (fun t9 ht hW => ⟨⟨1, (), rfl, by first | exact (if_pos h_a0).symm | exact (st_1 _ (by decide) c_4).symm | exact (st_1 _ (by decide) c_13).symm | exact (st_1 _ (by decide) c_23).symm | exact (st_2 _ _ (by decide) c_4 c_13).symm | exact (st_3 _ _ _ (by decide) c_4 c_13).symm | exact (st_2 _ _ (by decide) c_4 c_23).symm | exact (st_3 _ _ _ (by decide) c_4 c_23).symm | exact (st_2 _ _ (by decide) c_13 c_4).symm | exact (st_3 _ _ _ (by decide) c_13 c_4).symm | exact (st_2 _ _ (by decide) c_13 c_23).symm | exact (st_3 _ _ _ (by decide) c_13 c_23).symm | exact (st_2 _ _ (by decide) c_23 c_4).symm | exact (st_3 _ _ _ (by decide) c_23 c_4).symm | exact (st_2 _ _ (by decide) c_23 c_13).symm | exact (st_3 _ _ _ (by decide) c_23 c_13).symm, trivial⟩, hS.F ht⟩) hS.2.2 dX11_tray_47
      · refine lv_aload_n hx hb dX11_tray_26 rfl (lv_at hl 0 rfl) ?_
        refine lv_iconst (v := 1) hx hb dX11_tray_27 (by decide) ?_
        have hPc := hP.sub (ws' := [(xa 0, .inr (10, [.ref (xa 1), .ref (xa 2), .ref (na 0), .ref (pa 0), .ref (xa 3), .ref (na 1), .ref (na 2), .ref (xa 4), .ref (xa 5), .ref (xa 6), .ref (xa 7), .ref (xa 8), .ref (xa 9), .int 0, .int 0, .int 0, .long 0, .long 1, .int (-1), .int (-1)]))]) [0] rfl
        have hDc := hD.sub (ws' := [(xa 0, .inr (10, [.ref (xa 1), .ref (xa 2), .ref (na 0), .ref (pa 0), .ref (xa 3), .ref (na 1), .ref (na 2), .ref (xa 4), .ref (xa 5), .ref (xa 6), .ref (xa 7), .ref (xa 8), .ref (xa 9), .int 0, .int 0, .int 0, .long 0, .long 1, .int (-1), .int (-1)]))]) [0] (by decide) rfl
        have hFc := va_free (wc := [(xa 0, .inr (10, [.ref (xa 1), .ref (xa 2), .ref (na 0), .ref (pa 0), .ref (xa 3), .ref (na 1), .ref (na 2), .ref (xa 4), .ref (xa 5), .ref (xa 6), .ref (xa 7), .ref (xa 8), .ref (xa 9), .int 0, .int 0, .int 0, .long 0, .long 1, .int (-1), .int (-1)]))]) hD hS hA [0] rfl
        refine va_calli (va_runV (As := [.int 1]) (rest := []) ⟨hx, hb, hml, hown, hts⟩ (c_refused l D kc H.size xa na pa 0 0 0 0 1 (-1) (-1) 1) (cwV 1 hts gp_tray_117_c_refused rfl rfl rfl (by decide +kernel) ⟨Nat.le_of_ble_eq_true rfl, Nat.le_of_ble_eq_true rfl⟩) (preV_ok hPc hDc hE (ci := 10) (q0 := 0) rfl rfl) rfl rfl hl.1 rfl (lv_room (Nat.le_of_ble_eq_true rfl)) dX11_tray_28 ⟨Nat.le_of_ble_eq_true rfl, Nat.le_of_ble_eq_true rfl⟩) hS (fun q _ h => hFc q h) hFc (fun r_28_8 u9 t9 H locs ht hvm hw hB hz1 hk1 hS => ?_)
        obtain ⟨hP1, hD1⟩ := hB
        rw [ht] at hP1
        obtain ⟨hP, hD⟩ := va_join (wr := [(xa 2, .inl (kc 3, 4, .inr (.inr (.inr (.inr (tg xa)))))), (xa 10, .inr (8, [.ref (xa 14), .int 0, .int 0, .int 0])), (xa 11, .inr (8, [.ref (xa 15), .int 0, .int 0, .int 0])), (xa 12, .inr (8, [.ref (xa 16), .int 0, .int 0, .int 0])), (xa 13, .inr (8, [.ref (xa 17), .int 0, .int 0, .int 0])), (xa 14, .inl (kc 1, 60, .inr (.inl z1))), (xa 15, .inl (kc 1, 60, .inr (.inl z1))), (xa 16, .inl (kc 1, 60, .inr (.inl z1))), (xa 17, .inl (kc 1, 60, .inr (.inl z1)))]) (w1 := [(xa 0, .inr (10, [.ref (xa 1), .ref (xa 2), .ref (na 0), .ref (pa 0), .ref (xa 3), .ref (na 1), .ref (na 2), .ref (xa 4), .ref (xa 5), .ref (xa 6), .ref (xa 7), .ref (xa 8), .ref (xa 9), .int 0, .int 0, .int 1, .long 0, .long 1, .int (-1), .int (-1)]))]) hP hD [0] [1, 2, 3, 4, 5, 6, 7, 8, 9] rfl rfl (by decide) (by decide) hk1 hFc hP1 hD1
        have hP : va_P D vwCl [(xa 2, .inl (kc 3, 4, .inr (.inr (.inr (.inr (tg xa)))))), (xa 10, .inr (8, [.ref (xa 14), .int 0, .int 0, .int 0])), (xa 11, .inr (8, [.ref (xa 15), .int 0, .int 0, .int 0])), (xa 12, .inr (8, [.ref (xa 16), .int 0, .int 0, .int 0])), (xa 13, .inr (8, [.ref (xa 17), .int 0, .int 0, .int 0])), (xa 14, .inl (kc 1, 60, .inr (.inl z1))), (xa 15, .inl (kc 1, 60, .inr (.inl z1))), (xa 16, .inl (kc 1, 60, .inr (.inl z1))), (xa 17, .inl (kc 1, 60, .inr (.inl z1))), (xa 0, .inr (10, [.ref (xa 1), .ref (xa 2), .ref (na 0), .ref (pa 0), .ref (xa 3), .ref (na 1), .ref (na 2), .ref (xa 4), .ref (xa 5), .ref (xa 6), .ref (xa 7), .ref (xa 8), .ref (xa 9), .int 0, .int 0, .int 1, .long 0, .long 1, .int (-1), .int (-1)]))] H := hP
        have hD : va_D A [(xa 2, .inl (kc 3, 4, .inr (.inr (.inr (.inr (tg xa)))))), (xa 10, .inr (8, [.ref (xa 14), .int 0, .int 0, .int 0])), (xa 11, .inr (8, [.ref (xa 15), .int 0, .int 0, .int 0])), (xa 12, .inr (8, [.ref (xa 16), .int 0, .int 0, .int 0])), (xa 13, .inr (8, [.ref (xa 17), .int 0, .int 0, .int 0])), (xa 14, .inl (kc 1, 60, .inr (.inl z1))), (xa 15, .inl (kc 1, 60, .inr (.inl z1))), (xa 16, .inl (kc 1, 60, .inr (.inl z1))), (xa 17, .inl (kc 1, 60, .inr (.inl z1))), (xa 0, .inr (10, [.ref (xa 1), .ref (xa 2), .ref (na 0), .ref (pa 0), .ref (xa 3), .ref (na 1), .ref (na 2), .ref (xa 4), .ref (xa 5), .ref (xa 6), .ref (xa 7), .ref (xa 8), .ref (xa 9), .int 0, .int 0, .int 1, .long 0, .long 1, .int (-1), .int (-1)]))] := hD
        subst hw
        exact W.zret (v := 0) hx hb hr rfl (fun t9 ht hW => ⟨⟨0, (), rfl, by first | exact (if_pos h_a0).symm | exact (st_1 _ (by decide) c_4).symm | exact (st_1 _ (by decide) c_13).symm | exact (st_1 _ (by decide) c_23).symm | exact (st_2 _ _ (by decide) c_4 c_13).symm | exact (st_3 _ _ _ (by decide) c_4 c_13).symm | exact (st_2 _ _ (by decide) c_4 c_23).symm | exact (st_3 _ _ _ (by decide) c_4 c_23).symm | exact (st_2 _ _ (by decide) c_13 c_4).symm | exact (st_3 _ _ _ (by decide) c_13 c_4).symm | exact (st_2 _ _ (by decide) c_13 c_23).symm | exact (st_3 _ _ _ (by decide) c_13 c_23).symm | exact (st_2 _ _ (by decide) c_23 c_4).symm | exact (st_3 _ _ _ (by decide) c_23 c_4).symm | exact (st_2 _ _ (by decide) c_23 c_13).symm | exact (st_3 _ _ _ (by decide) c_23 c_13).symm, trivial⟩, hS.F ht⟩) hS.2.2 dX11_tray_31
