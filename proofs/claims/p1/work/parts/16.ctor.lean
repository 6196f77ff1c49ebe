theorem tg_eq (xa : Nat → Nat) : va_up (va_up (va_up (va_up (fun _ => none) (0 : Int32).toNatClampNeg (some (xa 10))) (1 : Int32).toNatClampNeg (some (xa 11))) (2 : Int32).toNatClampNeg (some (xa 12))) (3 : Int32).toNatClampNeg (some (xa 13)) = tg xa := by
  funext i
  match i with
  | 0 => rfl
  | 1 => rfl
  | 2 => rfl
  | 3 => rfl
  | n + 4 =>
    show va_up (va_up (va_up (va_up (fun _ => none) 0 (some (xa 10))) 1 (some (xa 11))) 2 (some (xa 12))) 3 (some (xa 13)) (n + 4) = _
    unfold va_up tg
    rw [if_neg (by omega), if_neg (by omega), if_neg (by omega), if_neg (by omega), if_neg (by omega)]
theorem mg_eq (a b c : Nat) : va_up (va_up (va_up (fun _ => none) (0 : Int32).toNatClampNeg (some a)) (1 : Int32).toNatClampNeg (some b)) (2 : Int32).toNatClampNeg (some c) = mg a b c := by
  funext i
  match i with
  | 0 => rfl
  | 1 => rfl
  | 2 => rfl
  | n + 3 =>
    show va_up (va_up (va_up (fun _ => none) 0 (some a)) 1 (some b)) 2 (some c) (n + 3) = _
    unfold va_up mg
    rw [if_neg (by omega), if_neg (by omega), if_neg (by omega), if_neg (by omega), if_neg (by omega), if_neg (by omega)]
theorem dX4_init_0 : decode cX4_init 0 = .ok (.aload_n 0, 1) := by decide +kernel
theorem dX4_init_1 : decode cX4_init 1 = .ok (.invokespecial 3, 3) := by decide +kernel
theorem dX4_init_4 : decode cX4_init 4 = .ok (.aload_n 0, 1) := by decide +kernel
theorem dX4_init_5 : decode cX4_init 5 = .ok (.bipush 24, 2) := by decide +kernel
theorem dX4_init_7 : decode cX4_init 7 = .ok (.newarray .long, 2) := by decide +kernel
theorem dX4_init_9 : decode cX4_init 9 = .ok (.putfield 9, 3) := by decide +kernel
theorem dX4_init_12 : decode cX4_init 12 = .ok (.aload_n 0, 1) := by decide +kernel
theorem dX4_init_13 : decode cX4_init 13 = .ok (.bipush 24, 2) := by decide +kernel
theorem dX4_init_15 : decode cX4_init 15 = .ok (.newarray .int, 2) := by decide +kernel
theorem dX4_init_17 : decode cX4_init 17 = .ok (.putfield 15, 3) := by decide +kernel
theorem dX4_init_20 : decode cX4_init 20 = .ok (.aload_n 0, 1) := by decide +kernel
theorem dX4_init_21 : decode cX4_init 21 = .ok (.bipush 24, 2) := by decide +kernel
theorem dX4_init_23 : decode cX4_init 23 = .ok (.newarray .int, 2) := by decide +kernel
theorem dX4_init_25 : decode cX4_init 25 = .ok (.putfield 19, 3) := by decide +kernel
theorem dX4_init_28 : decode cX4_init 28 = .ok (.aload_n 0, 1) := by decide +kernel
theorem dX4_init_29 : decode cX4_init 29 = .ok (.bipush 8, 2) := by decide +kernel
theorem dX4_init_31 : decode cX4_init 31 = .ok (.newarray .int, 2) := by decide +kernel
theorem dX4_init_33 : decode cX4_init 33 = .ok (.putfield 22, 3) := by decide +kernel
theorem dX4_init_36 : decode cX4_init 36 = .ok (.aload_n 0, 1) := by decide +kernel
theorem dX4_init_37 : decode cX4_init 37 = .ok (.bipush 8, 2) := by decide +kernel
theorem dX4_init_39 : decode cX4_init 39 = .ok (.newarray .int, 2) := by decide +kernel
theorem dX4_init_41 : decode cX4_init 41 = .ok (.putfield 25, 3) := by decide +kernel
theorem dX4_init_44 : decode cX4_init 44 = .ok (.aload_n 0, 1) := by decide +kernel
theorem dX4_init_45 : decode cX4_init 45 = .ok (.bipush 8, 2) := by decide +kernel
theorem dX4_init_47 : decode cX4_init 47 = .ok (.newarray .int, 2) := by decide +kernel
theorem dX4_init_49 : decode cX4_init 49 = .ok (.putfield 28, 3) := by decide +kernel
theorem dX4_init_52 : decode cX4_init 52 = .ok (.aload_n 0, 1) := by decide +kernel
theorem dX4_init_53 : decode cX4_init 53 = .ok (.bipush 8, 2) := by decide +kernel
theorem dX4_init_55 : decode cX4_init 55 = .ok (.newarray .int, 2) := by decide +kernel
theorem dX4_init_57 : decode cX4_init 57 = .ok (.putfield 31, 3) := by decide +kernel
theorem dX4_init_60 : decode cX4_init 60 = .ok (.aload_n 0, 1) := by decide +kernel
theorem dX4_init_61 : decode cX4_init 61 = .ok (.iconst 4, 1) := by decide +kernel
theorem dX4_init_62 : decode cX4_init 62 = .ok (.newarray .int, 2) := by decide +kernel
theorem dX4_init_64 : decode cX4_init 64 = .ok (.putfield 34, 3) := by decide +kernel
theorem dX4_init_67 : decode cX4_init 67 = .ok (.aload_n 0, 1) := by decide +kernel
theorem dX4_init_68 : decode cX4_init 68 = .ok (.iconst 4, 1) := by decide +kernel
theorem dX4_init_69 : decode cX4_init 69 = .ok (.newarray .int, 2) := by decide +kernel
theorem dX4_init_71 : decode cX4_init 71 = .ok (.putfield 37, 3) := by decide +kernel
theorem dX4_init_74 : decode cX4_init 74 = .ok (.aload_n 0, 1) := by decide +kernel
theorem dX4_init_75 : decode cX4_init 75 = .ok (.iconst 4, 1) := by decide +kernel
theorem dX4_init_76 : decode cX4_init 76 = .ok (.newarray .int, 2) := by decide +kernel
theorem dX4_init_78 : decode cX4_init 78 = .ok (.putfield 40, 3) := by decide +kernel
theorem dX4_init_81 : decode cX4_init 81 = .ok (.aload_n 0, 1) := by decide +kernel
theorem dX4_init_82 : decode cX4_init 82 = .ok (.iconst 4, 1) := by decide +kernel
theorem dX4_init_83 : decode cX4_init 83 = .ok (.newarray .int, 2) := by decide +kernel
theorem dX4_init_85 : decode cX4_init 85 = .ok (.putfield 43, 3) := by decide +kernel
theorem dX4_init_88 : decode cX4_init 88 = .ok (.aload_n 0, 1) := by decide +kernel
theorem dX4_init_89 : decode cX4_init 89 = .ok (.iconst 4, 1) := by decide +kernel
theorem dX4_init_90 : decode cX4_init 90 = .ok (.newarray .int, 2) := by decide +kernel
theorem dX4_init_92 : decode cX4_init 92 = .ok (.putfield 46, 3) := by decide +kernel
theorem dX4_init_95 : decode cX4_init 95 = .ok (.aload_n 0, 1) := by decide +kernel
theorem dX4_init_96 : decode cX4_init 96 = .ok (.iconst 5, 1) := by decide +kernel
theorem dX4_init_97 : decode cX4_init 97 = .ok (.putfield 49, 3) := by decide +kernel
theorem dX4_init_100 : decode cX4_init 100 = .ok (.return_, 1) := by decide +kernel
def vdi_Plan : List Cond := [.code yX4_init cX4_init 1 none, .methodLink RX4 3 objectInit, .instanceMethod objectInit, .code objectInit ⟨#[0xb1]⟩ 1 none, .arrayClass .long, .fieldLink RX4 9 "SaltStreet$Plan" "names" "[J", .arrayClass .int, .fieldLink RX4 15 "SaltStreet$Plan" "sorts" "[I", .fieldLink RX4 19 "SaltStreet$Plan" "numbers" "[I", .fieldLink RX4 22 "SaltStreet$Plan" "one" "[I", .fieldLink RX4 25 "SaltStreet$Plan" "other" "[I", .fieldLink RX4 28 "SaltStreet$Plan" "needs" "[I", .fieldLink RX4 31 "SaltStreet$Plan" "quarrelsAt" "[I", .fieldLink RX4 34 "SaltStreet$Plan" "from" "[I", .fieldLink RX4 37 "SaltStreet$Plan" "to" "[I", .fieldLink RX4 40 "SaltStreet$Plan" "takes" "[I", .fieldLink RX4 43 "SaltStreet$Plan" "price" "[I", .fieldLink RX4 46 "SaltStreet$Plan" "sweet" "[I", .fieldLink RX4 49 "SaltStreet$Plan" "washes" "I"]
def vi_Plan : List Cond := vdi_Plan ++ (wsX40 ++ ([] : List Cond))
theorem ii_Plan_X4 : ∀ w ∈ wsX40, w ∈ vi_Plan := fun _ h => List.mem_append_right _ (List.mem_append_left _ h)
set_option maxHeartbeats 4000000 in
set_option maxRecDepth 100000 in
theorem i_Plan (l : Launch) (D : va_G) (kc : Nat → ClassId) (sz : Nat) (h : Nat) : Met l yX4_init vi_Plan ({ frames := 1, cells := 12, slots := 124, locals := 12 }) (va_Pc [.ref h] (wPre D kc [(h, .inr (4, [.null, .null, .null, .null, .null, .null, .null, .null, .null, .null, .null, .null, .int 0, .int 0, .int 0, .int 0, .int 0, .int 0, .int 0, .int 0]))] sz)) (va_Qv (fun (_ : Unit) => True) (fun (_ : Unit) (t9 : State) => ∃ wa : Nat → Nat, wa 1 = h ∧  va_P D vwCl [(wa 1, .inr (4, [.ref (wa 4), .ref (wa 5), .ref (wa 6), .ref (wa 7), .ref (wa 8), .ref (wa 9), .ref (wa 10), .ref (wa 11), .ref (wa 12), .ref (wa 13), .ref (wa 14), .ref (wa 15), .int 0, .int 0, .int 0, .int 0, .int 0, .int 0, .int 5, .int 0])), (wa 4, .inl (kc 1, 24, .inr (.inl z1))), (wa 5, .inl (kc 0, 24, .inl z0)), (wa 6, .inl (kc 0, 24, .inl z0)), (wa 7, .inl (kc 0, 8, .inl z0)), (wa 8, .inl (kc 0, 8, .inl z0)), (wa 9, .inl (kc 0, 8, .inl z0)), (wa 10, .inl (kc 0, 8, .inl z0)), (wa 11, .inl (kc 0, 4, .inl z0)), (wa 12, .inl (kc 0, 4, .inl z0)), (wa 13, .inl (kc 0, 4, .inl z0)), (wa 14, .inl (kc 0, 4, .inl z0)), (wa 15, .inl (kc 0, 4, .inl z0))] t9.heap ∧ va_D (va_A [(h, .inr (4, [.null, .null, .null, .null, .null, .null, .null, .null, .null, .null, .null, .null, .int 0, .int 0, .int 0, .int 0, .int 0, .int 0, .int 0, .int 0]))] sz) [(wa 1, .inr (4, [.ref (wa 4), .ref (wa 5), .ref (wa 6), .ref (wa 7), .ref (wa 8), .ref (wa 9), .ref (wa 10), .ref (wa 11), .ref (wa 12), .ref (wa 13), .ref (wa 14), .ref (wa 15), .int 0, .int 0, .int 0, .int 0, .int 0, .int 0, .int 5, .int 0])), (wa 4, .inl (kc 1, 24, .inr (.inl z1))), (wa 5, .inl (kc 0, 24, .inl z0)), (wa 6, .inl (kc 0, 24, .inl z0)), (wa 7, .inl (kc 0, 8, .inl z0)), (wa 8, .inl (kc 0, 8, .inl z0)), (wa 9, .inl (kc 0, 8, .inl z0)), (wa 10, .inl (kc 0, 8, .inl z0)), (wa 11, .inl (kc 0, 4, .inl z0)), (wa 12, .inl (kc 0, 4, .inl z0)), (wa 13, .inl (kc 0, 4, .inl z0)), (wa 14, .inl (kc 0, 4, .inl z0)), (wa 15, .inl (kc 0, 4, .inl z0))]) (va_A [(h, .inr (4, [.null, .null, .null, .null, .null, .null, .null, .null, .null, .null, .null, .null, .int 0, .int 0, .int 0, .int 0, .int 0, .int 0, .int 0, .int 0]))] sz)) 12 124 (va_A [(h, .inr (4, [.null, .null, .null, .null, .null, .null, .null, .null, .null, .null, .null, .null, .int 0, .int 0, .int 0, .int 0, .int 0, .int 0, .int 0, .int 0]))] sz) := by
  refine Met.ofW (cc := cX4_init) (maxL := 1) (ret := none) (by decide) rfl ?_
  intro p e s m args below meth c s₁ B hml hv
  obtain ⟨rfl, hsz, hP, hE, hD0⟩ := hv
  have hx := B.exec
  have hb := B.bytes
  have hr := B.returns
  have hts := atoms_spec (ws := vi_Plan) B.pre
  have hown : s.vm.findClass RX4 = some m.cls := findClass_of_methodNamed B.named
  have hlocks := B.notSynchronized
  have hin : meth.name = "<init>" := (name_of_methodNamed B.named B.method).1
  subst hsz
  have hD := hD0.self (sz := s.heap.size)
  generalize hAe : va_A [(h, .inr (4, [.null, .null, .null, .null, .null, .null, .null, .null, .null, .null, .null, .null, .int 0, .int 0, .int 0, .int 0, .int 0, .int 0, .int 0, .int 0]))] s.heap.size = A at hD ⊢
  have hA : ∀ q : Nat, s.heap.size ≤ q → A q := fun q h => by rw [← hAe]; exact Or.inr h
  have hS : va_S A s.heap s.heap [] := va_S.rf
  have hK := hE.1
  have hP : va_P D vwCl [(h, .inr (4, [.null, .null, .null, .null, .null, .null, .null, .null, .null, .null, .null, .null, .int 0, .int 0, .int 0, .int 0, .int 0, .int 0, .int 0, .int 0]))] s.heap := hP
  have hl := lv_entry ([.ref h]) (n := 1) (Nat.le_of_ble_eq_true rfl)
  rw [lg_entry_eq]
  generalize (lg_sl ([.ref h]) ++ List.replicate (1 - (lg_sl ([.ref h])).length) Slot.unset).toArray = ls at hl ⊢
  have hl : lv_has ls 1 [(0, .ref h)] := hl
  refine lv_aload_n hx hb dX4_init_0 rfl (lv_at hl 0 rfl) ?_
  refine W.objInit hx hb hown (hts (.methodLink RX4 3 objectInit) (List.mem_of_getElem? (i := 1) rfl)) (hts (.instanceMethod objectInit) (List.mem_of_getElem? (i := 2) rfl)) (hts (.code objectInit ⟨#[0xb1]⟩ 1 none) (List.mem_of_getElem? (i := 3) rfl)) rfl (by rw [hml]; exact hl.1) rfl dX4_init_1 (Nat.le_of_ble_eq_true rfl) (Nat.le_of_ble_eq_true rfl) ?_
  refine W.eq (g2 := F0 m 4 ls []) rfl ?_
  refine lv_aload_n hx hb dX4_init_4 rfl (lv_at hl 0 rfl) ?_
  refine lv_bipush (v := 24) hx hb dX4_init_5 (by decide) ?_
  refine va_newa (atype := .long) (N' := 24) (a0 := (24, .inr (.inl z1))) hx hb (hts (.arrayClass .long) (List.mem_of_getElem? (i := 4) rfl)) rfl hK hP hD hS hA (fun _ => rfl) (by decide) (by decide) (Nat.le_of_ble_eq_true rfl) (Nat.le_of_ble_eq_true rfl) (Nat.le_of_ble_eq_true rfl) dX4_init_7 (fun q7_1 cA H hK1 hP hD hS => ?_)
  obtain rfl := tyl_J hK1
  have hP : va_P D vwCl [(h, .inr (4, [.null, .null, .null, .null, .null, .null, .null, .null, .null, .null, .null, .null, .int 0, .int 0, .int 0, .int 0, .int 0, .int 0, .int 0, .int 0])), (q7_1, .inl (kc 1, 24, .inr (.inl z1)))] H := hP
  have hD : va_D A [(h, .inr (4, [.null, .null, .null, .null, .null, .null, .null, .null, .null, .null, .null, .null, .int 0, .int 0, .int 0, .int 0, .int 0, .int 0, .int 0, .int 0])), (q7_1, .inl (kc 1, 24, .inr (.inl z1)))] := hD
  refine W.widen (k := 1) (n := 24) (Nat.le_of_ble_eq_true rfl) (Nat.le_of_ble_eq_true rfl) ?_
  refine va_putF (D := D) (ci := 4) (v := .ref q7_1) (ty := .array .long) (C := RX4) (T := TX4) (N := 20) hx hb hts ii_Plan_X4 tyX4 tyX4_ok nmX4 hown hK hP hD hS 0 rfl rfl 0 (by decide) (hts (.fieldLink RX4 9 "SaltStreet$Plan" "names" "[J") (List.mem_of_getElem? (i := 5) rfl)) (fun _ h9 => h9) rfl hin rfl (by decide +kernel) rfl rfl (Nat.le_of_ble_eq_true rfl) dX4_init_9 (fun H locs hP hD hS => ?_)
  have hP : va_P D vwCl [(h, .inr (4, [.ref q7_1, .null, .null, .null, .null, .null, .null, .null, .null, .null, .null, .null, .int 0, .int 0, .int 0, .int 0, .int 0, .int 0, .int 0, .int 0])), (q7_1, .inl (kc 1, 24, .inr (.inl z1)))] H := hP
  have hD : va_D A [(h, .inr (4, [.ref q7_1, .null, .null, .null, .null, .null, .null, .null, .null, .null, .null, .null, .int 0, .int 0, .int 0, .int 0, .int 0, .int 0, .int 0, .int 0])), (q7_1, .inl (kc 1, 24, .inr (.inl z1)))] := hD
  refine lv_aload_n hx hb dX4_init_12 rfl (lv_at hl 0 rfl) ?_
  refine lv_bipush (v := 24) hx hb dX4_init_13 (by decide) ?_
  refine va_newa (atype := .int) (N' := 24) (a0 := (24, .inl z0)) hx hb (hts (.arrayClass .int) (List.mem_of_getElem? (i := 6) rfl)) rfl hK hP hD hS hA (fun _ => rfl) (by decide) (by decide) (Nat.le_of_ble_eq_true rfl) (Nat.le_of_ble_eq_true rfl) (Nat.le_of_ble_eq_true rfl) dX4_init_15 (fun q15_2 cA H hK1 hP hD hS => ?_)
  obtain rfl := tyl_I hK1
  have hP : va_P D vwCl [(h, .inr (4, [.ref q7_1, .null, .null, .null, .null, .null, .null, .null, .null, .null, .null, .null, .int 0, .int 0, .int 0, .int 0, .int 0, .int 0, .int 0, .int 0])), (q7_1, .inl (kc 1, 24, .inr (.inl z1))), (q15_2, .inl (kc 0, 24, .inl z0))] H := hP
  have hD : va_D A [(h, .inr (4, [.ref q7_1, .null, .null, .null, .null, .null, .null, .null, .null, .null, .null, .null, .int 0, .int 0, .int 0, .int 0, .int 0, .int 0, .int 0, .int 0])), (q7_1, .inl (kc 1, 24, .inr (.inl z1))), (q15_2, .inl (kc 0, 24, .inl z0))] := hD
  refine W.widen (k := 2) (n := 48) (Nat.le_of_ble_eq_true rfl) (Nat.le_of_ble_eq_true rfl) ?_
  refine va_putF (D := D) (ci := 4) (v := .ref q15_2) (ty := .array .int) (C := RX4) (T := TX4) (N := 20) hx hb hts ii_Plan_X4 tyX4 tyX4_ok nmX4 hown hK hP hD hS 0 rfl rfl 1 (by decide) (hts (.fieldLink RX4 15 "SaltStreet$Plan" "sorts" "[I") (List.mem_of_getElem? (i := 7) rfl)) (fun _ h9 => h9) rfl hin rfl (by decide +kernel) rfl rfl (Nat.le_of_ble_eq_true rfl) dX4_init_17 (fun H locs hP hD hS => ?_)
  have hP : va_P D vwCl [(h, .inr (4, [.ref q7_1, .ref q15_2, .null, .null, .null, .null, .null, .null, .null, .null, .null, .null, .int 0, .int 0, .int 0, .int 0, .int 0, .int 0, .int 0, .int 0])), (q7_1, .inl (kc 1, 24, .inr (.inl z1))), (q15_2, .inl (kc 0, 24, .inl z0))] H := hP
  have hD : va_D A [(h, .inr (4, [.ref q7_1, .ref q15_2, .null, .null, .null, .null, .null, .null, .null, .null, .null, .null, .int 0, .int 0, .int 0, .int 0, .int 0, .int 0, .int 0, .int 0])), (q7_1, .inl (kc 1, 24, .inr (.inl z1))), (q15_2, .inl (kc 0, 24, .inl z0))] := hD
  refine lv_aload_n hx hb dX4_init_20 rfl (lv_at hl 0 rfl) ?_
  refine lv_bipush (v := 24) hx hb dX4_init_21 (by decide) ?_
  refine va_newa (atype := .int) (N' := 24) (a0 := (24, .inl z0)) hx hb (hts (.arrayClass .int) (List.mem_of_getElem? (i := 6) rfl)) rfl hK hP hD hS hA (fun _ => rfl) (by decide) (by decide) (Nat.le_of_ble_eq_true rfl) (Nat.le_of_ble_eq_true rfl) (Nat.le_of_ble_eq_true rfl) dX4_init_23 (fun q23_3 cA H hK1 hP hD hS => ?_)
  obtain rfl := tyl_I hK1
  have hP : va_P D vwCl [(h, .inr (4, [.ref q7_1, .ref q15_2, .null, .null, .null, .null, .null, .null, .null, .null, .null, .null, .int 0, .int 0, .int 0, .int 0, .int 0, .int 0, .int 0, .int 0])), (q7_1, .inl (kc 1, 24, .inr (.inl z1))), (q15_2, .inl (kc 0, 24, .inl z0)), (q23_3, .inl (kc 0, 24, .inl z0))] H := hP
  have hD : va_D A [(h, .inr (4, [.ref q7_1, .ref q15_2, .null, .null, .null, .null, .null, .null, .null, .null, .null, .null, .int 0, .int 0, .int 0, .int 0, .int 0, .int 0, .int 0, .int 0])), (q7_1, .inl (kc 1, 24, .inr (.inl z1))), (q15_2, .inl (kc 0, 24, .inl z0)), (q23_3, .inl (kc 0, 24, .inl z0))] := hD
  refine W.widen (k := 3) (n := 72) (Nat.le_of_ble_eq_true rfl) (Nat.le_of_ble_eq_true rfl) ?_
  refine va_putF (D := D) (ci := 4) (v := .ref q23_3) (ty := .array .int) (C := RX4) (T := TX4) (N := 20) hx hb hts ii_Plan_X4 tyX4 tyX4_ok nmX4 hown hK hP hD hS 0 rfl rfl 2 (by decide) (hts (.fieldLink RX4 19 "SaltStreet$Plan" "numbers" "[I") (List.mem_of_getElem? (i := 8) rfl)) (fun _ h9 => h9) rfl hin rfl (by decide +kernel) rfl rfl (Nat.le_of_ble_eq_true rfl) dX4_init_25 (fun H locs hP hD hS => ?_)
  have hP : va_P D vwCl [(h, .inr (4, [.ref q7_1, .ref q15_2, .ref q23_3, .null, .null, .null, .null, .null, .null, .null, .null, .null, .int 0, .int 0, .int 0, .int 0, .int 0, .int 0, .int 0, .int 0])), (q7_1, .inl (kc 1, 24, .inr (.inl z1))), (q15_2, .inl (kc 0, 24, .inl z0)), (q23_3, .inl (kc 0, 24, .inl z0))] H := hP
  have hD : va_D A [(h, .inr (4, [.ref q7_1, .ref q15_2, .ref q23_3, .null, .null, .null, .null, .null, .null, .null, .null, .null, .int 0, .int 0, .int 0, .int 0, .int 0, .int 0, .int 0, .int 0])), (q7_1, .inl (kc 1, 24, .inr (.inl z1))), (q15_2, .inl (kc 0, 24, .inl z0)), (q23_3, .inl (kc 0, 24, .inl z0))] := hD
  refine lv_aload_n hx hb dX4_init_28 rfl (lv_at hl 0 rfl) ?_
  refine lv_bipush (v := 8) hx hb dX4_init_29 (by decide) ?_
  refine va_newa (atype := .int) (N' := 8) (a0 := (8, .inl z0)) hx hb (hts (.arrayClass .int) (List.mem_of_getElem? (i := 6) rfl)) rfl hK hP hD hS hA (fun _ => rfl) (by decide) (by decide) (Nat.le_of_ble_eq_true rfl) (Nat.le_of_ble_eq_true rfl) (Nat.le_of_ble_eq_true rfl) dX4_init_31 (fun q31_4 cA H hK1 hP hD hS => ?_)
  obtain rfl := tyl_I hK1
  have hP : va_P D vwCl [(h, .inr (4, [.ref q7_1, .ref q15_2, .ref q23_3, .null, .null, .null, .null, .null, .null, .null, .null, .null, .int 0, .int 0, .int 0, .int 0, .int 0, .int 0, .int 0, .int 0])), (q7_1, .inl (kc 1, 24, .inr (.inl z1))), (q15_2, .inl (kc 0, 24, .inl z0)), (q23_3, .inl (kc 0, 24, .inl z0)), (q31_4, .inl (kc 0, 8, .inl z0))] H := hP
  have hD : va_D A [(h, .inr (4, [.ref q7_1, .ref q15_2, .ref q23_3, .null, .null, .null, .null, .null, .null, .null, .null, .null, .int 0, .int 0, .int 0, .int 0, .int 0, .int 0, .int 0, .int 0])), (q7_1, .inl (kc 1, 24, .inr (.inl z1))), (q15_2, .inl (kc 0, 24, .inl z0)), (q23_3, .inl (kc 0, 24, .inl z0)), (q31_4, .inl (kc 0, 8, .inl z0))] := hD
  refine W.widen (k := 4) (n := 80) (Nat.le_of_ble_eq_true rfl) (Nat.le_of_ble_eq_true rfl) ?_
  refine va_putF (D := D) (ci := 4) (v := .ref q31_4) (ty := .array .int) (C := RX4) (T := TX4) (N := 20) hx hb hts ii_Plan_X4 tyX4 tyX4_ok nmX4 hown hK hP hD hS 0 rfl rfl 3 (by decide) (hts (.fieldLink RX4 22 "SaltStreet$Plan" "one" "[I") (List.mem_of_getElem? (i := 9) rfl)) (fun _ h9 => h9) rfl hin rfl (by decide +kernel) rfl rfl (Nat.le_of_ble_eq_true rfl) dX4_init_33 (fun H locs hP hD hS => ?_)
  have hP : va_P D vwCl [(h, .inr (4, [.ref q7_1, .ref q15_2, .ref q23_3, .ref q31_4, .null, .null, .null, .null, .null, .null, .null, .null, .int 0, .int 0, .int 0, .int 0, .int 0, .int 0, .int 0, .int 0])), (q7_1, .inl (kc 1, 24, .inr (.inl z1))), (q15_2, .inl (kc 0, 24, .inl z0)), (q23_3, .inl (kc 0, 24, .inl z0)), (q31_4, .inl (kc 0, 8, .inl z0))] H := hP
  have hD : va_D A [(h, .inr (4, [.ref q7_1, .ref q15_2, .ref q23_3, .ref q31_4, .null, .null, .null, .null, .null, .null, .null, .null, .int 0, .int 0, .int 0, .int 0, .int 0, .int 0, .int 0, .int 0])), (q7_1, .inl (kc 1, 24, .inr (.inl z1))), (q15_2, .inl (kc 0, 24, .inl z0)), (q23_3, .inl (kc 0, 24, .inl z0)), (q31_4, .inl (kc 0, 8, .inl z0))] := hD
  refine lv_aload_n hx hb dX4_init_36 rfl (lv_at hl 0 rfl) ?_
  refine lv_bipush (v := 8) hx hb dX4_init_37 (by decide) ?_
  refine va_newa (atype := .int) (N' := 8) (a0 := (8, .inl z0)) hx hb (hts (.arrayClass .int) (List.mem_of_getElem? (i := 6) rfl)) rfl hK hP hD hS hA (fun _ => rfl) (by decide) (by decide) (Nat.le_of_ble_eq_true rfl) (Nat.le_of_ble_eq_true rfl) (Nat.le_of_ble_eq_true rfl) dX4_init_39 (fun q39_5 cA H hK1 hP hD hS => ?_)
  obtain rfl := tyl_I hK1
  have hP : va_P D vwCl [(h, .inr (4, [.ref q7_1, .ref q15_2, .ref q23_3, .ref q31_4, .null, .null, .null, .null, .null, .null, .null, .null, .int 0, .int 0, .int 0, .int 0, .int 0, .int 0, .int 0, .int 0])), (q7_1, .inl (kc 1, 24, .inr (.inl z1))), (q15_2, .inl (kc 0, 24, .inl z0)), (q23_3, .inl (kc 0, 24, .inl z0)), (q31_4, .inl (kc 0, 8, .inl z0)), (q39_5, .inl (kc 0, 8, .inl z0))] H := hP
  have hD : va_D A [(h, .inr (4, [.ref q7_1, .ref q15_2, .ref q23_3, .ref q31_4, .null, .null, .null, .null, .null, .null, .null, .null, .int 0, .int 0, .int 0, .int 0, .int 0, .int 0, .int 0, .int 0])), (q7_1, .inl (kc 1, 24, .inr (.inl z1))), (q15_2, .inl (kc 0, 24, .inl z0)), (q23_3, .inl (kc 0, 24, .inl z0)), (q31_4, .inl (kc 0, 8, .inl z0)), (q39_5, .inl (kc 0, 8, .inl z0))] := hD
  refine W.widen (k := 5) (n := 88) (Nat.le_of_ble_eq_true rfl) (Nat.le_of_ble_eq_true rfl) ?_
  refine va_putF (D := D) (ci := 4) (v := .ref q39_5) (ty := .array .int) (C := RX4) (T := TX4) (N := 20) hx hb hts ii_Plan_X4 tyX4 tyX4_ok nmX4 hown hK hP hD hS 0 rfl rfl 4 (by decide) (hts (.fieldLink RX4 25 "SaltStreet$Plan" "other" "[I") (List.mem_of_getElem? (i := 10) rfl)) (fun _ h9 => h9) rfl hin rfl (by decide +kernel) rfl rfl (Nat.le_of_ble_eq_true rfl) dX4_init_41 (fun H locs hP hD hS => ?_)
  have hP : va_P D vwCl [(h, .inr (4, [.ref q7_1, .ref q15_2, .ref q23_3, .ref q31_4, .ref q39_5, .null, .null, .null, .null, .null, .null, .null, .int 0, .int 0, .int 0, .int 0, .int 0, .int 0, .int 0, .int 0])), (q7_1, .inl (kc 1, 24, .inr (.inl z1))), (q15_2, .inl (kc 0, 24, .inl z0)), (q23_3, .inl (kc 0, 24, .inl z0)), (q31_4, .inl (kc 0, 8, .inl z0)), (q39_5, .inl (kc 0, 8, .inl z0))] H := hP
  have hD : va_D A [(h, .inr (4, [.ref q7_1, .ref q15_2, .ref q23_3, .ref q31_4, .ref q39_5, .null, .null, .null, .null, .null, .null, .null, .int 0, .int 0, .int 0, .int 0, .int 0, .int 0, .int 0, .int 0])), (q7_1, .inl (kc 1, 24, .inr (.inl z1))), (q15_2, .inl (kc 0, 24, .inl z0)), (q23_3, .inl (kc 0, 24, .inl z0)), (q31_4, .inl (kc 0, 8, .inl z0)), (q39_5, .inl (kc 0, 8, .inl z0))] := hD
  refine lv_aload_n hx hb dX4_init_44 rfl (lv_at hl 0 rfl) ?_
  refine lv_bipush (v := 8) hx hb dX4_init_45 (by decide) ?_
  refine va_newa (atype := .int) (N' := 8) (a0 := (8, .inl z0)) hx hb (hts (.arrayClass .int) (List.mem_of_getElem? (i := 6) rfl)) rfl hK hP hD hS hA (fun _ => rfl) (by decide) (by decide) (Nat.le_of_ble_eq_true rfl) (Nat.le_of_ble_eq_true rfl) (Nat.le_of_ble_eq_true rfl) dX4_init_47 (fun q47_6 cA H hK1 hP hD hS => ?_)
  obtain rfl := tyl_I hK1
  have hP : va_P D vwCl [(h, .inr (4, [.ref q7_1, .ref q15_2, .ref q23_3, .ref q31_4, .ref q39_5, .null, .null, .null, .null, .null, .null, .null, .int 0, .int 0, .int 0, .int 0, .int 0, .int 0, .int 0, .int 0])), (q7_1, .inl (kc 1, 24, .inr (.inl z1))), (q15_2, .inl (kc 0, 24, .inl z0)), (q23_3, .inl (kc 0, 24, .inl z0)), (q31_4, .inl (kc 0, 8, .inl z0)), (q39_5, .inl (kc 0, 8, .inl z0)), (q47_6, .inl (kc 0, 8, .inl z0))] H := hP
  have hD : va_D A [(h, .inr (4, [.ref q7_1, .ref q15_2, .ref q23_3, .ref q31_4, .ref q39_5, .null, .null, .null, .null, .null, .null, .null, .int 0, .int 0, .int 0, .int 0, .int 0, .int 0, .int 0, .int 0])), (q7_1, .inl (kc 1, 24, .inr (.inl z1))), (q15_2, .inl (kc 0, 24, .inl z0)), (q23_3, .inl (kc 0, 24, .inl z0)), (q31_4, .inl (kc 0, 8, .inl z0)), (q39_5, .inl (kc 0, 8, .inl z0)), (q47_6, .inl (kc 0, 8, .inl z0))] := hD
  refine W.widen (k := 6) (n := 96) (Nat.le_of_ble_eq_true rfl) (Nat.le_of_ble_eq_true rfl) ?_
  refine va_putF (D := D) (ci := 4) (v := .ref q47_6) (ty := .array .int) (C := RX4) (T := TX4) (N := 20) hx hb hts ii_Plan_X4 tyX4 tyX4_ok nmX4 hown hK hP hD hS 0 rfl rfl 5 (by decide) (hts (.fieldLink RX4 28 "SaltStreet$Plan" "needs" "[I") (List.mem_of_getElem? (i := 11) rfl)) (fun _ h9 => h9) rfl hin rfl (by decide +kernel) rfl rfl (Nat.le_of_ble_eq_true rfl) dX4_init_49 (fun H locs hP hD hS => ?_)
  have hP : va_P D vwCl [(h, .inr (4, [.ref q7_1, .ref q15_2, .ref q23_3, .ref q31_4, .ref q39_5, .ref q47_6, .null, .null, .null, .null, .null, .null, .int 0, .int 0, .int 0, .int 0, .int 0, .int 0, .int 0, .int 0])), (q7_1, .inl (kc 1, 24, .inr (.inl z1))), (q15_2, .inl (kc 0, 24, .inl z0)), (q23_3, .inl (kc 0, 24, .inl z0)), (q31_4, .inl (kc 0, 8, .inl z0)), (q39_5, .inl (kc 0, 8, .inl z0)), (q47_6, .inl (kc 0, 8, .inl z0))] H := hP
  have hD : va_D A [(h, .inr (4, [.ref q7_1, .ref q15_2, .ref q23_3, .ref q31_4, .ref q39_5, .ref q47_6, .null, .null, .null, .null, .null, .null, .int 0, .int 0, .int 0, .int 0, .int 0, .int 0, .int 0, .int 0])), (q7_1, .inl (kc 1, 24, .inr (.inl z1))), (q15_2, .inl (kc 0, 24, .inl z0)), (q23_3, .inl (kc 0, 24, .inl z0)), (q31_4, .inl (kc 0, 8, .inl z0)), (q39_5, .inl (kc 0, 8, .inl z0)), (q47_6, .inl (kc 0, 8, .inl z0))] := hD
  refine lv_aload_n hx hb dX4_init_52 rfl (lv_at hl 0 rfl) ?_
  refine lv_bipush (v := 8) hx hb dX4_init_53 (by decide) ?_
  refine va_newa (atype := .int) (N' := 8) (a0 := (8, .inl z0)) hx hb (hts (.arrayClass .int) (List.mem_of_getElem? (i := 6) rfl)) rfl hK hP hD hS hA (fun _ => rfl) (by decide) (by decide) (Nat.le_of_ble_eq_true rfl) (Nat.le_of_ble_eq_true rfl) (Nat.le_of_ble_eq_true rfl) dX4_init_55 (fun q55_7 cA H hK1 hP hD hS => ?_)
  obtain rfl := tyl_I hK1
  have hP : va_P D vwCl [(h, .inr (4, [.ref q7_1, .ref q15_2, .ref q23_3, .ref q31_4, .ref q39_5, .ref q47_6, .null, .null, .null, .null, .null, .null, .int 0, .int 0, .int 0, .int 0, .int 0, .int 0, .int 0, .int 0])), (q7_1, .inl (kc 1, 24, .inr (.inl z1))), (q15_2, .inl (kc 0, 24, .inl z0)), (q23_3, .inl (kc 0, 24, .inl z0)), (q31_4, .inl (kc 0, 8, .inl z0)), (q39_5, .inl (kc 0, 8, .inl z0)), (q47_6, .inl (kc 0, 8, .inl z0)), (q55_7, .inl (kc 0, 8, .inl z0))] H := hP
  have hD : va_D A [(h, .inr (4, [.ref q7_1, .ref q15_2, .ref q23_3, .ref q31_4, .ref q39_5, .ref q47_6, .null, .null, .null, .null, .null, .null, .int 0, .int 0, .int 0, .int 0, .int 0, .int 0, .int 0, .int 0])), (q7_1, .inl (kc 1, 24, .inr (.inl z1))), (q15_2, .inl (kc 0, 24, .inl z0)), (q23_3, .inl (kc 0, 24, .inl z0)), (q31_4, .inl (kc 0, 8, .inl z0)), (q39_5, .inl (kc 0, 8, .inl z0)), (q47_6, .inl (kc 0, 8, .inl z0)), (q55_7, .inl (kc 0, 8, .inl z0))] := hD
  refine W.widen (k := 7) (n := 104) (Nat.le_of_ble_eq_true rfl) (Nat.le_of_ble_eq_true rfl) ?_
  refine va_putF (D := D) (ci := 4) (v := .ref q55_7) (ty := .array .int) (C := RX4) (T := TX4) (N := 20) hx hb hts ii_Plan_X4 tyX4 tyX4_ok nmX4 hown hK hP hD hS 0 rfl rfl 6 (by decide) (hts (.fieldLink RX4 31 "SaltStreet$Plan" "quarrelsAt" "[I") (List.mem_of_getElem? (i := 12) rfl)) (fun _ h9 => h9) rfl hin rfl (by decide +kernel) rfl rfl (Nat.le_of_ble_eq_true rfl) dX4_init_57 (fun H locs hP hD hS => ?_)
  have hP : va_P D vwCl [(h, .inr (4, [.ref q7_1, .ref q15_2, .ref q23_3, .ref q31_4, .ref q39_5, .ref q47_6, .ref q55_7, .null, .null, .null, .null, .null, .int 0, .int 0, .int 0, .int 0, .int 0, .int 0, .int 0, .int 0])), (q7_1, .inl (kc 1, 24, .inr (.inl z1))), (q15_2, .inl (kc 0, 24, .inl z0)), (q23_3, .inl (kc 0, 24, .inl z0)), (q31_4, .inl (kc 0, 8, .inl z0)), (q39_5, .inl (kc 0, 8, .inl z0)), (q47_6, .inl (kc 0, 8, .inl z0)), (q55_7, .inl (kc 0, 8, .inl z0))] H := hP
  have hD : va_D A [(h, .inr (4, [.ref q7_1, .ref q15_2, .ref q23_3, .ref q31_4, .ref q39_5, .ref q47_6, .ref q55_7, .null, .null, .null, .null, .null, .int 0, .int 0, .int 0, .int 0, .int 0, .int 0, .int 0, .int 0])), (q7_1, .inl (kc 1, 24, .inr (.inl z1))), (q15_2, .inl (kc 0, 24, .inl z0)), (q23_3, .inl (kc 0, 24, .inl z0)), (q31_4, .inl (kc 0, 8, .inl z0)), (q39_5, .inl (kc 0, 8, .inl z0)), (q47_6, .inl (kc 0, 8, .inl z0)), (q55_7, .inl (kc 0, 8, .inl z0))] := hD
  refine lv_aload_n hx hb dX4_init_60 rfl (lv_at hl 0 rfl) ?_
  refine lv_iconst (v := 4) hx hb dX4_init_61 (by decide) ?_
  refine va_newa (atype := .int) (N' := 4) (a0 := (4, .inl z0)) hx hb (hts (.arrayClass .int) (List.mem_of_getElem? (i := 6) rfl)) rfl hK hP hD hS hA (fun _ => rfl) (by decide) (by decide) (Nat.le_of_ble_eq_true rfl) (Nat.le_of_ble_eq_true rfl) (Nat.le_of_ble_eq_true rfl) dX4_init_62 (fun q62_8 cA H hK1 hP hD hS => ?_)
  obtain rfl := tyl_I hK1
  have hP : va_P D vwCl [(h, .inr (4, [.ref q7_1, .ref q15_2, .ref q23_3, .ref q31_4, .ref q39_5, .ref q47_6, .ref q55_7, .null, .null, .null, .null, .null, .int 0, .int 0, .int 0, .int 0, .int 0, .int 0, .int 0, .int 0])), (q7_1, .inl (kc 1, 24, .inr (.inl z1))), (q15_2, .inl (kc 0, 24, .inl z0)), (q23_3, .inl (kc 0, 24, .inl z0)), (q31_4, .inl (kc 0, 8, .inl z0)), (q39_5, .inl (kc 0, 8, .inl z0)), (q47_6, .inl (kc 0, 8, .inl z0)), (q55_7, .inl (kc 0, 8, .inl z0)), (q62_8, .inl (kc 0, 4, .inl z0))] H := hP
  have hD : va_D A [(h, .inr (4, [.ref q7_1, .ref q15_2, .ref q23_3, .ref q31_4, .ref q39_5, .ref q47_6, .ref q55_7, .null, .null, .null, .null, .null, .int 0, .int 0, .int 0, .int 0, .int 0, .int 0, .int 0, .int 0])), (q7_1, .inl (kc 1, 24, .inr (.inl z1))), (q15_2, .inl (kc 0, 24, .inl z0)), (q23_3, .inl (kc 0, 24, .inl z0)), (q31_4, .inl (kc 0, 8, .inl z0)), (q39_5, .inl (kc 0, 8, .inl z0)), (q47_6, .inl (kc 0, 8, .inl z0)), (q55_7, .inl (kc 0, 8, .inl z0)), (q62_8, .inl (kc 0, 4, .inl z0))] := hD
  refine W.widen (k := 8) (n := 108) (Nat.le_of_ble_eq_true rfl) (Nat.le_of_ble_eq_true rfl) ?_
  refine va_putF (D := D) (ci := 4) (v := .ref q62_8) (ty := .array .int) (C := RX4) (T := TX4) (N := 20) hx hb hts ii_Plan_X4 tyX4 tyX4_ok nmX4 hown hK hP hD hS 0 rfl rfl 7 (by decide) (hts (.fieldLink RX4 34 "SaltStreet$Plan" "from" "[I") (List.mem_of_getElem? (i := 13) rfl)) (fun _ h9 => h9) rfl hin rfl (by decide +kernel) rfl rfl (Nat.le_of_ble_eq_true rfl) dX4_init_64 (fun H locs hP hD hS => ?_)
  have hP : va_P D vwCl [(h, .inr (4, [.ref q7_1, .ref q15_2, .ref q23_3, .ref q31_4, .ref q39_5, .ref q47_6, .ref q55_7, .ref q62_8, .null, .null, .null, .null, .int 0, .int 0, .int 0, .int 0, .int 0, .int 0, .int 0, .int 0])), (q7_1, .inl (kc 1, 24, .inr (.inl z1))), (q15_2, .inl (kc 0, 24, .inl z0)), (q23_3, .inl (kc 0, 24, .inl z0)), (q31_4, .inl (kc 0, 8, .inl z0)), (q39_5, .inl (kc 0, 8, .inl z0)), (q47_6, .inl (kc 0, 8, .inl z0)), (q55_7, .inl (kc 0, 8, .inl z0)), (q62_8, .inl (kc 0, 4, .inl z0))] H := hP
  have hD : va_D A [(h, .inr (4, [.ref q7_1, .ref q15_2, .ref q23_3, .ref q31_4, .ref q39_5, .ref q47_6, .ref q55_7, .ref q62_8, .null, .null, .null, .null, .int 0, .int 0, .int 0, .int 0, .int 0, .int 0, .int 0, .int 0])), (q7_1, .inl (kc 1, 24, .inr (.inl z1))), (q15_2, .inl (kc 0, 24, .inl z0)), (q23_3, .inl (kc 0, 24, .inl z0)), (q31_4, .inl (kc 0, 8, .inl z0)), (q39_5, .inl (kc 0, 8, .inl z0)), (q47_6, .inl (kc 0, 8, .inl z0)), (q55_7, .inl (kc 0, 8, .inl z0)), (q62_8, .inl (kc 0, 4, .inl z0))] := hD
  refine lv_aload_n hx hb dX4_init_67 rfl (lv_at hl 0 rfl) ?_
  refine lv_iconst (v := 4) hx hb dX4_init_68 (by decide) ?_
  refine va_newa (atype := .int) (N' := 4) (a0 := (4, .inl z0)) hx hb (hts (.arrayClass .int) (List.mem_of_getElem? (i := 6) rfl)) rfl hK hP hD hS hA (fun _ => rfl) (by decide) (by decide) (Nat.le_of_ble_eq_true rfl) (Nat.le_of_ble_eq_true rfl) (Nat.le_of_ble_eq_true rfl) dX4_init_69 (fun q69_9 cA H hK1 hP hD hS => ?_)
  obtain rfl := tyl_I hK1
  have hP : va_P D vwCl [(h, .inr (4, [.ref q7_1, .ref q15_2, .ref q23_3, .ref q31_4, .ref q39_5, .ref q47_6, .ref q55_7, .ref q62_8, .null, .null, .null, .null, .int 0, .int 0, .int 0, .int 0, .int 0, .int 0, .int 0, .int 0])), (q7_1, .inl (kc 1, 24, .inr (.inl z1))), (q15_2, .inl (kc 0, 24, .inl z0)), (q23_3, .inl (kc 0, 24, .inl z0)), (q31_4, .inl (kc 0, 8, .inl z0)), (q39_5, .inl (kc 0, 8, .inl z0)), (q47_6, .inl (kc 0, 8, .inl z0)), (q55_7, .inl (kc 0, 8, .inl z0)), (q62_8, .inl (kc 0, 4, .inl z0)), (q69_9, .inl (kc 0, 4, .inl z0))] H := hP
  have hD : va_D A [(h, .inr (4, [.ref q7_1, .ref q15_2, .ref q23_3, .ref q31_4, .ref q39_5, .ref q47_6, .ref q55_7, .ref q62_8, .null, .null, .null, .null, .int 0, .int 0, .int 0, .int 0, .int 0, .int 0, .int 0, .int 0])), (q7_1, .inl (kc 1, 24, .inr (.inl z1))), (q15_2, .inl (kc 0, 24, .inl z0)), (q23_3, .inl (kc 0, 24, .inl z0)), (q31_4, .inl (kc 0, 8, .inl z0)), (q39_5, .inl (kc 0, 8, .inl z0)), (q47_6, .inl (kc 0, 8, .inl z0)), (q55_7, .inl (kc 0, 8, .inl z0)), (q62_8, .inl (kc 0, 4, .inl z0)), (q69_9, .inl (kc 0, 4, .inl z0))] := hD
  refine W.widen (k := 9) (n := 112) (Nat.le_of_ble_eq_true rfl) (Nat.le_of_ble_eq_true rfl) ?_
  refine va_putF (D := D) (ci := 4) (v := .ref q69_9) (ty := .array .int) (C := RX4) (T := TX4) (N := 20) hx hb hts ii_Plan_X4 tyX4 tyX4_ok nmX4 hown hK hP hD hS 0 rfl rfl 8 (by decide) (hts (.fieldLink RX4 37 "SaltStreet$Plan" "to" "[I") (List.mem_of_getElem? (i := 14) rfl)) (fun _ h9 => h9) rfl hin rfl (by decide +kernel) rfl rfl (Nat.le_of_ble_eq_true rfl) dX4_init_71 (fun H locs hP hD hS => ?_)
  have hP : va_P D vwCl [(h, .inr (4, [.ref q7_1, .ref q15_2, .ref q23_3, .ref q31_4, .ref q39_5, .ref q47_6, .ref q55_7, .ref q62_8, .ref q69_9, .null, .null, .null, .int 0, .int 0, .int 0, .int 0, .int 0, .int 0, .int 0, .int 0])), (q7_1, .inl (kc 1, 24, .inr (.inl z1))), (q15_2, .inl (kc 0, 24, .inl z0)), (q23_3, .inl (kc 0, 24, .inl z0)), (q31_4, .inl (kc 0, 8, .inl z0)), (q39_5, .inl (kc 0, 8, .inl z0)), (q47_6, .inl (kc 0, 8, .inl z0)), (q55_7, .inl (kc 0, 8, .inl z0)), (q62_8, .inl (kc 0, 4, .inl z0)), (q69_9, .inl (kc 0, 4, .inl z0))] H := hP
  have hD : va_D A [(h, .inr (4, [.ref q7_1, .ref q15_2, .ref q23_3, .ref q31_4, .ref q39_5, .ref q47_6, .ref q55_7, .ref q62_8, .ref q69_9, .null, .null, .null, .int 0, .int 0, .int 0, .int 0, .int 0, .int 0, .int 0, .int 0])), (q7_1, .inl (kc 1, 24, .inr (.inl z1))), (q15_2, .inl (kc 0, 24, .inl z0)), (q23_3, .inl (kc 0, 24, .inl z0)), (q31_4, .inl (kc 0, 8, .inl z0)), (q39_5, .inl (kc 0, 8, .inl z0)), (q47_6, .inl (kc 0, 8, .inl z0)), (q55_7, .inl (kc 0, 8, .inl z0)), (q62_8, .inl (kc 0, 4, .inl z0)), (q69_9, .inl (kc 0, 4, .inl z0))] := hD
  refine lv_aload_n hx hb dX4_init_74 rfl (lv_at hl 0 rfl) ?_
  refine lv_iconst (v := 4) hx hb dX4_init_75 (by decide) ?_
  refine va_newa (atype := .int) (N' := 4) (a0 := (4, .inl z0)) hx hb (hts (.arrayClass .int) (List.mem_of_getElem? (i := 6) rfl)) rfl hK hP hD hS hA (fun _ => rfl) (by decide) (by decide) (Nat.le_of_ble_eq_true rfl) (Nat.le_of_ble_eq_true rfl) (Nat.le_of_ble_eq_true rfl) dX4_init_76 (fun q76_10 cA H hK1 hP hD hS => ?_)
  obtain rfl := tyl_I hK1
  have hP : va_P D vwCl [(h, .inr (4, [.ref q7_1, .ref q15_2, .ref q23_3, .ref q31_4, .ref q39_5, .ref q47_6, .ref q55_7, .ref q62_8, .ref q69_9, .null, .null, .null, .int 0, .int 0, .int 0, .int 0, .int 0, .int 0, .int 0, .int 0])), (q7_1, .inl (kc 1, 24, .inr (.inl z1))), (q15_2, .inl (kc 0, 24, .inl z0)), (q23_3, .inl (kc 0, 24, .inl z0)), (q31_4, .inl (kc 0, 8, .inl z0)), (q39_5, .inl (kc 0, 8, .inl z0)), (q47_6, .inl (kc 0, 8, .inl z0)), (q55_7, .inl (kc 0, 8, .inl z0)), (q62_8, .inl (kc 0, 4, .inl z0)), (q69_9, .inl (kc 0, 4, .inl z0)), (q76_10, .inl (kc 0, 4, .inl z0))] H := hP
  have hD : va_D A [(h, .inr (4, [.ref q7_1, .ref q15_2, .ref q23_3, .ref q31_4, .ref q39_5, .ref q47_6, .ref q55_7, .ref q62_8, .ref q69_9, .null, .null, .null, .int 0, .int 0, .int 0, .int 0, .int 0, .int 0, .int 0, .int 0])), (q7_1, .inl (kc 1, 24, .inr (.inl z1))), (q15_2, .inl (kc 0, 24, .inl z0)), (q23_3, .inl (kc 0, 24, .inl z0)), (q31_4, .inl (kc 0, 8, .inl z0)), (q39_5, .inl (kc 0, 8, .inl z0)), (q47_6, .inl (kc 0, 8, .inl z0)), (q55_7, .inl (kc 0, 8, .inl z0)), (q62_8, .inl (kc 0, 4, .inl z0)), (q69_9, .inl (kc 0, 4, .inl z0)), (q76_10, .inl (kc 0, 4, .inl z0))] := hD
  refine W.widen (k := 10) (n := 116) (Nat.le_of_ble_eq_true rfl) (Nat.le_of_ble_eq_true rfl) ?_
  refine va_putF (D := D) (ci := 4) (v := .ref q76_10) (ty := .array .int) (C := RX4) (T := TX4) (N := 20) hx hb hts ii_Plan_X4 tyX4 tyX4_ok nmX4 hown hK hP hD hS 0 rfl rfl 9 (by decide) (hts (.fieldLink RX4 40 "SaltStreet$Plan" "takes" "[I") (List.mem_of_getElem? (i := 15) rfl)) (fun _ h9 => h9) rfl hin rfl (by decide +kernel) rfl rfl (Nat.le_of_ble_eq_true rfl) dX4_init_78 (fun H locs hP hD hS => ?_)
  have hP : va_P D vwCl [(h, .inr (4, [.ref q7_1, .ref q15_2, .ref q23_3, .ref q31_4, .ref q39_5, .ref q47_6, .ref q55_7, .ref q62_8, .ref q69_9, .ref q76_10, .null, .null, .int 0, .int 0, .int 0, .int 0, .int 0, .int 0, .int 0, .int 0])), (q7_1, .inl (kc 1, 24, .inr (.inl z1))), (q15_2, .inl (kc 0, 24, .inl z0)), (q23_3, .inl (kc 0, 24, .inl z0)), (q31_4, .inl (kc 0, 8, .inl z0)), (q39_5, .inl (kc 0, 8, .inl z0)), (q47_6, .inl (kc 0, 8, .inl z0)), (q55_7, .inl (kc 0, 8, .inl z0)), (q62_8, .inl (kc 0, 4, .inl z0)), (q69_9, .inl (kc 0, 4, .inl z0)), (q76_10, .inl (kc 0, 4, .inl z0))] H := hP
  have hD : va_D A [(h, .inr (4, [.ref q7_1, .ref q15_2, .ref q23_3, .ref q31_4, .ref q39_5, .ref q47_6, .ref q55_7, .ref q62_8, .ref q69_9, .ref q76_10, .null, .null, .int 0, .int 0, .int 0, .int 0, .int 0, .int 0, .int 0, .int 0])), (q7_1, .inl (kc 1, 24, .inr (.inl z1))), (q15_2, .inl (kc 0, 24, .inl z0)), (q23_3, .inl (kc 0, 24, .inl z0)), (q31_4, .inl (kc 0, 8, .inl z0)), (q39_5, .inl (kc 0, 8, .inl z0)), (q47_6, .inl (kc 0, 8, .inl z0)), (q55_7, .inl (kc 0, 8, .inl z0)), (q62_8, .inl (kc 0, 4, .inl z0)), (q69_9, .inl (kc 0, 4, .inl z0)), (q76_10, .inl (kc 0, 4, .inl z0))] := hD
  refine lv_aload_n hx hb dX4_init_81 rfl (lv_at hl 0 rfl) ?_
  refine lv_iconst (v := 4) hx hb dX4_init_82 (by decide) ?_
  refine va_newa (atype := .int) (N' := 4) (a0 := (4, .inl z0)) hx hb (hts (.arrayClass .int) (List.mem_of_getElem? (i := 6) rfl)) rfl hK hP hD hS hA (fun _ => rfl) (by decide) (by decide) (Nat.le_of_ble_eq_true rfl) (Nat.le_of_ble_eq_true rfl) (Nat.le_of_ble_eq_true rfl) dX4_init_83 (fun q83_11 cA H hK1 hP hD hS => ?_)
  obtain rfl := tyl_I hK1
  have hP : va_P D vwCl [(h, .inr (4, [.ref q7_1, .ref q15_2, .ref q23_3, .ref q31_4, .ref q39_5, .ref q47_6, .ref q55_7, .ref q62_8, .ref q69_9, .ref q76_10, .null, .null, .int 0, .int 0, .int 0, .int 0, .int 0, .int 0, .int 0, .int 0])), (q7_1, .inl (kc 1, 24, .inr (.inl z1))), (q15_2, .inl (kc 0, 24, .inl z0)), (q23_3, .inl (kc 0, 24, .inl z0)), (q31_4, .inl (kc 0, 8, .inl z0)), (q39_5, .inl (kc 0, 8, .inl z0)), (q47_6, .inl (kc 0, 8, .inl z0)), (q55_7, .inl (kc 0, 8, .inl z0)), (q62_8, .inl (kc 0, 4, .inl z0)), (q69_9, .inl (kc 0, 4, .inl z0)), (q76_10, .inl (kc 0, 4, .inl z0)), (q83_11, .inl (kc 0, 4, .inl z0))] H := hP
  have hD : va_D A [(h, .inr (4, [.ref q7_1, .ref q15_2, .ref q23_3, .ref q31_4, .ref q39_5, .ref q47_6, .ref q55_7, .ref q62_8, .ref q69_9, .ref q76_10, .null, .null, .int 0, .int 0, .int 0, .int 0, .int 0, .int 0, .int 0, .int 0])), (q7_1, .inl (kc 1, 24, .inr (.inl z1))), (q15_2, .inl (kc 0, 24, .inl z0)), (q23_3, .inl (kc 0, 24, .inl z0)), (q31_4, .inl (kc 0, 8, .inl z0)), (q39_5, .inl (kc 0, 8, .inl z0)), (q47_6, .inl (kc 0, 8, .inl z0)), (q55_7, .inl (kc 0, 8, .inl z0)), (q62_8, .inl (kc 0, 4, .inl z0)), (q69_9, .inl (kc 0, 4, .inl z0)), (q76_10, .inl (kc 0, 4, .inl z0)), (q83_11, .inl (kc 0, 4, .inl z0))] := hD
  refine W.widen (k := 11) (n := 120) (Nat.le_of_ble_eq_true rfl) (Nat.le_of_ble_eq_true rfl) ?_
  refine va_putF (D := D) (ci := 4) (v := .ref q83_11) (ty := .array .int) (C := RX4) (T := TX4) (N := 20) hx hb hts ii_Plan_X4 tyX4 tyX4_ok nmX4 hown hK hP hD hS 0 rfl rfl 10 (by decide) (hts (.fieldLink RX4 43 "SaltStreet$Plan" "price" "[I") (List.mem_of_getElem? (i := 16) rfl)) (fun _ h9 => h9) rfl hin rfl (by decide +kernel) rfl rfl (Nat.le_of_ble_eq_true rfl) dX4_init_85 (fun H locs hP hD hS => ?_)
  have hP : va_P D vwCl [(h, .inr (4, [.ref q7_1, .ref q15_2, .ref q23_3, .ref q31_4, .ref q39_5, .ref q47_6, .ref q55_7, .ref q62_8, .ref q69_9, .ref q76_10, .ref q83_11, .null, .int 0, .int 0, .int 0, .int 0, .int 0, .int 0, .int 0, .int 0])), (q7_1, .inl (kc 1, 24, .inr (.inl z1))), (q15_2, .inl (kc 0, 24, .inl z0)), (q23_3, .inl (kc 0, 24, .inl z0)), (q31_4, .inl (kc 0, 8, .inl z0)), (q39_5, .inl (kc 0, 8, .inl z0)), (q47_6, .inl (kc 0, 8, .inl z0)), (q55_7, .inl (kc 0, 8, .inl z0)), (q62_8, .inl (kc 0, 4, .inl z0)), (q69_9, .inl (kc 0, 4, .inl z0)), (q76_10, .inl (kc 0, 4, .inl z0)), (q83_11, .inl (kc 0, 4, .inl z0))] H := hP
  have hD : va_D A [(h, .inr (4, [.ref q7_1, .ref q15_2, .ref q23_3, .ref q31_4, .ref q39_5, .ref q47_6, .ref q55_7, .ref q62_8, .ref q69_9, .ref q76_10, .ref q83_11, .null, .int 0, .int 0, .int 0, .int 0, .int 0, .int 0, .int 0, .int 0])), (q7_1, .inl (kc 1, 24, .inr (.inl z1))), (q15_2, .inl (kc 0, 24, .inl z0)), (q23_3, .inl (kc 0, 24, .inl z0)), (q31_4, .inl (kc 0, 8, .inl z0)), (q39_5, .inl (kc 0, 8, .inl z0)), (q47_6, .inl (kc 0, 8, .inl z0)), (q55_7, .inl (kc 0, 8, .inl z0)), (q62_8, .inl (kc 0, 4, .inl z0)), (q69_9, .inl (kc 0, 4, .inl z0)), (q76_10, .inl (kc 0, 4, .inl z0)), (q83_11, .inl (kc 0, 4, .inl z0))] := hD
  refine lv_aload_n hx hb dX4_init_88 rfl (lv_at hl 0 rfl) ?_
  refine lv_iconst (v := 4) hx hb dX4_init_89 (by decide) ?_
  refine va_newa (atype := .int) (N' := 4) (a0 := (4, .inl z0)) hx hb (hts (.arrayClass .int) (List.mem_of_getElem? (i := 6) rfl)) rfl hK hP hD hS hA (fun _ => rfl) (by decide) (by decide) (Nat.le_of_ble_eq_true rfl) (Nat.le_of_ble_eq_true rfl) (Nat.le_of_ble_eq_true rfl) dX4_init_90 (fun q90_12 cA H hK1 hP hD hS => ?_)
  obtain rfl := tyl_I hK1
  have hP : va_P D vwCl [(h, .inr (4, [.ref q7_1, .ref q15_2, .ref q23_3, .ref q31_4, .ref q39_5, .ref q47_6, .ref q55_7, .ref q62_8, .ref q69_9, .ref q76_10, .ref q83_11, .null, .int 0, .int 0, .int 0, .int 0, .int 0, .int 0, .int 0, .int 0])), (q7_1, .inl (kc 1, 24, .inr (.inl z1))), (q15_2, .inl (kc 0, 24, .inl z0)), (q23_3, .inl (kc 0, 24, .inl z0)), (q31_4, .inl (kc 0, 8, .inl z0)), (q39_5, .inl (kc 0, 8, .inl z0)), (q47_6, .inl (kc 0, 8, .inl z0)), (q55_7, .inl (kc 0, 8, .inl z0)), (q62_8, .inl (kc 0, 4, .inl z0)), (q69_9, .inl (kc 0, 4, .inl z0)), (q76_10, .inl (kc 0, 4, .inl z0)), (q83_11, .inl (kc 0, 4, .inl z0)), (q90_12, .inl (kc 0, 4, .inl z0))] H := hP
  have hD : va_D A [(h, .inr (4, [.ref q7_1, .ref q15_2, .ref q23_3, .ref q31_4, .ref q39_5, .ref q47_6, .ref q55_7, .ref q62_8, .ref q69_9, .ref q76_10, .ref q83_11, .null, .int 0, .int 0, .int 0, .int 0, .int 0, .int 0, .int 0, .int 0])), (q7_1, .inl (kc 1, 24, .inr (.inl z1))), (q15_2, .inl (kc 0, 24, .inl z0)), (q23_3, .inl (kc 0, 24, .inl z0)), (q31_4, .inl (kc 0, 8, .inl z0)), (q39_5, .inl (kc 0, 8, .inl z0)), (q47_6, .inl (kc 0, 8, .inl z0)), (q55_7, .inl (kc 0, 8, .inl z0)), (q62_8, .inl (kc 0, 4, .inl z0)), (q69_9, .inl (kc 0, 4, .inl z0)), (q76_10, .inl (kc 0, 4, .inl z0)), (q83_11, .inl (kc 0, 4, .inl z0)), (q90_12, .inl (kc 0, 4, .inl z0))] := hD
  refine W.widen (k := 12) (n := 124) (Nat.le_of_ble_eq_true rfl) (Nat.le_of_ble_eq_true rfl) ?_
  refine va_putF (D := D) (ci := 4) (v := .ref q90_12) (ty := .array .int) (C := RX4) (T := TX4) (N := 20) hx hb hts ii_Plan_X4 tyX4 tyX4_ok nmX4 hown hK hP hD hS 0 rfl rfl 11 (by decide) (hts (.fieldLink RX4 46 "SaltStreet$Plan" "sweet" "[I") (List.mem_of_getElem? (i := 17) rfl)) (fun _ h9 => h9) rfl hin rfl (by decide +kernel) rfl rfl (Nat.le_of_ble_eq_true rfl) dX4_init_92 (fun H locs hP hD hS => ?_)
  have hP : va_P D vwCl [(h, .inr (4, [.ref q7_1, .ref q15_2, .ref q23_3, .ref q31_4, .ref q39_5, .ref q47_6, .ref q55_7, .ref q62_8, .ref q69_9, .ref q76_10, .ref q83_11, .ref q90_12, .int 0, .int 0, .int 0, .int 0, .int 0, .int 0, .int 0, .int 0])), (q7_1, .inl (kc 1, 24, .inr (.inl z1))), (q15_2, .inl (kc 0, 24, .inl z0)), (q23_3, .inl (kc 0, 24, .inl z0)), (q31_4, .inl (kc 0, 8, .inl z0)), (q39_5, .inl (kc 0, 8, .inl z0)), (q47_6, .inl (kc 0, 8, .inl z0)), (q55_7, .inl (kc 0, 8, .inl z0)), (q62_8, .inl (kc 0, 4, .inl z0)), (q69_9, .inl (kc 0, 4, .inl z0)), (q76_10, .inl (kc 0, 4, .inl z0)), (q83_11, .inl (kc 0, 4, .inl z0)), (q90_12, .inl (kc 0, 4, .inl z0))] H := hP
  have hD : va_D A [(h, .inr (4, [.ref q7_1, .ref q15_2, .ref q23_3, .ref q31_4, .ref q39_5, .ref q47_6, .ref q55_7, .ref q62_8, .ref q69_9, .ref q76_10, .ref q83_11, .ref q90_12, .int 0, .int 0, .int 0, .int 0, .int 0, .int 0, .int 0, .int 0])), (q7_1, .inl (kc 1, 24, .inr (.inl z1))), (q15_2, .inl (kc 0, 24, .inl z0)), (q23_3, .inl (kc 0, 24, .inl z0)), (q31_4, .inl (kc 0, 8, .inl z0)), (q39_5, .inl (kc 0, 8, .inl z0)), (q47_6, .inl (kc 0, 8, .inl z0)), (q55_7, .inl (kc 0, 8, .inl z0)), (q62_8, .inl (kc 0, 4, .inl z0)), (q69_9, .inl (kc 0, 4, .inl z0)), (q76_10, .inl (kc 0, 4, .inl z0)), (q83_11, .inl (kc 0, 4, .inl z0)), (q90_12, .inl (kc 0, 4, .inl z0))] := hD
  refine lv_aload_n hx hb dX4_init_95 rfl (lv_at hl 0 rfl) ?_
  refine lv_iconst (v := 5) hx hb dX4_init_96 (by decide) ?_
  refine va_put (D := D) (ci := 4) (v := .int 5) (ty := .int) (C := RX4) (T := TX4) (N := 20) hx hb hts ii_Plan_X4 tyX4 tyX4_ok nmX4 hown hK hP hD hS 0 rfl rfl 18 (by decide) (hts (.fieldLink RX4 49 "SaltStreet$Plan" "washes" "I") (List.mem_of_getElem? (i := 18) rfl)) (fun _ h9 => h9) rfl (by decide +kernel) rfl rfl (Nat.le_of_ble_eq_true rfl) dX4_init_97 (fun H locs hP hD hS => ?_)
  have hP : va_P D vwCl [(h, .inr (4, [.ref q7_1, .ref q15_2, .ref q23_3, .ref q31_4, .ref q39_5, .ref q47_6, .ref q55_7, .ref q62_8, .ref q69_9, .ref q76_10, .ref q83_11, .ref q90_12, .int 0, .int 0, .int 0, .int 0, .int 0, .int 0, .int 5, .int 0])), (q7_1, .inl (kc 1, 24, .inr (.inl z1))), (q15_2, .inl (kc 0, 24, .inl z0)), (q23_3, .inl (kc 0, 24, .inl z0)), (q31_4, .inl (kc 0, 8, .inl z0)), (q39_5, .inl (kc 0, 8, .inl z0)), (q47_6, .inl (kc 0, 8, .inl z0)), (q55_7, .inl (kc 0, 8, .inl z0)), (q62_8, .inl (kc 0, 4, .inl z0)), (q69_9, .inl (kc 0, 4, .inl z0)), (q76_10, .inl (kc 0, 4, .inl z0)), (q83_11, .inl (kc 0, 4, .inl z0)), (q90_12, .inl (kc 0, 4, .inl z0))] H := hP
  have hD : va_D A [(h, .inr (4, [.ref q7_1, .ref q15_2, .ref q23_3, .ref q31_4, .ref q39_5, .ref q47_6, .ref q55_7, .ref q62_8, .ref q69_9, .ref q76_10, .ref q83_11, .ref q90_12, .int 0, .int 0, .int 0, .int 0, .int 0, .int 0, .int 5, .int 0])), (q7_1, .inl (kc 1, 24, .inr (.inl z1))), (q15_2, .inl (kc 0, 24, .inl z0)), (q23_3, .inl (kc 0, 24, .inl z0)), (q31_4, .inl (kc 0, 8, .inl z0)), (q39_5, .inl (kc 0, 8, .inl z0)), (q47_6, .inl (kc 0, 8, .inl z0)), (q55_7, .inl (kc 0, 8, .inl z0)), (q62_8, .inl (kc 0, 4, .inl z0)), (q69_9, .inl (kc 0, 4, .inl z0)), (q76_10, .inl (kc 0, 4, .inl z0)), (q83_11, .inl (kc 0, 4, .inl z0)), (q90_12, .inl (kc 0, 4, .inl z0))] := hD
  have hP9 := hP.sub (ws' := [(h, .inr (4, [.ref q7_1, .ref q15_2, .ref q23_3, .ref q31_4, .ref q39_5, .ref q47_6, .ref q55_7, .ref q62_8, .ref q69_9, .ref q76_10, .ref q83_11, .ref q90_12, .int 0, .int 0, .int 0, .int 0, .int 0, .int 0, .int 5, .int 0])), (q7_1, .inl (kc 1, 24, .inr (.inl z1))), (q15_2, .inl (kc 0, 24, .inl z0)), (q23_3, .inl (kc 0, 24, .inl z0)), (q31_4, .inl (kc 0, 8, .inl z0)), (q39_5, .inl (kc 0, 8, .inl z0)), (q47_6, .inl (kc 0, 8, .inl z0)), (q55_7, .inl (kc 0, 8, .inl z0)), (q62_8, .inl (kc 0, 4, .inl z0)), (q69_9, .inl (kc 0, 4, .inl z0)), (q76_10, .inl (kc 0, 4, .inl z0)), (q83_11, .inl (kc 0, 4, .inl z0)), (q90_12, .inl (kc 0, 4, .inl z0))]) [0, 1, 2, 3, 4, 5, 6, 7, 8, 9, 10, 11, 12] rfl
  have hD9 := hD.sub (ws' := [(h, .inr (4, [.ref q7_1, .ref q15_2, .ref q23_3, .ref q31_4, .ref q39_5, .ref q47_6, .ref q55_7, .ref q62_8, .ref q69_9, .ref q76_10, .ref q83_11, .ref q90_12, .int 0, .int 0, .int 0, .int 0, .int 0, .int 0, .int 5, .int 0])), (q7_1, .inl (kc 1, 24, .inr (.inl z1))), (q15_2, .inl (kc 0, 24, .inl z0)), (q23_3, .inl (kc 0, 24, .inl z0)), (q31_4, .inl (kc 0, 8, .inl z0)), (q39_5, .inl (kc 0, 8, .inl z0)), (q47_6, .inl (kc 0, 8, .inl z0)), (q55_7, .inl (kc 0, 8, .inl z0)), (q62_8, .inl (kc 0, 4, .inl z0)), (q69_9, .inl (kc 0, 4, .inl z0)), (q76_10, .inl (kc 0, 4, .inl z0)), (q83_11, .inl (kc 0, 4, .inl z0)), (q90_12, .inl (kc 0, 4, .inl z0))]) [0, 1, 2, 3, 4, 5, 6, 7, 8, 9, 10, 11, 12] (by decide) rfl
  let wa : Nat → Nat := mkm [0, h, 0, 0, q7_1, q15_2, q23_3, q31_4, q39_5, q47_6, q55_7, q62_8, q69_9, q76_10, q83_11, q90_12]
  exact W.vret hx hb hr (fun t9 ht hW => ⟨⟨(), rfl, trivial, wa, rfl, by rw [ht]; exact hP9, hD9⟩, hS.F ht⟩) hS.2.2 dX4_init_100
theorem dX2_init_0 : decode cX2_init 0 = .ok (.aload_n 0, 1) := by decide +kernel
theorem dX2_init_1 : decode cX2_init 1 = .ok (.invokespecial 3, 3) := by decide +kernel
theorem dX2_init_4 : decode cX2_init 4 = .ok (.aload_n 0, 1) := by decide +kernel
theorem dX2_init_5 : decode cX2_init 5 = .ok (.bipush 8, 2) := by decide +kernel
theorem dX2_init_7 : decode cX2_init 7 = .ok (.newarray .int, 2) := by decide +kernel
theorem dX2_init_9 : decode cX2_init 9 = .ok (.putfield 9, 3) := by decide +kernel
theorem dX2_init_12 : decode cX2_init 12 = .ok (.aload_n 0, 1) := by decide +kernel
theorem dX2_init_13 : decode cX2_init 13 = .ok (.bipush 8, 2) := by decide +kernel
theorem dX2_init_15 : decode cX2_init 15 = .ok (.newarray .int, 2) := by decide +kernel
theorem dX2_init_17 : decode cX2_init 17 = .ok (.putfield 15, 3) := by decide +kernel
theorem dX2_init_20 : decode cX2_init 20 = .ok (.aload_n 0, 1) := by decide +kernel
theorem dX2_init_21 : decode cX2_init 21 = .ok (.bipush 8, 2) := by decide +kernel
theorem dX2_init_23 : decode cX2_init 23 = .ok (.newarray .int, 2) := by decide +kernel
theorem dX2_init_25 : decode cX2_init 25 = .ok (.putfield 18, 3) := by decide +kernel
theorem dX2_init_28 : decode cX2_init 28 = .ok (.aload_n 0, 1) := by decide +kernel
theorem dX2_init_29 : decode cX2_init 29 = .ok (.bipush 8, 2) := by decide +kernel
theorem dX2_init_31 : decode cX2_init 31 = .ok (.newarray .int, 2) := by decide +kernel
theorem dX2_init_33 : decode cX2_init 33 = .ok (.putfield 21, 3) := by decide +kernel
theorem dX2_init_36 : decode cX2_init 36 = .ok (.aload_n 0, 1) := by decide +kernel
theorem dX2_init_37 : decode cX2_init 37 = .ok (.iconst 4, 1) := by decide +kernel
theorem dX2_init_38 : decode cX2_init 38 = .ok (.newarray .int, 2) := by decide +kernel
theorem dX2_init_40 : decode cX2_init 40 = .ok (.putfield 24, 3) := by decide +kernel
theorem dX2_init_43 : decode cX2_init 43 = .ok (.return_, 1) := by decide +kernel
def vdi_Ground : List Cond := [.code yX2_init cX2_init 1 none, .methodLink RX2 3 objectInit, .instanceMethod objectInit, .code objectInit ⟨#[0xb1]⟩ 1 none, .arrayClass .int, .fieldLink RX2 9 "SaltStreet$Ground" "salt" "[I", .fieldLink RX2 15 "SaltStreet$Ground" "sugar" "[I", .fieldLink RX2 18 "SaltStreet$Ground" "snow" "[I", .fieldLink RX2 21 "SaltStreet$Ground" "war" "[I", .fieldLink RX2 24 "SaltStreet$Ground" "stock" "[I"]
def vi_Ground : List Cond := vdi_Ground ++ (wsX20 ++ ([] : List Cond))
theorem ii_Ground_X2 : ∀ w ∈ wsX20, w ∈ vi_Ground := fun _ h => List.mem_append_right _ (List.mem_append_left _ h)
set_option maxHeartbeats 4000000 in
set_option maxRecDepth 100000 in
theorem i_Ground (l : Launch) (D : va_G) (kc : Nat → ClassId) (sz : Nat) (h : Nat) : Met l yX2_init vi_Ground ({ frames := 1, cells := 5, slots := 36, locals := 12 }) (va_Pc [.ref h] (wPre D kc [(h, .inr (2, [.null, .null, .null, .null, .null, .int 0, .int 0, .int 0, .int 0, .int 0, .int 0, .int 0, .int 0]))] sz)) (va_Qv (fun (_ : Unit) => True) (fun (_ : Unit) (t9 : State) => ∃ wa : Nat → Nat, wa 2 = h ∧  va_P D vwCl [(wa 2, .inr (2, [.ref (wa 16), .ref (wa 17), .ref (wa 18), .ref (wa 19), .ref (wa 20), .int 0, .int 0, .int 0, .int 0, .int 0, .int 0, .int 0, .int 0])), (wa 16, .inl (kc 0, 8, .inl z0)), (wa 17, .inl (kc 0, 8, .inl z0)), (wa 18, .inl (kc 0, 8, .inl z0)), (wa 19, .inl (kc 0, 8, .inl z0)), (wa 20, .inl (kc 0, 4, .inl z0))] t9.heap ∧ va_D (va_A [(h, .inr (2, [.null, .null, .null, .null, .null, .int 0, .int 0, .int 0, .int 0, .int 0, .int 0, .int 0, .int 0]))] sz) [(wa 2, .inr (2, [.ref (wa 16), .ref (wa 17), .ref (wa 18), .ref (wa 19), .ref (wa 20), .int 0, .int 0, .int 0, .int 0, .int 0, .int 0, .int 0, .int 0])), (wa 16, .inl (kc 0, 8, .inl z0)), (wa 17, .inl (kc 0, 8, .inl z0)), (wa 18, .inl (kc 0, 8, .inl z0)), (wa 19, .inl (kc 0, 8, .inl z0)), (wa 20, .inl (kc 0, 4, .inl z0))]) (va_A [(h, .inr (2, [.null, .null, .null, .null, .null, .int 0, .int 0, .int 0, .int 0, .int 0, .int 0, .int 0, .int 0]))] sz)) 5 36 (va_A [(h, .inr (2, [.null, .null, .null, .null, .null, .int 0, .int 0, .int 0, .int 0, .int 0, .int 0, .int 0, .int 0]))] sz) := by
  refine Met.ofW (cc := cX2_init) (maxL := 1) (ret := none) (by decide) rfl ?_
  intro p e s m args below meth c s₁ B hml hv
  obtain ⟨rfl, hsz, hP, hE, hD0⟩ := hv
  have hx := B.exec
  have hb := B.bytes
  have hr := B.returns
  have hts := atoms_spec (ws := vi_Ground) B.pre
  have hown : s.vm.findClass RX2 = some m.cls := findClass_of_methodNamed B.named
  have hlocks := B.notSynchronized
  have hin : meth.name = "<init>" := (name_of_methodNamed B.named B.method).1
  subst hsz
  have hD := hD0.self (sz := s.heap.size)
  generalize hAe : va_A [(h, .inr (2, [.null, .null, .null, .null, .null, .int 0, .int 0, .int 0, .int 0, .int 0, .int 0, .int 0, .int 0]))] s.heap.size = A at hD ⊢
  have hA : ∀ q : Nat, s.heap.size ≤ q → A q := fun q h => by rw [← hAe]; exact Or.inr h
  have hS : va_S A s.heap s.heap [] := va_S.rf
  have hK := hE.1
  have hP : va_P D vwCl [(h, .inr (2, [.null, .null, .null, .null, .null, .int 0, .int 0, .int 0, .int 0, .int 0, .int 0, .int 0, .int 0]))] s.heap := hP
  have hl := lv_entry ([.ref h]) (n := 1) (Nat.le_of_ble_eq_true rfl)
  rw [lg_entry_eq]
  generalize (lg_sl ([.ref h]) ++ List.replicate (1 - (lg_sl ([.ref h])).length) Slot.unset).toArray = ls at hl ⊢
  have hl : lv_has ls 1 [(0, .ref h)] := hl
  refine lv_aload_n hx hb dX2_init_0 rfl (lv_at hl 0 rfl) ?_
  refine W.objInit hx hb hown (hts (.methodLink RX2 3 objectInit) (List.mem_of_getElem? (i := 1) rfl)) (hts (.instanceMethod objectInit) (List.mem_of_getElem? (i := 2) rfl)) (hts (.code objectInit ⟨#[0xb1]⟩ 1 none) (List.mem_of_getElem? (i := 3) rfl)) rfl (by rw [hml]; exact hl.1) rfl dX2_init_1 (Nat.le_of_ble_eq_true rfl) (Nat.le_of_ble_eq_true rfl) ?_
  refine W.eq (g2 := F0 m 4 ls []) rfl ?_
  refine lv_aload_n hx hb dX2_init_4 rfl (lv_at hl 0 rfl) ?_
  refine lv_bipush (v := 8) hx hb dX2_init_5 (by decide) ?_
  refine va_newa (atype := .int) (N' := 8) (a0 := (8, .inl z0)) hx hb (hts (.arrayClass .int) (List.mem_of_getElem? (i := 4) rfl)) rfl hK hP hD hS hA (fun _ => rfl) (by decide) (by decide) (Nat.le_of_ble_eq_true rfl) (Nat.le_of_ble_eq_true rfl) (Nat.le_of_ble_eq_true rfl) dX2_init_7 (fun q7_1 cA H hK1 hP hD hS => ?_)
  obtain rfl := tyl_I hK1
  have hP : va_P D vwCl [(h, .inr (2, [.null, .null, .null, .null, .null, .int 0, .int 0, .int 0, .int 0, .int 0, .int 0, .int 0, .int 0])), (q7_1, .inl (kc 0, 8, .inl z0))] H := hP
  have hD : va_D A [(h, .inr (2, [.null, .null, .null, .null, .null, .int 0, .int 0, .int 0, .int 0, .int 0, .int 0, .int 0, .int 0])), (q7_1, .inl (kc 0, 8, .inl z0))] := hD
  refine W.widen (k := 1) (n := 8) (Nat.le_of_ble_eq_true rfl) (Nat.le_of_ble_eq_true rfl) ?_
  refine va_putF (D := D) (ci := 2) (v := .ref q7_1) (ty := .array .int) (C := RX2) (T := TX2) (N := 13) hx hb hts ii_Ground_X2 tyX2 tyX2_ok nmX2 hown hK hP hD hS 0 rfl rfl 0 (by decide) (hts (.fieldLink RX2 9 "SaltStreet$Ground" "salt" "[I") (List.mem_of_getElem? (i := 5) rfl)) (fun _ h9 => h9) rfl hin rfl (by decide +kernel) rfl rfl (Nat.le_of_ble_eq_true rfl) dX2_init_9 (fun H locs hP hD hS => ?_)
  have hP : va_P D vwCl [(h, .inr (2, [.ref q7_1, .null, .null, .null, .null, .int 0, .int 0, .int 0, .int 0, .int 0, .int 0, .int 0, .int 0])), (q7_1, .inl (kc 0, 8, .inl z0))] H := hP
  have hD : va_D A [(h, .inr (2, [.ref q7_1, .null, .null, .null, .null, .int 0, .int 0, .int 0, .int 0, .int 0, .int 0, .int 0, .int 0])), (q7_1, .inl (kc 0, 8, .inl z0))] := hD
  refine lv_aload_n hx hb dX2_init_12 rfl (lv_at hl 0 rfl) ?_
  refine lv_bipush (v := 8) hx hb dX2_init_13 (by decide) ?_
  refine va_newa (atype := .int) (N' := 8) (a0 := (8, .inl z0)) hx hb (hts (.arrayClass .int) (List.mem_of_getElem? (i := 4) rfl)) rfl hK hP hD hS hA (fun _ => rfl) (by decide) (by decide) (Nat.le_of_ble_eq_true rfl) (Nat.le_of_ble_eq_true rfl) (Nat.le_of_ble_eq_true rfl) dX2_init_15 (fun q15_2 cA H hK1 hP hD hS => ?_)
  obtain rfl := tyl_I hK1
  have hP : va_P D vwCl [(h, .inr (2, [.ref q7_1, .null, .null, .null, .null, .int 0, .int 0, .int 0, .int 0, .int 0, .int 0, .int 0, .int 0])), (q7_1, .inl (kc 0, 8, .inl z0)), (q15_2, .inl (kc 0, 8, .inl z0))] H := hP
  have hD : va_D A [(h, .inr (2, [.ref q7_1, .null, .null, .null, .null, .int 0, .int 0, .int 0, .int 0, .int 0, .int 0, .int 0, .int 0])), (q7_1, .inl (kc 0, 8, .inl z0)), (q15_2, .inl (kc 0, 8, .inl z0))] := hD
  refine W.widen (k := 2) (n := 16) (Nat.le_of_ble_eq_true rfl) (Nat.le_of_ble_eq_true rfl) ?_
  refine va_putF (D := D) (ci := 2) (v := .ref q15_2) (ty := .array .int) (C := RX2) (T := TX2) (N := 13) hx hb hts ii_Ground_X2 tyX2 tyX2_ok nmX2 hown hK hP hD hS 0 rfl rfl 1 (by decide) (hts (.fieldLink RX2 15 "SaltStreet$Ground" "sugar" "[I") (List.mem_of_getElem? (i := 6) rfl)) (fun _ h9 => h9) rfl hin rfl (by decide +kernel) rfl rfl (Nat.le_of_ble_eq_true rfl) dX2_init_17 (fun H locs hP hD hS => ?_)
  have hP : va_P D vwCl [(h, .inr (2, [.ref q7_1, .ref q15_2, .null, .null, .null, .int 0, .int 0, .int 0, .int 0, .int 0, .int 0, .int 0, .int 0])), (q7_1, .inl (kc 0, 8, .inl z0)), (q15_2, .inl (kc 0, 8, .inl z0))] H := hP
  have hD : va_D A [(h, .inr (2, [.ref q7_1, .ref q15_2, .null, .null, .null, .int 0, .int 0, .int 0, .int 0, .int 0, .int 0, .int 0, .int 0])), (q7_1, .inl (kc 0, 8, .inl z0)), (q15_2, .inl (kc 0, 8, .inl z0))] := hD
  refine lv_aload_n hx hb dX2_init_20 rfl (lv_at hl 0 rfl) ?_
  refine lv_bipush (v := 8) hx hb dX2_init_21 (by decide) ?_
  refine va_newa (atype := .int) (N' := 8) (a0 := (8, .inl z0)) hx hb (hts (.arrayClass .int) (List.mem_of_getElem? (i := 4) rfl)) rfl hK hP hD hS hA (fun _ => rfl) (by decide) (by decide) (Nat.le_of_ble_eq_true rfl) (Nat.le_of_ble_eq_true rfl) (Nat.le_of_ble_eq_true rfl) dX2_init_23 (fun q23_3 cA H hK1 hP hD hS => ?_)
  obtain rfl := tyl_I hK1
  have hP : va_P D vwCl [(h, .inr (2, [.ref q7_1, .ref q15_2, .null, .null, .null, .int 0, .int 0, .int 0, .int 0, .int 0, .int 0, .int 0, .int 0])), (q7_1, .inl (kc 0, 8, .inl z0)), (q15_2, .inl (kc 0, 8, .inl z0)), (q23_3, .inl (kc 0, 8, .inl z0))] H := hP
  have hD : va_D A [(h, .inr (2, [.ref q7_1, .ref q15_2, .null, .null, .null, .int 0, .int 0, .int 0, .int 0, .int 0, .int 0, .int 0, .int 0])), (q7_1, .inl (kc 0, 8, .inl z0)), (q15_2, .inl (kc 0, 8, .inl z0)), (q23_3, .inl (kc 0, 8, .inl z0))] := hD
  refine W.widen (k := 3) (n := 24) (Nat.le_of_ble_eq_true rfl) (Nat.le_of_ble_eq_true rfl) ?_
  refine va_putF (D := D) (ci := 2) (v := .ref q23_3) (ty := .array .int) (C := RX2) (T := TX2) (N := 13) hx hb hts ii_Ground_X2 tyX2 tyX2_ok nmX2 hown hK hP hD hS 0 rfl rfl 2 (by decide) (hts (.fieldLink RX2 18 "SaltStreet$Ground" "snow" "[I") (List.mem_of_getElem? (i := 7) rfl)) (fun _ h9 => h9) rfl hin rfl (by decide +kernel) rfl rfl (Nat.le_of_ble_eq_true rfl) dX2_init_25 (fun H locs hP hD hS => ?_)
  have hP : va_P D vwCl [(h, .inr (2, [.ref q7_1, .ref q15_2, .ref q23_3, .null, .null, .int 0, .int 0, .int 0, .int 0, .int 0, .int 0, .int 0, .int 0])), (q7_1, .inl (kc 0, 8, .inl z0)), (q15_2, .inl (kc 0, 8, .inl z0)), (q23_3, .inl (kc 0, 8, .inl z0))] H := hP
  have hD : va_D A [(h, .inr (2, [.ref q7_1, .ref q15_2, .ref q23_3, .null, .null, .int 0, .int 0, .int 0, .int 0, .int 0, .int 0, .int 0, .int 0])), (q7_1, .inl (kc 0, 8, .inl z0)), (q15_2, .inl (kc 0, 8, .inl z0)), (q23_3, .inl (kc 0, 8, .inl z0))] := hD
  refine lv_aload_n hx hb dX2_init_28 rfl (lv_at hl 0 rfl) ?_
  refine lv_bipush (v := 8) hx hb dX2_init_29 (by decide) ?_
  refine va_newa (atype := .int) (N' := 8) (a0 := (8, .inl z0)) hx hb (hts (.arrayClass .int) (List.mem_of_getElem? (i := 4) rfl)) rfl hK hP hD hS hA (fun _ => rfl) (by decide) (by decide) (Nat.le_of_ble_eq_true rfl) (Nat.le_of_ble_eq_true rfl) (Nat.le_of_ble_eq_true rfl) dX2_init_31 (fun q31_4 cA H hK1 hP hD hS => ?_)
  obtain rfl := tyl_I hK1
  have hP : va_P D vwCl [(h, .inr (2, [.ref q7_1, .ref q15_2, .ref q23_3, .null, .null, .int 0, .int 0, .int 0, .int 0, .int 0, .int 0, .int 0, .int 0])), (q7_1, .inl (kc 0, 8, .inl z0)), (q15_2, .inl (kc 0, 8, .inl z0)), (q23_3, .inl (kc 0, 8, .inl z0)), (q31_4, .inl (kc 0, 8, .inl z0))] H := hP
  have hD : va_D A [(h, .inr (2, [.ref q7_1, .ref q15_2, .ref q23_3, .null, .null, .int 0, .int 0, .int 0, .int 0, .int 0, .int 0, .int 0, .int 0])), (q7_1, .inl (kc 0, 8, .inl z0)), (q15_2, .inl (kc 0, 8, .inl z0)), (q23_3, .inl (kc 0, 8, .inl z0)), (q31_4, .inl (kc 0, 8, .inl z0))] := hD
  refine W.widen (k := 4) (n := 32) (Nat.le_of_ble_eq_true rfl) (Nat.le_of_ble_eq_true rfl) ?_
  refine va_putF (D := D) (ci := 2) (v := .ref q31_4) (ty := .array .int) (C := RX2) (T := TX2) (N := 13) hx hb hts ii_Ground_X2 tyX2 tyX2_ok nmX2 hown hK hP hD hS 0 rfl rfl 3 (by decide) (hts (.fieldLink RX2 21 "SaltStreet$Ground" "war" "[I") (List.mem_of_getElem? (i := 8) rfl)) (fun _ h9 => h9) rfl hin rfl (by decide +kernel) rfl rfl (Nat.le_of_ble_eq_true rfl) dX2_init_33 (fun H locs hP hD hS => ?_)
  have hP : va_P D vwCl [(h, .inr (2, [.ref q7_1, .ref q15_2, .ref q23_3, .ref q31_4, .null, .int 0, .int 0, .int 0, .int 0, .int 0, .int 0, .int 0, .int 0])), (q7_1, .inl (kc 0, 8, .inl z0)), (q15_2, .inl (kc 0, 8, .inl z0)), (q23_3, .inl (kc 0, 8, .inl z0)), (q31_4, .inl (kc 0, 8, .inl z0))] H := hP
  have hD : va_D A [(h, .inr (2, [.ref q7_1, .ref q15_2, .ref q23_3, .ref q31_4, .null, .int 0, .int 0, .int 0, .int 0, .int 0, .int 0, .int 0, .int 0])), (q7_1, .inl (kc 0, 8, .inl z0)), (q15_2, .inl (kc 0, 8, .inl z0)), (q23_3, .inl (kc 0, 8, .inl z0)), (q31_4, .inl (kc 0, 8, .inl z0))] := hD
  refine lv_aload_n hx hb dX2_init_36 rfl (lv_at hl 0 rfl) ?_
  refine lv_iconst (v := 4) hx hb dX2_init_37 (by decide) ?_
  refine va_newa (atype := .int) (N' := 4) (a0 := (4, .inl z0)) hx hb (hts (.arrayClass .int) (List.mem_of_getElem? (i := 4) rfl)) rfl hK hP hD hS hA (fun _ => rfl) (by decide) (by decide) (Nat.le_of_ble_eq_true rfl) (Nat.le_of_ble_eq_true rfl) (Nat.le_of_ble_eq_true rfl) dX2_init_38 (fun q38_5 cA H hK1 hP hD hS => ?_)
  obtain rfl := tyl_I hK1
  have hP : va_P D vwCl [(h, .inr (2, [.ref q7_1, .ref q15_2, .ref q23_3, .ref q31_4, .null, .int 0, .int 0, .int 0, .int 0, .int 0, .int 0, .int 0, .int 0])), (q7_1, .inl (kc 0, 8, .inl z0)), (q15_2, .inl (kc 0, 8, .inl z0)), (q23_3, .inl (kc 0, 8, .inl z0)), (q31_4, .inl (kc 0, 8, .inl z0)), (q38_5, .inl (kc 0, 4, .inl z0))] H := hP
  have hD : va_D A [(h, .inr (2, [.ref q7_1, .ref q15_2, .ref q23_3, .ref q31_4, .null, .int 0, .int 0, .int 0, .int 0, .int 0, .int 0, .int 0, .int 0])), (q7_1, .inl (kc 0, 8, .inl z0)), (q15_2, .inl (kc 0, 8, .inl z0)), (q23_3, .inl (kc 0, 8, .inl z0)), (q31_4, .inl (kc 0, 8, .inl z0)), (q38_5, .inl (kc 0, 4, .inl z0))] := hD
  refine W.widen (k := 5) (n := 36) (Nat.le_of_ble_eq_true rfl) (Nat.le_of_ble_eq_true rfl) ?_
  refine va_putF (D := D) (ci := 2) (v := .ref q38_5) (ty := .array .int) (C := RX2) (T := TX2) (N := 13) hx hb hts ii_Ground_X2 tyX2 tyX2_ok nmX2 hown hK hP hD hS 0 rfl rfl 4 (by decide) (hts (.fieldLink RX2 24 "SaltStreet$Ground" "stock" "[I") (List.mem_of_getElem? (i := 9) rfl)) (fun _ h9 => h9) rfl hin rfl (by decide +kernel) rfl rfl (Nat.le_of_ble_eq_true rfl) dX2_init_40 (fun H locs hP hD hS => ?_)
  have hP : va_P D vwCl [(h, .inr (2, [.ref q7_1, .ref q15_2, .ref q23_3, .ref q31_4, .ref q38_5, .int 0, .int 0, .int 0, .int 0, .int 0, .int 0, .int 0, .int 0])), (q7_1, .inl (kc 0, 8, .inl z0)), (q15_2, .inl (kc 0, 8, .inl z0)), (q23_3, .inl (kc 0, 8, .inl z0)), (q31_4, .inl (kc 0, 8, .inl z0)), (q38_5, .inl (kc 0, 4, .inl z0))] H := hP
  have hD : va_D A [(h, .inr (2, [.ref q7_1, .ref q15_2, .ref q23_3, .ref q31_4, .ref q38_5, .int 0, .int 0, .int 0, .int 0, .int 0, .int 0, .int 0, .int 0])), (q7_1, .inl (kc 0, 8, .inl z0)), (q15_2, .inl (kc 0, 8, .inl z0)), (q23_3, .inl (kc 0, 8, .inl z0)), (q31_4, .inl (kc 0, 8, .inl z0)), (q38_5, .inl (kc 0, 4, .inl z0))] := hD
  have hP9 := hP.sub (ws' := [(h, .inr (2, [.ref q7_1, .ref q15_2, .ref q23_3, .ref q31_4, .ref q38_5, .int 0, .int 0, .int 0, .int 0, .int 0, .int 0, .int 0, .int 0])), (q7_1, .inl (kc 0, 8, .inl z0)), (q15_2, .inl (kc 0, 8, .inl z0)), (q23_3, .inl (kc 0, 8, .inl z0)), (q31_4, .inl (kc 0, 8, .inl z0)), (q38_5, .inl (kc 0, 4, .inl z0))]) [0, 1, 2, 3, 4, 5] rfl
  have hD9 := hD.sub (ws' := [(h, .inr (2, [.ref q7_1, .ref q15_2, .ref q23_3, .ref q31_4, .ref q38_5, .int 0, .int 0, .int 0, .int 0, .int 0, .int 0, .int 0, .int 0])), (q7_1, .inl (kc 0, 8, .inl z0)), (q15_2, .inl (kc 0, 8, .inl z0)), (q23_3, .inl (kc 0, 8, .inl z0)), (q31_4, .inl (kc 0, 8, .inl z0)), (q38_5, .inl (kc 0, 4, .inl z0))]) [0, 1, 2, 3, 4, 5] (by decide) rfl
  let wa : Nat → Nat := mkm [0, 0, h, 0, 0, 0, 0, 0, 0, 0, 0, 0, 0, 0, 0, 0, q7_1, q15_2, q23_3, q31_4, q38_5]
  exact W.vret hx hb hr (fun t9 ht hW => ⟨⟨(), rfl, trivial, wa, rfl, by rw [ht]; exact hP9, hD9⟩, hS.F ht⟩) hS.2.2 dX2_init_43
theorem dX5_init_0 : decode cX5_init 0 = .ok (.aload_n 0, 1) := by decide +kernel
theorem dX5_init_1 : decode cX5_init 1 = .ok (.invokespecial 3, 3) := by decide +kernel
theorem dX5_init_4 : decode cX5_init 4 = .ok (.aload_n 0, 1) := by decide +kernel
theorem dX5_init_5 : decode cX5_init 5 = .ok (.bipush 60, 2) := by decide +kernel
theorem dX5_init_7 : decode cX5_init 7 = .ok (.newarray .int, 2) := by decide +kernel
theorem dX5_init_9 : decode cX5_init 9 = .ok (.putfield 9, 3) := by decide +kernel
theorem dX5_init_12 : decode cX5_init 12 = .ok (.aload_n 0, 1) := by decide +kernel
theorem dX5_init_13 : decode cX5_init 13 = .ok (.bipush 60, 2) := by decide +kernel
theorem dX5_init_15 : decode cX5_init 15 = .ok (.newarray .int, 2) := by decide +kernel
theorem dX5_init_17 : decode cX5_init 17 = .ok (.putfield 15, 3) := by decide +kernel
theorem dX5_init_20 : decode cX5_init 20 = .ok (.aload_n 0, 1) := by decide +kernel
theorem dX5_init_21 : decode cX5_init 21 = .ok (.bipush 60, 2) := by decide +kernel
theorem dX5_init_23 : decode cX5_init 23 = .ok (.newarray .int, 2) := by decide +kernel
theorem dX5_init_25 : decode cX5_init 25 = .ok (.putfield 18, 3) := by decide +kernel
theorem dX5_init_28 : decode cX5_init 28 = .ok (.aload_n 0, 1) := by decide +kernel
theorem dX5_init_29 : decode cX5_init 29 = .ok (.bipush 60, 2) := by decide +kernel
theorem dX5_init_31 : decode cX5_init 31 = .ok (.newarray .int, 2) := by decide +kernel
theorem dX5_init_33 : decode cX5_init 33 = .ok (.putfield 21, 3) := by decide +kernel
theorem dX5_init_36 : decode cX5_init 36 = .ok (.aload_n 0, 1) := by decide +kernel
theorem dX5_init_37 : decode cX5_init 37 = .ok (.bipush 60, 2) := by decide +kernel
theorem dX5_init_39 : decode cX5_init 39 = .ok (.newarray .int, 2) := by decide +kernel
theorem dX5_init_41 : decode cX5_init 41 = .ok (.putfield 24, 3) := by decide +kernel
theorem dX5_init_44 : decode cX5_init 44 = .ok (.aload_n 0, 1) := by decide +kernel
theorem dX5_init_45 : decode cX5_init 45 = .ok (.bipush 60, 2) := by decide +kernel
theorem dX5_init_47 : decode cX5_init 47 = .ok (.newarray .int, 2) := by decide +kernel
theorem dX5_init_49 : decode cX5_init 49 = .ok (.putfield 27, 3) := by decide +kernel
theorem dX5_init_52 : decode cX5_init 52 = .ok (.return_, 1) := by decide +kernel
def vdi_Program : List Cond := [.code yX5_init cX5_init 1 none, .methodLink RX5 3 objectInit, .instanceMethod objectInit, .code objectInit ⟨#[0xb1]⟩ 1 none, .arrayClass .int, .fieldLink RX5 9 "SaltStreet$Program" "word" "[I", .fieldLink RX5 15 "SaltStreet$Program" "thing" "[I", .fieldLink RX5 18 "SaltStreet$Program" "number" "[I", .fieldLink RX5 21 "SaltStreet$Program" "house" "[I", .fieldLink RX5 24 "SaltStreet$Program" "test" "[I", .fieldLink RX5 27 "SaltStreet$Program" "partner" "[I"]
def vi_Program : List Cond := vdi_Program ++ (wsX50 ++ ([] : List Cond))
theorem ii_Program_X5 : ∀ w ∈ wsX50, w ∈ vi_Program := fun _ h => List.mem_append_right _ (List.mem_append_left _ h)
set_option maxHeartbeats 4000000 in
set_option maxRecDepth 100000 in
theorem i_Program (l : Launch) (D : va_G) (kc : Nat → ClassId) (sz : Nat) (h : Nat) : Met l yX5_init vi_Program ({ frames := 1, cells := 6, slots := 360, locals := 12 }) (va_Pc [.ref h] (wPre D kc [(h, .inr (5, [.null, .null, .null, .null, .null, .null, .int 0, .int 0, .int 0]))] sz)) (va_Qv (fun (_ : Unit) => True) (fun (_ : Unit) (t9 : State) => ∃ wa : Nat → Nat, wa 3 = h ∧  va_P D vwCl [(wa 3, .inr (5, [.ref (wa 21), .ref (wa 22), .ref (wa 23), .ref (wa 24), .ref (wa 25), .ref (wa 26), .int 0, .int 0, .int 0])), (wa 21, .inl (kc 0, 60, .inl z0)), (wa 22, .inl (kc 0, 60, .inl z0)), (wa 23, .inl (kc 0, 60, .inl z0)), (wa 24, .inl (kc 0, 60, .inl z0)), (wa 25, .inl (kc 0, 60, .inl z0)), (wa 26, .inl (kc 0, 60, .inl z0))] t9.heap ∧ va_D (va_A [(h, .inr (5, [.null, .null, .null, .null, .null, .null, .int 0, .int 0, .int 0]))] sz) [(wa 3, .inr (5, [.ref (wa 21), .ref (wa 22), .ref (wa 23), .ref (wa 24), .ref (wa 25), .ref (wa 26), .int 0, .int 0, .int 0])), (wa 21, .inl (kc 0, 60, .inl z0)), (wa 22, .inl (kc 0, 60, .inl z0)), (wa 23, .inl (kc 0, 60, .inl z0)), (wa 24, .inl (kc 0, 60, .inl z0)), (wa 25, .inl (kc 0, 60, .inl z0)), (wa 26, .inl (kc 0, 60, .inl z0))]) (va_A [(h, .inr (5, [.null, .null, .null, .null, .null, .null, .int 0, .int 0, .int 0]))] sz)) 6 360 (va_A [(h, .inr (5, [.null, .null, .null, .null, .null, .null, .int 0, .int 0, .int 0]))] sz) := by
  refine Met.ofW (cc := cX5_init) (maxL := 1) (ret := none) (by decide) rfl ?_
  intro p e s m args below meth c s₁ B hml hv
  obtain ⟨rfl, hsz, hP, hE, hD0⟩ := hv
  have hx := B.exec
  have hb := B.bytes
  have hr := B.returns
  have hts := atoms_spec (ws := vi_Program) B.pre
  have hown : s.vm.findClass RX5 = some m.cls := findClass_of_methodNamed B.named
  have hlocks := B.notSynchronized
  have hin : meth.name = "<init>" := (name_of_methodNamed B.named B.method).1
  subst hsz
  have hD := hD0.self (sz := s.heap.size)
  generalize hAe : va_A [(h, .inr (5, [.null, .null, .null, .null, .null, .null, .int 0, .int 0, .int 0]))] s.heap.size = A at hD ⊢
  have hA : ∀ q : Nat, s.heap.size ≤ q → A q := fun q h => by rw [← hAe]; exact Or.inr h
  have hS : va_S A s.heap s.heap [] := va_S.rf
  have hK := hE.1
  have hP : va_P D vwCl [(h, .inr (5, [.null, .null, .null, .null, .null, .null, .int 0, .int 0, .int 0]))] s.heap := hP
  have hl := lv_entry ([.ref h]) (n := 1) (Nat.le_of_ble_eq_true rfl)
  rw [lg_entry_eq]
  generalize (lg_sl ([.ref h]) ++ List.replicate (1 - (lg_sl ([.ref h])).length) Slot.unset).toArray = ls at hl ⊢
  have hl : lv_has ls 1 [(0, .ref h)] := hl
  refine lv_aload_n hx hb dX5_init_0 rfl (lv_at hl 0 rfl) ?_
  refine W.objInit hx hb hown (hts (.methodLink RX5 3 objectInit) (List.mem_of_getElem? (i := 1) rfl)) (hts (.instanceMethod objectInit) (List.mem_of_getElem? (i := 2) rfl)) (hts (.code objectInit ⟨#[0xb1]⟩ 1 none) (List.mem_of_getElem? (i := 3) rfl)) rfl (by rw [hml]; exact hl.1) rfl dX5_init_1 (Nat.le_of_ble_eq_true rfl) (Nat.le_of_ble_eq_true rfl) ?_
  refine W.eq (g2 := F0 m 4 ls []) rfl ?_
  refine lv_aload_n hx hb dX5_init_4 rfl (lv_at hl 0 rfl) ?_
  refine lv_bipush (v := 60) hx hb dX5_init_5 (by decide) ?_
  refine va_newa (atype := .int) (N' := 60) (a0 := (60, .inl z0)) hx hb (hts (.arrayClass .int) (List.mem_of_getElem? (i := 4) rfl)) rfl hK hP hD hS hA (fun _ => rfl) (by decide) (by decide) (Nat.le_of_ble_eq_true rfl) (Nat.le_of_ble_eq_true rfl) (Nat.le_of_ble_eq_true rfl) dX5_init_7 (fun q7_1 cA H hK1 hP hD hS => ?_)
  obtain rfl := tyl_I hK1
  have hP : va_P D vwCl [(h, .inr (5, [.null, .null, .null, .null, .null, .null, .int 0, .int 0, .int 0])), (q7_1, .inl (kc 0, 60, .inl z0))] H := hP
  have hD : va_D A [(h, .inr (5, [.null, .null, .null, .null, .null, .null, .int 0, .int 0, .int 0])), (q7_1, .inl (kc 0, 60, .inl z0))] := hD
  refine W.widen (k := 1) (n := 60) (Nat.le_of_ble_eq_true rfl) (Nat.le_of_ble_eq_true rfl) ?_
  refine va_putF (D := D) (ci := 5) (v := .ref q7_1) (ty := .array .int) (C := RX5) (T := TX5) (N := 9) hx hb hts ii_Program_X5 tyX5 tyX5_ok nmX5 hown hK hP hD hS 0 rfl rfl 0 (by decide) (hts (.fieldLink RX5 9 "SaltStreet$Program" "word" "[I") (List.mem_of_getElem? (i := 5) rfl)) (fun _ h9 => h9) rfl hin rfl (by decide +kernel) rfl rfl (Nat.le_of_ble_eq_true rfl) dX5_init_9 (fun H locs hP hD hS => ?_)
  have hP : va_P D vwCl [(h, .inr (5, [.ref q7_1, .null, .null, .null, .null, .null, .int 0, .int 0, .int 0])), (q7_1, .inl (kc 0, 60, .inl z0))] H := hP
  have hD : va_D A [(h, .inr (5, [.ref q7_1, .null, .null, .null, .null, .null, .int 0, .int 0, .int 0])), (q7_1, .inl (kc 0, 60, .inl z0))] := hD
  refine lv_aload_n hx hb dX5_init_12 rfl (lv_at hl 0 rfl) ?_
  refine lv_bipush (v := 60) hx hb dX5_init_13 (by decide) ?_
  refine va_newa (atype := .int) (N' := 60) (a0 := (60, .inl z0)) hx hb (hts (.arrayClass .int) (List.mem_of_getElem? (i := 4) rfl)) rfl hK hP hD hS hA (fun _ => rfl) (by decide) (by decide) (Nat.le_of_ble_eq_true rfl) (Nat.le_of_ble_eq_true rfl) (Nat.le_of_ble_eq_true rfl) dX5_init_15 (fun q15_2 cA H hK1 hP hD hS => ?_)
  obtain rfl := tyl_I hK1
  have hP : va_P D vwCl [(h, .inr (5, [.ref q7_1, .null, .null, .null, .null, .null, .int 0, .int 0, .int 0])), (q7_1, .inl (kc 0, 60, .inl z0)), (q15_2, .inl (kc 0, 60, .inl z0))] H := hP
  have hD : va_D A [(h, .inr (5, [.ref q7_1, .null, .null, .null, .null, .null, .int 0, .int 0, .int 0])), (q7_1, .inl (kc 0, 60, .inl z0)), (q15_2, .inl (kc 0, 60, .inl z0))] := hD
  refine W.widen (k := 2) (n := 120) (Nat.le_of_ble_eq_true rfl) (Nat.le_of_ble_eq_true rfl) ?_
  refine va_putF (D := D) (ci := 5) (v := .ref q15_2) (ty := .array .int) (C := RX5) (T := TX5) (N := 9) hx hb hts ii_Program_X5 tyX5 tyX5_ok nmX5 hown hK hP hD hS 0 rfl rfl 1 (by decide) (hts (.fieldLink RX5 15 "SaltStreet$Program" "thing" "[I") (List.mem_of_getElem? (i := 6) rfl)) (fun _ h9 => h9) rfl hin rfl (by decide +kernel) rfl rfl (Nat.le_of_ble_eq_true rfl) dX5_init_17 (fun H locs hP hD hS => ?_)
  have hP : va_P D vwCl [(h, .inr (5, [.ref q7_1, .ref q15_2, .null, .null, .null, .null, .int 0, .int 0, .int 0])), (q7_1, .inl (kc 0, 60, .inl z0)), (q15_2, .inl (kc 0, 60, .inl z0))] H := hP
  have hD : va_D A [(h, .inr (5, [.ref q7_1, .ref q15_2, .null, .null, .null, .null, .int 0, .int 0, .int 0])), (q7_1, .inl (kc 0, 60, .inl z0)), (q15_2, .inl (kc 0, 60, .inl z0))] := hD
  refine lv_aload_n hx hb dX5_init_20 rfl (lv_at hl 0 rfl) ?_
  refine lv_bipush (v := 60) hx hb dX5_init_21 (by decide) ?_
  refine va_newa (atype := .int) (N' := 60) (a0 := (60, .inl z0)) hx hb (hts (.arrayClass .int) (List.mem_of_getElem? (i := 4) rfl)) rfl hK hP hD hS hA (fun _ => rfl) (by decide) (by decide) (Nat.le_of_ble_eq_true rfl) (Nat.le_of_ble_eq_true rfl) (Nat.le_of_ble_eq_true rfl) dX5_init_23 (fun q23_3 cA H hK1 hP hD hS => ?_)
  obtain rfl := tyl_I hK1
  have hP : va_P D vwCl [(h, .inr (5, [.ref q7_1, .ref q15_2, .null, .null, .null, .null, .int 0, .int 0, .int 0])), (q7_1, .inl (kc 0, 60, .inl z0)), (q15_2, .inl (kc 0, 60, .inl z0)), (q23_3, .inl (kc 0, 60, .inl z0))] H := hP
  have hD : va_D A [(h, .inr (5, [.ref q7_1, .ref q15_2, .null, .null, .null, .null, .int 0, .int 0, .int 0])), (q7_1, .inl (kc 0, 60, .inl z0)), (q15_2, .inl (kc 0, 60, .inl z0)), (q23_3, .inl (kc 0, 60, .inl z0))] := hD
  refine W.widen (k := 3) (n := 180) (Nat.le_of_ble_eq_true rfl) (Nat.le_of_ble_eq_true rfl) ?_
  refine va_putF (D := D) (ci := 5) (v := .ref q23_3) (ty := .array .int) (C := RX5) (T := TX5) (N := 9) hx hb hts ii_Program_X5 tyX5 tyX5_ok nmX5 hown hK hP hD hS 0 rfl rfl 2 (by decide) (hts (.fieldLink RX5 18 "SaltStreet$Program" "number" "[I") (List.mem_of_getElem? (i := 7) rfl)) (fun _ h9 => h9) rfl hin rfl (by decide +kernel) rfl rfl (Nat.le_of_ble_eq_true rfl) dX5_init_25 (fun H locs hP hD hS => ?_)
  have hP : va_P D vwCl [(h, .inr (5, [.ref q7_1, .ref q15_2, .ref q23_3, .null, .null, .null, .int 0, .int 0, .int 0])), (q7_1, .inl (kc 0, 60, .inl z0)), (q15_2, .inl (kc 0, 60, .inl z0)), (q23_3, .inl (kc 0, 60, .inl z0))] H := hP
  have hD : va_D A [(h, .inr (5, [.ref q7_1, .ref q15_2, .ref q23_3, .null, .null, .null, .int 0, .int 0, .int 0])), (q7_1, .inl (kc 0, 60, .inl z0)), (q15_2, .inl (kc 0, 60, .inl z0)), (q23_3, .inl (kc 0, 60, .inl z0))] := hD
  refine lv_aload_n hx hb dX5_init_28 rfl (lv_at hl 0 rfl) ?_
  refine lv_bipush (v := 60) hx hb dX5_init_29 (by decide) ?_
  refine va_newa (atype := .int) (N' := 60) (a0 := (60, .inl z0)) hx hb (hts (.arrayClass .int) (List.mem_of_getElem? (i := 4) rfl)) rfl hK hP hD hS hA (fun _ => rfl) (by decide) (by decide) (Nat.le_of_ble_eq_true rfl) (Nat.le_of_ble_eq_true rfl) (Nat.le_of_ble_eq_true rfl) dX5_init_31 (fun q31_4 cA H hK1 hP hD hS => ?_)
  obtain rfl := tyl_I hK1
  have hP : va_P D vwCl [(h, .inr (5, [.ref q7_1, .ref q15_2, .ref q23_3, .null, .null, .null, .int 0, .int 0, .int 0])), (q7_1, .inl (kc 0, 60, .inl z0)), (q15_2, .inl (kc 0, 60, .inl z0)), (q23_3, .inl (kc 0, 60, .inl z0)), (q31_4, .inl (kc 0, 60, .inl z0))] H := hP
  have hD : va_D A [(h, .inr (5, [.ref q7_1, .ref q15_2, .ref q23_3, .null, .null, .null, .int 0, .int 0, .int 0])), (q7_1, .inl (kc 0, 60, .inl z0)), (q15_2, .inl (kc 0, 60, .inl z0)), (q23_3, .inl (kc 0, 60, .inl z0)), (q31_4, .inl (kc 0, 60, .inl z0))] := hD
  refine W.widen (k := 4) (n := 240) (Nat.le_of_ble_eq_true rfl) (Nat.le_of_ble_eq_true rfl) ?_
  refine va_putF (D := D) (ci := 5) (v := .ref q31_4) (ty := .array .int) (C := RX5) (T := TX5) (N := 9) hx hb hts ii_Program_X5 tyX5 tyX5_ok nmX5 hown hK hP hD hS 0 rfl rfl 3 (by decide) (hts (.fieldLink RX5 21 "SaltStreet$Program" "house" "[I") (List.mem_of_getElem? (i := 8) rfl)) (fun _ h9 => h9) rfl hin rfl (by decide +kernel) rfl rfl (Nat.le_of_ble_eq_true rfl) dX5_init_33 (fun H locs hP hD hS => ?_)
  have hP : va_P D vwCl [(h, .inr (5, [.ref q7_1, .ref q15_2, .ref q23_3, .ref q31_4, .null, .null, .int 0, .int 0, .int 0])), (q7_1, .inl (kc 0, 60, .inl z0)), (q15_2, .inl (kc 0, 60, .inl z0)), (q23_3, .inl (kc 0, 60, .inl z0)), (q31_4, .inl (kc 0, 60, .inl z0))] H := hP
  have hD : va_D A [(h, .inr (5, [.ref q7_1, .ref q15_2, .ref q23_3, .ref q31_4, .null, .null, .int 0, .int 0, .int 0])), (q7_1, .inl (kc 0, 60, .inl z0)), (q15_2, .inl (kc 0, 60, .inl z0)), (q23_3, .inl (kc 0, 60, .inl z0)), (q31_4, .inl (kc 0, 60, .inl z0))] := hD
  refine lv_aload_n hx hb dX5_init_36 rfl (lv_at hl 0 rfl) ?_
  refine lv_bipush (v := 60) hx hb dX5_init_37 (by decide) ?_
  refine va_newa (atype := .int) (N' := 60) (a0 := (60, .inl z0)) hx hb (hts (.arrayClass .int) (List.mem_of_getElem? (i := 4) rfl)) rfl hK hP hD hS hA (fun _ => rfl) (by decide) (by decide) (Nat.le_of_ble_eq_true rfl) (Nat.le_of_ble_eq_true rfl) (Nat.le_of_ble_eq_true rfl) dX5_init_39 (fun q39_5 cA H hK1 hP hD hS => ?_)
  obtain rfl := tyl_I hK1
  have hP : va_P D vwCl [(h, .inr (5, [.ref q7_1, .ref q15_2, .ref q23_3, .ref q31_4, .null, .null, .int 0, .int 0, .int 0])), (q7_1, .inl (kc 0, 60, .inl z0)), (q15_2, .inl (kc 0, 60, .inl z0)), (q23_3, .inl (kc 0, 60, .inl z0)), (q31_4, .inl (kc 0, 60, .inl z0)), (q39_5, .inl (kc 0, 60, .inl z0))] H := hP
  have hD : va_D A [(h, .inr (5, [.ref q7_1, .ref q15_2, .ref q23_3, .ref q31_4, .null, .null, .int 0, .int 0, .int 0])), (q7_1, .inl (kc 0, 60, .inl z0)), (q15_2, .inl (kc 0, 60, .inl z0)), (q23_3, .inl (kc 0, 60, .inl z0)), (q31_4, .inl (kc 0, 60, .inl z0)), (q39_5, .inl (kc 0, 60, .inl z0))] := hD
  refine W.widen (k := 5) (n := 300) (Nat.le_of_ble_eq_true rfl) (Nat.le_of_ble_eq_true rfl) ?_
  refine va_putF (D := D) (ci := 5) (v := .ref q39_5) (ty := .array .int) (C := RX5) (T := TX5) (N := 9) hx hb hts ii_Program_X5 tyX5 tyX5_ok nmX5 hown hK hP hD hS 0 rfl rfl 4 (by decide) (hts (.fieldLink RX5 24 "SaltStreet$Program" "test" "[I") (List.mem_of_getElem? (i := 9) rfl)) (fun _ h9 => h9) rfl hin rfl (by decide +kernel) rfl rfl (Nat.le_of_ble_eq_true rfl) dX5_init_41 (fun H locs hP hD hS => ?_)
  have hP : va_P D vwCl [(h, .inr (5, [.ref q7_1, .ref q15_2, .ref q23_3, .ref q31_4, .ref q39_5, .null, .int 0, .int 0, .int 0])), (q7_1, .inl (kc 0, 60, .inl z0)), (q15_2, .inl (kc 0, 60, .inl z0)), (q23_3, .inl (kc 0, 60, .inl z0)), (q31_4, .inl (kc 0, 60, .inl z0)), (q39_5, .inl (kc 0, 60, .inl z0))] H := hP
  have hD : va_D A [(h, .inr (5, [.ref q7_1, .ref q15_2, .ref q23_3, .ref q31_4, .ref q39_5, .null, .int 0, .int 0, .int 0])), (q7_1, .inl (kc 0, 60, .inl z0)), (q15_2, .inl (kc 0, 60, .inl z0)), (q23_3, .inl (kc 0, 60, .inl z0)), (q31_4, .inl (kc 0, 60, .inl z0)), (q39_5, .inl (kc 0, 60, .inl z0))] := hD
  refine lv_aload_n hx hb dX5_init_44 rfl (lv_at hl 0 rfl) ?_
  refine lv_bipush (v := 60) hx hb dX5_init_45 (by decide) ?_
  refine va_newa (atype := .int) (N' := 60) (a0 := (60, .inl z0)) hx hb (hts (.arrayClass .int) (List.mem_of_getElem? (i := 4) rfl)) rfl hK hP hD hS hA (fun _ => rfl) (by decide) (by decide) (Nat.le_of_ble_eq_true rfl) (Nat.le_of_ble_eq_true rfl) (Nat.le_of_ble_eq_true rfl) dX5_init_47 (fun q47_6 cA H hK1 hP hD hS => ?_)
  obtain rfl := tyl_I hK1
  have hP : va_P D vwCl [(h, .inr (5, [.ref q7_1, .ref q15_2, .ref q23_3, .ref q31_4, .ref q39_5, .null, .int 0, .int 0, .int 0])), (q7_1, .inl (kc 0, 60, .inl z0)), (q15_2, .inl (kc 0, 60, .inl z0)), (q23_3, .inl (kc 0, 60, .inl z0)), (q31_4, .inl (kc 0, 60, .inl z0)), (q39_5, .inl (kc 0, 60, .inl z0)), (q47_6, .inl (kc 0, 60, .inl z0))] H := hP
  have hD : va_D A [(h, .inr (5, [.ref q7_1, .ref q15_2, .ref q23_3, .ref q31_4, .ref q39_5, .null, .int 0, .int 0, .int 0])), (q7_1, .inl (kc 0, 60, .inl z0)), (q15_2, .inl (kc 0, 60, .inl z0)), (q23_3, .inl (kc 0, 60, .inl z0)), (q31_4, .inl (kc 0, 60, .inl z0)), (q39_5, .inl (kc 0, 60, .inl z0)), (q47_6, .inl (kc 0, 60, .inl z0))] := hD
  refine W.widen (k := 6) (n := 360) (Nat.le_of_ble_eq_true rfl) (Nat.le_of_ble_eq_true rfl) ?_
  refine va_putF (D := D) (ci := 5) (v := .ref q47_6) (ty := .array .int) (C := RX5) (T := TX5) (N := 9) hx hb hts ii_Program_X5 tyX5 tyX5_ok nmX5 hown hK hP hD hS 0 rfl rfl 5 (by decide) (hts (.fieldLink RX5 27 "SaltStreet$Program" "partner" "[I") (List.mem_of_getElem? (i := 10) rfl)) (fun _ h9 => h9) rfl hin rfl (by decide +kernel) rfl rfl (Nat.le_of_ble_eq_true rfl) dX5_init_49 (fun H locs hP hD hS => ?_)
  have hP : va_P D vwCl [(h, .inr (5, [.ref q7_1, .ref q15_2, .ref q23_3, .ref q31_4, .ref q39_5, .ref q47_6, .int 0, .int 0, .int 0])), (q7_1, .inl (kc 0, 60, .inl z0)), (q15_2, .inl (kc 0, 60, .inl z0)), (q23_3, .inl (kc 0, 60, .inl z0)), (q31_4, .inl (kc 0, 60, .inl z0)), (q39_5, .inl (kc 0, 60, .inl z0)), (q47_6, .inl (kc 0, 60, .inl z0))] H := hP
  have hD : va_D A [(h, .inr (5, [.ref q7_1, .ref q15_2, .ref q23_3, .ref q31_4, .ref q39_5, .ref q47_6, .int 0, .int 0, .int 0])), (q7_1, .inl (kc 0, 60, .inl z0)), (q15_2, .inl (kc 0, 60, .inl z0)), (q23_3, .inl (kc 0, 60, .inl z0)), (q31_4, .inl (kc 0, 60, .inl z0)), (q39_5, .inl (kc 0, 60, .inl z0)), (q47_6, .inl (kc 0, 60, .inl z0))] := hD
  have hP9 := hP.sub (ws' := [(h, .inr (5, [.ref q7_1, .ref q15_2, .ref q23_3, .ref q31_4, .ref q39_5, .ref q47_6, .int 0, .int 0, .int 0])), (q7_1, .inl (kc 0, 60, .inl z0)), (q15_2, .inl (kc 0, 60, .inl z0)), (q23_3, .inl (kc 0, 60, .inl z0)), (q31_4, .inl (kc 0, 60, .inl z0)), (q39_5, .inl (kc 0, 60, .inl z0)), (q47_6, .inl (kc 0, 60, .inl z0))]) [0, 1, 2, 3, 4, 5, 6] rfl
  have hD9 := hD.sub (ws' := [(h, .inr (5, [.ref q7_1, .ref q15_2, .ref q23_3, .ref q31_4, .ref q39_5, .ref q47_6, .int 0, .int 0, .int 0])), (q7_1, .inl (kc 0, 60, .inl z0)), (q15_2, .inl (kc 0, 60, .inl z0)), (q23_3, .inl (kc 0, 60, .inl z0)), (q31_4, .inl (kc 0, 60, .inl z0)), (q39_5, .inl (kc 0, 60, .inl z0)), (q47_6, .inl (kc 0, 60, .inl z0))]) [0, 1, 2, 3, 4, 5, 6] (by decide) rfl
  let wa : Nat → Nat := mkm [0, 0, 0, h, 0, 0, 0, 0, 0, 0, 0, 0, 0, 0, 0, 0, 0, 0, 0, 0, 0, q7_1, q15_2, q23_3, q31_4, q39_5, q47_6]
  exact W.vret hx hb hr (fun t9 ht hW => ⟨⟨(), rfl, trivial, wa, rfl, by rw [ht]; exact hP9, hD9⟩, hS.F ht⟩) hS.2.2 dX5_init_52
theorem dX10_init_0 : decode cX10_init 0 = .ok (.aload_n 0, 1) := by decide +kernel
theorem dX10_init_1 : decode cX10_init 1 = .ok (.invokespecial 1, 3) := by decide +kernel
theorem dX10_init_4 : decode cX10_init 4 = .ok (.aload_n 0, 1) := by decide +kernel
theorem dX10_init_5 : decode cX10_init 5 = .ok (.new 7, 3) := by decide +kernel
theorem dX10_init_8 : decode cX10_init 8 = .ok (.dup, 1) := by decide +kernel
theorem dX10_init_9 : decode cX10_init 9 = .ok (.invokespecial 9, 3) := by decide +kernel
theorem dX10_init_12 : decode cX10_init 12 = .ok (.putfield 10, 3) := by decide +kernel
theorem dX10_init_15 : decode cX10_init 15 = .ok (.aload_n 0, 1) := by decide +kernel
theorem dX10_init_16 : decode cX10_init 16 = .ok (.new 16, 3) := by decide +kernel
theorem dX10_init_19 : decode cX10_init 19 = .ok (.dup, 1) := by decide +kernel
theorem dX10_init_20 : decode cX10_init 20 = .ok (.invokespecial 18, 3) := by decide +kernel
theorem dX10_init_23 : decode cX10_init 23 = .ok (.putfield 19, 3) := by decide +kernel
theorem dX10_init_26 : decode cX10_init 26 = .ok (.aload_n 0, 1) := by decide +kernel
theorem dX10_init_27 : decode cX10_init 27 = .ok (.new 23, 3) := by decide +kernel
theorem dX10_init_30 : decode cX10_init 30 = .ok (.dup, 1) := by decide +kernel
theorem dX10_init_31 : decode cX10_init 31 = .ok (.invokespecial 25, 3) := by decide +kernel
theorem dX10_init_34 : decode cX10_init 34 = .ok (.putfield 26, 3) := by decide +kernel
theorem dX10_init_37 : decode cX10_init 37 = .ok (.return_, 1) := by decide +kernel
def vdi_World_0 : List Cond := [.code yX10_init cX10_init 1 none, .methodLink RX10 1 objectInit, .instanceMethod objectInit, .code objectInit ⟨#[0xb1]⟩ 1 none, .classLink RX10 7 RX4, .instantiable RX4 20, .initialized RX4, .code yX4_init cX4_init 1 none, .methodLink RX4 3 objectInit, .arrayClass .long, .fieldLink RX4 9 "SaltStreet$Plan" "names" "[J", .arrayClass .int, .fieldLink RX4 15 "SaltStreet$Plan" "sorts" "[I", .fieldLink RX4 19 "SaltStreet$Plan" "numbers" "[I", .fieldLink RX4 22 "SaltStreet$Plan" "one" "[I", .fieldLink RX4 25 "SaltStreet$Plan" "other" "[I", .fieldLink RX4 28 "SaltStreet$Plan" "needs" "[I", .fieldLink RX4 31 "SaltStreet$Plan" "quarrelsAt" "[I", .fieldLink RX4 34 "SaltStreet$Plan" "from" "[I", .fieldLink RX4 37 "SaltStreet$Plan" "to" "[I", .fieldLink RX4 40 "SaltStreet$Plan" "takes" "[I", .fieldLink RX4 43 "SaltStreet$Plan" "price" "[I", .fieldLink RX4 46 "SaltStreet$Plan" "sweet" "[I", .fieldLink RX4 49 "SaltStreet$Plan" "washes" "I"]
def vdi_World_1 : List Cond := [.instanceMethod yX4_init, .fieldLink RX10 10 "SaltStreet$World" "plan" "LSaltStreet$Plan;", .classLink RX10 16 RX2, .instantiable RX2 13, .initialized RX2, .code yX2_init cX2_init 1 none, .methodLink RX2 3 objectInit, .fieldLink RX2 9 "SaltStreet$Ground" "salt" "[I", .fieldLink RX2 15 "SaltStreet$Ground" "sugar" "[I", .fieldLink RX2 18 "SaltStreet$Ground" "snow" "[I", .fieldLink RX2 21 "SaltStreet$Ground" "war" "[I", .fieldLink RX2 24 "SaltStreet$Ground" "stock" "[I", .instanceMethod yX2_init, .fieldLink RX10 19 "SaltStreet$World" "ground" "LSaltStreet$Ground;", .classLink RX10 23 RX5, .instantiable RX5 9, .initialized RX5, .code yX5_init cX5_init 1 none, .methodLink RX5 3 objectInit, .fieldLink RX5 9 "SaltStreet$Program" "word" "[I", .fieldLink RX5 15 "SaltStreet$Program" "thing" "[I", .fieldLink RX5 18 "SaltStreet$Program" "number" "[I", .fieldLink RX5 21 "SaltStreet$Program" "house" "[I", .fieldLink RX5 24 "SaltStreet$Program" "test" "[I"]
def vdi_World_2 : List Cond := [.fieldLink RX5 27 "SaltStreet$Program" "partner" "[I", .instanceMethod yX5_init, .fieldLink RX10 26 "SaltStreet$World" "program" "LSaltStreet$Program;"]
def vdi_World : List Cond := (vdi_World_0 ++ (vdi_World_1 ++ vdi_World_2))
def vi_World : List Cond := vdi_World ++ (wsX40 ++ (wsX100 ++ (wsX20 ++ (wsX50 ++ ([] : List Cond)))))
theorem ii_World_X4 : ∀ w ∈ wsX40, w ∈ vi_World := fun _ h => List.mem_append_right _ (List.mem_append_left _ h)
theorem ii_World_X10 : ∀ w ∈ wsX100, w ∈ vi_World := fun _ h => List.mem_append_right _ (List.mem_append_right _ (List.mem_append_left _ h))
theorem ii_World_X2 : ∀ w ∈ wsX20, w ∈ vi_World := fun _ h => List.mem_append_right _ (List.mem_append_right _ (List.mem_append_right _ (List.mem_append_left _ h)))
theorem ii_World_X5 : ∀ w ∈ wsX50, w ∈ vi_World := fun _ h => List.mem_append_right _ (List.mem_append_right _ (List.mem_append_right _ (List.mem_append_right _ (List.mem_append_left _ h))))
set_option maxRecDepth 20000 in
theorem gi_World_9_i_Plan : GoodIn vi_World vi_Plan := (goodIn_app (goodIn_r vdi_Plan [7, 8, 2, 3, 9, 10, 11, 12, 13, 14, 15, 16, 17, 18, 19, 20, 21, 22, 23] rfl (by decide +kernel)) (goodIn_app (goodIn_sub ii_World_X4 gdX4) goodIn_nil))
set_option maxRecDepth 20000 in
theorem gi_World_18_i_Ground : GoodIn vi_World vi_Ground := (goodIn_app (goodIn_r vdi_Ground [29, 30, 2, 3, 11, 31, 32, 33, 34, 35] rfl (by decide +kernel)) (goodIn_app (goodIn_sub ii_World_X2 gdX2) goodIn_nil))
set_option maxRecDepth 20000 in
theorem gi_World_25_i_Program : GoodIn vi_World vi_Program := (goodIn_app (goodIn_r vdi_Program [41, 42, 2, 3, 11, 43, 44, 45, 46, 47, 48] rfl (by decide +kernel)) (goodIn_app (goodIn_sub ii_World_X5 gdX5) goodIn_nil))
set_option maxHeartbeats 4000000 in
set_option maxRecDepth 100000 in
theorem i_World (l : Launch) (D : va_G) (kc : Nat → ClassId) (sz : Nat) (h : Nat) : Met l yX10_init vi_World ({ frames := 2, cells := 26, slots := 562, locals := 32 }) (va_Pc [.ref h] (wPre D kc [(h, .inr (9, [.null, .null, .null]))] sz)) (va_Qv (fun (_ : Unit) => True) (fun (_ : Unit) (t9 : State) => ∃ wa : Nat → Nat, wa 0 = h ∧  va_P D vwCl [(wa 0, .inr (9, [.ref (wa 1), .ref (wa 2), .ref (wa 3)])), (wa 1, .inr (4, [.ref (wa 4), .ref (wa 5), .ref (wa 6), .ref (wa 7), .ref (wa 8), .ref (wa 9), .ref (wa 10), .ref (wa 11), .ref (wa 12), .ref (wa 13), .ref (wa 14), .ref (wa 15), .int 0, .int 0, .int 0, .int 0, .int 0, .int 0, .int 5, .int 0])), (wa 2, .inr (2, [.ref (wa 16), .ref (wa 17), .ref (wa 18), .ref (wa 19), .ref (wa 20), .int 0, .int 0, .int 0, .int 0, .int 0, .int 0, .int 0, .int 0])), (wa 3, .inr (5, [.ref (wa 21), .ref (wa 22), .ref (wa 23), .ref (wa 24), .ref (wa 25), .ref (wa 26), .int 0, .int 0, .int 0])), (wa 4, .inl (kc 1, 24, .inr (.inl z1))), (wa 5, .inl (kc 0, 24, .inl z0)), (wa 6, .inl (kc 0, 24, .inl z0)), (wa 7, .inl (kc 0, 8, .inl z0)), (wa 8, .inl (kc 0, 8, .inl z0)), (wa 9, .inl (kc 0, 8, .inl z0)), (wa 10, .inl (kc 0, 8, .inl z0)), (wa 11, .inl (kc 0, 4, .inl z0)), (wa 12, .inl (kc 0, 4, .inl z0)), (wa 13, .inl (kc 0, 4, .inl z0)), (wa 14, .inl (kc 0, 4, .inl z0)), (wa 15, .inl (kc 0, 4, .inl z0)), (wa 16, .inl (kc 0, 8, .inl z0)), (wa 17, .inl (kc 0, 8, .inl z0)), (wa 18, .inl (kc 0, 8, .inl z0)), (wa 19, .inl (kc 0, 8, .inl z0)), (wa 20, .inl (kc 0, 4, .inl z0)), (wa 21, .inl (kc 0, 60, .inl z0)), (wa 22, .inl (kc 0, 60, .inl z0)), (wa 23, .inl (kc 0, 60, .inl z0)), (wa 24, .inl (kc 0, 60, .inl z0)), (wa 25, .inl (kc 0, 60, .inl z0)), (wa 26, .inl (kc 0, 60, .inl z0))] t9.heap ∧ va_D (va_A [(h, .inr (9, [.null, .null, .null]))] sz) [(wa 0, .inr (9, [.ref (wa 1), .ref (wa 2), .ref (wa 3)])), (wa 1, .inr (4, [.ref (wa 4), .ref (wa 5), .ref (wa 6), .ref (wa 7), .ref (wa 8), .ref (wa 9), .ref (wa 10), .ref (wa 11), .ref (wa 12), .ref (wa 13), .ref (wa 14), .ref (wa 15), .int 0, .int 0, .int 0, .int 0, .int 0, .int 0, .int 5, .int 0])), (wa 2, .inr (2, [.ref (wa 16), .ref (wa 17), .ref (wa 18), .ref (wa 19), .ref (wa 20), .int 0, .int 0, .int 0, .int 0, .int 0, .int 0, .int 0, .int 0])), (wa 3, .inr (5, [.ref (wa 21), .ref (wa 22), .ref (wa 23), .ref (wa 24), .ref (wa 25), .ref (wa 26), .int 0, .int 0, .int 0])), (wa 4, .inl (kc 1, 24, .inr (.inl z1))), (wa 5, .inl (kc 0, 24, .inl z0)), (wa 6, .inl (kc 0, 24, .inl z0)), (wa 7, .inl (kc 0, 8, .inl z0)), (wa 8, .inl (kc 0, 8, .inl z0)), (wa 9, .inl (kc 0, 8, .inl z0)), (wa 10, .inl (kc 0, 8, .inl z0)), (wa 11, .inl (kc 0, 4, .inl z0)), (wa 12, .inl (kc 0, 4, .inl z0)), (wa 13, .inl (kc 0, 4, .inl z0)), (wa 14, .inl (kc 0, 4, .inl z0)), (wa 15, .inl (kc 0, 4, .inl z0)), (wa 16, .inl (kc 0, 8, .inl z0)), (wa 17, .inl (kc 0, 8, .inl z0)), (wa 18, .inl (kc 0, 8, .inl z0)), (wa 19, .inl (kc 0, 8, .inl z0)), (wa 20, .inl (kc 0, 4, .inl z0)), (wa 21, .inl (kc 0, 60, .inl z0)), (wa 22, .inl (kc 0, 60, .inl z0)), (wa 23, .inl (kc 0, 60, .inl z0)), (wa 24, .inl (kc 0, 60, .inl z0)), (wa 25, .inl (kc 0, 60, .inl z0)), (wa 26, .inl (kc 0, 60, .inl z0))]) (va_A [(h, .inr (9, [.null, .null, .null]))] sz)) 26 562 (va_A [(h, .inr (9, [.null, .null, .null]))] sz) := by
  refine Met.ofW (cc := cX10_init) (maxL := 1) (ret := none) (by decide) rfl ?_
  intro p e s m args below meth c s₁ B hml hv
  obtain ⟨rfl, hsz, hP, hE, hD0⟩ := hv
  have hx := B.exec
  have hb := B.bytes
  have hr := B.returns
  have hts := atoms_spec (ws := vi_World) B.pre
  have hown : s.vm.findClass RX10 = some m.cls := findClass_of_methodNamed B.named
  have hlocks := B.notSynchronized
  have hin : meth.name = "<init>" := (name_of_methodNamed B.named B.method).1
  subst hsz
  have hD := hD0.self (sz := s.heap.size)
  generalize hAe : va_A [(h, .inr (9, [.null, .null, .null]))] s.heap.size = A at hD ⊢
  have hA : ∀ q : Nat, s.heap.size ≤ q → A q := fun q h => by rw [← hAe]; exact Or.inr h
  have hS : va_S A s.heap s.heap [] := va_S.rf
  have hK := hE.1
  have hP : va_P D vwCl [(h, .inr (9, [.null, .null, .null]))] s.heap := hP
  have hl := lv_entry ([.ref h]) (n := 1) (Nat.le_of_ble_eq_true rfl)
  rw [lg_entry_eq]
  generalize (lg_sl ([.ref h]) ++ List.replicate (1 - (lg_sl ([.ref h])).length) Slot.unset).toArray = ls at hl ⊢
  have hl : lv_has ls 1 [(0, .ref h)] := hl
  refine lv_aload_n hx hb dX10_init_0 rfl (lv_at hl 0 rfl) ?_
  refine W.objInit hx hb hown (hts (.methodLink RX10 1 objectInit) (List.mem_of_getElem? (i := 1) rfl)) (hts (.instanceMethod objectInit) (List.mem_of_getElem? (i := 2) rfl)) (hts (.code objectInit ⟨#[0xb1]⟩ 1 none) (List.mem_of_getElem? (i := 3) rfl)) rfl (by rw [hml]; exact hl.1) rfl dX10_init_1 (Nat.le_of_ble_eq_true rfl) (Nat.le_of_ble_eq_true rfl) ?_
  refine W.eq (g2 := F0 m 4 ls []) rfl ?_
  refine lv_aload_n hx hb dX10_init_4 rfl (lv_at hl 0 rfl) ?_
  refine va_new (ci := 4) (fs := [.null, .null, .null, .null, .null, .null, .null, .null, .null, .null, .null, .null, .int 0, .int 0, .int 0, .int 0, .int 0, .int 0, .int 0, .int 0]) (C := RX4) (T := TX4) (N := 20) hx hb hts ii_World_X4 tyX4 tyX4_ok hown (hts (.classLink RX10 7 RX4) (List.mem_of_getElem? (i := 4) rfl)) (hts (.instantiable RX4 20) (List.mem_of_getElem? (i := 5) rfl)) (hts (.initialized RX4) (List.mem_of_getElem? (i := 6) rfl)) hK hP hD hS hA rfl (by decide +kernel) (Nat.le_of_ble_eq_true rfl) (Nat.le_of_ble_eq_true rfl) dX10_init_5 (fun q5_1 H hP hD hS => ?_)
  have hP : va_P D vwCl [(h, .inr (9, [.null, .null, .null])), (q5_1, .inr (4, [.null, .null, .null, .null, .null, .null, .null, .null, .null, .null, .null, .null, .int 0, .int 0, .int 0, .int 0, .int 0, .int 0, .int 0, .int 0]))] H := hP
  have hD : va_D A [(h, .inr (9, [.null, .null, .null])), (q5_1, .inr (4, [.null, .null, .null, .null, .null, .null, .null, .null, .null, .null, .null, .null, .int 0, .int 0, .int 0, .int 0, .int 0, .int 0, .int 0, .int 0]))] := hD
  refine W.widen (k := 1) (n := 20) (Nat.le_of_ble_eq_true rfl) (Nat.le_of_ble_eq_true rfl) ?_
  refine lv_dup hx hb dX10_init_8 rfl ?_
  have hPc := hP.sub (ws' := [(q5_1, .inr (4, [.null, .null, .null, .null, .null, .null, .null, .null, .null, .null, .null, .null, .int 0, .int 0, .int 0, .int 0, .int 0, .int 0, .int 0, .int 0]))]) [1] rfl
  have hDc := hD.sub (ws' := [(q5_1, .inr (4, [.null, .null, .null, .null, .null, .null, .null, .null, .null, .null, .null, .null, .int 0, .int 0, .int 0, .int 0, .int 0, .int 0, .int 0, .int 0]))]) [1] (by decide) rfl
  have hFc := va_free (wc := [(q5_1, .inr (4, [.null, .null, .null, .null, .null, .null, .null, .null, .null, .null, .null, .null, .int 0, .int 0, .int 0, .int 0, .int 0, .int 0, .int 0, .int 0]))]) hD hS hA [1] rfl
  refine va_callv (va_runIN (As := []) (rest := [.ref q5_1, .ref h]) ⟨hx, hb, hml, hown, hts⟩ (i_Plan l D kc H.size q5_1) ⟨va_cnB 0 hts gi_World_9_i_Plan rfl rfl rfl (hE.nn 1 rfl) (hts (.initialized RX4) (List.mem_of_getElem? (i := 6) rfl)) (by decide +kernel) ⟨Nat.le_of_ble_eq_true rfl, Nat.le_of_ble_eq_true rfl⟩, rfl, (hts (.instanceMethod yX4_init) (List.mem_of_getElem? (i := 24) rfl))⟩ (preS_ok hPc hDc hE) rfl rfl hl.1 rfl (lv_room (Nat.le_of_ble_eq_true rfl)) dX10_init_9 ⟨Nat.le_of_ble_eq_true rfl, Nat.le_of_ble_eq_true rfl⟩) hS (fun q _ h => hFc q h) hFc (fun u9 t9 H locs ht hvm hw hB hz1 hk1 hS => ?_)
  obtain ⟨wa9_2, hu_wa9_2, hP1, hD1⟩ := hB
  rw [ht] at hP1
  obtain ⟨hP8, hD8⟩ := va_join (wr := [(h, .inr (9, [.null, .null, .null]))]) (w1 := [(wa9_2 1, .inr (4, [.ref (wa9_2 4), .ref (wa9_2 5), .ref (wa9_2 6), .ref (wa9_2 7), .ref (wa9_2 8), .ref (wa9_2 9), .ref (wa9_2 10), .ref (wa9_2 11), .ref (wa9_2 12), .ref (wa9_2 13), .ref (wa9_2 14), .ref (wa9_2 15), .int 0, .int 0, .int 0, .int 0, .int 0, .int 0, .int 5, .int 0])), (wa9_2 4, .inl (kc 1, 24, .inr (.inl z1))), (wa9_2 5, .inl (kc 0, 24, .inl z0)), (wa9_2 6, .inl (kc 0, 24, .inl z0)), (wa9_2 7, .inl (kc 0, 8, .inl z0)), (wa9_2 8, .inl (kc 0, 8, .inl z0)), (wa9_2 9, .inl (kc 0, 8, .inl z0)), (wa9_2 10, .inl (kc 0, 8, .inl z0)), (wa9_2 11, .inl (kc 0, 4, .inl z0)), (wa9_2 12, .inl (kc 0, 4, .inl z0)), (wa9_2 13, .inl (kc 0, 4, .inl z0)), (wa9_2 14, .inl (kc 0, 4, .inl z0)), (wa9_2 15, .inl (kc 0, 4, .inl z0))]) hP hD [1] [0] rfl rfl (by decide) (by decide) hk1 hFc hP1 hD1
  subst hu_wa9_2
  refine W.widen (k := 13) (n := 144) (Nat.le_of_ble_eq_true rfl) (Nat.le_of_ble_eq_true rfl) ?_
  have hP : va_P D vwCl [(h, .inr (9, [.null, .null, .null])), (wa9_2 1, .inr (4, [.ref (wa9_2 4), .ref (wa9_2 5), .ref (wa9_2 6), .ref (wa9_2 7), .ref (wa9_2 8), .ref (wa9_2 9), .ref (wa9_2 10), .ref (wa9_2 11), .ref (wa9_2 12), .ref (wa9_2 13), .ref (wa9_2 14), .ref (wa9_2 15), .int 0, .int 0, .int 0, .int 0, .int 0, .int 0, .int 5, .int 0])), (wa9_2 4, .inl (kc 1, 24, .inr (.inl z1))), (wa9_2 5, .inl (kc 0, 24, .inl z0)), (wa9_2 6, .inl (kc 0, 24, .inl z0)), (wa9_2 7, .inl (kc 0, 8, .inl z0)), (wa9_2 8, .inl (kc 0, 8, .inl z0)), (wa9_2 9, .inl (kc 0, 8, .inl z0)), (wa9_2 10, .inl (kc 0, 8, .inl z0)), (wa9_2 11, .inl (kc 0, 4, .inl z0)), (wa9_2 12, .inl (kc 0, 4, .inl z0)), (wa9_2 13, .inl (kc 0, 4, .inl z0)), (wa9_2 14, .inl (kc 0, 4, .inl z0)), (wa9_2 15, .inl (kc 0, 4, .inl z0))] H := hP8
  have hD : va_D A [(h, .inr (9, [.null, .null, .null])), (wa9_2 1, .inr (4, [.ref (wa9_2 4), .ref (wa9_2 5), .ref (wa9_2 6), .ref (wa9_2 7), .ref (wa9_2 8), .ref (wa9_2 9), .ref (wa9_2 10), .ref (wa9_2 11), .ref (wa9_2 12), .ref (wa9_2 13), .ref (wa9_2 14), .ref (wa9_2 15), .int 0, .int 0, .int 0, .int 0, .int 0, .int 0, .int 5, .int 0])), (wa9_2 4, .inl (kc 1, 24, .inr (.inl z1))), (wa9_2 5, .inl (kc 0, 24, .inl z0)), (wa9_2 6, .inl (kc 0, 24, .inl z0)), (wa9_2 7, .inl (kc 0, 8, .inl z0)), (wa9_2 8, .inl (kc 0, 8, .inl z0)), (wa9_2 9, .inl (kc 0, 8, .inl z0)), (wa9_2 10, .inl (kc 0, 8, .inl z0)), (wa9_2 11, .inl (kc 0, 4, .inl z0)), (wa9_2 12, .inl (kc 0, 4, .inl z0)), (wa9_2 13, .inl (kc 0, 4, .inl z0)), (wa9_2 14, .inl (kc 0, 4, .inl z0)), (wa9_2 15, .inl (kc 0, 4, .inl z0))] := hD8
  refine va_putF (D := D) (ci := 9) (v := .ref (wa9_2 1)) (ty := .object "SaltStreet$Plan") (C := RX10) (T := TX10) (N := 3) hx hb hts ii_World_X10 tyX10 tyX10_ok nmX10 hown hK hP hD hS 0 rfl rfl 0 (by decide) (hts (.fieldLink RX10 10 "SaltStreet$World" "plan" "LSaltStreet$Plan;") (List.mem_of_getElem? (i := 25) rfl)) (fun _ h9 => h9) rfl hin rfl (by decide +kernel) rfl rfl (Nat.le_of_ble_eq_true rfl) dX10_init_12 (fun H locs hP hD hS => ?_)
  have hP : va_P D vwCl [(h, .inr (9, [.ref (wa9_2 1), .null, .null])), (wa9_2 1, .inr (4, [.ref (wa9_2 4), .ref (wa9_2 5), .ref (wa9_2 6), .ref (wa9_2 7), .ref (wa9_2 8), .ref (wa9_2 9), .ref (wa9_2 10), .ref (wa9_2 11), .ref (wa9_2 12), .ref (wa9_2 13), .ref (wa9_2 14), .ref (wa9_2 15), .int 0, .int 0, .int 0, .int 0, .int 0, .int 0, .int 5, .int 0])), (wa9_2 4, .inl (kc 1, 24, .inr (.inl z1))), (wa9_2 5, .inl (kc 0, 24, .inl z0)), (wa9_2 6, .inl (kc 0, 24, .inl z0)), (wa9_2 7, .inl (kc 0, 8, .inl z0)), (wa9_2 8, .inl (kc 0, 8, .inl z0)), (wa9_2 9, .inl (kc 0, 8, .inl z0)), (wa9_2 10, .inl (kc 0, 8, .inl z0)), (wa9_2 11, .inl (kc 0, 4, .inl z0)), (wa9_2 12, .inl (kc 0, 4, .inl z0)), (wa9_2 13, .inl (kc 0, 4, .inl z0)), (wa9_2 14, .inl (kc 0, 4, .inl z0)), (wa9_2 15, .inl (kc 0, 4, .inl z0))] H := hP
  have hD : va_D A [(h, .inr (9, [.ref (wa9_2 1), .null, .null])), (wa9_2 1, .inr (4, [.ref (wa9_2 4), .ref (wa9_2 5), .ref (wa9_2 6), .ref (wa9_2 7), .ref (wa9_2 8), .ref (wa9_2 9), .ref (wa9_2 10), .ref (wa9_2 11), .ref (wa9_2 12), .ref (wa9_2 13), .ref (wa9_2 14), .ref (wa9_2 15), .int 0, .int 0, .int 0, .int 0, .int 0, .int 0, .int 5, .int 0])), (wa9_2 4, .inl (kc 1, 24, .inr (.inl z1))), (wa9_2 5, .inl (kc 0, 24, .inl z0)), (wa9_2 6, .inl (kc 0, 24, .inl z0)), (wa9_2 7, .inl (kc 0, 8, .inl z0)), (wa9_2 8, .inl (kc 0, 8, .inl z0)), (wa9_2 9, .inl (kc 0, 8, .inl z0)), (wa9_2 10, .inl (kc 0, 8, .inl z0)), (wa9_2 11, .inl (kc 0, 4, .inl z0)), (wa9_2 12, .inl (kc 0, 4, .inl z0)), (wa9_2 13, .inl (kc 0, 4, .inl z0)), (wa9_2 14, .inl (kc 0, 4, .inl z0)), (wa9_2 15, .inl (kc 0, 4, .inl z0))] := hD
  refine lv_aload_n hx hb dX10_init_15 rfl (lv_at hl 0 rfl) ?_
  refine va_new (ci := 2) (fs := [.null, .null, .null, .null, .null, .int 0, .int 0, .int 0, .int 0, .int 0, .int 0, .int 0, .int 0]) (C := RX2) (T := TX2) (N := 13) hx hb hts ii_World_X2 tyX2 tyX2_ok hown (hts (.classLink RX10 16 RX2) (List.mem_of_getElem? (i := 26) rfl)) (hts (.instantiable RX2 13) (List.mem_of_getElem? (i := 27) rfl)) (hts (.initialized RX2) (List.mem_of_getElem? (i := 28) rfl)) hK hP hD hS hA rfl (by decide +kernel) (Nat.le_of_ble_eq_true rfl) (Nat.le_of_ble_eq_true rfl) dX10_init_16 (fun q16_3 H hP hD hS => ?_)
  have hP : va_P D vwCl [(h, .inr (9, [.ref (wa9_2 1), .null, .null])), (wa9_2 1, .inr (4, [.ref (wa9_2 4), .ref (wa9_2 5), .ref (wa9_2 6), .ref (wa9_2 7), .ref (wa9_2 8), .ref (wa9_2 9), .ref (wa9_2 10), .ref (wa9_2 11), .ref (wa9_2 12), .ref (wa9_2 13), .ref (wa9_2 14), .ref (wa9_2 15), .int 0, .int 0, .int 0, .int 0, .int 0, .int 0, .int 5, .int 0])), (wa9_2 4, .inl (kc 1, 24, .inr (.inl z1))), (wa9_2 5, .inl (kc 0, 24, .inl z0)), (wa9_2 6, .inl (kc 0, 24, .inl z0)), (wa9_2 7, .inl (kc 0, 8, .inl z0)), (wa9_2 8, .inl (kc 0, 8, .inl z0)), (wa9_2 9, .inl (kc 0, 8, .inl z0)), (wa9_2 10, .inl (kc 0, 8, .inl z0)), (wa9_2 11, .inl (kc 0, 4, .inl z0)), (wa9_2 12, .inl (kc 0, 4, .inl z0)), (wa9_2 13, .inl (kc 0, 4, .inl z0)), (wa9_2 14, .inl (kc 0, 4, .inl z0)), (wa9_2 15, .inl (kc 0, 4, .inl z0)), (q16_3, .inr (2, [.null, .null, .null, .null, .null, .int 0, .int 0, .int 0, .int 0, .int 0, .int 0, .int 0, .int 0]))] H := hP
  have hD : va_D A [(h, .inr (9, [.ref (wa9_2 1), .null, .null])), (wa9_2 1, .inr (4, [.ref (wa9_2 4), .ref (wa9_2 5), .ref (wa9_2 6), .ref (wa9_2 7), .ref (wa9_2 8), .ref (wa9_2 9), .ref (wa9_2 10), .ref (wa9_2 11), .ref (wa9_2 12), .ref (wa9_2 13), .ref (wa9_2 14), .ref (wa9_2 15), .int 0, .int 0, .int 0, .int 0, .int 0, .int 0, .int 5, .int 0])), (wa9_2 4, .inl (kc 1, 24, .inr (.inl z1))), (wa9_2 5, .inl (kc 0, 24, .inl z0)), (wa9_2 6, .inl (kc 0, 24, .inl z0)), (wa9_2 7, .inl (kc 0, 8, .inl z0)), (wa9_2 8, .inl (kc 0, 8, .inl z0)), (wa9_2 9, .inl (kc 0, 8, .inl z0)), (wa9_2 10, .inl (kc 0, 8, .inl z0)), (wa9_2 11, .inl (kc 0, 4, .inl z0)), (wa9_2 12, .inl (kc 0, 4, .inl z0)), (wa9_2 13, .inl (kc 0, 4, .inl z0)), (wa9_2 14, .inl (kc 0, 4, .inl z0)), (wa9_2 15, .inl (kc 0, 4, .inl z0)), (q16_3, .inr (2, [.null, .null, .null, .null, .null, .int 0, .int 0, .int 0, .int 0, .int 0, .int 0, .int 0, .int 0]))] := hD
  refine W.widen (k := 14) (n := 157) (Nat.le_of_ble_eq_true rfl) (Nat.le_of_ble_eq_true rfl) ?_
  refine lv_dup hx hb dX10_init_19 rfl ?_
  have hPc := hP.sub (ws' := [(q16_3, .inr (2, [.null, .null, .null, .null, .null, .int 0, .int 0, .int 0, .int 0, .int 0, .int 0, .int 0, .int 0]))]) [14] rfl
  have hDc := hD.sub (ws' := [(q16_3, .inr (2, [.null, .null, .null, .null, .null, .int 0, .int 0, .int 0, .int 0, .int 0, .int 0, .int 0, .int 0]))]) [14] (by decide) rfl
  have hFc := va_free (wc := [(q16_3, .inr (2, [.null, .null, .null, .null, .null, .int 0, .int 0, .int 0, .int 0, .int 0, .int 0, .int 0, .int 0]))]) hD hS hA [14] rfl
  refine va_callv (va_runIN (As := []) (rest := [.ref q16_3, .ref h]) ⟨hx, hb, hml, hown, hts⟩ (i_Ground l D kc H.size q16_3) ⟨va_cnB 0 hts gi_World_18_i_Ground rfl rfl rfl (hE.nn 55 rfl) (hts (.initialized RX2) (List.mem_of_getElem? (i := 28) rfl)) (by decide +kernel) ⟨Nat.le_of_ble_eq_true rfl, Nat.le_of_ble_eq_true rfl⟩, rfl, (hts (.instanceMethod yX2_init) (List.mem_of_getElem? (i := 36) rfl))⟩ (preS_ok hPc hDc hE) rfl rfl hl.1 rfl (lv_room (Nat.le_of_ble_eq_true rfl)) dX10_init_20 ⟨Nat.le_of_ble_eq_true rfl, Nat.le_of_ble_eq_true rfl⟩) hS (fun q _ h => hFc q h) hFc (fun u9 t9 H locs ht hvm hw hB hz1 hk1 hS => ?_)
  obtain ⟨wa20_4, hu_wa20_4, hP1, hD1⟩ := hB
  rw [ht] at hP1
  obtain ⟨hP8, hD8⟩ := va_join (wr := [(h, .inr (9, [.ref (wa9_2 1), .null, .null])), (wa9_2 1, .inr (4, [.ref (wa9_2 4), .ref (wa9_2 5), .ref (wa9_2 6), .ref (wa9_2 7), .ref (wa9_2 8), .ref (wa9_2 9), .ref (wa9_2 10), .ref (wa9_2 11), .ref (wa9_2 12), .ref (wa9_2 13), .ref (wa9_2 14), .ref (wa9_2 15), .int 0, .int 0, .int 0, .int 0, .int 0, .int 0, .int 5, .int 0])), (wa9_2 4, .inl (kc 1, 24, .inr (.inl z1))), (wa9_2 5, .inl (kc 0, 24, .inl z0)), (wa9_2 6, .inl (kc 0, 24, .inl z0)), (wa9_2 7, .inl (kc 0, 8, .inl z0)), (wa9_2 8, .inl (kc 0, 8, .inl z0)), (wa9_2 9, .inl (kc 0, 8, .inl z0)), (wa9_2 10, .inl (kc 0, 8, .inl z0)), (wa9_2 11, .inl (kc 0, 4, .inl z0)), (wa9_2 12, .inl (kc 0, 4, .inl z0)), (wa9_2 13, .inl (kc 0, 4, .inl z0)), (wa9_2 14, .inl (kc 0, 4, .inl z0)), (wa9_2 15, .inl (kc 0, 4, .inl z0))]) (w1 := [(wa20_4 2, .inr (2, [.ref (wa20_4 16), .ref (wa20_4 17), .ref (wa20_4 18), .ref (wa20_4 19), .ref (wa20_4 20), .int 0, .int 0, .int 0, .int 0, .int 0, .int 0, .int 0, .int 0])), (wa20_4 16, .inl (kc 0, 8, .inl z0)), (wa20_4 17, .inl (kc 0, 8, .inl z0)), (wa20_4 18, .inl (kc 0, 8, .inl z0)), (wa20_4 19, .inl (kc 0, 8, .inl z0)), (wa20_4 20, .inl (kc 0, 4, .inl z0))]) hP hD [14] [0, 1, 2, 3, 4, 5, 6, 7, 8, 9, 10, 11, 12, 13] rfl rfl (by decide) (by decide) hk1 hFc hP1 hD1
  subst hu_wa20_4
  refine W.widen (k := 19) (n := 193) (Nat.le_of_ble_eq_true rfl) (Nat.le_of_ble_eq_true rfl) ?_
  have hP : va_P D vwCl [(h, .inr (9, [.ref (wa9_2 1), .null, .null])), (wa9_2 1, .inr (4, [.ref (wa9_2 4), .ref (wa9_2 5), .ref (wa9_2 6), .ref (wa9_2 7), .ref (wa9_2 8), .ref (wa9_2 9), .ref (wa9_2 10), .ref (wa9_2 11), .ref (wa9_2 12), .ref (wa9_2 13), .ref (wa9_2 14), .ref (wa9_2 15), .int 0, .int 0, .int 0, .int 0, .int 0, .int 0, .int 5, .int 0])), (wa9_2 4, .inl (kc 1, 24, .inr (.inl z1))), (wa9_2 5, .inl (kc 0, 24, .inl z0)), (wa9_2 6, .inl (kc 0, 24, .inl z0)), (wa9_2 7, .inl (kc 0, 8, .inl z0)), (wa9_2 8, .inl (kc 0, 8, .inl z0)), (wa9_2 9, .inl (kc 0, 8, .inl z0)), (wa9_2 10, .inl (kc 0, 8, .inl z0)), (wa9_2 11, .inl (kc 0, 4, .inl z0)), (wa9_2 12, .inl (kc 0, 4, .inl z0)), (wa9_2 13, .inl (kc 0, 4, .inl z0)), (wa9_2 14, .inl (kc 0, 4, .inl z0)), (wa9_2 15, .inl (kc 0, 4, .inl z0)), (wa20_4 2, .inr (2, [.ref (wa20_4 16), .ref (wa20_4 17), .ref (wa20_4 18), .ref (wa20_4 19), .ref (wa20_4 20), .int 0, .int 0, .int 0, .int 0, .int 0, .int 0, .int 0, .int 0])), (wa20_4 16, .inl (kc 0, 8, .inl z0)), (wa20_4 17, .inl (kc 0, 8, .inl z0)), (wa20_4 18, .inl (kc 0, 8, .inl z0)), (wa20_4 19, .inl (kc 0, 8, .inl z0)), (wa20_4 20, .inl (kc 0, 4, .inl z0))] H := hP8
  have hD : va_D A [(h, .inr (9, [.ref (wa9_2 1), .null, .null])), (wa9_2 1, .inr (4, [.ref (wa9_2 4), .ref (wa9_2 5), .ref (wa9_2 6), .ref (wa9_2 7), .ref (wa9_2 8), .ref (wa9_2 9), .ref (wa9_2 10), .ref (wa9_2 11), .ref (wa9_2 12), .ref (wa9_2 13), .ref (wa9_2 14), .ref (wa9_2 15), .int 0, .int 0, .int 0, .int 0, .int 0, .int 0, .int 5, .int 0])), (wa9_2 4, .inl (kc 1, 24, .inr (.inl z1))), (wa9_2 5, .inl (kc 0, 24, .inl z0)), (wa9_2 6, .inl (kc 0, 24, .inl z0)), (wa9_2 7, .inl (kc 0, 8, .inl z0)), (wa9_2 8, .inl (kc 0, 8, .inl z0)), (wa9_2 9, .inl (kc 0, 8, .inl z0)), (wa9_2 10, .inl (kc 0, 8, .inl z0)), (wa9_2 11, .inl (kc 0, 4, .inl z0)), (wa9_2 12, .inl (kc 0, 4, .inl z0)), (wa9_2 13, .inl (kc 0, 4, .inl z0)), (wa9_2 14, .inl (kc 0, 4, .inl z0)), (wa9_2 15, .inl (kc 0, 4, .inl z0)), (wa20_4 2, .inr (2, [.ref (wa20_4 16), .ref (wa20_4 17), .ref (wa20_4 18), .ref (wa20_4 19), .ref (wa20_4 20), .int 0, .int 0, .int 0, .int 0, .int 0, .int 0, .int 0, .int 0])), (wa20_4 16, .inl (kc 0, 8, .inl z0)), (wa20_4 17, .inl (kc 0, 8, .inl z0)), (wa20_4 18, .inl (kc 0, 8, .inl z0)), (wa20_4 19, .inl (kc 0, 8, .inl z0)), (wa20_4 20, .inl (kc 0, 4, .inl z0))] := hD8
  refine va_putF (D := D) (ci := 9) (v := .ref (wa20_4 2)) (ty := .object "SaltStreet$Ground") (C := RX10) (T := TX10) (N := 3) hx hb hts ii_World_X10 tyX10 tyX10_ok nmX10 hown hK hP hD hS 0 rfl rfl 1 (by decide) (hts (.fieldLink RX10 19 "SaltStreet$World" "ground" "LSaltStreet$Ground;") (List.mem_of_getElem? (i := 37) rfl)) (fun _ h9 => h9) rfl hin rfl (by decide +kernel) rfl rfl (Nat.le_of_ble_eq_true rfl) dX10_init_23 (fun H locs hP hD hS => ?_)
  have hP : va_P D vwCl [(h, .inr (9, [.ref (wa9_2 1), .ref (wa20_4 2), .null])), (wa9_2 1, .inr (4, [.ref (wa9_2 4), .ref (wa9_2 5), .ref (wa9_2 6), .ref (wa9_2 7), .ref (wa9_2 8), .ref (wa9_2 9), .ref (wa9_2 10), .ref (wa9_2 11), .ref (wa9_2 12), .ref (wa9_2 13), .ref (wa9_2 14), .ref (wa9_2 15), .int 0, .int 0, .int 0, .int 0, .int 0, .int 0, .int 5, .int 0])), (wa9_2 4, .inl (kc 1, 24, .inr (.inl z1))), (wa9_2 5, .inl (kc 0, 24, .inl z0)), (wa9_2 6, .inl (kc 0, 24, .inl z0)), (wa9_2 7, .inl (kc 0, 8, .inl z0)), (wa9_2 8, .inl (kc 0, 8, .inl z0)), (wa9_2 9, .inl (kc 0, 8, .inl z0)), (wa9_2 10, .inl (kc 0, 8, .inl z0)), (wa9_2 11, .inl (kc 0, 4, .inl z0)), (wa9_2 12, .inl (kc 0, 4, .inl z0)), (wa9_2 13, .inl (kc 0, 4, .inl z0)), (wa9_2 14, .inl (kc 0, 4, .inl z0)), (wa9_2 15, .inl (kc 0, 4, .inl z0)), (wa20_4 2, .inr (2, [.ref (wa20_4 16), .ref (wa20_4 17), .ref (wa20_4 18), .ref (wa20_4 19), .ref (wa20_4 20), .int 0, .int 0, .int 0, .int 0, .int 0, .int 0, .int 0, .int 0])), (wa20_4 16, .inl (kc 0, 8, .inl z0)), (wa20_4 17, .inl (kc 0, 8, .inl z0)), (wa20_4 18, .inl (kc 0, 8, .inl z0)), (wa20_4 19, .inl (kc 0, 8, .inl z0)), (wa20_4 20, .inl (kc 0, 4, .inl z0))] H := hP
  have hD : va_D A [(h, .inr (9, [.ref (wa9_2 1), .ref (wa20_4 2), .null])), (wa9_2 1, .inr (4, [.ref (wa9_2 4), .ref (wa9_2 5), .ref (wa9_2 6), .ref (wa9_2 7), .ref (wa9_2 8), .ref (wa9_2 9), .ref (wa9_2 10), .ref (wa9_2 11), .ref (wa9_2 12), .ref (wa9_2 13), .ref (wa9_2 14), .ref (wa9_2 15), .int 0, .int 0, .int 0, .int 0, .int 0, .int 0, .int 5, .int 0])), (wa9_2 4, .inl (kc 1, 24, .inr (.inl z1))), (wa9_2 5, .inl (kc 0, 24, .inl z0)), (wa9_2 6, .inl (kc 0, 24, .inl z0)), (wa9_2 7, .inl (kc 0, 8, .inl z0)), (wa9_2 8, .inl (kc 0, 8, .inl z0)), (wa9_2 9, .inl (kc 0, 8, .inl z0)), (wa9_2 10, .inl (kc 0, 8, .inl z0)), (wa9_2 11, .inl (kc 0, 4, .inl z0)), (wa9_2 12, .inl (kc 0, 4, .inl z0)), (wa9_2 13, .inl (kc 0, 4, .inl z0)), (wa9_2 14, .inl (kc 0, 4, .inl z0)), (wa9_2 15, .inl (kc 0, 4, .inl z0)), (wa20_4 2, .inr (2, [.ref (wa20_4 16), .ref (wa20_4 17), .ref (wa20_4 18), .ref (wa20_4 19), .ref (wa20_4 20), .int 0, .int 0, .int 0, .int 0, .int 0, .int 0, .int 0, .int 0])), (wa20_4 16, .inl (kc 0, 8, .inl z0)), (wa20_4 17, .inl (kc 0, 8, .inl z0)), (wa20_4 18, .inl (kc 0, 8, .inl z0)), (wa20_4 19, .inl (kc 0, 8, .inl z0)), (wa20_4 20, .inl (kc 0, 4, .inl z0))] := hD
  refine lv_aload_n hx hb dX10_init_26 rfl (lv_at hl 0 rfl) ?_
  refine va_new (ci := 5) (fs := [.null, .null, .null, .null, .null, .null, .int 0, .int 0, .int 0]) (C := RX5) (T := TX5) (N := 9) hx hb hts ii_World_X5 tyX5 tyX5_ok hown (hts (.classLink RX10 23 RX5) (List.mem_of_getElem? (i := 38) rfl)) (hts (.instantiable RX5 9) (List.mem_of_getElem? (i := 39) rfl)) (hts (.initialized RX5) (List.mem_of_getElem? (i := 40) rfl)) hK hP hD hS hA rfl (by decide +kernel) (Nat.le_of_ble_eq_true rfl) (Nat.le_of_ble_eq_true rfl) dX10_init_27 (fun q27_5 H hP hD hS => ?_)
  have hP : va_P D vwCl [(h, .inr (9, [.ref (wa9_2 1), .ref (wa20_4 2), .null])), (wa9_2 1, .inr (4, [.ref (wa9_2 4), .ref (wa9_2 5), .ref (wa9_2 6), .ref (wa9_2 7), .ref (wa9_2 8), .ref (wa9_2 9), .ref (wa9_2 10), .ref (wa9_2 11), .ref (wa9_2 12), .ref (wa9_2 13), .ref (wa9_2 14), .ref (wa9_2 15), .int 0, .int 0, .int 0, .int 0, .int 0, .int 0, .int 5, .int 0])), (wa9_2 4, .inl (kc 1, 24, .inr (.inl z1))), (wa9_2 5, .inl (kc 0, 24, .inl z0)), (wa9_2 6, .inl (kc 0, 24, .inl z0)), (wa9_2 7, .inl (kc 0, 8, .inl z0)), (wa9_2 8, .inl (kc 0, 8, .inl z0)), (wa9_2 9, .inl (kc 0, 8, .inl z0)), (wa9_2 10, .inl (kc 0, 8, .inl z0)), (wa9_2 11, .inl (kc 0, 4, .inl z0)), (wa9_2 12, .inl (kc 0, 4, .inl z0)), (wa9_2 13, .inl (kc 0, 4, .inl z0)), (wa9_2 14, .inl (kc 0, 4, .inl z0)), (wa9_2 15, .inl (kc 0, 4, .inl z0)), (wa20_4 2, .inr (2, [.ref (wa20_4 16), .ref (wa20_4 17), .ref (wa20_4 18), .ref (wa20_4 19), .ref (wa20_4 20), .int 0, .int 0, .int 0, .int 0, .int 0, .int 0, .int 0, .int 0])), (wa20_4 16, .inl (kc 0, 8, .inl z0)), (wa20_4 17, .inl (kc 0, 8, .inl z0)), (wa20_4 18, .inl (kc 0, 8, .inl z0)), (wa20_4 19, .inl (kc 0, 8, .inl z0)), (wa20_4 20, .inl (kc 0, 4, .inl z0)), (q27_5, .inr (5, [.null, .null, .null, .null, .null, .null, .int 0, .int 0, .int 0]))] H := hP
  have hD : va_D A [(h, .inr (9, [.ref (wa9_2 1), .ref (wa20_4 2), .null])), (wa9_2 1, .inr (4, [.ref (wa9_2 4), .ref (wa9_2 5), .ref (wa9_2 6), .ref (wa9_2 7), .ref (wa9_2 8), .ref (wa9_2 9), .ref (wa9_2 10), .ref (wa9_2 11), .ref (wa9_2 12), .ref (wa9_2 13), .ref (wa9_2 14), .ref (wa9_2 15), .int 0, .int 0, .int 0, .int 0, .int 0, .int 0, .int 5, .int 0])), (wa9_2 4, .inl (kc 1, 24, .inr (.inl z1))), (wa9_2 5, .inl (kc 0, 24, .inl z0)), (wa9_2 6, .inl (kc 0, 24, .inl z0)), (wa9_2 7, .inl (kc 0, 8, .inl z0)), (wa9_2 8, .inl (kc 0, 8, .inl z0)), (wa9_2 9, .inl (kc 0, 8, .inl z0)), (wa9_2 10, .inl (kc 0, 8, .inl z0)), (wa9_2 11, .inl (kc 0, 4, .inl z0)), (wa9_2 12, .inl (kc 0, 4, .inl z0)), (wa9_2 13, .inl (kc 0, 4, .inl z0)), (wa9_2 14, .inl (kc 0, 4, .inl z0)), (wa9_2 15, .inl (kc 0, 4, .inl z0)), (wa20_4 2, .inr (2, [.ref (wa20_4 16), .ref (wa20_4 17), .ref (wa20_4 18), .ref (wa20_4 19), .ref (wa20_4 20), .int 0, .int 0, .int 0, .int 0, .int 0, .int 0, .int 0, .int 0])), (wa20_4 16, .inl (kc 0, 8, .inl z0)), (wa20_4 17, .inl (kc 0, 8, .inl z0)), (wa20_4 18, .inl (kc 0, 8, .inl z0)), (wa20_4 19, .inl (kc 0, 8, .inl z0)), (wa20_4 20, .inl (kc 0, 4, .inl z0)), (q27_5, .inr (5, [.null, .null, .null, .null, .null, .null, .int 0, .int 0, .int 0]))] := hD
  refine W.widen (k := 20) (n := 202) (Nat.le_of_ble_eq_true rfl) (Nat.le_of_ble_eq_true rfl) ?_
  refine lv_dup hx hb dX10_init_30 rfl ?_
  have hPc := hP.sub (ws' := [(q27_5, .inr (5, [.null, .null, .null, .null, .null, .null, .int 0, .int 0, .int 0]))]) [20] rfl
  have hDc := hD.sub (ws' := [(q27_5, .inr (5, [.null, .null, .null, .null, .null, .null, .int 0, .int 0, .int 0]))]) [20] (by decide) rfl
  have hFc := va_free (wc := [(q27_5, .inr (5, [.null, .null, .null, .null, .null, .null, .int 0, .int 0, .int 0]))]) hD hS hA [20] rfl
  refine va_callv (va_runIN (As := []) (rest := [.ref q27_5, .ref h]) ⟨hx, hb, hml, hown, hts⟩ (i_Program l D kc H.size q27_5) ⟨va_cnB 0 hts gi_World_25_i_Program rfl rfl rfl (hE.nn 75 rfl) (hts (.initialized RX5) (List.mem_of_getElem? (i := 40) rfl)) (by decide +kernel) ⟨Nat.le_of_ble_eq_true rfl, Nat.le_of_ble_eq_true rfl⟩, rfl, (hts (.instanceMethod yX5_init) (List.mem_of_getElem? (i := 49) rfl))⟩ (preS_ok hPc hDc hE) rfl rfl hl.1 rfl (lv_room (Nat.le_of_ble_eq_true rfl)) dX10_init_31 ⟨Nat.le_of_ble_eq_true rfl, Nat.le_of_ble_eq_true rfl⟩) hS (fun q _ h => hFc q h) hFc (fun u9 t9 H locs ht hvm hw hB hz1 hk1 hS => ?_)
  obtain ⟨wa31_6, hu_wa31_6, hP1, hD1⟩ := hB
  rw [ht] at hP1
  obtain ⟨hP8, hD8⟩ := va_join (wr := [(h, .inr (9, [.ref (wa9_2 1), .ref (wa20_4 2), .null])), (wa9_2 1, .inr (4, [.ref (wa9_2 4), .ref (wa9_2 5), .ref (wa9_2 6), .ref (wa9_2 7), .ref (wa9_2 8), .ref (wa9_2 9), .ref (wa9_2 10), .ref (wa9_2 11), .ref (wa9_2 12), .ref (wa9_2 13), .ref (wa9_2 14), .ref (wa9_2 15), .int 0, .int 0, .int 0, .int 0, .int 0, .int 0, .int 5, .int 0])), (wa9_2 4, .inl (kc 1, 24, .inr (.inl z1))), (wa9_2 5, .inl (kc 0, 24, .inl z0)), (wa9_2 6, .inl (kc 0, 24, .inl z0)), (wa9_2 7, .inl (kc 0, 8, .inl z0)), (wa9_2 8, .inl (kc 0, 8, .inl z0)), (wa9_2 9, .inl (kc 0, 8, .inl z0)), (wa9_2 10, .inl (kc 0, 8, .inl z0)), (wa9_2 11, .inl (kc 0, 4, .inl z0)), (wa9_2 12, .inl (kc 0, 4, .inl z0)), (wa9_2 13, .inl (kc 0, 4, .inl z0)), (wa9_2 14, .inl (kc 0, 4, .inl z0)), (wa9_2 15, .inl (kc 0, 4, .inl z0)), (wa20_4 2, .inr (2, [.ref (wa20_4 16), .ref (wa20_4 17), .ref (wa20_4 18), .ref (wa20_4 19), .ref (wa20_4 20), .int 0, .int 0, .int 0, .int 0, .int 0, .int 0, .int 0, .int 0])), (wa20_4 16, .inl (kc 0, 8, .inl z0)), (wa20_4 17, .inl (kc 0, 8, .inl z0)), (wa20_4 18, .inl (kc 0, 8, .inl z0)), (wa20_4 19, .inl (kc 0, 8, .inl z0)), (wa20_4 20, .inl (kc 0, 4, .inl z0))]) (w1 := [(wa31_6 3, .inr (5, [.ref (wa31_6 21), .ref (wa31_6 22), .ref (wa31_6 23), .ref (wa31_6 24), .ref (wa31_6 25), .ref (wa31_6 26), .int 0, .int 0, .int 0])), (wa31_6 21, .inl (kc 0, 60, .inl z0)), (wa31_6 22, .inl (kc 0, 60, .inl z0)), (wa31_6 23, .inl (kc 0, 60, .inl z0)), (wa31_6 24, .inl (kc 0, 60, .inl z0)), (wa31_6 25, .inl (kc 0, 60, .inl z0)), (wa31_6 26, .inl (kc 0, 60, .inl z0))]) hP hD [20] [0, 1, 2, 3, 4, 5, 6, 7, 8, 9, 10, 11, 12, 13, 14, 15, 16, 17, 18, 19] rfl rfl (by decide) (by decide) hk1 hFc hP1 hD1
  subst hu_wa31_6
  refine W.widen (k := 26) (n := 562) (Nat.le_of_ble_eq_true rfl) (Nat.le_of_ble_eq_true rfl) ?_
  have hP : va_P D vwCl [(h, .inr (9, [.ref (wa9_2 1), .ref (wa20_4 2), .null])), (wa9_2 1, .inr (4, [.ref (wa9_2 4), .ref (wa9_2 5), .ref (wa9_2 6), .ref (wa9_2 7), .ref (wa9_2 8), .ref (wa9_2 9), .ref (wa9_2 10), .ref (wa9_2 11), .ref (wa9_2 12), .ref (wa9_2 13), .ref (wa9_2 14), .ref (wa9_2 15), .int 0, .int 0, .int 0, .int 0, .int 0, .int 0, .int 5, .int 0])), (wa9_2 4, .inl (kc 1, 24, .inr (.inl z1))), (wa9_2 5, .inl (kc 0, 24, .inl z0)), (wa9_2 6, .inl (kc 0, 24, .inl z0)), (wa9_2 7, .inl (kc 0, 8, .inl z0)), (wa9_2 8, .inl (kc 0, 8, .inl z0)), (wa9_2 9, .inl (kc 0, 8, .inl z0)), (wa9_2 10, .inl (kc 0, 8, .inl z0)), (wa9_2 11, .inl (kc 0, 4, .inl z0)), (wa9_2 12, .inl (kc 0, 4, .inl z0)), (wa9_2 13, .inl (kc 0, 4, .inl z0)), (wa9_2 14, .inl (kc 0, 4, .inl z0)), (wa9_2 15, .inl (kc 0, 4, .inl z0)), (wa20_4 2, .inr (2, [.ref (wa20_4 16), .ref (wa20_4 17), .ref (wa20_4 18), .ref (wa20_4 19), .ref (wa20_4 20), .int 0, .int 0, .int 0, .int 0, .int 0, .int 0, .int 0, .int 0])), (wa20_4 16, .inl (kc 0, 8, .inl z0)), (wa20_4 17, .inl (kc 0, 8, .inl z0)), (wa20_4 18, .inl (kc 0, 8, .inl z0)), (wa20_4 19, .inl (kc 0, 8, .inl z0)), (wa20_4 20, .inl (kc 0, 4, .inl z0)), (wa31_6 3, .inr (5, [.ref (wa31_6 21), .ref (wa31_6 22), .ref (wa31_6 23), .ref (wa31_6 24), .ref (wa31_6 25), .ref (wa31_6 26), .int 0, .int 0, .int 0])), (wa31_6 21, .inl (kc 0, 60, .inl z0)), (wa31_6 22, .inl (kc 0, 60, .inl z0)), (wa31_6 23, .inl (kc 0, 60, .inl z0)), (wa31_6 24, .inl (kc 0, 60, .inl z0)), (wa31_6 25, .inl (kc 0, 60, .inl z0)), (wa31_6 26, .inl (kc 0, 60, .inl z0))] H := hP8
  have hD : va_D A [(h, .inr (9, [.ref (wa9_2 1), .ref (wa20_4 2), .null])), (wa9_2 1, .inr (4, [.ref (wa9_2 4), .ref (wa9_2 5), .ref (wa9_2 6), .ref (wa9_2 7), .ref (wa9_2 8), .ref (wa9_2 9), .ref (wa9_2 10), .ref (wa9_2 11), .ref (wa9_2 12), .ref (wa9_2 13), .ref (wa9_2 14), .ref (wa9_2 15), .int 0, .int 0, .int 0, .int 0, .int 0, .int 0, .int 5, .int 0])), (wa9_2 4, .inl (kc 1, 24, .inr (.inl z1))), (wa9_2 5, .inl (kc 0, 24, .inl z0)), (wa9_2 6, .inl (kc 0, 24, .inl z0)), (wa9_2 7, .inl (kc 0, 8, .inl z0)), (wa9_2 8, .inl (kc 0, 8, .inl z0)), (wa9_2 9, .inl (kc 0, 8, .inl z0)), (wa9_2 10, .inl (kc 0, 8, .inl z0)), (wa9_2 11, .inl (kc 0, 4, .inl z0)), (wa9_2 12, .inl (kc 0, 4, .inl z0)), (wa9_2 13, .inl (kc 0, 4, .inl z0)), (wa9_2 14, .inl (kc 0, 4, .inl z0)), (wa9_2 15, .inl (kc 0, 4, .inl z0)), (wa20_4 2, .inr (2, [.ref (wa20_4 16), .ref (wa20_4 17), .ref (wa20_4 18), .ref (wa20_4 19), .ref (wa20_4 20), .int 0, .int 0, .int 0, .int 0, .int 0, .int 0, .int 0, .int 0])), (wa20_4 16, .inl (kc 0, 8, .inl z0)), (wa20_4 17, .inl (kc 0, 8, .inl z0)), (wa20_4 18, .inl (kc 0, 8, .inl z0)), (wa20_4 19, .inl (kc 0, 8, .inl z0)), (wa20_4 20, .inl (kc 0, 4, .inl z0)), (wa31_6 3, .inr (5, [.ref (wa31_6 21), .ref (wa31_6 22), .ref (wa31_6 23), .ref (wa31_6 24), .ref (wa31_6 25), .ref (wa31_6 26), .int 0, .int 0, .int 0])), (wa31_6 21, .inl (kc 0, 60, .inl z0)), (wa31_6 22, .inl (kc 0, 60, .inl z0)), (wa31_6 23, .inl (kc 0, 60, .inl z0)), (wa31_6 24, .inl (kc 0, 60, .inl z0)), (wa31_6 25, .inl (kc 0, 60, .inl z0)), (wa31_6 26, .inl (kc 0, 60, .inl z0))] := hD8
  refine va_putF (D := D) (ci := 9) (v := .ref (wa31_6 3)) (ty := .object "SaltStreet$Program") (C := RX10) (T := TX10) (N := 3) hx hb hts ii_World_X10 tyX10 tyX10_ok nmX10 hown hK hP hD hS 0 rfl rfl 2 (by decide) (hts (.fieldLink RX10 26 "SaltStreet$World" "program" "LSaltStreet$Program;") (List.mem_of_getElem? (i := 50) rfl)) (fun _ h9 => h9) rfl hin rfl (by decide +kernel) rfl rfl (Nat.le_of_ble_eq_true rfl) dX10_init_34 (fun H locs hP hD hS => ?_)
  have hP : va_P D vwCl [(h, .inr (9, [.ref (wa9_2 1), .ref (wa20_4 2), .ref (wa31_6 3)])), (wa9_2 1, .inr (4, [.ref (wa9_2 4), .ref (wa9_2 5), .ref (wa9_2 6), .ref (wa9_2 7), .ref (wa9_2 8), .ref (wa9_2 9), .ref (wa9_2 10), .ref (wa9_2 11), .ref (wa9_2 12), .ref (wa9_2 13), .ref (wa9_2 14), .ref (wa9_2 15), .int 0, .int 0, .int 0, .int 0, .int 0, .int 0, .int 5, .int 0])), (wa9_2 4, .inl (kc 1, 24, .inr (.inl z1))), (wa9_2 5, .inl (kc 0, 24, .inl z0)), (wa9_2 6, .inl (kc 0, 24, .inl z0)), (wa9_2 7, .inl (kc 0, 8, .inl z0)), (wa9_2 8, .inl (kc 0, 8, .inl z0)), (wa9_2 9, .inl (kc 0, 8, .inl z0)), (wa9_2 10, .inl (kc 0, 8, .inl z0)), (wa9_2 11, .inl (kc 0, 4, .inl z0)), (wa9_2 12, .inl (kc 0, 4, .inl z0)), (wa9_2 13, .inl (kc 0, 4, .inl z0)), (wa9_2 14, .inl (kc 0, 4, .inl z0)), (wa9_2 15, .inl (kc 0, 4, .inl z0)), (wa20_4 2, .inr (2, [.ref (wa20_4 16), .ref (wa20_4 17), .ref (wa20_4 18), .ref (wa20_4 19), .ref (wa20_4 20), .int 0, .int 0, .int 0, .int 0, .int 0, .int 0, .int 0, .int 0])), (wa20_4 16, .inl (kc 0, 8, .inl z0)), (wa20_4 17, .inl (kc 0, 8, .inl z0)), (wa20_4 18, .inl (kc 0, 8, .inl z0)), (wa20_4 19, .inl (kc 0, 8, .inl z0)), (wa20_4 20, .inl (kc 0, 4, .inl z0)), (wa31_6 3, .inr (5, [.ref (wa31_6 21), .ref (wa31_6 22), .ref (wa31_6 23), .ref (wa31_6 24), .ref (wa31_6 25), .ref (wa31_6 26), .int 0, .int 0, .int 0])), (wa31_6 21, .inl (kc 0, 60, .inl z0)), (wa31_6 22, .inl (kc 0, 60, .inl z0)), (wa31_6 23, .inl (kc 0, 60, .inl z0)), (wa31_6 24, .inl (kc 0, 60, .inl z0)), (wa31_6 25, .inl (kc 0, 60, .inl z0)), (wa31_6 26, .inl (kc 0, 60, .inl z0))] H := hP
  have hD : va_D A [(h, .inr (9, [.ref (wa9_2 1), .ref (wa20_4 2), .ref (wa31_6 3)])), (wa9_2 1, .inr (4, [.ref (wa9_2 4), .ref (wa9_2 5), .ref (wa9_2 6), .ref (wa9_2 7), .ref (wa9_2 8), .ref (wa9_2 9), .ref (wa9_2 10), .ref (wa9_2 11), .ref (wa9_2 12), .ref (wa9_2 13), .ref (wa9_2 14), .ref (wa9_2 15), .int 0, .int 0, .int 0, .int 0, .int 0, .int 0, .int 5, .int 0])), (wa9_2 4, .inl (kc 1, 24, .inr (.inl z1))), (wa9_2 5, .inl (kc 0, 24, .inl z0)), (wa9_2 6, .inl (kc 0, 24, .inl z0)), (wa9_2 7, .inl (kc 0, 8, .inl z0)), (wa9_2 8, .inl (kc 0, 8, .inl z0)), (wa9_2 9, .inl (kc 0, 8, .inl z0)), (wa9_2 10, .inl (kc 0, 8, .inl z0)), (wa9_2 11, .inl (kc 0, 4, .inl z0)), (wa9_2 12, .inl (kc 0, 4, .inl z0)), (wa9_2 13, .inl (kc 0, 4, .inl z0)), (wa9_2 14, .inl (kc 0, 4, .inl z0)), (wa9_2 15, .inl (kc 0, 4, .inl z0)), (wa20_4 2, .inr (2, [.ref (wa20_4 16), .ref (wa20_4 17), .ref (wa20_4 18), .ref (wa20_4 19), .ref (wa20_4 20), .int 0, .int 0, .int 0, .int 0, .int 0, .int 0, .int 0, .int 0])), (wa20_4 16, .inl (kc 0, 8, .inl z0)), (wa20_4 17, .inl (kc 0, 8, .inl z0)), (wa20_4 18, .inl (kc 0, 8, .inl z0)), (wa20_4 19, .inl (kc 0, 8, .inl z0)), (wa20_4 20, .inl (kc 0, 4, .inl z0)), (wa31_6 3, .inr (5, [.ref (wa31_6 21), .ref (wa31_6 22), .ref (wa31_6 23), .ref (wa31_6 24), .ref (wa31_6 25), .ref (wa31_6 26), .int 0, .int 0, .int 0])), (wa31_6 21, .inl (kc 0, 60, .inl z0)), (wa31_6 22, .inl (kc 0, 60, .inl z0)), (wa31_6 23, .inl (kc 0, 60, .inl z0)), (wa31_6 24, .inl (kc 0, 60, .inl z0)), (wa31_6 25, .inl (kc 0, 60, .inl z0)), (wa31_6 26, .inl (kc 0, 60, .inl z0))] := hD
  have hP9 := hP.sub (ws' := [(h, .inr (9, [.ref (wa9_2 1), .ref (wa20_4 2), .ref (wa31_6 3)])), (wa9_2 1, .inr (4, [.ref (wa9_2 4), .ref (wa9_2 5), .ref (wa9_2 6), .ref (wa9_2 7), .ref (wa9_2 8), .ref (wa9_2 9), .ref (wa9_2 10), .ref (wa9_2 11), .ref (wa9_2 12), .ref (wa9_2 13), .ref (wa9_2 14), .ref (wa9_2 15), .int 0, .int 0, .int 0, .int 0, .int 0, .int 0, .int 5, .int 0])), (wa20_4 2, .inr (2, [.ref (wa20_4 16), .ref (wa20_4 17), .ref (wa20_4 18), .ref (wa20_4 19), .ref (wa20_4 20), .int 0, .int 0, .int 0, .int 0, .int 0, .int 0, .int 0, .int 0])), (wa31_6 3, .inr (5, [.ref (wa31_6 21), .ref (wa31_6 22), .ref (wa31_6 23), .ref (wa31_6 24), .ref (wa31_6 25), .ref (wa31_6 26), .int 0, .int 0, .int 0])), (wa9_2 4, .inl (kc 1, 24, .inr (.inl z1))), (wa9_2 5, .inl (kc 0, 24, .inl z0)), (wa9_2 6, .inl (kc 0, 24, .inl z0)), (wa9_2 7, .inl (kc 0, 8, .inl z0)), (wa9_2 8, .inl (kc 0, 8, .inl z0)), (wa9_2 9, .inl (kc 0, 8, .inl z0)), (wa9_2 10, .inl (kc 0, 8, .inl z0)), (wa9_2 11, .inl (kc 0, 4, .inl z0)), (wa9_2 12, .inl (kc 0, 4, .inl z0)), (wa9_2 13, .inl (kc 0, 4, .inl z0)), (wa9_2 14, .inl (kc 0, 4, .inl z0)), (wa9_2 15, .inl (kc 0, 4, .inl z0)), (wa20_4 16, .inl (kc 0, 8, .inl z0)), (wa20_4 17, .inl (kc 0, 8, .inl z0)), (wa20_4 18, .inl (kc 0, 8, .inl z0)), (wa20_4 19, .inl (kc 0, 8, .inl z0)), (wa20_4 20, .inl (kc 0, 4, .inl z0)), (wa31_6 21, .inl (kc 0, 60, .inl z0)), (wa31_6 22, .inl (kc 0, 60, .inl z0)), (wa31_6 23, .inl (kc 0, 60, .inl z0)), (wa31_6 24, .inl (kc 0, 60, .inl z0)), (wa31_6 25, .inl (kc 0, 60, .inl z0)), (wa31_6 26, .inl (kc 0, 60, .inl z0))]) [0, 1, 14, 20, 2, 3, 4, 5, 6, 7, 8, 9, 10, 11, 12, 13, 15, 16, 17, 18, 19, 21, 22, 23, 24, 25, 26] rfl
  have hD9 := hD.sub (ws' := [(h, .inr (9, [.ref (wa9_2 1), .ref (wa20_4 2), .ref (wa31_6 3)])), (wa9_2 1, .inr (4, [.ref (wa9_2 4), .ref (wa9_2 5), .ref (wa9_2 6), .ref (wa9_2 7), .ref (wa9_2 8), .ref (wa9_2 9), .ref (wa9_2 10), .ref (wa9_2 11), .ref (wa9_2 12), .ref (wa9_2 13), .ref (wa9_2 14), .ref (wa9_2 15), .int 0, .int 0, .int 0, .int 0, .int 0, .int 0, .int 5, .int 0])), (wa20_4 2, .inr (2, [.ref (wa20_4 16), .ref (wa20_4 17), .ref (wa20_4 18), .ref (wa20_4 19), .ref (wa20_4 20), .int 0, .int 0, .int 0, .int 0, .int 0, .int 0, .int 0, .int 0])), (wa31_6 3, .inr (5, [.ref (wa31_6 21), .ref (wa31_6 22), .ref (wa31_6 23), .ref (wa31_6 24), .ref (wa31_6 25), .ref (wa31_6 26), .int 0, .int 0, .int 0])), (wa9_2 4, .inl (kc 1, 24, .inr (.inl z1))), (wa9_2 5, .inl (kc 0, 24, .inl z0)), (wa9_2 6, .inl (kc 0, 24, .inl z0)), (wa9_2 7, .inl (kc 0, 8, .inl z0)), (wa9_2 8, .inl (kc 0, 8, .inl z0)), (wa9_2 9, .inl (kc 0, 8, .inl z0)), (wa9_2 10, .inl (kc 0, 8, .inl z0)), (wa9_2 11, .inl (kc 0, 4, .inl z0)), (wa9_2 12, .inl (kc 0, 4, .inl z0)), (wa9_2 13, .inl (kc 0, 4, .inl z0)), (wa9_2 14, .inl (kc 0, 4, .inl z0)), (wa9_2 15, .inl (kc 0, 4, .inl z0)), (wa20_4 16, .inl (kc 0, 8, .inl z0)), (wa20_4 17, .inl (kc 0, 8, .inl z0)), (wa20_4 18, .inl (kc 0, 8, .inl z0)), (wa20_4 19, .inl (kc 0, 8, .inl z0)), (wa20_4 20, .inl (kc 0, 4, .inl z0)), (wa31_6 21, .inl (kc 0, 60, .inl z0)), (wa31_6 22, .inl (kc 0, 60, .inl z0)), (wa31_6 23, .inl (kc 0, 60, .inl z0)), (wa31_6 24, .inl (kc 0, 60, .inl z0)), (wa31_6 25, .inl (kc 0, 60, .inl z0)), (wa31_6 26, .inl (kc 0, 60, .inl z0))]) [0, 1, 14, 20, 2, 3, 4, 5, 6, 7, 8, 9, 10, 11, 12, 13, 15, 16, 17, 18, 19, 21, 22, 23, 24, 25, 26] (by decide) rfl
  let wa : Nat → Nat := mkm [h, (wa9_2 1), (wa20_4 2), (wa31_6 3), (wa9_2 4), (wa9_2 5), (wa9_2 6), (wa9_2 7), (wa9_2 8), (wa9_2 9), (wa9_2 10), (wa9_2 11), (wa9_2 12), (wa9_2 13), (wa9_2 14), (wa9_2 15), (wa20_4 16), (wa20_4 17), (wa20_4 18), (wa20_4 19), (wa20_4 20), (wa31_6 21), (wa31_6 22), (wa31_6 23), (wa31_6 24), (wa31_6 25), (wa31_6 26)]
  exact W.vret hx hb hr (fun t9 ht hW => ⟨⟨(), rfl, trivial, wa, rfl, by rw [ht]; exact hP9, hD9⟩, hS.F ht⟩) hS.2.2 dX10_init_37
theorem dX8_init_0 : decode cX8_init 0 = .ok (.aload_n 0, 1) := by decide +kernel
theorem dX8_init_1 : decode cX8_init 1 = .ok (.invokespecial 3, 3) := by decide +kernel
theorem dX8_init_4 : decode cX8_init 4 = .ok (.aload_n 0, 1) := by decide +kernel
theorem dX8_init_5 : decode cX8_init 5 = .ok (.bipush 60, 2) := by decide +kernel
theorem dX8_init_7 : decode cX8_init 7 = .ok (.newarray .long, 2) := by decide +kernel
theorem dX8_init_9 : decode cX8_init 9 = .ok (.putfield 9, 3) := by decide +kernel
theorem dX8_init_12 : decode cX8_init 12 = .ok (.return_, 1) := by decide +kernel
def vdi_Tray : List Cond := [.code yX8_init cX8_init 1 none, .methodLink RX8 3 objectInit, .instanceMethod objectInit, .code objectInit ⟨#[0xb1]⟩ 1 none, .arrayClass .long, .fieldLink RX8 9 "SaltStreet$Tray" "row" "[J"]
def vi_Tray : List Cond := vdi_Tray ++ (wsX80 ++ ([] : List Cond))
theorem ii_Tray_X8 : ∀ w ∈ wsX80, w ∈ vi_Tray := fun _ h => List.mem_append_right _ (List.mem_append_left _ h)
set_option maxHeartbeats 4000000 in
set_option maxRecDepth 100000 in
theorem i_Tray (l : Launch) (D : va_G) (kc : Nat → ClassId) (sz : Nat) (h : Nat) : Met l yX8_init vi_Tray ({ frames := 1, cells := 1, slots := 60, locals := 12 }) (va_Pc [.ref h] (wPre D kc [(h, .inr (8, [.null, .int 0, .int 0, .int 0]))] sz)) (va_Qv (fun (_ : Unit) => True) (fun (_ : Unit) (t9 : State) => ∃ wa : Nat → Nat, wa 0 = h ∧  va_P D vwCl [(wa 0, .inr (8, [.ref (wa 1), .int 0, .int 0, .int 0])), (wa 1, .inl (kc 1, 60, .inr (.inl z1)))] t9.heap ∧ va_D (va_A [(h, .inr (8, [.null, .int 0, .int 0, .int 0]))] sz) [(wa 0, .inr (8, [.ref (wa 1), .int 0, .int 0, .int 0])), (wa 1, .inl (kc 1, 60, .inr (.inl z1)))]) (va_A [(h, .inr (8, [.null, .int 0, .int 0, .int 0]))] sz)) 1 60 (va_A [(h, .inr (8, [.null, .int 0, .int 0, .int 0]))] sz) := by
  refine Met.ofW (cc := cX8_init) (maxL := 1) (ret := none) (by decide) rfl ?_
  intro p e s m args below meth c s₁ B hml hv
  obtain ⟨rfl, hsz, hP, hE, hD0⟩ := hv
  have hx := B.exec
  have hb := B.bytes
  have hr := B.returns
  have hts := atoms_spec (ws := vi_Tray) B.pre
  have hown : s.vm.findClass RX8 = some m.cls := findClass_of_methodNamed B.named
  have hlocks := B.notSynchronized
  have hin : meth.name = "<init>" := (name_of_methodNamed B.named B.method).1
  subst hsz
  have hD := hD0.self (sz := s.heap.size)
  generalize hAe : va_A [(h, .inr (8, [.null, .int 0, .int 0, .int 0]))] s.heap.size = A at hD ⊢
  have hA : ∀ q : Nat, s.heap.size ≤ q → A q := fun q h => by rw [← hAe]; exact Or.inr h
  have hS : va_S A s.heap s.heap [] := va_S.rf
  have hK := hE.1
  have hP : va_P D vwCl [(h, .inr (8, [.null, .int 0, .int 0, .int 0]))] s.heap := hP
  have hl := lv_entry ([.ref h]) (n := 1) (Nat.le_of_ble_eq_true rfl)
  rw [lg_entry_eq]
  generalize (lg_sl ([.ref h]) ++ List.replicate (1 - (lg_sl ([.ref h])).length) Slot.unset).toArray = ls at hl ⊢
  have hl : lv_has ls 1 [(0, .ref h)] := hl
  refine lv_aload_n hx hb dX8_init_0 rfl (lv_at hl 0 rfl) ?_
  refine W.objInit hx hb hown (hts (.methodLink RX8 3 objectInit) (List.mem_of_getElem? (i := 1) rfl)) (hts (.instanceMethod objectInit) (List.mem_of_getElem? (i := 2) rfl)) (hts (.code objectInit ⟨#[0xb1]⟩ 1 none) (List.mem_of_getElem? (i := 3) rfl)) rfl (by rw [hml]; exact hl.1) rfl dX8_init_1 (Nat.le_of_ble_eq_true rfl) (Nat.le_of_ble_eq_true rfl) ?_
  refine W.eq (g2 := F0 m 4 ls []) rfl ?_
  refine lv_aload_n hx hb dX8_init_4 rfl (lv_at hl 0 rfl) ?_
  refine lv_bipush (v := 60) hx hb dX8_init_5 (by decide) ?_
  refine va_newa (atype := .long) (N' := 60) (a0 := (60, .inr (.inl z1))) hx hb (hts (.arrayClass .long) (List.mem_of_getElem? (i := 4) rfl)) rfl hK hP hD hS hA (fun _ => rfl) (by decide) (by decide) (Nat.le_of_ble_eq_true rfl) (Nat.le_of_ble_eq_true rfl) (Nat.le_of_ble_eq_true rfl) dX8_init_7 (fun q7_1 cA H hK1 hP hD hS => ?_)
  obtain rfl := tyl_J hK1
  have hP : va_P D vwCl [(h, .inr (8, [.null, .int 0, .int 0, .int 0])), (q7_1, .inl (kc 1, 60, .inr (.inl z1)))] H := hP
  have hD : va_D A [(h, .inr (8, [.null, .int 0, .int 0, .int 0])), (q7_1, .inl (kc 1, 60, .inr (.inl z1)))] := hD
  refine W.widen (k := 1) (n := 60) (Nat.le_of_ble_eq_true rfl) (Nat.le_of_ble_eq_true rfl) ?_
  refine va_putF (D := D) (ci := 8) (v := .ref q7_1) (ty := .array .long) (C := RX8) (T := TX8) (N := 4) hx hb hts ii_Tray_X8 tyX8 tyX8_ok nmX8 hown hK hP hD hS 0 rfl rfl 0 (by decide) (hts (.fieldLink RX8 9 "SaltStreet$Tray" "row" "[J") (List.mem_of_getElem? (i := 5) rfl)) (fun _ h9 => h9) rfl hin rfl (by decide +kernel) rfl rfl (Nat.le_of_ble_eq_true rfl) dX8_init_9 (fun H locs hP hD hS => ?_)
  have hP : va_P D vwCl [(h, .inr (8, [.ref q7_1, .int 0, .int 0, .int 0])), (q7_1, .inl (kc 1, 60, .inr (.inl z1)))] H := hP
  have hD : va_D A [(h, .inr (8, [.ref q7_1, .int 0, .int 0, .int 0])), (q7_1, .inl (kc 1, 60, .inr (.inl z1)))] := hD
  have hP9 := hP.sub (ws' := [(h, .inr (8, [.ref q7_1, .int 0, .int 0, .int 0])), (q7_1, .inl (kc 1, 60, .inr (.inl z1)))]) [0, 1] rfl
  have hD9 := hD.sub (ws' := [(h, .inr (8, [.ref q7_1, .int 0, .int 0, .int 0])), (q7_1, .inl (kc 1, 60, .inr (.inl z1)))]) [0, 1] (by decide) rfl
  let wa : Nat → Nat := mkm [h, q7_1]
  exact W.vret hx hb hr (fun t9 ht hW => ⟨⟨(), rfl, trivial, wa, rfl, by rw [ht]; exact hP9, hD9⟩, hS.F ht⟩) hS.2.2 dX8_init_12
theorem dX3_init_0 : decode cX3_init 0 = .ok (.aload_n 0, 1) := by decide +kernel
theorem dX3_init_1 : decode cX3_init 1 = .ok (.invokespecial 3, 3) := by decide +kernel
theorem dX3_init_4 : decode cX3_init 4 = .ok (.aload_n 0, 1) := by decide +kernel
theorem dX3_init_5 : decode cX3_init 5 = .ok (.bipush 60, 2) := by decide +kernel
theorem dX3_init_7 : decode cX3_init 7 = .ok (.newarray .int, 2) := by decide +kernel
theorem dX3_init_9 : decode cX3_init 9 = .ok (.putfield 9, 3) := by decide +kernel
theorem dX3_init_12 : decode cX3_init 12 = .ok (.return_, 1) := by decide +kernel
def vdi_Life : List Cond := [.code yX3_init cX3_init 1 none, .methodLink RX3 3 objectInit, .instanceMethod objectInit, .code objectInit ⟨#[0xb1]⟩ 1 none, .arrayClass .int, .fieldLink RX3 9 "SaltStreet$Life" "turnsLeft" "[I"]
def vi_Life : List Cond := vdi_Life ++ (wsX30 ++ ([] : List Cond))
theorem ii_Life_X3 : ∀ w ∈ wsX30, w ∈ vi_Life := fun _ h => List.mem_append_right _ (List.mem_append_left _ h)
set_option maxHeartbeats 4000000 in
set_option maxRecDepth 100000 in
theorem i_Life (l : Launch) (D : va_G) (kc : Nat → ClassId) (sz : Nat) (h : Nat) : Met l yX3_init vi_Life ({ frames := 1, cells := 1, slots := 60, locals := 12 }) (va_Pc [.ref h] (wPre D kc [(h, .inr (3, [.null, .int 0, .int 0, .int 0, .int 0, .int 0, .int 0, .int 0, .int 0]))] sz)) (va_Qv (fun (_ : Unit) => True) (fun (_ : Unit) (t9 : State) => ∃ wa : Nat → Nat, wa 0 = h ∧  va_P D vwCl [(wa 0, .inr (3, [.ref (wa 1), .int 0, .int 0, .int 0, .int 0, .int 0, .int 0, .int 0, .int 0]))] t9.heap ∧ va_D (va_A [(h, .inr (3, [.null, .int 0, .int 0, .int 0, .int 0, .int 0, .int 0, .int 0, .int 0]))] sz) [(wa 0, .inr (3, [.ref (wa 1), .int 0, .int 0, .int 0, .int 0, .int 0, .int 0, .int 0, .int 0]))]) (va_A [(h, .inr (3, [.null, .int 0, .int 0, .int 0, .int 0, .int 0, .int 0, .int 0, .int 0]))] sz)) 1 60 (va_A [(h, .inr (3, [.null, .int 0, .int 0, .int 0, .int 0, .int 0, .int 0, .int 0, .int 0]))] sz) := by
  refine Met.ofW (cc := cX3_init) (maxL := 1) (ret := none) (by decide) rfl ?_
  intro p e s m args below meth c s₁ B hml hv
  obtain ⟨rfl, hsz, hP, hE, hD0⟩ := hv
  have hx := B.exec
  have hb := B.bytes
  have hr := B.returns
  have hts := atoms_spec (ws := vi_Life) B.pre
  have hown : s.vm.findClass RX3 = some m.cls := findClass_of_methodNamed B.named
  have hlocks := B.notSynchronized
  have hin : meth.name = "<init>" := (name_of_methodNamed B.named B.method).1
  subst hsz
  have hD := hD0.self (sz := s.heap.size)
  generalize hAe : va_A [(h, .inr (3, [.null, .int 0, .int 0, .int 0, .int 0, .int 0, .int 0, .int 0, .int 0]))] s.heap.size = A at hD ⊢
  have hA : ∀ q : Nat, s.heap.size ≤ q → A q := fun q h => by rw [← hAe]; exact Or.inr h
  have hS : va_S A s.heap s.heap [] := va_S.rf
  have hK := hE.1
  have hP : va_P D vwCl [(h, .inr (3, [.null, .int 0, .int 0, .int 0, .int 0, .int 0, .int 0, .int 0, .int 0]))] s.heap := hP
  have hl := lv_entry ([.ref h]) (n := 1) (Nat.le_of_ble_eq_true rfl)
  rw [lg_entry_eq]
  generalize (lg_sl ([.ref h]) ++ List.replicate (1 - (lg_sl ([.ref h])).length) Slot.unset).toArray = ls at hl ⊢
  have hl : lv_has ls 1 [(0, .ref h)] := hl
  refine lv_aload_n hx hb dX3_init_0 rfl (lv_at hl 0 rfl) ?_
  refine W.objInit hx hb hown (hts (.methodLink RX3 3 objectInit) (List.mem_of_getElem? (i := 1) rfl)) (hts (.instanceMethod objectInit) (List.mem_of_getElem? (i := 2) rfl)) (hts (.code objectInit ⟨#[0xb1]⟩ 1 none) (List.mem_of_getElem? (i := 3) rfl)) rfl (by rw [hml]; exact hl.1) rfl dX3_init_1 (Nat.le_of_ble_eq_true rfl) (Nat.le_of_ble_eq_true rfl) ?_
  refine W.eq (g2 := F0 m 4 ls []) rfl ?_
  refine lv_aload_n hx hb dX3_init_4 rfl (lv_at hl 0 rfl) ?_
  refine lv_bipush (v := 60) hx hb dX3_init_5 (by decide) ?_
  refine va_newa (atype := .int) (N' := 60) (a0 := (60, .inl z0)) hx hb (hts (.arrayClass .int) (List.mem_of_getElem? (i := 4) rfl)) rfl hK hP hD hS hA (fun _ => rfl) (by decide) (by decide) (Nat.le_of_ble_eq_true rfl) (Nat.le_of_ble_eq_true rfl) (Nat.le_of_ble_eq_true rfl) dX3_init_7 (fun q7_1 cA H hK1 hP hD hS => ?_)
  obtain rfl := tyl_I hK1
  have hP : va_P D vwCl [(h, .inr (3, [.null, .int 0, .int 0, .int 0, .int 0, .int 0, .int 0, .int 0, .int 0])), (q7_1, .inl (kc 0, 60, .inl z0))] H := hP
  have hD : va_D A [(h, .inr (3, [.null, .int 0, .int 0, .int 0, .int 0, .int 0, .int 0, .int 0, .int 0])), (q7_1, .inl (kc 0, 60, .inl z0))] := hD
  refine W.widen (k := 1) (n := 60) (Nat.le_of_ble_eq_true rfl) (Nat.le_of_ble_eq_true rfl) ?_
  refine va_putF (D := D) (ci := 3) (v := .ref q7_1) (ty := .array .int) (C := RX3) (T := TX3) (N := 9) hx hb hts ii_Life_X3 tyX3 tyX3_ok nmX3 hown hK hP hD hS 0 rfl rfl 0 (by decide) (hts (.fieldLink RX3 9 "SaltStreet$Life" "turnsLeft" "[I") (List.mem_of_getElem? (i := 5) rfl)) (fun _ h9 => h9) rfl hin rfl (by decide +kernel) rfl rfl (Nat.le_of_ble_eq_true rfl) dX3_init_9 (fun H locs hP hD hS => ?_)
  have hP : va_P D vwCl [(h, .inr (3, [.ref q7_1, .int 0, .int 0, .int 0, .int 0, .int 0, .int 0, .int 0, .int 0])), (q7_1, .inl (kc 0, 60, .inl z0))] H := hP
  have hD : va_D A [(h, .inr (3, [.ref q7_1, .int 0, .int 0, .int 0, .int 0, .int 0, .int 0, .int 0, .int 0])), (q7_1, .inl (kc 0, 60, .inl z0))] := hD
  have hP9 := hP.sub (ws' := [(h, .inr (3, [.ref q7_1, .int 0, .int 0, .int 0, .int 0, .int 0, .int 0, .int 0, .int 0]))]) [0] rfl
  have hD9 := hD.sub (ws' := [(h, .inr (3, [.ref q7_1, .int 0, .int 0, .int 0, .int 0, .int 0, .int 0, .int 0, .int 0]))]) [0] (by decide) rfl
  let wa : Nat → Nat := mkm [h, q7_1]
  exact W.vret hx hb hr (fun t9 ht hW => ⟨⟨(), rfl, trivial, wa, rfl, by rw [ht]; exact hP9, hD9⟩, hS.F ht⟩) hS.2.2 dX3_init_12
theorem dX0_init_0 : decode cX0_init 0 = .ok (.aload_n 0, 1) := by decide +kernel
theorem dX0_init_1 : decode cX0_init 1 = .ok (.invokespecial 3, 3) := by decide +kernel
theorem dX0_init_4 : decode cX0_init 4 = .ok (.aload_n 0, 1) := by decide +kernel
theorem dX0_init_5 : decode cX0_init 5 = .ok (.bipush 8, 2) := by decide +kernel
theorem dX0_init_7 : decode cX0_init 7 = .ok (.newarray .int, 2) := by decide +kernel
theorem dX0_init_9 : decode cX0_init 9 = .ok (.putfield 9, 3) := by decide +kernel
theorem dX0_init_12 : decode cX0_init 12 = .ok (.aload_n 0, 1) := by decide +kernel
theorem dX0_init_13 : decode cX0_init 13 = .ok (.bipush 8, 2) := by decide +kernel
theorem dX0_init_15 : decode cX0_init 15 = .ok (.newarray .int, 2) := by decide +kernel
theorem dX0_init_17 : decode cX0_init 17 = .ok (.putfield 15, 3) := by decide +kernel
theorem dX0_init_20 : decode cX0_init 20 = .ok (.aload_n 0, 1) := by decide +kernel
theorem dX0_init_21 : decode cX0_init 21 = .ok (.bipush 8, 2) := by decide +kernel
theorem dX0_init_23 : decode cX0_init 23 = .ok (.newarray .int, 2) := by decide +kernel
theorem dX0_init_25 : decode cX0_init 25 = .ok (.putfield 18, 3) := by decide +kernel
theorem dX0_init_28 : decode cX0_init 28 = .ok (.return_, 1) := by decide +kernel
def vdi_Could : List Cond := [.code yX0_init cX0_init 1 none, .methodLink RX0 3 objectInit, .instanceMethod objectInit, .code objectInit ⟨#[0xb1]⟩ 1 none, .arrayClass .int, .fieldLink RX0 9 "SaltStreet$Could" "asked" "[I", .fieldLink RX0 15 "SaltStreet$Could" "missing" "[I", .fieldLink RX0 18 "SaltStreet$Could" "strength" "[I"]
def vi_Could : List Cond := vdi_Could ++ (wsX00 ++ ([] : List Cond))
theorem ii_Could_X0 : ∀ w ∈ wsX00, w ∈ vi_Could := fun _ h => List.mem_append_right _ (List.mem_append_left _ h)
set_option maxHeartbeats 4000000 in
set_option maxRecDepth 100000 in
theorem i_Could (l : Launch) (D : va_G) (kc : Nat → ClassId) (sz : Nat) (h : Nat) : Met l yX0_init vi_Could ({ frames := 1, cells := 3, slots := 24, locals := 12 }) (va_Pc [.ref h] (wPre D kc [(h, .inr (0, [.null, .null, .null, .int 0, .int 0]))] sz)) (va_Qv (fun (_ : Unit) => True) (fun (_ : Unit) (t9 : State) => ∃ wa : Nat → Nat, wa 0 = h ∧  va_P D vwCl [(wa 0, .inr (0, [.ref (wa 1), .ref (wa 2), .ref (wa 3), .int 0, .int 0]))] t9.heap ∧ va_D (va_A [(h, .inr (0, [.null, .null, .null, .int 0, .int 0]))] sz) [(wa 0, .inr (0, [.ref (wa 1), .ref (wa 2), .ref (wa 3), .int 0, .int 0]))]) (va_A [(h, .inr (0, [.null, .null, .null, .int 0, .int 0]))] sz)) 3 24 (va_A [(h, .inr (0, [.null, .null, .null, .int 0, .int 0]))] sz) := by
  refine Met.ofW (cc := cX0_init) (maxL := 1) (ret := none) (by decide) rfl ?_
  intro p e s m args below meth c s₁ B hml hv
  obtain ⟨rfl, hsz, hP, hE, hD0⟩ := hv
  have hx := B.exec
  have hb := B.bytes
  have hr := B.returns
  have hts := atoms_spec (ws := vi_Could) B.pre
  have hown : s.vm.findClass RX0 = some m.cls := findClass_of_methodNamed B.named
  have hlocks := B.notSynchronized
  have hin : meth.name = "<init>" := (name_of_methodNamed B.named B.method).1
  subst hsz
  have hD := hD0.self (sz := s.heap.size)
  generalize hAe : va_A [(h, .inr (0, [.null, .null, .null, .int 0, .int 0]))] s.heap.size = A at hD ⊢
  have hA : ∀ q : Nat, s.heap.size ≤ q → A q := fun q h => by rw [← hAe]; exact Or.inr h
  have hS : va_S A s.heap s.heap [] := va_S.rf
  have hK := hE.1
  have hP : va_P D vwCl [(h, .inr (0, [.null, .null, .null, .int 0, .int 0]))] s.heap := hP
  have hl := lv_entry ([.ref h]) (n := 1) (Nat.le_of_ble_eq_true rfl)
  rw [lg_entry_eq]
  generalize (lg_sl ([.ref h]) ++ List.replicate (1 - (lg_sl ([.ref h])).length) Slot.unset).toArray = ls at hl ⊢
  have hl : lv_has ls 1 [(0, .ref h)] := hl
  refine lv_aload_n hx hb dX0_init_0 rfl (lv_at hl 0 rfl) ?_
  refine W.objInit hx hb hown (hts (.methodLink RX0 3 objectInit) (List.mem_of_getElem? (i := 1) rfl)) (hts (.instanceMethod objectInit) (List.mem_of_getElem? (i := 2) rfl)) (hts (.code objectInit ⟨#[0xb1]⟩ 1 none) (List.mem_of_getElem? (i := 3) rfl)) rfl (by rw [hml]; exact hl.1) rfl dX0_init_1 (Nat.le_of_ble_eq_true rfl) (Nat.le_of_ble_eq_true rfl) ?_
  refine W.eq (g2 := F0 m 4 ls []) rfl ?_
  refine lv_aload_n hx hb dX0_init_4 rfl (lv_at hl 0 rfl) ?_
  refine lv_bipush (v := 8) hx hb dX0_init_5 (by decide) ?_
  refine va_newa (atype := .int) (N' := 8) (a0 := (8, .inl z0)) hx hb (hts (.arrayClass .int) (List.mem_of_getElem? (i := 4) rfl)) rfl hK hP hD hS hA (fun _ => rfl) (by decide) (by decide) (Nat.le_of_ble_eq_true rfl) (Nat.le_of_ble_eq_true rfl) (Nat.le_of_ble_eq_true rfl) dX0_init_7 (fun q7_1 cA H hK1 hP hD hS => ?_)
  obtain rfl := tyl_I hK1
  have hP : va_P D vwCl [(h, .inr (0, [.null, .null, .null, .int 0, .int 0])), (q7_1, .inl (kc 0, 8, .inl z0))] H := hP
  have hD : va_D A [(h, .inr (0, [.null, .null, .null, .int 0, .int 0])), (q7_1, .inl (kc 0, 8, .inl z0))] := hD
  refine W.widen (k := 1) (n := 8) (Nat.le_of_ble_eq_true rfl) (Nat.le_of_ble_eq_true rfl) ?_
  refine va_putF (D := D) (ci := 0) (v := .ref q7_1) (ty := .array .int) (C := RX0) (T := TX0) (N := 5) hx hb hts ii_Could_X0 tyX0 tyX0_ok nmX0 hown hK hP hD hS 0 rfl rfl 0 (by decide) (hts (.fieldLink RX0 9 "SaltStreet$Could" "asked" "[I") (List.mem_of_getElem? (i := 5) rfl)) (fun _ h9 => h9) rfl hin rfl (by decide +kernel) rfl rfl (Nat.le_of_ble_eq_true rfl) dX0_init_9 (fun H locs hP hD hS => ?_)
  have hP : va_P D vwCl [(h, .inr (0, [.ref q7_1, .null, .null, .int 0, .int 0])), (q7_1, .inl (kc 0, 8, .inl z0))] H := hP
  have hD : va_D A [(h, .inr (0, [.ref q7_1, .null, .null, .int 0, .int 0])), (q7_1, .inl (kc 0, 8, .inl z0))] := hD
  refine lv_aload_n hx hb dX0_init_12 rfl (lv_at hl 0 rfl) ?_
  refine lv_bipush (v := 8) hx hb dX0_init_13 (by decide) ?_
  refine va_newa (atype := .int) (N' := 8) (a0 := (8, .inl z0)) hx hb (hts (.arrayClass .int) (List.mem_of_getElem? (i := 4) rfl)) rfl hK hP hD hS hA (fun _ => rfl) (by decide) (by decide) (Nat.le_of_ble_eq_true rfl) (Nat.le_of_ble_eq_true rfl) (Nat.le_of_ble_eq_true rfl) dX0_init_15 (fun q15_2 cA H hK1 hP hD hS => ?_)
  obtain rfl := tyl_I hK1
  have hP : va_P D vwCl [(h, .inr (0, [.ref q7_1, .null, .null, .int 0, .int 0])), (q7_1, .inl (kc 0, 8, .inl z0)), (q15_2, .inl (kc 0, 8, .inl z0))] H := hP
  have hD : va_D A [(h, .inr (0, [.ref q7_1, .null, .null, .int 0, .int 0])), (q7_1, .inl (kc 0, 8, .inl z0)), (q15_2, .inl (kc 0, 8, .inl z0))] := hD
  refine W.widen (k := 2) (n := 16) (Nat.le_of_ble_eq_true rfl) (Nat.le_of_ble_eq_true rfl) ?_
  refine va_putF (D := D) (ci := 0) (v := .ref q15_2) (ty := .array .int) (C := RX0) (T := TX0) (N := 5) hx hb hts ii_Could_X0 tyX0 tyX0_ok nmX0 hown hK hP hD hS 0 rfl rfl 1 (by decide) (hts (.fieldLink RX0 15 "SaltStreet$Could" "missing" "[I") (List.mem_of_getElem? (i := 6) rfl)) (fun _ h9 => h9) rfl hin rfl (by decide +kernel) rfl rfl (Nat.le_of_ble_eq_true rfl) dX0_init_17 (fun H locs hP hD hS => ?_)
  have hP : va_P D vwCl [(h, .inr (0, [.ref q7_1, .ref q15_2, .null, .int 0, .int 0])), (q7_1, .inl (kc 0, 8, .inl z0)), (q15_2, .inl (kc 0, 8, .inl z0))] H := hP
  have hD : va_D A [(h, .inr (0, [.ref q7_1, .ref q15_2, .null, .int 0, .int 0])), (q7_1, .inl (kc 0, 8, .inl z0)), (q15_2, .inl (kc 0, 8, .inl z0))] := hD
  refine lv_aload_n hx hb dX0_init_20 rfl (lv_at hl 0 rfl) ?_
  refine lv_bipush (v := 8) hx hb dX0_init_21 (by decide) ?_
  refine va_newa (atype := .int) (N' := 8) (a0 := (8, .inl z0)) hx hb (hts (.arrayClass .int) (List.mem_of_getElem? (i := 4) rfl)) rfl hK hP hD hS hA (fun _ => rfl) (by decide) (by decide) (Nat.le_of_ble_eq_true rfl) (Nat.le_of_ble_eq_true rfl) (Nat.le_of_ble_eq_true rfl) dX0_init_23 (fun q23_3 cA H hK1 hP hD hS => ?_)
  obtain rfl := tyl_I hK1
  have hP : va_P D vwCl [(h, .inr (0, [.ref q7_1, .ref q15_2, .null, .int 0, .int 0])), (q7_1, .inl (kc 0, 8, .inl z0)), (q15_2, .inl (kc 0, 8, .inl z0)), (q23_3, .inl (kc 0, 8, .inl z0))] H := hP
  have hD : va_D A [(h, .inr (0, [.ref q7_1, .ref q15_2, .null, .int 0, .int 0])), (q7_1, .inl (kc 0, 8, .inl z0)), (q15_2, .inl (kc 0, 8, .inl z0)), (q23_3, .inl (kc 0, 8, .inl z0))] := hD
  refine W.widen (k := 3) (n := 24) (Nat.le_of_ble_eq_true rfl) (Nat.le_of_ble_eq_true rfl) ?_
  refine va_putF (D := D) (ci := 0) (v := .ref q23_3) (ty := .array .int) (C := RX0) (T := TX0) (N := 5) hx hb hts ii_Could_X0 tyX0 tyX0_ok nmX0 hown hK hP hD hS 0 rfl rfl 2 (by decide) (hts (.fieldLink RX0 18 "SaltStreet$Could" "strength" "[I") (List.mem_of_getElem? (i := 7) rfl)) (fun _ h9 => h9) rfl hin rfl (by decide +kernel) rfl rfl (Nat.le_of_ble_eq_true rfl) dX0_init_25 (fun H locs hP hD hS => ?_)
  have hP : va_P D vwCl [(h, .inr (0, [.ref q7_1, .ref q15_2, .ref q23_3, .int 0, .int 0])), (q7_1, .inl (kc 0, 8, .inl z0)), (q15_2, .inl (kc 0, 8, .inl z0)), (q23_3, .inl (kc 0, 8, .inl z0))] H := hP
  have hD : va_D A [(h, .inr (0, [.ref q7_1, .ref q15_2, .ref q23_3, .int 0, .int 0])), (q7_1, .inl (kc 0, 8, .inl z0)), (q15_2, .inl (kc 0, 8, .inl z0)), (q23_3, .inl (kc 0, 8, .inl z0))] := hD
  have hP9 := hP.sub (ws' := [(h, .inr (0, [.ref q7_1, .ref q15_2, .ref q23_3, .int 0, .int 0]))]) [0] rfl
  have hD9 := hD.sub (ws' := [(h, .inr (0, [.ref q7_1, .ref q15_2, .ref q23_3, .int 0, .int 0]))]) [0] (by decide) rfl
  let wa : Nat → Nat := mkm [h, q7_1, q15_2, q23_3]
  exact W.vret hx hb hr (fun t9 ht hW => ⟨⟨(), rfl, trivial, wa, rfl, by rw [ht]; exact hP9, hD9⟩, hS.F ht⟩) hS.2.2 dX0_init_28
theorem dX7_init_0 : decode cX7_init 0 = .ok (.aload_n 0, 1) := by decide +kernel
theorem dX7_init_1 : decode cX7_init 1 = .ok (.invokespecial 3, 3) := by decide +kernel
theorem dX7_init_4 : decode cX7_init 4 = .ok (.aload_n 0, 1) := by decide +kernel
theorem dX7_init_5 : decode cX7_init 5 = .ok (.iconst (-1), 1) := by decide +kernel
theorem dX7_init_6 : decode cX7_init 6 = .ok (.putfield 9, 3) := by decide +kernel
theorem dX7_init_9 : decode cX7_init 9 = .ok (.aload_n 0, 1) := by decide +kernel
theorem dX7_init_10 : decode cX7_init 10 = .ok (.aload_n 1, 1) := by decide +kernel
theorem dX7_init_11 : decode cX7_init 11 = .ok (.putfield 15, 3) := by decide +kernel
theorem dX7_init_14 : decode cX7_init 14 = .ok (.return_, 1) := by decide +kernel
def vdi_Tokens : List Cond := [.code yX7_init cX7_init 2 none, .methodLink RX7 3 objectInit, .instanceMethod objectInit, .code objectInit ⟨#[0xb1]⟩ 1 none, .fieldLink RX7 9 "SaltStreet$Tokens" "place" "I", .fieldLink RX7 15 "SaltStreet$Tokens" "text" "[I"]
def vi_Tokens : List Cond := vdi_Tokens ++ (wsX70 ++ ([] : List Cond))
theorem ii_Tokens_X7 : ∀ w ∈ wsX70, w ∈ vi_Tokens := fun _ h => List.mem_append_right _ (List.mem_append_left _ h)
set_option maxHeartbeats 4000000 in
set_option maxRecDepth 100000 in
theorem i_Tokens (l : Launch) (D : va_G) (kc : Nat → ClassId) (sz : Nat) (h : Nat) (tp : Nat) : Met l yX7_init vi_Tokens ({ frames := 1, cells := 0, slots := 0, locals := 12 }) (va_Pc [.ref h, .ref tp] (wPre D kc [(h, .inr (7, [.null, .int 0, .int 0, .int 0, .int 0, .int 0, .long 0, .int 0, .int 0, .int 0]))] sz)) (va_Qv (fun (_ : Unit) => True) (wPost D [(h, .inr (7, [.ref tp, .int 0, .int 0, .int 0, .int 0, .int 0, .long 0, .int 0, .int 0, .int (-1)]))] (va_A [(h, .inr (7, [.null, .int 0, .int 0, .int 0, .int 0, .int 0, .long 0, .int 0, .int 0, .int 0]))] sz)) (va_A [(h, .inr (7, [.null, .int 0, .int 0, .int 0, .int 0, .int 0, .long 0, .int 0, .int 0, .int 0]))] sz)) 0 0 (va_A [(h, .inr (7, [.null, .int 0, .int 0, .int 0, .int 0, .int 0, .long 0, .int 0, .int 0, .int 0]))] sz) := by
  refine Met.ofW (cc := cX7_init) (maxL := 2) (ret := none) (by decide) rfl ?_
  intro p e s m args below meth c s₁ B hml hv
  obtain ⟨rfl, hsz, hP, hE, hD0⟩ := hv
  have hx := B.exec
  have hb := B.bytes
  have hr := B.returns
  have hts := atoms_spec (ws := vi_Tokens) B.pre
  have hown : s.vm.findClass RX7 = some m.cls := findClass_of_methodNamed B.named
  have hlocks := B.notSynchronized
  have hin : meth.name = "<init>" := (name_of_methodNamed B.named B.method).1
  subst hsz
  have hD := hD0.self (sz := s.heap.size)
  generalize hAe : va_A [(h, .inr (7, [.null, .int 0, .int 0, .int 0, .int 0, .int 0, .long 0, .int 0, .int 0, .int 0]))] s.heap.size = A at hD ⊢
  have hA : ∀ q : Nat, s.heap.size ≤ q → A q := fun q h => by rw [← hAe]; exact Or.inr h
  have hS : va_S A s.heap s.heap [] := va_S.rf
  have hK := hE.1
  have hP : va_P D vwCl [(h, .inr (7, [.null, .int 0, .int 0, .int 0, .int 0, .int 0, .long 0, .int 0, .int 0, .int 0]))] s.heap := hP
  have hl := lv_entry ([.ref h, .ref tp]) (n := 2) (Nat.le_of_ble_eq_true rfl)
  rw [lg_entry_eq]
  generalize (lg_sl ([.ref h, .ref tp]) ++ List.replicate (2 - (lg_sl ([.ref h, .ref tp])).length) Slot.unset).toArray = ls at hl ⊢
  have hl : lv_has ls 2 [(0, .ref h), (1, .ref tp)] := hl
  refine lv_aload_n hx hb dX7_init_0 rfl (lv_at hl 0 rfl) ?_
  refine W.objInit hx hb hown (hts (.methodLink RX7 3 objectInit) (List.mem_of_getElem? (i := 1) rfl)) (hts (.instanceMethod objectInit) (List.mem_of_getElem? (i := 2) rfl)) (hts (.code objectInit ⟨#[0xb1]⟩ 1 none) (List.mem_of_getElem? (i := 3) rfl)) rfl (by rw [hml]; exact hl.1) rfl dX7_init_1 (Nat.le_of_ble_eq_true rfl) (Nat.le_of_ble_eq_true rfl) ?_
  refine W.eq (g2 := F0 m 4 ls []) rfl ?_
  refine lv_aload_n hx hb dX7_init_4 rfl (lv_at hl 0 rfl) ?_
  refine lv_iconst (v := (-1)) hx hb dX7_init_5 (by decide) ?_
  refine va_put (D := D) (ci := 7) (v := .int (-1)) (ty := .int) (C := RX7) (T := TX7) (N := 10) hx hb hts ii_Tokens_X7 tyX7 tyX7_ok nmX7 hown hK hP hD hS 0 rfl rfl 9 (by decide) (hts (.fieldLink RX7 9 "SaltStreet$Tokens" "place" "I") (List.mem_of_getElem? (i := 4) rfl)) (fun _ h9 => h9) rfl (by decide +kernel) rfl rfl (Nat.le_of_ble_eq_true rfl) dX7_init_6 (fun H locs hP hD hS => ?_)
  have hP : va_P D vwCl [(h, .inr (7, [.null, .int 0, .int 0, .int 0, .int 0, .int 0, .long 0, .int 0, .int 0, .int (-1)]))] H := hP
  have hD : va_D A [(h, .inr (7, [.null, .int 0, .int 0, .int 0, .int 0, .int 0, .long 0, .int 0, .int 0, .int (-1)]))] := hD
  refine lv_aload_n hx hb dX7_init_9 rfl (lv_at hl 0 rfl) ?_
  refine lv_aload_n hx hb dX7_init_10 rfl (lv_at hl 1 rfl) ?_
  refine va_putF (D := D) (ci := 7) (v := .ref tp) (ty := .array .int) (C := RX7) (T := TX7) (N := 10) hx hb hts ii_Tokens_X7 tyX7 tyX7_ok nmX7 hown hK hP hD hS 0 rfl rfl 0 (by decide) (hts (.fieldLink RX7 15 "SaltStreet$Tokens" "text" "[I") (List.mem_of_getElem? (i := 5) rfl)) (fun _ h9 => h9) rfl hin rfl (by decide +kernel) rfl rfl (Nat.le_of_ble_eq_true rfl) dX7_init_11 (fun H locs hP hD hS => ?_)
  have hP : va_P D vwCl [(h, .inr (7, [.ref tp, .int 0, .int 0, .int 0, .int 0, .int 0, .long 0, .int 0, .int 0, .int (-1)]))] H := hP
  have hD : va_D A [(h, .inr (7, [.ref tp, .int 0, .int 0, .int 0, .int 0, .int 0, .long 0, .int 0, .int 0, .int (-1)]))] := hD
  have hP9 := hP.sub (ws' := [(h, .inr (7, [.ref tp, .int 0, .int 0, .int 0, .int 0, .int 0, .long 0, .int 0, .int 0, .int (-1)]))]) [0] rfl
  have hD9 := hD.sub (ws' := [(h, .inr (7, [.ref tp, .int 0, .int 0, .int 0, .int 0, .int 0, .long 0, .int 0, .int 0, .int (-1)]))]) [0] (by decide) rfl
  exact W.vret hx hb hr (fun t9 ht hW => ⟨⟨(), rfl, trivial, ⟨by rw [ht]; exact hP9, hD9⟩⟩, hS.F ht⟩) hS.2.2 dX7_init_14
theorem dX6_init_0 : decode cX6_init 0 = .ok (.aload_n 0, 1) := by decide +kernel
theorem dX6_init_1 : decode cX6_init 1 = .ok (.invokespecial 3, 3) := by decide +kernel
theorem dX6_init_4 : decode cX6_init 4 = .ok (.aload_n 0, 1) := by decide +kernel
theorem dX6_init_5 : decode cX6_init 5 = .ok (.aload_n 1, 1) := by decide +kernel
theorem dX6_init_6 : decode cX6_init 6 = .ok (.putfield 9, 3) := by decide +kernel
theorem dX6_init_9 : decode cX6_init 9 = .ok (.aload_n 0, 1) := by decide +kernel
theorem dX6_init_10 : decode cX6_init 10 = .ok (.aload_n 2, 1) := by decide +kernel
theorem dX6_init_11 : decode cX6_init 11 = .ok (.putfield 15, 3) := by decide +kernel
theorem dX6_init_14 : decode cX6_init 14 = .ok (.aload_n 0, 1) := by decide +kernel
theorem dX6_init_15 : decode cX6_init 15 = .ok (.aload_n 2, 1) := by decide +kernel
theorem dX6_init_16 : decode cX6_init 16 = .ok (.getfield 19, 3) := by decide +kernel
theorem dX6_init_19 : decode cX6_init 19 = .ok (.putfield 25, 3) := by decide +kernel
theorem dX6_init_22 : decode cX6_init 22 = .ok (.return_, 1) := by decide +kernel
def vdi_SReader : List Cond := [.code yX6_init cX6_init 3 none, .methodLink RX6 3 objectInit, .instanceMethod objectInit, .code objectInit ⟨#[0xb1]⟩ 1 none, .fieldLink RX6 9 "SaltStreet$StreetReader" "in" "LSaltStreet$Tokens;", .fieldLink RX6 15 "SaltStreet$StreetReader" "world" "LSaltStreet$World;", .fieldLink RX6 25 "SaltStreet$StreetReader" "plan" "LSaltStreet$Plan;"]
def vi_SReader : List Cond := vdi_SReader ++ (wsX60 ++ (wsX100 ++ ([] : List Cond)))
theorem ii_SReader_X6 : ∀ w ∈ wsX60, w ∈ vi_SReader := fun _ h => List.mem_append_right _ (List.mem_append_left _ h)
theorem ii_SReader_X10 : ∀ w ∈ wsX100, w ∈ vi_SReader := fun _ h => List.mem_append_right _ (List.mem_append_right _ (List.mem_append_left _ h))
set_option maxHeartbeats 4000000 in
set_option maxRecDepth 100000 in
theorem i_SReader (l : Launch) (D : va_G) (kc : Nat → ClassId) (sz : Nat) (h : Nat) (tk : Nat) (wd : Nat) (w1 : Nat) (w2 : Nat) (w3 : Nat) : Met l yX6_init vi_SReader ({ frames := 1, cells := 0, slots := 0, locals := 12 }) (va_Pc [.ref h, .ref tk, .ref wd] (wPre D kc [(h, .inr (6, [.null, .null, .null, .int 0, .int 0])), (wd, .inr (9, [.ref w1, .ref w2, .ref w3]))] sz)) (va_Qv (fun (_ : Unit) => True) (wPost D [(h, .inr (6, [.ref tk, .ref wd, .ref w1, .int 0, .int 0])), (wd, .inr (9, [.ref w1, .ref w2, .ref w3]))] (va_A [(h, .inr (6, [.null, .null, .null, .int 0, .int 0])), (wd, .inr (9, [.ref w1, .ref w2, .ref w3]))] sz)) (va_A [(h, .inr (6, [.null, .null, .null, .int 0, .int 0])), (wd, .inr (9, [.ref w1, .ref w2, .ref w3]))] sz)) 0 0 (va_A [(h, .inr (6, [.null, .null, .null, .int 0, .int 0])), (wd, .inr (9, [.ref w1, .ref w2, .ref w3]))] sz) := by
  refine Met.ofW (cc := cX6_init) (maxL := 3) (ret := none) (by decide) rfl ?_
  intro p e s m args below meth c s₁ B hml hv
  obtain ⟨rfl, hsz, hP, hE, hD0⟩ := hv
  have hx := B.exec
  have hb := B.bytes
  have hr := B.returns
  have hts := atoms_spec (ws := vi_SReader) B.pre
  have hown : s.vm.findClass RX6 = some m.cls := findClass_of_methodNamed B.named
  have hlocks := B.notSynchronized
  have hin : meth.name = "<init>" := (name_of_methodNamed B.named B.method).1
  subst hsz
  have hD := hD0.self (sz := s.heap.size)
  generalize hAe : va_A [(h, .inr (6, [.null, .null, .null, .int 0, .int 0])), (wd, .inr (9, [.ref w1, .ref w2, .ref w3]))] s.heap.size = A at hD ⊢
  have hA : ∀ q : Nat, s.heap.size ≤ q → A q := fun q h => by rw [← hAe]; exact Or.inr h
  have hS : va_S A s.heap s.heap [] := va_S.rf
  have hK := hE.1
  have hP : va_P D vwCl [(h, .inr (6, [.null, .null, .null, .int 0, .int 0])), (wd, .inr (9, [.ref w1, .ref w2, .ref w3]))] s.heap := hP
  have hl := lv_entry ([.ref h, .ref tk, .ref wd]) (n := 3) (Nat.le_of_ble_eq_true rfl)
  rw [lg_entry_eq]
  generalize (lg_sl ([.ref h, .ref tk, .ref wd]) ++ List.replicate (3 - (lg_sl ([.ref h, .ref tk, .ref wd])).length) Slot.unset).toArray = ls at hl ⊢
  have hl : lv_has ls 3 [(0, .ref h), (1, .ref tk), (2, .ref wd)] := hl
  refine lv_aload_n hx hb dX6_init_0 rfl (lv_at hl 0 rfl) ?_
  refine W.objInit hx hb hown (hts (.methodLink RX6 3 objectInit) (List.mem_of_getElem? (i := 1) rfl)) (hts (.instanceMethod objectInit) (List.mem_of_getElem? (i := 2) rfl)) (hts (.code objectInit ⟨#[0xb1]⟩ 1 none) (List.mem_of_getElem? (i := 3) rfl)) rfl (by rw [hml]; exact hl.1) rfl dX6_init_1 (Nat.le_of_ble_eq_true rfl) (Nat.le_of_ble_eq_true rfl) ?_
  refine W.eq (g2 := F0 m 4 ls []) rfl ?_
  refine lv_aload_n hx hb dX6_init_4 rfl (lv_at hl 0 rfl) ?_
  refine lv_aload_n hx hb dX6_init_5 rfl (lv_at hl 1 rfl) ?_
  refine va_putF (D := D) (ci := 6) (v := .ref tk) (ty := .object "SaltStreet$Tokens") (C := RX6) (T := TX6) (N := 5) hx hb hts ii_SReader_X6 tyX6 tyX6_ok nmX6 hown hK hP hD hS 0 rfl rfl 0 (by decide) (hts (.fieldLink RX6 9 "SaltStreet$StreetReader" "in" "LSaltStreet$Tokens;") (List.mem_of_getElem? (i := 4) rfl)) (fun _ h9 => h9) rfl hin rfl (by decide +kernel) rfl rfl (Nat.le_of_ble_eq_true rfl) dX6_init_6 (fun H locs hP hD hS => ?_)
  have hP : va_P D vwCl [(h, .inr (6, [.ref tk, .null, .null, .int 0, .int 0])), (wd, .inr (9, [.ref w1, .ref w2, .ref w3]))] H := hP
  have hD : va_D A [(h, .inr (6, [.ref tk, .null, .null, .int 0, .int 0])), (wd, .inr (9, [.ref w1, .ref w2, .ref w3]))] := hD
  refine lv_aload_n hx hb dX6_init_9 rfl (lv_at hl 0 rfl) ?_
  refine lv_aload_n hx hb dX6_init_10 rfl (lv_at hl 2 rfl) ?_
  refine va_putF (D := D) (ci := 6) (v := .ref wd) (ty := .object "SaltStreet$World") (C := RX6) (T := TX6) (N := 5) hx hb hts ii_SReader_X6 tyX6 tyX6_ok nmX6 hown hK hP hD hS 0 rfl rfl 1 (by decide) (hts (.fieldLink RX6 15 "SaltStreet$StreetReader" "world" "LSaltStreet$World;") (List.mem_of_getElem? (i := 5) rfl)) (fun _ h9 => h9) rfl hin rfl (by decide +kernel) rfl rfl (Nat.le_of_ble_eq_true rfl) dX6_init_11 (fun H locs hP hD hS => ?_)
  have hP : va_P D vwCl [(h, .inr (6, [.ref tk, .ref wd, .null, .int 0, .int 0])), (wd, .inr (9, [.ref w1, .ref w2, .ref w3]))] H := hP
  have hD : va_D A [(h, .inr (6, [.ref tk, .ref wd, .null, .int 0, .int 0])), (wd, .inr (9, [.ref w1, .ref w2, .ref w3]))] := hD
  refine lv_aload_n hx hb dX6_init_14 rfl (lv_at hl 0 rfl) ?_
  refine lv_aload_n hx hb dX6_init_15 rfl (lv_at hl 2 rfl) ?_
  refine va_getN (D := D) (ci := 9) (v := .ref w1) (C := RX10) (T := TX10) (N := 3) hx hb hts ii_SReader_X10 hown hK hP 1 rfl rfl 0 (by decide) (hE.nw 94 rfl) (fun _ h9 => h9) rfl dX6_init_16 ?_
  refine va_putF (D := D) (ci := 6) (v := .ref w1) (ty := .object "SaltStreet$Plan") (C := RX6) (T := TX6) (N := 5) hx hb hts ii_SReader_X6 tyX6 tyX6_ok nmX6 hown hK hP hD hS 0 rfl rfl 2 (by decide) (hts (.fieldLink RX6 25 "SaltStreet$StreetReader" "plan" "LSaltStreet$Plan;") (List.mem_of_getElem? (i := 6) rfl)) (fun _ h9 => h9) rfl hin rfl (by decide +kernel) rfl rfl (Nat.le_of_ble_eq_true rfl) dX6_init_19 (fun H locs hP hD hS => ?_)
  have hP : va_P D vwCl [(h, .inr (6, [.ref tk, .ref wd, .ref w1, .int 0, .int 0])), (wd, .inr (9, [.ref w1, .ref w2, .ref w3]))] H := hP
  have hD : va_D A [(h, .inr (6, [.ref tk, .ref wd, .ref w1, .int 0, .int 0])), (wd, .inr (9, [.ref w1, .ref w2, .ref w3]))] := hD
  have hP9 := hP.sub (ws' := [(h, .inr (6, [.ref tk, .ref wd, .ref w1, .int 0, .int 0])), (wd, .inr (9, [.ref w1, .ref w2, .ref w3]))]) [0, 1] rfl
  have hD9 := hD.sub (ws' := [(h, .inr (6, [.ref tk, .ref wd, .ref w1, .int 0, .int 0])), (wd, .inr (9, [.ref w1, .ref w2, .ref w3]))]) [0, 1] (by decide) rfl
  exact W.vret hx hb hr (fun t9 ht hW => ⟨⟨(), rfl, trivial, ⟨by rw [ht]; exact hP9, hD9⟩⟩, hS.F ht⟩) hS.2.2 dX6_init_22
theorem dX1_init_0 : decode cX1_init 0 = .ok (.aload_n 0, 1) := by decide +kernel
theorem dX1_init_1 : decode cX1_init 1 = .ok (.invokespecial 3, 3) := by decide +kernel
theorem dX1_init_4 : decode cX1_init 4 = .ok (.aload_n 0, 1) := by decide +kernel
theorem dX1_init_5 : decode cX1_init 5 = .ok (.iconst 3, 1) := by decide +kernel
theorem dX1_init_6 : decode cX1_init 6 = .ok (.newarray .int, 2) := by decide +kernel
theorem dX1_init_8 : decode cX1_init 8 = .ok (.putfield 9, 3) := by decide +kernel
theorem dX1_init_11 : decode cX1_init 11 = .ok (.aload_n 0, 1) := by decide +kernel
theorem dX1_init_12 : decode cX1_init 12 = .ok (.aload_n 1, 1) := by decide +kernel
theorem dX1_init_13 : decode cX1_init 13 = .ok (.putfield 15, 3) := by decide +kernel
theorem dX1_init_16 : decode cX1_init 16 = .ok (.aload_n 0, 1) := by decide +kernel
theorem dX1_init_17 : decode cX1_init 17 = .ok (.aload_n 2, 1) := by decide +kernel
theorem dX1_init_18 : decode cX1_init 18 = .ok (.putfield 19, 3) := by decide +kernel
theorem dX1_init_21 : decode cX1_init 21 = .ok (.aload_n 0, 1) := by decide +kernel
theorem dX1_init_22 : decode cX1_init 22 = .ok (.aload_n 3, 1) := by decide +kernel
theorem dX1_init_23 : decode cX1_init 23 = .ok (.putfield 23, 3) := by decide +kernel
theorem dX1_init_26 : decode cX1_init 26 = .ok (.return_, 1) := by decide +kernel
def vdi_DReader : List Cond := [.code yX1_init cX1_init 4 none, .methodLink RX1 3 objectInit, .instanceMethod objectInit, .code objectInit ⟨#[0xb1]⟩ 1 none, .arrayClass .int, .fieldLink RX1 9 "SaltStreet$DaysReader" "open" "[I", .fieldLink RX1 15 "SaltStreet$DaysReader" "in" "LSaltStreet$Tokens;", .fieldLink RX1 19 "SaltStreet$DaysReader" "plan" "LSaltStreet$Plan;", .fieldLink RX1 23 "SaltStreet$DaysReader" "program" "LSaltStreet$Program;"]
def vi_DReader : List Cond := vdi_DReader ++ (wsX10 ++ ([] : List Cond))
theorem ii_DReader_X1 : ∀ w ∈ wsX10, w ∈ vi_DReader := fun _ h => List.mem_append_right _ (List.mem_append_left _ h)
set_option maxHeartbeats 4000000 in
set_option maxRecDepth 100000 in
theorem i_DReader (l : Launch) (D : va_G) (kc : Nat → ClassId) (sz : Nat) (h : Nat) (tk : Nat) (pl : Nat) (pg : Nat) : Met l yX1_init vi_DReader ({ frames := 1, cells := 1, slots := 3, locals := 12 }) (va_Pc [.ref h, .ref tk, .ref pl, .ref pg] (wPre D kc [(h, .inr (1, [.null, .null, .null, .null, .int 0]))] sz)) (va_Qv (fun (_ : Unit) => True) (fun (_ : Unit) (t9 : State) => ∃ wa : Nat → Nat, wa 0 = h ∧  va_P D vwCl [(wa 0, .inr (1, [.ref tk, .ref pl, .ref pg, .ref (wa 1), .int 0]))] t9.heap ∧ va_D (va_A [(h, .inr (1, [.null, .null, .null, .null, .int 0]))] sz) [(wa 0, .inr (1, [.ref tk, .ref pl, .ref pg, .ref (wa 1), .int 0]))]) (va_A [(h, .inr (1, [.null, .null, .null, .null, .int 0]))] sz)) 1 3 (va_A [(h, .inr (1, [.null, .null, .null, .null, .int 0]))] sz) := by
  refine Met.ofW (cc := cX1_init) (maxL := 4) (ret := none) (by decide) rfl ?_
  intro p e s m args below meth c s₁ B hml hv
  obtain ⟨rfl, hsz, hP, hE, hD0⟩ := hv
  have hx := B.exec
  have hb := B.bytes
  have hr := B.returns
  have hts := atoms_spec (ws := vi_DReader) B.pre
  have hown : s.vm.findClass RX1 = some m.cls := findClass_of_methodNamed B.named
  have hlocks := B.notSynchronized
  have hin : meth.name = "<init>" := (name_of_methodNamed B.named B.method).1
  subst hsz
  have hD := hD0.self (sz := s.heap.size)
  generalize hAe : va_A [(h, .inr (1, [.null, .null, .null, .null, .int 0]))] s.heap.size = A at hD ⊢
  have hA : ∀ q : Nat, s.heap.size ≤ q → A q := fun q h => by rw [← hAe]; exact Or.inr h
  have hS : va_S A s.heap s.heap [] := va_S.rf
  have hK := hE.1
  have hP : va_P D vwCl [(h, .inr (1, [.null, .null, .null, .null, .int 0]))] s.heap := hP
  have hl := lv_entry ([.ref h, .ref tk, .ref pl, .ref pg]) (n := 4) (Nat.le_of_ble_eq_true rfl)
  rw [lg_entry_eq]
  generalize (lg_sl ([.ref h, .ref tk, .ref pl, .ref pg]) ++ List.replicate (4 - (lg_sl ([.ref h, .ref tk, .ref pl, .ref pg])).length) Slot.unset).toArray = ls at hl ⊢
  have hl : lv_has ls 4 [(0, .ref h), (1, .ref tk), (2, .ref pl), (3, .ref pg)] := hl
  refine lv_aload_n hx hb dX1_init_0 rfl (lv_at hl 0 rfl) ?_
  refine W.objInit hx hb hown (hts (.methodLink RX1 3 objectInit) (List.mem_of_getElem? (i := 1) rfl)) (hts (.instanceMethod objectInit) (List.mem_of_getElem? (i := 2) rfl)) (hts (.code objectInit ⟨#[0xb1]⟩ 1 none) (List.mem_of_getElem? (i := 3) rfl)) rfl (by rw [hml]; exact hl.1) rfl dX1_init_1 (Nat.le_of_ble_eq_true rfl) (Nat.le_of_ble_eq_true rfl) ?_
  refine W.eq (g2 := F0 m 4 ls []) rfl ?_
  refine lv_aload_n hx hb dX1_init_4 rfl (lv_at hl 0 rfl) ?_
  refine lv_iconst (v := 3) hx hb dX1_init_5 (by decide) ?_
  refine va_newa (atype := .int) (N' := 3) (a0 := (3, .inl z0)) hx hb (hts (.arrayClass .int) (List.mem_of_getElem? (i := 4) rfl)) rfl hK hP hD hS hA (fun _ => rfl) (by decide) (by decide) (Nat.le_of_ble_eq_true rfl) (Nat.le_of_ble_eq_true rfl) (Nat.le_of_ble_eq_true rfl) dX1_init_6 (fun q6_1 cA H hK1 hP hD hS => ?_)
  obtain rfl := tyl_I hK1
  have hP : va_P D vwCl [(h, .inr (1, [.null, .null, .null, .null, .int 0])), (q6_1, .inl (kc 0, 3, .inl z0))] H := hP
  have hD : va_D A [(h, .inr (1, [.null, .null, .null, .null, .int 0])), (q6_1, .inl (kc 0, 3, .inl z0))] := hD
  refine W.widen (k := 1) (n := 3) (Nat.le_of_ble_eq_true rfl) (Nat.le_of_ble_eq_true rfl) ?_
  refine va_putF (D := D) (ci := 1) (v := .ref q6_1) (ty := .array .int) (C := RX1) (T := TX1) (N := 5) hx hb hts ii_DReader_X1 tyX1 tyX1_ok nmX1 hown hK hP hD hS 0 rfl rfl 3 (by decide) (hts (.fieldLink RX1 9 "SaltStreet$DaysReader" "open" "[I") (List.mem_of_getElem? (i := 5) rfl)) (fun _ h9 => h9) rfl hin rfl (by decide +kernel) rfl rfl (Nat.le_of_ble_eq_true rfl) dX1_init_8 (fun H locs hP hD hS => ?_)
  have hP : va_P D vwCl [(h, .inr (1, [.null, .null, .null, .ref q6_1, .int 0])), (q6_1, .inl (kc 0, 3, .inl z0))] H := hP
  have hD : va_D A [(h, .inr (1, [.null, .null, .null, .ref q6_1, .int 0])), (q6_1, .inl (kc 0, 3, .inl z0))] := hD
  refine lv_aload_n hx hb dX1_init_11 rfl (lv_at hl 0 rfl) ?_
  refine lv_aload_n hx hb dX1_init_12 rfl (lv_at hl 1 rfl) ?_
  refine va_putF (D := D) (ci := 1) (v := .ref tk) (ty := .object "SaltStreet$Tokens") (C := RX1) (T := TX1) (N := 5) hx hb hts ii_DReader_X1 tyX1 tyX1_ok nmX1 hown hK hP hD hS 0 rfl rfl 0 (by decide) (hts (.fieldLink RX1 15 "SaltStreet$DaysReader" "in" "LSaltStreet$Tokens;") (List.mem_of_getElem? (i := 6) rfl)) (fun _ h9 => h9) rfl hin rfl (by decide +kernel) rfl rfl (Nat.le_of_ble_eq_true rfl) dX1_init_13 (fun H locs hP hD hS => ?_)
  have hP : va_P D vwCl [(h, .inr (1, [.ref tk, .null, .null, .ref q6_1, .int 0])), (q6_1, .inl (kc 0, 3, .inl z0))] H := hP
  have hD : va_D A [(h, .inr (1, [.ref tk, .null, .null, .ref q6_1, .int 0])), (q6_1, .inl (kc 0, 3, .inl z0))] := hD
  refine lv_aload_n hx hb dX1_init_16 rfl (lv_at hl 0 rfl) ?_
  refine lv_aload_n hx hb dX1_init_17 rfl (lv_at hl 2 rfl) ?_
  refine va_putF (D := D) (ci := 1) (v := .ref pl) (ty := .object "SaltStreet$Plan") (C := RX1) (T := TX1) (N := 5) hx hb hts ii_DReader_X1 tyX1 tyX1_ok nmX1 hown hK hP hD hS 0 rfl rfl 1 (by decide) (hts (.fieldLink RX1 19 "SaltStreet$DaysReader" "plan" "LSaltStreet$Plan;") (List.mem_of_getElem? (i := 7) rfl)) (fun _ h9 => h9) rfl hin rfl (by decide +kernel) rfl rfl (Nat.le_of_ble_eq_true rfl) dX1_init_18 (fun H locs hP hD hS => ?_)
  have hP : va_P D vwCl [(h, .inr (1, [.ref tk, .ref pl, .null, .ref q6_1, .int 0])), (q6_1, .inl (kc 0, 3, .inl z0))] H := hP
  have hD : va_D A [(h, .inr (1, [.ref tk, .ref pl, .null, .ref q6_1, .int 0])), (q6_1, .inl (kc 0, 3, .inl z0))] := hD
  refine lv_aload_n hx hb dX1_init_21 rfl (lv_at hl 0 rfl) ?_
  refine lv_aload_n hx hb dX1_init_22 rfl (lv_at hl 3 rfl) ?_
  refine va_putF (D := D) (ci := 1) (v := .ref pg) (ty := .object "SaltStreet$Program") (C := RX1) (T := TX1) (N := 5) hx hb hts ii_DReader_X1 tyX1 tyX1_ok nmX1 hown hK hP hD hS 0 rfl rfl 2 (by decide) (hts (.fieldLink RX1 23 "SaltStreet$DaysReader" "program" "LSaltStreet$Program;") (List.mem_of_getElem? (i := 8) rfl)) (fun _ h9 => h9) rfl hin rfl (by decide +kernel) rfl rfl (Nat.le_of_ble_eq_true rfl) dX1_init_23 (fun H locs hP hD hS => ?_)
  have hP : va_P D vwCl [(h, .inr (1, [.ref tk, .ref pl, .ref pg, .ref q6_1, .int 0])), (q6_1, .inl (kc 0, 3, .inl z0))] H := hP
  have hD : va_D A [(h, .inr (1, [.ref tk, .ref pl, .ref pg, .ref q6_1, .int 0])), (q6_1, .inl (kc 0, 3, .inl z0))] := hD
  have hP9 := hP.sub (ws' := [(h, .inr (1, [.ref tk, .ref pl, .ref pg, .ref q6_1, .int 0]))]) [0] rfl
  have hD9 := hD.sub (ws' := [(h, .inr (1, [.ref tk, .ref pl, .ref pg, .ref q6_1, .int 0]))]) [0] (by decide) rfl
  let wa : Nat → Nat := mkm [h, q6_1]
  exact W.vret hx hb hr (fun t9 ht hW => ⟨⟨(), rfl, trivial, wa, rfl, by rw [ht]; exact hP9, hD9⟩, hS.F ht⟩) hS.2.2 dX1_init_26
