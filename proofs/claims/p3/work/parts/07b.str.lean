def strT : List String := ["house salt sugar gone quarrel of and needs cat from to takes grocer stock price sweet rain washes counts buy strew sweep snow night when over truce lies loop end stop ", " house quarrel cat grocer rain gone salt sugar of and needs from to takes stock price sweet washes counts strew buy sweep snow night when loop end stop over truce lies "]
def SJ : List Cond := [.fieldLink RJ0 38 "java/lang/String" "COMPACT_STRINGS" "Z",
  .fieldLink RJ0 15 "java/lang/String" "coder" "B",
  .fieldLink RJ0 9 "java/lang/String" "value" "[B",
  .fieldLink RJ0 1053 "jdk/internal/util/Preconditions" "SIOOBE_FORMATTER" "Ljava/util/function/BiFunction;",
  .methodLink RJ0 335 yJ0_coder_7d493,
  .instanceMethod yJ0_coder_7d493,
  .selects RJ0 yJ0_coder_7d493 yJ0_coder_7d493,
  .code yJ0_coder_7d493 cJ0_coder_7d493 1 (some .byte),
  .methodLink RJ0 492 yJ0_isLatin1_aae02,
  .instanceMethod yJ0_isLatin1_aae02,
  .selects RJ0 yJ0_isLatin1_aae02 yJ0_isLatin1_aae02,
  .code yJ0_isLatin1_aae02 cJ0_isLatin1_aae02 1 (some .boolean),
  .methodLink RJ0 495 yJ1_charAt_3b067,
  .static yJ1_charAt_3b067,
  .code yJ1_charAt_3b067 cJ1_charAt_3b067 2 (some .char),
  .methodLink RJ1 9 yJ0_checkIndex_df160,
  .static yJ0_checkIndex_df160,
  .code yJ0_checkIndex_df160 cJ0_checkIndex_df160 2 none,
  .methodLink RJ0 1059 yJ3_checkIndex_8e157,
  .static yJ3_checkIndex_8e157,
  .code yJ3_checkIndex_8e157 cJ3_checkIndex_8e157 3 (some .int),
  .initialized RJ0,
  .initialized RJ1,
  .initialized RJ3,
  .instanceMethod yJ0_length_8abf5,
  .selects RJ0 yJ0_length_8abf5 yJ0_length_8abf5,
  .code yJ0_length_8abf5 cJ0_length_8abf5 1 (some .int),
  .instanceMethod yJ0_charAt_5068e,
  .selects RJ0 yJ0_charAt_5068e yJ0_charAt_5068e,
  .code yJ0_charAt_5068e cJ0_charAt_5068e 2 (some .char)]
theorem SJ_good : SJ.all goodWord = true := by decide +kernel
def FMT : String := "Ljava/util/function/BiFunction;"
/-- the Strings of the two constants, and what the JDK's own statics hold -/
def SE (ad adV : Nat → Nat) (A : Nat → Prop) (U : State) (H : Heap) : Prop := vk_S 2 strN strB (fun k => ad (1000 + k)) adV A U H ∧ vk_R "SaltStreet$Tokens" 71 (strT.getD 0 "") (ad 1000) U ∧ vk_R "SaltStreetModel" 165 (strT.getD 1 "") (ad 1001) U ∧ va_Z "java/lang/String" "COMPACT_STRINGS" "Z" (.int 1) A U H ∧ va_Zq "jdk/internal/util/Preconditions" "SIOOBE_FORMATTER" "Ljava/util/function/BiFunction;" A U H
theorem SE.at {ad adV : Nat → Nat} {A : Nat → Prop} {s0 : State} {H : Heap} {locs : List Loc} (h : SE ad adV A s0 s0.heap) (hS : va_S A s0.heap H locs) : SE ad adV A s0 H := ⟨h.1.kept hS.2.1, h.2.1, h.2.2.1, h.2.2.2.1.kept hS.2.1, h.2.2.2.2.kept hS.2.1⟩
theorem SE.to {ad adV : Nat → Nat} {A B : Nat → Prop} {s0 U : State} {H : Heap} (h : SE ad adV A s0 H) (hW : s0.WarmedH U.vm) (hF : ∀ q, B q → A q) : SE ad adV B U H := ⟨(vk_S.moved hW.alike h.1).narrow hF, h.2.1.warm hW, h.2.2.1.warm hW, (h.2.2.2.1.moved hW.alike).narrow hF, (h.2.2.2.2.moved hW.alike).narrow hF⟩
theorem SE.call {ad adV : Nat → Nat} {A : Nat → Prop} {U : State} {g : JFrame} {mk : MethodId} {a : Array Value} (h : SE ad adV A U U.heap) : SE ad adV A (U.calling g mk a) (U.calling g mk a).heap := ⟨vk_S.moved (u := U) (U := U.calling g mk a) (Vm.Alike.refl U.vm) h.1, vk_R.same (u := U) rfl h.2.1, vk_R.same (u := U) rfl h.2.2.1, va_Z.moved (u := U) (U := U.calling g mk a) (Vm.Alike.refl U.vm) h.2.2.2.1, va_Zq.moved (u := U) (U := U.calling g mk a) (Vm.Alike.refl U.vm) h.2.2.2.2⟩
def rj (n : Nat) : Room := { frames := n, cells := 0, slots := 0, locals := 31 * n }
def Qh (v : Option Value) : Array Value → State → Outcome → State → Prop := fun _ st oc t => oc = .returned v ∧ t.heap = st.heap
def jP (ad adV : Nat → Nat) (A : Nat → Prop) (av : List Value) : Array Value → State → Prop := va_Pc av (fun U => SE ad adV A U U.heap)
theorem jP_blind {ad adV : Nat → Nat} {A : Nat → Prop} {av : List Value} : FrameBlind (jP ad adV A av) := fun _ _ _ _ q => ⟨q.1, q.2.call⟩
theorem jS {ad adV : Nat → Nat} {A : Nat → Prop} {av : List Value} {s0 : State} {H : Heap} (h : SE ad adV A s0 H) : PreS s0 H (jP ad adV A av) av := ⟨jP_blind, fun U hU hW => ⟨rfl, by show SE ad adV A U U.heap; rw [hU]; exact h.to hW (fun _ z => z)⟩⟩
theorem jV {ad adV : Nat → Nat} {A : Nat → Prop} {as : List Value} {s0 : State} {H : Heap} {k : Nat} (hk : k < 2) (h : SE ad adV A s0 H) : PreV s0 H RJ0 (ad (1000 + k)) (jP ad adV A (.ref (ad (1000 + k)) :: as)) as := ⟨jP_blind, by
  obtain ⟨cell, h1, h2, h3, -⟩ := (h.1.1 k hk).1
  exact ⟨cell, h1, h2, h3⟩, fun U hU hW => ⟨rfl, by show SE ad adV A U U.heap; rw [hU]; exact h.to hW (fun _ z => z)⟩⟩
section JS
variable {p : Program} {l : Launch} {e : Env} {R : Room} {s : State} {m : MethodId} {args : Array Value} {below : List Frame} {meth : Method} {c : Code} {H : Heap} {locs : List Loc} {Q : State → Prop}
theorem call_h {pc : Nat} {ls : Array Slot} {st0 rest : List Value} {a : Array Value} {v : Option Value} (hr : va_Run p l e R s m args below meth c H locs 0 0 0 0 (F0 m pc ls st0) rest (Qh v a) (fun _ => False)) (kk : W p l e R s m args below meth c H locs 0 0 Q (F0 m (pc + 3) ls (v.toList ++ rest))) : W p l e R s m args below meth c H locs 0 0 Q (F0 m pc ls st0) := by
  intro T hT X
  obtain ⟨v', st₀, t, T', L, h0, X', hL, e1, e2, ⟨hv, hh⟩, st⟩ := hr T hT X
  cases hv
  have hLn : L = [] := by
    cases L with
    | nil => rfl
    | cons q r => exact (hL q List.mem_cons_self).elim
  subst hLn
  rw [List.append_nil] at X'
  obtain ⟨t2, a1, b1⟩ := kk T' (by rw [e1, hh, h0]) X'
  exact ⟨t2, st t2 a1, b1⟩
end JS
theorem sj_gd {c1 c2 : Cond} (h2 : c2 ∈ SJ) : GoodIn (c1 :: SJ) (c2 :: SJ) := by
  have g : ∀ w ∈ SJ, w ∈ c1 :: SJ ∧ ((w.onTables && w.keeps) = true ∨ ∃ ty, w = .arrayClass ty) := fun w hw => ⟨List.mem_cons_of_mem _ hw, good_of_word (List.all_eq_true.mp SJ_good w hw)⟩
  intro w hw
  rcases List.mem_cons.mp hw with rfl | h
  · exact g _ h2
  · exact g _ h
theorem dJ0_coder_7d493_0 : decode cJ0_coder_7d493 0 = .ok (.getstatic 38, 3) := by decide +kernel
theorem dJ0_coder_7d493_3 : decode cJ0_coder_7d493 3 = .ok (.ifCond .eq 10, 3) := by decide +kernel
theorem dJ0_coder_7d493_6 : decode cJ0_coder_7d493 6 = .ok (.aload_n 0, 1) := by decide +kernel
theorem dJ0_coder_7d493_7 : decode cJ0_coder_7d493 7 = .ok (.getfield 15, 3) := by decide +kernel
theorem dJ0_coder_7d493_10 : decode cJ0_coder_7d493 10 = .ok (.goto 4, 3) := by decide +kernel
theorem dJ0_coder_7d493_14 : decode cJ0_coder_7d493 14 = .ok (.ireturn, 1) := by decide +kernel
set_option maxHeartbeats 4000000 in
theorem j_coder (l : Launch) (ad adV : Nat → Nat) (A : Nat → Prop) (k : Nat) (hk : k < 2) : Met l yJ0_coder_7d493 (.code yJ0_coder_7d493 cJ0_coder_7d493 1 (some .byte) :: SJ) (rj 0) (jP ad adV A [.ref (ad (1000 + k))]) (Qh (some (.int 0))) 0 0 (fun _ => False) := by
  refine va_MetF (cc := cJ0_coder_7d493) (maxL := 1) (ret := some .byte) (by decide +kernel) rfl ?_
  intro p e s m args below meth c s₁ B hml hv
  obtain ⟨rfl, hs⟩ := hv
  have hx := B.exec
  have hb := B.bytes
  have hr := B.returns
  have hts := atoms_spec (ws := .code yJ0_coder_7d493 cJ0_coder_7d493 1 (some .byte) :: SJ) B.pre
  have hw : ∀ {w : Cond} (i : Nat), SJ[i]? = some w → w.before _ s = true := fun i h => hts _ (List.mem_cons_of_mem _ (List.mem_of_getElem? h))
  have hown : s.vm.findClass RJ0 = some m.cls := findClass_of_methodNamed B.named
  have hlocks := B.notSynchronized
  have hl := lv_entry ([.ref (ad (1000 + k))]) (n := 1) (Nat.le_of_ble_eq_true rfl)
  rw [lg_entry_eq]
  generalize (lg_sl ([.ref (ad (1000 + k))]) ++ List.replicate (1 - (lg_sl ([.ref (ad (1000 + k))])).length) Slot.unset).toArray = ls at hl ⊢
  have hS : va_S A s.heap s.heap [] := va_S.rf
  refine va_gets hx hb hs.2.2.2.1 hS hown (hw 0 rfl) (fun _ h => h) dJ0_coder_7d493_0 ?_
  refine lv_if_eq (tgt := 13) hx hb dJ0_coder_7d493_3 (by decide) (fun z => absurd z (by decide)) (fun _ => ?_)
  refine lv_aload_n hx hb dJ0_coder_7d493_6 rfl (lv_at hl 0 rfl) ?_
  refine vk_getf hx hb (hs.1.1 k hk).2.1 hS hown (hw 1 rfl) (fun _ h => h) dJ0_coder_7d493_7 ?_
  refine lv_goto (tgt := 14) hx hb dJ0_coder_7d493_10 (by decide) ?_
  exact W.zret (v := 0) hx hb hr rfl (fun t ht hW => ⟨rfl, ht⟩) (fun _ h => absurd h List.not_mem_nil) dJ0_coder_7d493_14
theorem dJ0_isLatin1_aae02_0 : decode cJ0_isLatin1_aae02 0 = .ok (.getstatic 38, 3) := by decide +kernel
theorem dJ0_isLatin1_aae02_3 : decode cJ0_isLatin1_aae02 3 = .ok (.ifCond .eq 14, 3) := by decide +kernel
theorem dJ0_isLatin1_aae02_6 : decode cJ0_isLatin1_aae02 6 = .ok (.aload_n 0, 1) := by decide +kernel
theorem dJ0_isLatin1_aae02_7 : decode cJ0_isLatin1_aae02 7 = .ok (.getfield 15, 3) := by decide +kernel
theorem dJ0_isLatin1_aae02_10 : decode cJ0_isLatin1_aae02 10 = .ok (.ifCond .ne 7, 3) := by decide +kernel
theorem dJ0_isLatin1_aae02_13 : decode cJ0_isLatin1_aae02 13 = .ok (.iconst 1, 1) := by decide +kernel
theorem dJ0_isLatin1_aae02_14 : decode cJ0_isLatin1_aae02 14 = .ok (.goto 4, 3) := by decide +kernel
theorem dJ0_isLatin1_aae02_18 : decode cJ0_isLatin1_aae02 18 = .ok (.ireturn, 1) := by decide +kernel
set_option maxHeartbeats 4000000 in
theorem j_isLatin1 (l : Launch) (ad adV : Nat → Nat) (A : Nat → Prop) (k : Nat) (hk : k < 2) : Met l yJ0_isLatin1_aae02 (.code yJ0_isLatin1_aae02 cJ0_isLatin1_aae02 1 (some .boolean) :: SJ) (rj 0) (jP ad adV A [.ref (ad (1000 + k))]) (Qh (some (.int 1))) 0 0 (fun _ => False) := by
  refine va_MetF (cc := cJ0_isLatin1_aae02) (maxL := 1) (ret := some .boolean) (by decide +kernel) rfl ?_
  intro p e s m args below meth c s₁ B hml hv
  obtain ⟨rfl, hs⟩ := hv
  have hx := B.exec
  have hb := B.bytes
  have hr := B.returns
  have hts := atoms_spec (ws := .code yJ0_isLatin1_aae02 cJ0_isLatin1_aae02 1 (some .boolean) :: SJ) B.pre
  have hw : ∀ {w : Cond} (i : Nat), SJ[i]? = some w → w.before _ s = true := fun i h => hts _ (List.mem_cons_of_mem _ (List.mem_of_getElem? h))
  have hown : s.vm.findClass RJ0 = some m.cls := findClass_of_methodNamed B.named
  have hlocks := B.notSynchronized
  have hl := lv_entry ([.ref (ad (1000 + k))]) (n := 1) (Nat.le_of_ble_eq_true rfl)
  rw [lg_entry_eq]
  generalize (lg_sl ([.ref (ad (1000 + k))]) ++ List.replicate (1 - (lg_sl ([.ref (ad (1000 + k))])).length) Slot.unset).toArray = ls at hl ⊢
  have hS : va_S A s.heap s.heap [] := va_S.rf
  refine va_gets hx hb hs.2.2.2.1 hS hown (hw 0 rfl) (fun _ h => h) dJ0_isLatin1_aae02_0 ?_
  refine lv_if_eq (tgt := 17) hx hb dJ0_isLatin1_aae02_3 (by decide) (fun z => absurd z (by decide)) (fun _ => ?_)
  refine lv_aload_n hx hb dJ0_isLatin1_aae02_6 rfl (lv_at hl 0 rfl) ?_
  refine vk_getf hx hb (hs.1.1 k hk).2.1 hS hown (hw 1 rfl) (fun _ h => h) dJ0_isLatin1_aae02_7 ?_
  refine lv_if_ne (tgt := 17) hx hb dJ0_isLatin1_aae02_10 (by decide) (fun z => absurd rfl z) (fun _ => ?_)
  refine lv_iconst (v := 1) hx hb dJ0_isLatin1_aae02_13 (by decide) ?_
  refine lv_goto (tgt := 18) hx hb dJ0_isLatin1_aae02_14 (by decide) ?_
  exact W.zret (v := 1) hx hb hr rfl (fun t ht hW => ⟨rfl, ht⟩) (fun _ h => absurd h List.not_mem_nil) dJ0_isLatin1_aae02_18
theorem shr0 {n : Nat} : Int32.ofNat n >>> ((0 : Int32) &&& 31) = Int32.ofNat n := by
  rw [show ((0 : Int32) &&& 31) = 0 by decide]
  exact Int32.shiftRight_zero
theorem dJ0_length_8abf5_0 : decode cJ0_length_8abf5 0 = .ok (.aload_n 0, 1) := by decide +kernel
theorem dJ0_length_8abf5_1 : decode cJ0_length_8abf5 1 = .ok (.getfield 9, 3) := by decide +kernel
theorem dJ0_length_8abf5_4 : decode cJ0_length_8abf5 4 = .ok (.arraylength, 1) := by decide +kernel
theorem dJ0_length_8abf5_5 : decode cJ0_length_8abf5 5 = .ok (.aload_n 0, 1) := by decide +kernel
theorem dJ0_length_8abf5_6 : decode cJ0_length_8abf5 6 = .ok (.invokevirtual 335, 3) := by decide +kernel
theorem dJ0_length_8abf5_9 : decode cJ0_length_8abf5 9 = .ok (.ishr, 1) := by decide +kernel
theorem dJ0_length_8abf5_10 : decode cJ0_length_8abf5 10 = .ok (.ireturn, 1) := by decide +kernel
set_option maxHeartbeats 4000000 in
theorem j_length (l : Launch) (ad adV : Nat → Nat) (A : Nat → Prop) (k : Nat) (hk : k < 2) : Met l yJ0_length_8abf5 (.code yJ0_length_8abf5 cJ0_length_8abf5 1 (some .int) :: SJ) (rj 1) (jP ad adV A [.ref (ad (1000 + k))]) (Qh (some (.int (Int32.ofNat (strN.getD k 0))))) 0 0 (fun _ => False) := by
  refine va_MetF (cc := cJ0_length_8abf5) (maxL := 1) (ret := some .int) (by decide +kernel) rfl ?_
  intro p e s m args below meth c s₁ B hml hv
  obtain ⟨rfl, hs⟩ := hv
  have hx := B.exec
  have hb := B.bytes
  have hr := B.returns
  have hts := atoms_spec (ws := .code yJ0_length_8abf5 cJ0_length_8abf5 1 (some .int) :: SJ) B.pre
  have hw : ∀ {w : Cond} (i : Nat), SJ[i]? = some w → w.before _ s = true := fun i h => hts _ (List.mem_cons_of_mem _ (List.mem_of_getElem? h))
  have hown : s.vm.findClass RJ0 = some m.cls := findClass_of_methodNamed B.named
  have hlocks := B.notSynchronized
  have hl := lv_entry ([.ref (ad (1000 + k))]) (n := 1) (Nat.le_of_ble_eq_true rfl)
  rw [lg_entry_eq]
  generalize (lg_sl ([.ref (ad (1000 + k))]) ++ List.replicate (1 - (lg_sl ([.ref (ad (1000 + k))])).length) Slot.unset).toArray = ls at hl ⊢
  have hS : va_S A s.heap s.heap [] := va_S.rf
  refine lv_aload_n hx hb dJ0_length_8abf5_0 rfl (lv_at hl 0 rfl) ?_
  refine vk_getf hx hb (hs.1.1 k hk).2.2.1 hS hown (hw 2 rfl) (fun _ h => h) dJ0_length_8abf5_1 ?_
  refine va_tlen hx hb (hs.1.1 k hk).2.2.2 hS rfl dJ0_length_8abf5_4 ?_
  refine lv_aload_n hx hb dJ0_length_8abf5_5 rfl (lv_at hl 0 rfl) ?_
  refine call_h (va_runV (n := 0) (As := []) (rest := [.int (Int32.ofNat (strN.getD k 0))]) ⟨hx, hb, hml, hown, hts⟩ (j_coder l ad adV A k hk) ⟨callB_of 0 hts (sj_gd (List.mem_of_getElem? (i := 7) rfl)) rfl rfl rfl (hw 21 rfl) (hw 4 rfl) (by decide +kernel) ⟨Nat.le_of_ble_eq_true rfl, Nat.le_of_ble_eq_true rfl⟩, (hw 5 rfl), (hw 6 rfl)⟩ (jV hk hs) rfl rfl hl.1 rfl (lv_room (Nat.le_of_ble_eq_true rfl)) dJ0_length_8abf5_6 ⟨Nat.zero_le _, Nat.zero_le _⟩) ?_
  refine lv_ishr hx hb dJ0_length_8abf5_9 ?_
  rw [shr0]
  exact W.zret (v := Int32.ofNat (strN.getD k 0)) hx hb hr rfl (fun t ht hW => ⟨rfl, ht⟩) (fun _ h => absurd h List.not_mem_nil) dJ0_length_8abf5_10
theorem dJ3_checkIndex_8e157_0 : decode cJ3_checkIndex_8e157 0 = .ok (.iload_n 0, 1) := by decide +kernel
theorem dJ3_checkIndex_8e157_1 : decode cJ3_checkIndex_8e157 1 = .ok (.ifCond .lt 8, 3) := by decide +kernel
theorem dJ3_checkIndex_8e157_4 : decode cJ3_checkIndex_8e157 4 = .ok (.iload_n 0, 1) := by decide +kernel
theorem dJ3_checkIndex_8e157_5 : decode cJ3_checkIndex_8e157 5 = .ok (.iload_n 1, 1) := by decide +kernel
theorem dJ3_checkIndex_8e157_6 : decode cJ3_checkIndex_8e157 6 = .ok (.if_icmp .lt 10, 3) := by decide +kernel
theorem dJ3_checkIndex_8e157_16 : decode cJ3_checkIndex_8e157 16 = .ok (.iload_n 0, 1) := by decide +kernel
theorem dJ3_checkIndex_8e157_17 : decode cJ3_checkIndex_8e157 17 = .ok (.ireturn, 1) := by decide +kernel
set_option maxHeartbeats 4000000 in
theorem j_pre (l : Launch) (ad adV : Nat → Nat) (A : Nat → Prop) (i n : Int32) (r : Value) (hr0 : r = .null ∨ ∃ t, r = .ref t) (h1 : ¬ i < 0) (h2 : i < n) : Met l yJ3_checkIndex_8e157 (.code yJ3_checkIndex_8e157 cJ3_checkIndex_8e157 3 (some .int) :: SJ) (rj 0) (jP ad adV A [.int i, .int n, r]) (Qh (some (.int i))) 0 0 (fun _ => False) := by
  refine va_MetF (cc := cJ3_checkIndex_8e157) (maxL := 3) (ret := some .int) (by decide +kernel) rfl ?_
  intro p e s m args below meth c s₁ B hml hv
  obtain ⟨rfl, hs⟩ := hv
  have hx := B.exec
  have hb := B.bytes
  have hr := B.returns
  have hts := atoms_spec (ws := .code yJ3_checkIndex_8e157 cJ3_checkIndex_8e157 3 (some .int) :: SJ) B.pre
  have hw : ∀ {w : Cond} (i : Nat), SJ[i]? = some w → w.before _ s = true := fun i h => hts _ (List.mem_cons_of_mem _ (List.mem_of_getElem? h))
  have hown : s.vm.findClass RJ3 = some m.cls := findClass_of_methodNamed B.named
  have hlocks := B.notSynchronized
  have hl := lv_entry ([.int i, .int n, r]) (n := 3) (by rcases hr0 with rfl | ⟨t, rfl⟩ <;> exact Nat.le_of_ble_eq_true rfl)
  rw [lg_entry_eq]
  generalize (lg_sl ([.int i, .int n, r]) ++ List.replicate (3 - (lg_sl ([.int i, .int n, r])).length) Slot.unset).toArray = ls at hl ⊢
  have hS : va_S A s.heap s.heap [] := va_S.rf
  refine lv_iload_n hx hb dJ3_checkIndex_8e157_0 rfl (lv_at hl 0 rfl) ?_
  refine lv_if_lt (tgt := 9) hx hb dJ3_checkIndex_8e157_1 (by decide) (fun z => absurd z h1) (fun _ => ?_)
  refine lv_iload_n hx hb dJ3_checkIndex_8e157_4 rfl (lv_at hl 0 rfl) ?_
  refine lv_iload_n hx hb dJ3_checkIndex_8e157_5 rfl (lv_at hl 1 rfl) ?_
  refine lv_icmp_lt (tgt := 16) hx hb dJ3_checkIndex_8e157_6 (by decide) (fun _ => ?_) (fun z => absurd h2 z)
  refine lv_iload_n hx hb dJ3_checkIndex_8e157_16 rfl (lv_at hl 0 rfl) ?_
  exact W.zret (v := i) hx hb hr rfl (fun t ht hW => ⟨rfl, ht⟩) (fun _ h => absurd h List.not_mem_nil) dJ3_checkIndex_8e157_17
theorem dJ0_checkIndex_df160_0 : decode cJ0_checkIndex_df160 0 = .ok (.iload_n 0, 1) := by decide +kernel
theorem dJ0_checkIndex_df160_1 : decode cJ0_checkIndex_df160 1 = .ok (.iload_n 1, 1) := by decide +kernel
theorem dJ0_checkIndex_df160_2 : decode cJ0_checkIndex_df160 2 = .ok (.getstatic 1053, 3) := by decide +kernel
theorem dJ0_checkIndex_df160_5 : decode cJ0_checkIndex_df160 5 = .ok (.invokestatic 1059, 3) := by decide +kernel
theorem dJ0_checkIndex_df160_8 : decode cJ0_checkIndex_df160 8 = .ok (.pop, 1) := by decide +kernel
theorem dJ0_checkIndex_df160_9 : decode cJ0_checkIndex_df160 9 = .ok (.return_, 1) := by decide +kernel
set_option maxHeartbeats 4000000 in
theorem j_chk (l : Launch) (ad adV : Nat → Nat) (A : Nat → Prop) (i n : Int32) (h1 : ¬ i < 0) (h2 : i < n) : Met l yJ0_checkIndex_df160 (.code yJ0_checkIndex_df160 cJ0_checkIndex_df160 2 (none) :: SJ) (rj 1) (jP ad adV A [.int i, .int n]) (Qh none) 0 0 (fun _ => False) := by
  refine va_MetF (cc := cJ0_checkIndex_df160) (maxL := 2) (ret := none) (by decide +kernel) rfl ?_
  intro p e s m args below meth c s₁ B hml hv
  obtain ⟨rfl, hs⟩ := hv
  have hx := B.exec
  have hb := B.bytes
  have hr := B.returns
  have hts := atoms_spec (ws := .code yJ0_checkIndex_df160 cJ0_checkIndex_df160 2 (none) :: SJ) B.pre
  have hw : ∀ {w : Cond} (i : Nat), SJ[i]? = some w → w.before _ s = true := fun i h => hts _ (List.mem_cons_of_mem _ (List.mem_of_getElem? h))
  have hown : s.vm.findClass RJ0 = some m.cls := findClass_of_methodNamed B.named
  have hlocks := B.notSynchronized
  have hl := lv_entry ([.int i, .int n]) (n := 2) (Nat.le_of_ble_eq_true rfl)
  rw [lg_entry_eq]
  generalize (lg_sl ([.int i, .int n]) ++ List.replicate (2 - (lg_sl ([.int i, .int n])).length) Slot.unset).toArray = ls at hl ⊢
  have hS : va_S A s.heap s.heap [] := va_S.rf
  refine lv_iload_n hx hb dJ0_checkIndex_df160_0 rfl (lv_at hl 0 rfl) ?_
  refine lv_iload_n hx hb dJ0_checkIndex_df160_1 rfl (lv_at hl 1 rfl) ?_
  rcases hs.2.2.2.2 with hz | ⟨t0, hz⟩
  · refine va_gets hx hb hz hS hown (hw 3 rfl) (fun _ h => h) dJ0_checkIndex_df160_2 ?_
    refine call_h (va_runS (n := 3) (As := [.int i, .int n, .null]) (rest := []) ⟨hx, hb, hml, hown, hts⟩ (j_pre l ad adV A i n .null (Or.inl rfl) h1 h2) ⟨callB_of 3 hts (sj_gd (List.mem_of_getElem? (i := 20) rfl)) rfl rfl rfl (hw 23 rfl) (hw 18 rfl) (by decide +kernel) ⟨Nat.le_of_ble_eq_true rfl, Nat.le_of_ble_eq_true rfl⟩, (hw 19 rfl)⟩ (jS hs) rfl rfl hl.1 rfl (lv_room (Nat.le_of_ble_eq_true rfl)) dJ0_checkIndex_df160_5 ⟨Nat.zero_le _, Nat.zero_le _⟩) ?_
    refine lv_pop hx hb dJ0_checkIndex_df160_8 rfl ?_
    exact W.vret hx hb hr (fun t ht hW => ⟨rfl, ht⟩) (fun _ h => absurd h List.not_mem_nil) dJ0_checkIndex_df160_9
  · refine va_gets hx hb hz hS hown (hw 3 rfl) (fun _ h => h) dJ0_checkIndex_df160_2 ?_
    refine call_h (va_runS (n := 3) (As := [.int i, .int n, .ref t0]) (rest := []) ⟨hx, hb, hml, hown, hts⟩ (j_pre l ad adV A i n (.ref t0) (Or.inr ⟨t0, rfl⟩) h1 h2) ⟨callB_of 3 hts (sj_gd (List.mem_of_getElem? (i := 20) rfl)) rfl rfl rfl (hw 23 rfl) (hw 18 rfl) (by decide +kernel) ⟨Nat.le_of_ble_eq_true rfl, Nat.le_of_ble_eq_true rfl⟩, (hw 19 rfl)⟩ (jS hs) rfl rfl hl.1 rfl (lv_room (Nat.le_of_ble_eq_true rfl)) dJ0_checkIndex_df160_5 ⟨Nat.zero_le _, Nat.zero_le _⟩) ?_
    refine lv_pop hx hb dJ0_checkIndex_df160_8 rfl ?_
    exact W.vret hx hb hr (fun t ht hW => ⟨rfl, ht⟩) (fun _ h => absurd h List.not_mem_nil) dJ0_checkIndex_df160_9
theorem strB_b : ∀ k, k < 2 → strN.getD k 0 = (strB.getD k []).length ∧ strN.getD k 0 < 1000 ∧ ∀ b ∈ strB.getD k [], ((b &&& 255).toUInt32 % 65536).toInt32 = b ∧ narrow .char (.int b) = .int b := by decide +kernel
theorem strB_c {k j : Nat} (hk : k < 2) (hj : j < strN.getD k 0) : (((strB.getD k []).getD j 0 &&& 255).toUInt32 % 65536).toInt32 = (strB.getD k []).getD j 0 ∧ narrow .char (.int ((strB.getD k []).getD j 0)) = .int ((strB.getD k []).getD j 0) := by
  obtain ⟨h1, h2, h3⟩ := strB_b k hk
  have hj' : j < (strB.getD k []).length := by omega
  have : (strB.getD k []).getD j 0 = (strB.getD k [])[j] := by rw [List.getD_eq_getElem?_getD, List.getElem?_eq_getElem hj']; rfl
  rw [this]
  exact h3 _ (List.getElem_mem hj')
theorem dJ1_charAt_3b067_0 : decode cJ1_charAt_3b067 0 = .ok (.iload_n 1, 1) := by decide +kernel
theorem dJ1_charAt_3b067_1 : decode cJ1_charAt_3b067 1 = .ok (.aload_n 0, 1) := by decide +kernel
theorem dJ1_charAt_3b067_2 : decode cJ1_charAt_3b067 2 = .ok (.arraylength, 1) := by decide +kernel
theorem dJ1_charAt_3b067_3 : decode cJ1_charAt_3b067 3 = .ok (.invokestatic 9, 3) := by decide +kernel
theorem dJ1_charAt_3b067_6 : decode cJ1_charAt_3b067 6 = .ok (.aload_n 0, 1) := by decide +kernel
theorem dJ1_charAt_3b067_7 : decode cJ1_charAt_3b067 7 = .ok (.iload_n 1, 1) := by decide +kernel
theorem dJ1_charAt_3b067_8 : decode cJ1_charAt_3b067 8 = .ok (.baload, 1) := by decide +kernel
theorem dJ1_charAt_3b067_9 : decode cJ1_charAt_3b067 9 = .ok (.sipush 255, 3) := by decide +kernel
theorem dJ1_charAt_3b067_12 : decode cJ1_charAt_3b067 12 = .ok (.iand, 1) := by decide +kernel
theorem dJ1_charAt_3b067_13 : decode cJ1_charAt_3b067 13 = .ok (.i2c, 1) := by decide +kernel
theorem dJ1_charAt_3b067_14 : decode cJ1_charAt_3b067 14 = .ok (.ireturn, 1) := by decide +kernel
set_option maxHeartbeats 4000000 in
theorem j_lat (l : Launch) (ad adV : Nat → Nat) (A : Nat → Prop) (k : Nat) (hk : k < 2) (i : Int32) (h1 : vp_in i (strN.getD k 0)) : Met l yJ1_charAt_3b067 (.code yJ1_charAt_3b067 cJ1_charAt_3b067 2 (some .char) :: SJ) (rj 2) (jP ad adV A [.ref (adV k), .int i]) (Qh (some (.int ((strB.getD k []).getD i.toNatClampNeg 0)))) 0 0 (fun _ => False) := by
  refine va_MetF (cc := cJ1_charAt_3b067) (maxL := 2) (ret := some .char) (by decide +kernel) rfl ?_
  intro p e s m args below meth c s₁ B hml hv
  obtain ⟨rfl, hs⟩ := hv
  have hx := B.exec
  have hb := B.bytes
  have hr := B.returns
  have hts := atoms_spec (ws := .code yJ1_charAt_3b067 cJ1_charAt_3b067 2 (some .char) :: SJ) B.pre
  have hw : ∀ {w : Cond} (i : Nat), SJ[i]? = some w → w.before _ s = true := fun i h => hts _ (List.mem_cons_of_mem _ (List.mem_of_getElem? h))
  have hown : s.vm.findClass RJ1 = some m.cls := findClass_of_methodNamed B.named
  have hlocks := B.notSynchronized
  have hl := lv_entry ([.ref (adV k), .int i]) (n := 2) (Nat.le_of_ble_eq_true rfl)
  rw [lg_entry_eq]
  generalize (lg_sl ([.ref (adV k), .int i]) ++ List.replicate (2 - (lg_sl ([.ref (adV k), .int i])).length) Slot.unset).toArray = ls at hl ⊢
  have hS : va_S A s.heap s.heap [] := va_S.rf
  have hlt := (strB_b k hk).2.1
  obtain ⟨j, hj, rfl⟩ := vp_in_of h1 (by omega)
  have e9 := strB_c hk hj
  rw [← nI_clamp (n := j) (by omega)] at e9
  refine lv_iload_n hx hb dJ1_charAt_3b067_0 rfl (lv_at hl 1 rfl) ?_
  refine lv_aload_n hx hb dJ1_charAt_3b067_1 rfl (lv_at hl 0 rfl) ?_
  refine va_tlen hx hb (hs.1.1 k hk).2.2.2 hS rfl dJ1_charAt_3b067_2 ?_
  refine call_h (va_runS (n := 2) (As := [.int (nI j), .int (Int32.ofNat (strN.getD k 0))]) (rest := []) ⟨hx, hb, hml, hown, hts⟩ (j_chk l ad adV A (nI j) (Int32.ofNat (strN.getD k 0)) (nI_pos (by omega)) (nI_lt hj (by omega))) ⟨callB_of 2 hts (sj_gd (List.mem_of_getElem? (i := 17) rfl)) rfl rfl rfl (hw 21 rfl) (hw 15 rfl) (by decide +kernel) ⟨Nat.le_of_ble_eq_true rfl, Nat.le_of_ble_eq_true rfl⟩, (hw 16 rfl)⟩ (jS hs) rfl rfl hl.1 rfl (lv_room (Nat.le_of_ble_eq_true rfl)) dJ1_charAt_3b067_3 ⟨Nat.zero_le _, Nat.zero_le _⟩) ?_
  refine lv_aload_n hx hb dJ1_charAt_3b067_6 rfl (lv_at hl 0 rfl) ?_
  refine lv_iload_n hx hb dJ1_charAt_3b067_7 rfl (lv_at hl 1 rfl) ?_
  refine va_tb hx hb (hs.1.1 k hk).2.2.2 hS h1 rfl dJ1_charAt_3b067_8 ?_
  refine lv_sipush (v := 255) hx hb dJ1_charAt_3b067_9 (by decide) ?_
  refine lv_iand hx hb dJ1_charAt_3b067_12 ?_
  refine lv_i2c hx hb dJ1_charAt_3b067_13 e9.1 ?_
  exact W.zret (v := _) hx hb hr e9.2 (fun t ht hW => ⟨rfl, ht⟩) (fun _ h => absurd h List.not_mem_nil) dJ1_charAt_3b067_14
theorem dJ0_charAt_5068e_0 : decode cJ0_charAt_5068e 0 = .ok (.aload_n 0, 1) := by decide +kernel
theorem dJ0_charAt_5068e_1 : decode cJ0_charAt_5068e 1 = .ok (.invokevirtual 492, 3) := by decide +kernel
theorem dJ0_charAt_5068e_4 : decode cJ0_charAt_5068e 4 = .ok (.ifCond .eq 12, 3) := by decide +kernel
theorem dJ0_charAt_5068e_7 : decode cJ0_charAt_5068e 7 = .ok (.aload_n 0, 1) := by decide +kernel
theorem dJ0_charAt_5068e_8 : decode cJ0_charAt_5068e 8 = .ok (.getfield 9, 3) := by decide +kernel
theorem dJ0_charAt_5068e_11 : decode cJ0_charAt_5068e 11 = .ok (.iload_n 1, 1) := by decide +kernel
theorem dJ0_charAt_5068e_12 : decode cJ0_charAt_5068e 12 = .ok (.invokestatic 495, 3) := by decide +kernel
theorem dJ0_charAt_5068e_15 : decode cJ0_charAt_5068e 15 = .ok (.ireturn, 1) := by decide +kernel
set_option maxHeartbeats 4000000 in
theorem j_charAt (l : Launch) (ad adV : Nat → Nat) (A : Nat → Prop) (k : Nat) (hk : k < 2) (i : Int32) (h1 : vp_in i (strN.getD k 0)) : Met l yJ0_charAt_5068e (.code yJ0_charAt_5068e cJ0_charAt_5068e 2 (some .char) :: SJ) (rj 3) (jP ad adV A [.ref (ad (1000 + k)), .int i]) (Qh (some (.int ((strB.getD k []).getD i.toNatClampNeg 0)))) 0 0 (fun _ => False) := by
  refine va_MetF (cc := cJ0_charAt_5068e) (maxL := 2) (ret := some .char) (by decide +kernel) rfl ?_
  intro p e s m args below meth c s₁ B hml hv
  obtain ⟨rfl, hs⟩ := hv
  have hx := B.exec
  have hb := B.bytes
  have hr := B.returns
  have hts := atoms_spec (ws := .code yJ0_charAt_5068e cJ0_charAt_5068e 2 (some .char) :: SJ) B.pre
  have hw : ∀ {w : Cond} (i : Nat), SJ[i]? = some w → w.before _ s = true := fun i h => hts _ (List.mem_cons_of_mem _ (List.mem_of_getElem? h))
  have hown : s.vm.findClass RJ0 = some m.cls := findClass_of_methodNamed B.named
  have hlocks := B.notSynchronized
  have hl := lv_entry ([.ref (ad (1000 + k)), .int i]) (n := 2) (Nat.le_of_ble_eq_true rfl)
  rw [lg_entry_eq]
  generalize (lg_sl ([.ref (ad (1000 + k)), .int i]) ++ List.replicate (2 - (lg_sl ([.ref (ad (1000 + k)), .int i])).length) Slot.unset).toArray = ls at hl ⊢
  have hS : va_S A s.heap s.heap [] := va_S.rf
  have hlt := (strB_b k hk).2.1
  have hnar : narrow .char (.int ((strB.getD k []).getD i.toNatClampNeg 0)) = .int ((strB.getD k []).getD i.toNatClampNeg 0) := by
    obtain ⟨j, hj, rfl⟩ := vp_in_of h1 (by omega)
    rw [nI_clamp (n := j) (by omega)]
    exact (strB_c hk hj).2
  refine lv_aload_n hx hb dJ0_charAt_5068e_0 rfl (lv_at hl 0 rfl) ?_
  refine call_h (va_runV (n := 0) (As := []) (rest := []) ⟨hx, hb, hml, hown, hts⟩ (j_isLatin1 l ad adV A k hk) ⟨callB_of 0 hts (sj_gd (List.mem_of_getElem? (i := 11) rfl)) rfl rfl rfl (hw 21 rfl) (hw 8 rfl) (by decide +kernel) ⟨Nat.le_of_ble_eq_true rfl, Nat.le_of_ble_eq_true rfl⟩, (hw 9 rfl), (hw 10 rfl)⟩ (jV hk hs) rfl rfl hl.1 rfl (lv_room (Nat.le_of_ble_eq_true rfl)) dJ0_charAt_5068e_1 ⟨Nat.zero_le _, Nat.zero_le _⟩) ?_
  refine lv_if_eq (tgt := 16) hx hb dJ0_charAt_5068e_4 (by decide) (fun z => absurd z (by decide)) (fun _ => ?_)
  refine lv_aload_n hx hb dJ0_charAt_5068e_7 rfl (lv_at hl 0 rfl) ?_
  refine vk_getf hx hb (hs.1.1 k hk).2.2.1 hS hown (hw 2 rfl) (fun _ h => h) dJ0_charAt_5068e_8 ?_
  refine lv_iload_n hx hb dJ0_charAt_5068e_11 rfl (lv_at hl 1 rfl) ?_
  refine call_h (va_runS (n := 2) (As := [.ref (adV k), .int i]) (rest := []) ⟨hx, hb, hml, hown, hts⟩ (j_lat l ad adV A k hk i h1) ⟨callB_of 2 hts (sj_gd (List.mem_of_getElem? (i := 14) rfl)) rfl rfl rfl (hw 22 rfl) (hw 12 rfl) (by decide +kernel) ⟨Nat.le_of_ble_eq_true rfl, Nat.le_of_ble_eq_true rfl⟩, (hw 13 rfl)⟩ (jS hs) rfl rfl hl.1 rfl (lv_room (Nat.le_of_ble_eq_true rfl)) dJ0_charAt_5068e_12 ⟨Nat.zero_le _, Nat.zero_le _⟩) ?_
  exact W.zret (v := (strB.getD k []).getD i.toNatClampNeg 0) hx hb hr hnar (fun t ht hW => ⟨rfl, ht⟩) (fun _ h => absurd h List.not_mem_nil) dJ0_charAt_5068e_15
