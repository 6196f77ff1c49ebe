theorem dX7_isLetter_0 : decode cX7_isLetter 0 = .ok (.iload_n 0, 1) := by decide +kernel
theorem dX7_isLetter_1 : decode cX7_isLetter 1 = .ok (.bipush 97, 2) := by decide +kernel
theorem dX7_isLetter_3 : decode cX7_isLetter 3 = .ok (.if_icmp .lt 13, 3) := by decide +kernel
theorem dX7_isLetter_16 : decode cX7_isLetter 16 = .ok (.iconst 0, 1) := by decide +kernel
theorem dX7_isLetter_17 : decode cX7_isLetter 17 = .ok (.ireturn, 1) := by decide +kernel
theorem dX7_isLetter_6 : decode cX7_isLetter 6 = .ok (.iload_n 0, 1) := by decide +kernel
theorem dX7_isLetter_7 : decode cX7_isLetter 7 = .ok (.bipush 122, 2) := by decide +kernel
theorem dX7_isLetter_9 : decode cX7_isLetter 9 = .ok (.if_icmp .gt 7, 3) := by decide +kernel
theorem dX7_isLetter_12 : decode cX7_isLetter 12 = .ok (.iconst 1, 1) := by decide +kernel
theorem dX7_isLetter_13 : decode cX7_isLetter 13 = .ok (.goto 4, 3) := by decide +kernel
def vds_isLetter : List Cond := [.code yX7_isLetter cX7_isLetter 1 (some .boolean)]
def vs_isLetter : List Cond := vds_isLetter ++ ([] : List Cond)
set_option maxHeartbeats 4000000 in
set_option maxRecDepth 100000 in
theorem s_isLetter (l : Launch) (D : va_G) (kc : Nat → ClassId) (sz : Nat) (a0 : Int32) : Met l yX7_isLetter vs_isLetter ({ frames := 0, cells := 0, slots := 0, locals := 0 }) (va_Pc [.int a0] (wPre D kc [] sz)) (va_Qi (fun (r : Int32) (_ : Unit) => (r = 0 ∨ r = 1)) (fun (_ : Unit) (t9 : State) => va_P D vwCl [] t9.heap ∧ va_D (va_A [] sz) []) (va_A [] sz)) 0 0 (va_A [] sz) := by
  refine Met.ofW (cc := cX7_isLetter) (maxL := 1) (ret := (some .boolean)) (by decide) rfl ?_
  intro p e s m args below meth c s₁ B hml hv
  obtain ⟨rfl, hsz, hP, hE, hD0⟩ := hv
  have hx := B.exec
  have hb := B.bytes
  have hr := B.returns
  have hts := atoms_spec (ws := vs_isLetter) B.pre
  have hown : s.vm.findClass RX7 = some m.cls := findClass_of_methodNamed B.named
  have hlocks := B.notSynchronized
  subst hsz
  have hD := hD0.self (sz := s.heap.size)
  generalize hAe : va_A [] s.heap.size = A at hD ⊢
  have hA : ∀ q : Nat, s.heap.size ≤ q → A q := fun q h => by rw [← hAe]; exact Or.inr h
  have hS : va_S A s.heap s.heap [] := va_S.rf
  have hK := hE.1
  have hP : va_P D vwCl [] s.heap := hP
  have hl := lv_entry ([.int a0]) (n := 1) (Nat.le_of_ble_eq_true rfl)
  rw [lg_entry_eq]
  generalize (lg_sl ([.int a0]) ++ List.replicate (1 - (lg_sl ([.int a0])).length) Slot.unset).toArray = ls at hl ⊢
  have hl : lv_has ls 1 [(0, .int a0)] := hl
  refine lv_iload_n hx hb dX7_isLetter_0 rfl (lv_at hl 0 rfl) ?_
  refine lv_bipush (v := 97) hx hb dX7_isLetter_1 (by decide) ?_
  refine lv_icmp_lt (tgt := 16) hx hb dX7_isLetter_3 (by decide) (fun c1 => ?_) (fun c1 => ?_)
  · refine lv_iconst (v := 0) hx hb dX7_isLetter_16 (by decide) ?_
    have hP9 := hP.sub (ws' := []) [] rfl
    have hD9 := hD.sub (ws' := []) [] (by decide) rfl
    exact W.zret (v := 0) hx hb hr rfl (fun t9 ht hW => ⟨⟨0, (), rfl, Or.inl rfl, by rw [ht]; exact hP9, hD9⟩, hS.F ht⟩) hS.2.2 dX7_isLetter_17
  · refine lv_iload_n hx hb dX7_isLetter_6 rfl (lv_at hl 0 rfl) ?_
    refine lv_bipush (v := 122) hx hb dX7_isLetter_7 (by decide) ?_
    refine lv_icmp_gt (tgt := 16) hx hb dX7_isLetter_9 (by decide) (fun c2 => ?_) (fun c2 => ?_)
    · refine lv_iconst (v := 0) hx hb dX7_isLetter_16 (by decide) ?_
      have hP9 := hP.sub (ws' := []) [] rfl
      have hD9 := hD.sub (ws' := []) [] (by decide) rfl
      exact W.zret (v := 0) hx hb hr rfl (fun t9 ht hW => ⟨⟨0, (), rfl, Or.inl rfl, by rw [ht]; exact hP9, hD9⟩, hS.F ht⟩) hS.2.2 dX7_isLetter_17
    · refine lv_iconst (v := 1) hx hb dX7_isLetter_12 (by decide) ?_
      refine lv_goto (tgt := 17) hx hb dX7_isLetter_13 (by decide) ?_
      have hP9 := hP.sub (ws' := []) [] rfl
      have hD9 := hD.sub (ws' := []) [] (by decide) rfl
      exact W.zret (v := 1) hx hb hr rfl (fun t9 ht hW => ⟨⟨1, (), rfl, Or.inr rfl, by rw [ht]; exact hP9, hD9⟩, hS.F ht⟩) hS.2.2 dX7_isLetter_17
theorem dX7_isDigit_0 : decode cX7_isDigit 0 = .ok (.iload_n 0, 1) := by decide +kernel
theorem dX7_isDigit_1 : decode cX7_isDigit 1 = .ok (.bipush 48, 2) := by decide +kernel
theorem dX7_isDigit_3 : decode cX7_isDigit 3 = .ok (.if_icmp .lt 13, 3) := by decide +kernel
theorem dX7_isDigit_16 : decode cX7_isDigit 16 = .ok (.iconst 0, 1) := by decide +kernel
theorem dX7_isDigit_17 : decode cX7_isDigit 17 = .ok (.ireturn, 1) := by decide +kernel
theorem dX7_isDigit_6 : decode cX7_isDigit 6 = .ok (.iload_n 0, 1) := by decide +kernel
theorem dX7_isDigit_7 : decode cX7_isDigit 7 = .ok (.bipush 57, 2) := by decide +kernel
theorem dX7_isDigit_9 : decode cX7_isDigit 9 = .ok (.if_icmp .gt 7, 3) := by decide +kernel
theorem dX7_isDigit_12 : decode cX7_isDigit 12 = .ok (.iconst 1, 1) := by decide +kernel
theorem dX7_isDigit_13 : decode cX7_isDigit 13 = .ok (.goto 4, 3) := by decide +kernel
def vds_isDigit : List Cond := [.code yX7_isDigit cX7_isDigit 1 (some .boolean)]
def vs_isDigit : List Cond := vds_isDigit ++ ([] : List Cond)
set_option maxHeartbeats 4000000 in
set_option maxRecDepth 100000 in
theorem s_isDigit (l : Launch) (D : va_G) (kc : Nat → ClassId) (sz : Nat) (a0 : Int32) : Met l yX7_isDigit vs_isDigit ({ frames := 0, cells := 0, slots := 0, locals := 0 }) (va_Pc [.int a0] (wPre D kc [] sz)) (va_Qi (fun (r : Int32) (_ : Unit) => (r = 0 ∨ r = 1)) (fun (_ : Unit) (t9 : State) => va_P D vwCl [] t9.heap ∧ va_D (va_A [] sz) []) (va_A [] sz)) 0 0 (va_A [] sz) := by
  refine Met.ofW (cc := cX7_isDigit) (maxL := 1) (ret := (some .boolean)) (by decide) rfl ?_
  intro p e s m args below meth c s₁ B hml hv
  obtain ⟨rfl, hsz, hP, hE, hD0⟩ := hv
  have hx := B.exec
  have hb := B.bytes
  have hr := B.returns
  have hts := atoms_spec (ws := vs_isDigit) B.pre
  have hown : s.vm.findClass RX7 = some m.cls := findClass_of_methodNamed B.named
  have hlocks := B.notSynchronized
  subst hsz
  have hD := hD0.self (sz := s.heap.size)
  generalize hAe : va_A [] s.heap.size = A at hD ⊢
  have hA : ∀ q : Nat, s.heap.size ≤ q → A q := fun q h => by rw [← hAe]; exact Or.inr h
  have hS : va_S A s.heap s.heap [] := va_S.rf
  have hK := hE.1
  have hP : va_P D vwCl [] s.heap := hP
  have hl := lv_entry ([.int a0]) (n := 1) (Nat.le_of_ble_eq_true rfl)
  rw [lg_entry_eq]
  generalize (lg_sl ([.int a0]) ++ List.replicate (1 - (lg_sl ([.int a0])).length) Slot.unset).toArray = ls at hl ⊢
  have hl : lv_has ls 1 [(0, .int a0)] := hl
  refine lv_iload_n hx hb dX7_isDigit_0 rfl (lv_at hl 0 rfl) ?_
  refine lv_bipush (v := 48) hx hb dX7_isDigit_1 (by decide) ?_
  refine lv_icmp_lt (tgt := 16) hx hb dX7_isDigit_3 (by decide) (fun c1 => ?_) (fun c1 => ?_)
  · refine lv_iconst (v := 0) hx hb dX7_isDigit_16 (by decide) ?_
    have hP9 := hP.sub (ws' := []) [] rfl
    have hD9 := hD.sub (ws' := []) [] (by decide) rfl
    exact W.zret (v := 0) hx hb hr rfl (fun t9 ht hW => ⟨⟨0, (), rfl, Or.inl rfl, by rw [ht]; exact hP9, hD9⟩, hS.F ht⟩) hS.2.2 dX7_isDigit_17
  · refine lv_iload_n hx hb dX7_isDigit_6 rfl (lv_at hl 0 rfl) ?_
    refine lv_bipush (v := 57) hx hb dX7_isDigit_7 (by decide) ?_
    refine lv_icmp_gt (tgt := 16) hx hb dX7_isDigit_9 (by decide) (fun c2 => ?_) (fun c2 => ?_)
    · refine lv_iconst (v := 0) hx hb dX7_isDigit_16 (by decide) ?_
      have hP9 := hP.sub (ws' := []) [] rfl
      have hD9 := hD.sub (ws' := []) [] (by decide) rfl
      exact W.zret (v := 0) hx hb hr rfl (fun t9 ht hW => ⟨⟨0, (), rfl, Or.inl rfl, by rw [ht]; exact hP9, hD9⟩, hS.F ht⟩) hS.2.2 dX7_isDigit_17
    · refine lv_iconst (v := 1) hx hb dX7_isDigit_12 (by decide) ?_
      refine lv_goto (tgt := 17) hx hb dX7_isDigit_13 (by decide) ?_
      have hP9 := hP.sub (ws' := []) [] rfl
      have hD9 := hD.sub (ws' := []) [] (by decide) rfl
      exact W.zret (v := 1) hx hb hr rfl (fun t9 ht hW => ⟨⟨1, (), rfl, Or.inr rfl, by rw [ht]; exact hP9, hD9⟩, hS.F ht⟩) hS.2.2 dX7_isDigit_17
def vds_kindOfWord : List Cond := [.code yX7_kindOfWord cX7_kindOfWord 7 (some .int)]
def vs_kindOfWord : List Cond := vds_kindOfWord ++ ([] : List Cond)
theorem s_kindOfWord (l : Launch) (D : va_G) (kc : Nat → ClassId) (sz : Nat) (b0 : Int64) : Met l yX7_kindOfWord vs_kindOfWord ({ frames := 6, cells := 0, slots := 0, locals := 200 }) (va_Pc [.long b0] (wPre D kc [] sz)) (va_Qi (fun (r : Int32) (_ : Unit) => True) (fun (_ : Unit) (t9 : State) => va_P D vwCl [] t9.heap ∧ va_D (va_A [] sz) []) (va_A [] sz)) 0 0 (va_A [] sz) := by
  sorry
theorem dX7_cutWord_0 : decode cX7_cutWord 0 = .ok (.aload_n 0, 1) := by decide +kernel
theorem dX7_cutWord_1 : decode cX7_cutWord 1 = .ok (.lconst 0, 1) := by decide +kernel
theorem dX7_cutWord_2 : decode cX7_cutWord 2 = .ok (.putfield 50, 3) := by decide +kernel
theorem dX7_cutWord_5 : decode cX7_cutWord 5 = .ok (.aload_n 0, 1) := by decide +kernel
theorem dX7_cutWord_6 : decode cX7_cutWord 6 = .ok (.getfield 28, 3) := by decide +kernel
theorem dX7_cutWord_9 : decode cX7_cutWord 9 = .ok (.aload_n 0, 1) := by decide +kernel
theorem dX7_cutWord_10 : decode cX7_cutWord 10 = .ok (.getfield 25, 3) := by decide +kernel
theorem dX7_cutWord_13 : decode cX7_cutWord 13 = .ok (.if_icmp .ge 74, 3) := by decide +kernel
theorem dX7_cutWord_87 : decode cX7_cutWord 87 = .ok (.return_, 1) := by decide +kernel
theorem dX7_cutWord_16 : decode cX7_cutWord 16 = .ok (.aload_n 0, 1) := by decide +kernel
theorem dX7_cutWord_17 : decode cX7_cutWord 17 = .ok (.getfield 15, 3) := by decide +kernel
theorem dX7_cutWord_20 : decode cX7_cutWord 20 = .ok (.aload_n 0, 1) := by decide +kernel
theorem dX7_cutWord_21 : decode cX7_cutWord 21 = .ok (.getfield 28, 3) := by decide +kernel
theorem dX7_cutWord_24 : decode cX7_cutWord 24 = .ok (.iaload, 1) := by decide +kernel
theorem dX7_cutWord_25 : decode cX7_cutWord 25 = .ok (.invokestatic 43, 3) := by decide +kernel
theorem dX7_cutWord_28 : decode cX7_cutWord 28 = .ok (.ifCond .eq 59, 3) := by decide +kernel
theorem dX7_cutWord_31 : decode cX7_cutWord 31 = .ok (.aload_n 0, 1) := by decide +kernel
theorem dX7_cutWord_32 : decode cX7_cutWord 32 = .ok (.getfield 28, 3) := by decide +kernel
theorem dX7_cutWord_35 : decode cX7_cutWord 35 = .ok (.aload_n 0, 1) := by decide +kernel
theorem dX7_cutWord_36 : decode cX7_cutWord 36 = .ok (.getfield 37, 3) := by decide +kernel
theorem dX7_cutWord_39 : decode cX7_cutWord 39 = .ok (.isub, 1) := by decide +kernel
theorem dX7_cutWord_40 : decode cX7_cutWord 40 = .ok (.bipush 8, 2) := by decide +kernel
theorem dX7_cutWord_42 : decode cX7_cutWord 42 = .ok (.if_icmp .ge 32, 3) := by decide +kernel
theorem dX7_cutWord_74 : decode cX7_cutWord 74 = .ok (.aload_n 0, 1) := by decide +kernel
theorem dX7_cutWord_75 : decode cX7_cutWord 75 = .ok (.dup, 1) := by decide +kernel
theorem dX7_cutWord_76 : decode cX7_cutWord 76 = .ok (.getfield 28, 3) := by decide +kernel
theorem dX7_cutWord_79 : decode cX7_cutWord 79 = .ok (.iconst 1, 1) := by decide +kernel
theorem dX7_cutWord_80 : decode cX7_cutWord 80 = .ok (.iadd, 1) := by decide +kernel
theorem dX7_cutWord_81 : decode cX7_cutWord 81 = .ok (.putfield 28, 3) := by decide +kernel
theorem dX7_cutWord_84 : decode cX7_cutWord 84 = .ok (.goto (-79), 3) := by decide +kernel
theorem dX7_cutWord_45 : decode cX7_cutWord 45 = .ok (.aload_n 0, 1) := by decide +kernel
theorem dX7_cutWord_46 : decode cX7_cutWord 46 = .ok (.aload_n 0, 1) := by decide +kernel
theorem dX7_cutWord_47 : decode cX7_cutWord 47 = .ok (.getfield 50, 3) := by decide +kernel
theorem dX7_cutWord_50 : decode cX7_cutWord 50 = .ok (.ldc2_w 67, 3) := by decide +kernel
theorem dX7_cutWord_53 : decode cX7_cutWord 53 = .ok (.lmul, 1) := by decide +kernel
theorem dX7_cutWord_54 : decode cX7_cutWord 54 = .ok (.aload_n 0, 1) := by decide +kernel
theorem dX7_cutWord_55 : decode cX7_cutWord 55 = .ok (.getfield 15, 3) := by decide +kernel
theorem dX7_cutWord_58 : decode cX7_cutWord 58 = .ok (.aload_n 0, 1) := by decide +kernel
theorem dX7_cutWord_59 : decode cX7_cutWord 59 = .ok (.getfield 28, 3) := by decide +kernel
theorem dX7_cutWord_62 : decode cX7_cutWord 62 = .ok (.iaload, 1) := by decide +kernel
theorem dX7_cutWord_63 : decode cX7_cutWord 63 = .ok (.i2l, 1) := by decide +kernel
theorem dX7_cutWord_64 : decode cX7_cutWord 64 = .ok (.ladd, 1) := by decide +kernel
theorem dX7_cutWord_65 : decode cX7_cutWord 65 = .ok (.ldc2_w 69, 3) := by decide +kernel
theorem dX7_cutWord_68 : decode cX7_cutWord 68 = .ok (.lsub, 1) := by decide +kernel
theorem dX7_cutWord_69 : decode cX7_cutWord 69 = .ok (.lconst 1, 1) := by decide +kernel
theorem dX7_cutWord_70 : decode cX7_cutWord 70 = .ok (.ladd, 1) := by decide +kernel
theorem dX7_cutWord_71 : decode cX7_cutWord 71 = .ok (.putfield 50, 3) := by decide +kernel
def vds_cutWord : List Cond := [.code yX7_cutWord cX7_cutWord 1 none, .fieldLink RX7 50 "SaltStreet$Tokens" "name" "J", .fieldLink RX7 28 "SaltStreet$Tokens" "next" "I", .fieldLink RX7 25 "SaltStreet$Tokens" "length" "I", .fieldLink RX7 15 "SaltStreet$Tokens" "text" "[I", .methodLink RX7 43 yX7_isLetter, .code yX7_isLetter cX7_isLetter 1 (some .boolean), .static yX7_isLetter, .initialized RX7, .fieldLink RX7 37 "SaltStreet$Tokens" "start" "I", .constantLong RX7 67 (27), .constantLong RX7 69 (97)]
def vs_cutWord : List Cond := vds_cutWord ++ (wsX70 ++ ([] : List Cond))
theorem is_cutWord_X7 : ∀ w ∈ wsX70, w ∈ vs_cutWord := fun _ h => List.mem_append_right _ (List.mem_append_left _ h)
set_option maxRecDepth 20000 in
theorem gs_cutWord_43_s_isLetter : GoodIn vs_cutWord (va_wsS RX7 43 yX7_isLetter vs_isLetter) := (goodIn_app (goodIn_r _ [5, 7, 8] rfl (by decide +kernel)) (goodIn_app (goodIn_r vds_isLetter [6] rfl (by decide +kernel)) goodIn_nil))
set_option maxHeartbeats 4000000 in
set_option maxRecDepth 100000 in
theorem s_cutWord (l : Launch) (D : va_G) (kc : Nat → ClassId) (sz : Nat) (xa : Nat → Nat) (tk_length : Nat) (tk_next : Nat) (tk_kind : Int32) (tk_start : Int32) (tk_number : Int32) (tk_name : Int64) (tk_taken : Int32) (tk_fault : Int32) (tk_place : Int32) (tape : Nat → Int32) (h_tk_length : tk_length ≤ 900) (h_tk_next : tk_next ≤ 900) : Met l yX7_cutWord vs_cutWord ({ frames := 1, cells := 0, slots := 0, locals := 20 }) (va_Pc [.ref (xa 7)] (wPre D kc [(xa 7, .inr (7, [.ref (xa 1), .int (nI tk_length), .int (nI tk_next), .int tk_kind, .int tk_start, .int tk_number, .long tk_name, .int tk_taken, .int tk_fault, .int tk_place])), (xa 1, .inl (kc 0, 900, .inl tape))] sz)) (va_Qv (fun (_ : Unit) => True) (fun (_ : Unit) (t9 : State) => ∃ tk_next_n : Nat, ∃ tk_name_n : Int64, tk_next_n ≤ 900 ∧ va_P D vwCl [(xa 7, .inr (7, [.ref (xa 1), .int (nI tk_length), .int (nI tk_next_n), .int tk_kind, .int tk_start, .int tk_number, .long tk_name_n, .int tk_taken, .int tk_fault, .int tk_place])), (xa 1, .inl (kc 0, 900, .inl tape))] t9.heap ∧ va_D (va_A [(xa 7, .inr (7, [.ref (xa 1), .int (nI tk_length), .int (nI tk_next), .int tk_kind, .int tk_start, .int tk_number, .long tk_name, .int tk_taken, .int tk_fault, .int tk_place])), (xa 1, .inl (kc 0, 900, .inl tape))] sz) [(xa 7, .inr (7, [.ref (xa 1), .int (nI tk_length), .int (nI tk_next_n), .int tk_kind, .int tk_start, .int tk_number, .long tk_name_n, .int tk_taken, .int tk_fault, .int tk_place])), (xa 1, .inl (kc 0, 900, .inl tape))]) (va_A [(xa 7, .inr (7, [.ref (xa 1), .int (nI tk_length), .int (nI tk_next), .int tk_kind, .int tk_start, .int tk_number, .long tk_name, .int tk_taken, .int tk_fault, .int tk_place])), (xa 1, .inl (kc 0, 900, .inl tape))] sz)) 0 0 (va_A [(xa 7, .inr (7, [.ref (xa 1), .int (nI tk_length), .int (nI tk_next), .int tk_kind, .int tk_start, .int tk_number, .long tk_name, .int tk_taken, .int tk_fault, .int tk_place])), (xa 1, .inl (kc 0, 900, .inl tape))] sz) := by
  refine Met.ofW (cc := cX7_cutWord) (maxL := 1) (ret := none) (by decide) rfl ?_
  intro p e s m args below meth c s₁ B hml hv
  obtain ⟨rfl, hsz, hP, hE, hD0⟩ := hv
  have hx := B.exec
  have hb := B.bytes
  have hr := B.returns
  have hts := atoms_spec (ws := vs_cutWord) B.pre
  have hown : s.vm.findClass RX7 = some m.cls := findClass_of_methodNamed B.named
  have hlocks := B.notSynchronized
  subst hsz
  have hD := hD0.self (sz := s.heap.size)
  generalize hAe : va_A [(xa 7, .inr (7, [.ref (xa 1), .int (nI tk_length), .int (nI tk_next), .int tk_kind, .int tk_start, .int tk_number, .long tk_name, .int tk_taken, .int tk_fault, .int tk_place])), (xa 1, .inl (kc 0, 900, .inl tape))] s.heap.size = A at hD ⊢
  have hA : ∀ q : Nat, s.heap.size ≤ q → A q := fun q h => by rw [← hAe]; exact Or.inr h
  have hS : va_S A s.heap s.heap [] := va_S.rf
  have hK := hE.1
  have hP : va_P D vwCl [(xa 7, .inr (7, [.ref (xa 1), .int (nI tk_length), .int (nI tk_next), .int tk_kind, .int tk_start, .int tk_number, .long tk_name, .int tk_taken, .int tk_fault, .int tk_place])), (xa 1, .inl (kc 0, 900, .inl tape))] s.heap := hP
  have hl := lv_entry ([.ref (xa 7)]) (n := 1) (Nat.le_of_ble_eq_true rfl)
  rw [lg_entry_eq]
  generalize (lg_sl ([.ref (xa 7)]) ++ List.replicate (1 - (lg_sl ([.ref (xa 7)])).length) Slot.unset).toArray = ls at hl ⊢
  have hl : lv_has ls 1 [(0, .ref (xa 7))] := hl
  refine lv_aload_n hx hb dX7_cutWord_0 rfl (lv_at hl 0 rfl) ?_
  refine lv_lconst (v := 0) hx hb dX7_cutWord_1 (by decide) ?_
  refine va_put (D := D) (ci := 7) (v := .long 0) (ty := .long) (C := RX7) (T := TX7) (N := 10) hx hb hts is_cutWord_X7 tyX7 tyX7_ok nmX7 hown hK hP hD hS 0 rfl rfl 6 (by decide) (hts (.fieldLink RX7 50 "SaltStreet$Tokens" "name" "J") (List.mem_of_getElem? (i := 1) rfl)) (fun _ h9 => h9) rfl (by decide +kernel) rfl rfl (Nat.le_of_ble_eq_true rfl) dX7_cutWord_2 (fun H locs hP hD hS => ?_)
  have hP : va_P D vwCl [(xa 7, .inr (7, [.ref (xa 1), .int (nI tk_length), .int (nI tk_next), .int tk_kind, .int tk_start, .int tk_number, .long 0, .int tk_taken, .int tk_fault, .int tk_place])), (xa 1, .inl (kc 0, 900, .inl tape))] H := hP
  have hD : va_D A [(xa 7, .inr (7, [.ref (xa 1), .int (nI tk_length), .int (nI tk_next), .int tk_kind, .int tk_start, .int tk_number, .long 0, .int tk_taken, .int tk_fault, .int tk_place])), (xa 1, .inl (kc 0, 900, .inl tape))] := hD
  have loop_n9_5_29 : ∀ (n9_5_29 : Nat) (i27 : Nat) (y28 : Int64), i27 ≤ (tk_length + tk_next) → (tk_length + tk_next) < i27 + n9_5_29 → ∀ (H : Heap) (locs : List Loc) (ls : Array Slot), va_P D vwCl [(xa 7, .inr (7, [.ref (xa 1), .int (nI tk_length), .int (nI i27), .int tk_kind, .int tk_start, .int tk_number, .long y28, .int tk_taken, .int tk_fault, .int tk_place])), (xa 1, .inl (kc 0, 900, .inl tape))] H → va_D A [(xa 7, .inr (7, [.ref (xa 1), .int (nI tk_length), .int (nI i27), .int tk_kind, .int tk_start, .int tk_number, .long y28, .int tk_taken, .int tk_fault, .int tk_place])), (xa 1, .inl (kc 0, 900, .inl tape))] → va_S A s.heap H locs → lv_has ls 1 [(0, .ref (xa 7))] → W p l e (headSpec vs_cutWord ({ frames := 1, cells := 0, slots := 0, locals := 20 })).room s m [.ref (xa 7)].toArray below meth c H locs 0 0 (MQ below (va_Qv (fun (_ : Unit) => True) (fun (_ : Unit) (t9 : State) => ∃ tk_next_n : Nat, ∃ tk_name_n : Int64, tk_next_n ≤ 900 ∧ va_P D vwCl [(xa 7, .inr (7, [.ref (xa 1), .int (nI tk_length), .int (nI tk_next_n), .int tk_kind, .int tk_start, .int tk_number, .long tk_name_n, .int tk_taken, .int tk_fault, .int tk_place])), (xa 1, .inl (kc 0, 900, .inl tape))] t9.heap ∧ va_D A [(xa 7, .inr (7, [.ref (xa 1), .int (nI tk_length), .int (nI tk_next_n), .int tk_kind, .int tk_start, .int tk_number, .long tk_name_n, .int tk_taken, .int tk_fault, .int tk_place])), (xa 1, .inl (kc 0, 900, .inl tape))]) A) [.ref (xa 7)].toArray s 0 0 A) (F0 m 5 ls []) := by
    intro n9_5_29
    induction n9_5_29 with
    | zero => intro i27 y28  h1 h2; exact absurd h2 (by omega)
    | succ n9_5_29 ih_n9_5_29 =>
      intro i27 y28  h1_n9_5_29 h2_n9_5_29 H locs ls hP hD hS hl
      refine lv_aload_n hx hb dX7_cutWord_5 rfl (lv_at hl 0 rfl) ?_
      refine va_get (D := D) (ci := 7) (v := .int (nI i27)) (C := RX7) (T := TX7) (N := 10) hx hb hts is_cutWord_X7 hown hK hP 0 rfl rfl 2 (by decide) (hts (.fieldLink RX7 28 "SaltStreet$Tokens" "next" "I") (List.mem_of_getElem? (i := 2) rfl)) (fun _ h9 => h9) rfl dX7_cutWord_6 ?_
      refine lv_aload_n hx hb dX7_cutWord_9 rfl (lv_at hl 0 rfl) ?_
      refine va_get (D := D) (ci := 7) (v := .int (nI tk_length)) (C := RX7) (T := TX7) (N := 10) hx hb hts is_cutWord_X7 hown hK hP 0 rfl rfl 1 (by decide) (hts (.fieldLink RX7 25 "SaltStreet$Tokens" "length" "I") (List.mem_of_getElem? (i := 3) rfl)) (fun _ h9 => h9) rfl dX7_cutWord_10 ?_
      refine lv_icmp_ge (tgt := 87) hx hb dX7_cutWord_13 (by decide) (fun c30 => ?_) (fun c30 => ?_)
      · have nc30 := (nI_leI (a := tk_length) (b := i27) (by omega) (by omega)).mp c30
        have hP9 := hP.sub (ws' := [(xa 7, .inr (7, [.ref (xa 1), .int (nI tk_length), .int (nI i27), .int tk_kind, .int tk_start, .int tk_number, .long y28, .int tk_taken, .int tk_fault, .int tk_place])), (xa 1, .inl (kc 0, 900, .inl tape))]) [0, 1] rfl
        have hD9 := hD.sub (ws' := [(xa 7, .inr (7, [.ref (xa 1), .int (nI tk_length), .int (nI i27), .int tk_kind, .int tk_start, .int tk_number, .long y28, .int tk_taken, .int tk_fault, .int tk_place])), (xa 1, .inl (kc 0, 900, .inl tape))]) [0, 1] (by decide) rfl
        exact W.vret hx hb hr (fun t9 ht hW => ⟨⟨(), rfl, trivial, i27, y28, by omega, by rw [ht]; exact hP9, hD9⟩, hS.F ht⟩) hS.2.2 dX7_cutWord_87
      · have nc30 := Nat.not_le.mp (fun q => c30 ((nI_leI (a := tk_length) (b := i27) (by omega) (by omega)).mpr q))
        refine lv_aload_n hx hb dX7_cutWord_16 rfl (lv_at hl 0 rfl) ?_
        refine va_get (D := D) (ci := 7) (v := .ref (xa 1)) (C := RX7) (T := TX7) (N := 10) hx hb hts is_cutWord_X7 hown hK hP 0 rfl rfl 0 (by decide) (hts (.fieldLink RX7 15 "SaltStreet$Tokens" "text" "[I") (List.mem_of_getElem? (i := 4) rfl)) (fun _ h9 => h9) rfl dX7_cutWord_17 ?_
        refine lv_aload_n hx hb dX7_cutWord_20 rfl (lv_at hl 0 rfl) ?_
        refine va_get (D := D) (ci := 7) (v := .int (nI i27)) (C := RX7) (T := TX7) (N := 10) hx hb hts is_cutWord_X7 hown hK hP 0 rfl rfl 2 (by decide) (hts (.fieldLink RX7 28 "SaltStreet$Tokens" "next" "I") (List.mem_of_getElem? (i := 2) rfl)) (fun _ h9 => h9) rfl dX7_cutWord_21 ?_
        refine va_iald hx hb hK hP 1 0 (f := tape) rfl rfl (vp_in_nI (by omega) (by decide)) dX7_cutWord_24 ?_
        refine lv_topi (fun z31 _ => ?_)
        have hPc := hP.sub (ws' := []) [] rfl
        have hDc := hD.sub (ws' := []) [] (by decide) rfl
        have hFc := va_free (wc := []) hD hS hA [] rfl
        refine va_calli (va_runS (As := [.int z31]) (rest := []) ⟨hx, hb, hml, hown, hts⟩ (s_isLetter l D kc H.size z31) (va_cwS 1 hts gs_cutWord_43_s_isLetter rfl rfl rfl (by decide +kernel) ⟨Nat.le_of_ble_eq_true rfl, Nat.le_of_ble_eq_true rfl⟩) (preS_ok hPc hDc hE) rfl rfl hl.1 rfl (lv_room (Nat.le_of_ble_eq_true rfl)) dX7_cutWord_25 ⟨Nat.le_of_ble_eq_true rfl, Nat.le_of_ble_eq_true rfl⟩) hS (fun q _ h => hFc q h) hFc (fun r32 u9 t9 H locs ht hvm hw hB hz1 hk1 hS => ?_)
        obtain ⟨hP1, hD1⟩ := hB
        rw [ht] at hP1
        obtain ⟨hP, hD⟩ := va_join (wr := [(xa 7, .inr (7, [.ref (xa 1), .int (nI tk_length), .int (nI i27), .int tk_kind, .int tk_start, .int tk_number, .long y28, .int tk_taken, .int tk_fault, .int tk_place])), (xa 1, .inl (kc 0, 900, .inl tape))]) (w1 := []) hP hD [] [0, 1] rfl rfl (by decide) (by decide) hk1 hFc hP1 hD1
        have hP : va_P D vwCl [(xa 7, .inr (7, [.ref (xa 1), .int (nI tk_length), .int (nI i27), .int tk_kind, .int tk_start, .int tk_number, .long y28, .int tk_taken, .int tk_fault, .int tk_place])), (xa 1, .inl (kc 0, 900, .inl tape))] H := hP
        have hD : va_D A [(xa 7, .inr (7, [.ref (xa 1), .int (nI tk_length), .int (nI i27), .int tk_kind, .int tk_start, .int tk_number, .long y28, .int tk_taken, .int tk_fault, .int tk_place])), (xa 1, .inl (kc 0, 900, .inl tape))] := hD
        have h_r32 := hw
        refine lv_if_eq (tgt := 87) hx hb dX7_cutWord_28 (by decide) (fun c33 => ?_) (fun c33 => ?_)
        · have hP9 := hP.sub (ws' := [(xa 7, .inr (7, [.ref (xa 1), .int (nI tk_length), .int (nI i27), .int tk_kind, .int tk_start, .int tk_number, .long y28, .int tk_taken, .int tk_fault, .int tk_place])), (xa 1, .inl (kc 0, 900, .inl tape))]) [0, 1] rfl
          have hD9 := hD.sub (ws' := [(xa 7, .inr (7, [.ref (xa 1), .int (nI tk_length), .int (nI i27), .int tk_kind, .int tk_start, .int tk_number, .long y28, .int tk_taken, .int tk_fault, .int tk_place])), (xa 1, .inl (kc 0, 900, .inl tape))]) [0, 1] (by decide) rfl
          exact W.vret hx hb hr (fun t9 ht hW => ⟨⟨(), rfl, trivial, i27, y28, by omega, by rw [ht]; exact hP9, hD9⟩, hS.F ht⟩) hS.2.2 dX7_cutWord_87
        · refine lv_aload_n hx hb dX7_cutWord_31 rfl (lv_at hl 0 rfl) ?_
          refine va_get (D := D) (ci := 7) (v := .int (nI i27)) (C := RX7) (T := TX7) (N := 10) hx hb hts is_cutWord_X7 hown hK hP 0 rfl rfl 2 (by decide) (hts (.fieldLink RX7 28 "SaltStreet$Tokens" "next" "I") (List.mem_of_getElem? (i := 2) rfl)) (fun _ h9 => h9) rfl dX7_cutWord_32 ?_
          refine lv_aload_n hx hb dX7_cutWord_35 rfl (lv_at hl 0 rfl) ?_
          refine va_get (D := D) (ci := 7) (v := .int tk_start) (C := RX7) (T := TX7) (N := 10) hx hb hts is_cutWord_X7 hown hK hP 0 rfl rfl 4 (by decide) (hts (.fieldLink RX7 37 "SaltStreet$Tokens" "start" "I") (List.mem_of_getElem? (i := 9) rfl)) (fun _ h9 => h9) rfl dX7_cutWord_36 ?_
          refine lv_isub hx hb dX7_cutWord_39 ?_
          refine lv_topi (fun z34 _ => ?_)
          refine lv_bipush (v := 8) hx hb dX7_cutWord_40 (by decide) ?_
          refine lv_icmp_ge (tgt := 74) hx hb dX7_cutWord_42 (by decide) (fun c35 => ?_) (fun c35 => ?_)
          · refine lv_aload_n hx hb dX7_cutWord_74 rfl (lv_at hl 0 rfl) ?_
            refine lv_dup hx hb dX7_cutWord_75 rfl ?_
            refine va_get (D := D) (ci := 7) (v := .int (nI i27)) (C := RX7) (T := TX7) (N := 10) hx hb hts is_cutWord_X7 hown hK hP 0 rfl rfl 2 (by decide) (hts (.fieldLink RX7 28 "SaltStreet$Tokens" "next" "I") (List.mem_of_getElem? (i := 2) rfl)) (fun _ h9 => h9) rfl dX7_cutWord_76 ?_
            refine lv_iconst (v := 1) hx hb dX7_cutWord_79 (by decide) ?_
            refine lv_iadd hx hb dX7_cutWord_80 ?_
            refine lv_ci (y := (nI (i27 + 1))) (nI_add _ _) ?_
            refine va_put (D := D) (ci := 7) (v := .int (nI (i27 + 1))) (ty := .int) (C := RX7) (T := TX7) (N := 10) hx hb hts is_cutWord_X7 tyX7 tyX7_ok nmX7 hown hK hP hD hS 0 rfl rfl 2 (by decide) (hts (.fieldLink RX7 28 "SaltStreet$Tokens" "next" "I") (List.mem_of_getElem? (i := 2) rfl)) (fun _ h9 => h9) rfl (by decide +kernel) rfl rfl (Nat.le_of_ble_eq_true rfl) dX7_cutWord_81 (fun H locs hP hD hS => ?_)
            have hP : va_P D vwCl [(xa 7, .inr (7, [.ref (xa 1), .int (nI tk_length), .int (nI (i27 + 1)), .int tk_kind, .int tk_start, .int tk_number, .long y28, .int tk_taken, .int tk_fault, .int tk_place])), (xa 1, .inl (kc 0, 900, .inl tape))] H := hP
            have hD : va_D A [(xa 7, .inr (7, [.ref (xa 1), .int (nI tk_length), .int (nI (i27 + 1)), .int tk_kind, .int tk_start, .int tk_number, .long y28, .int tk_taken, .int tk_fault, .int tk_place])), (xa 1, .inl (kc 0, 900, .inl tape))] := hD
            refine lv_goto (tgt := 5) hx hb dX7_cutWord_84 (by decide) ?_
            exact ih_n9_5_29 (i27 + 1) y28 (by omega) (by omega) _ _ ls hP hD hS (lv_sub hl [0] rfl)
          · refine lv_aload_n hx hb dX7_cutWord_45 rfl (lv_at hl 0 rfl) ?_
            refine lv_aload_n hx hb dX7_cutWord_46 rfl (lv_at hl 0 rfl) ?_
            refine va_get (D := D) (ci := 7) (v := .long y28) (C := RX7) (T := TX7) (N := 10) hx hb hts is_cutWord_X7 hown hK hP 0 rfl rfl 6 (by decide) (hts (.fieldLink RX7 50 "SaltStreet$Tokens" "name" "J") (List.mem_of_getElem? (i := 1) rfl)) (fun _ h9 => h9) rfl dX7_cutWord_47 ?_
            refine lv_ldc2 (v := 27) hx hb hown (hts (.constantLong RX7 67 (27)) (List.mem_of_getElem? (i := 10) rfl)) dX7_cutWord_50 ?_
            refine lv_lmul hx hb dX7_cutWord_53 ?_
            refine lv_topl (fun y36 _ => ?_)
            refine lv_aload_n hx hb dX7_cutWord_54 rfl (lv_at hl 0 rfl) ?_
            refine va_get (D := D) (ci := 7) (v := .ref (xa 1)) (C := RX7) (T := TX7) (N := 10) hx hb hts is_cutWord_X7 hown hK hP 0 rfl rfl 0 (by decide) (hts (.fieldLink RX7 15 "SaltStreet$Tokens" "text" "[I") (List.mem_of_getElem? (i := 4) rfl)) (fun _ h9 => h9) rfl dX7_cutWord_55 ?_
            refine lv_aload_n hx hb dX7_cutWord_58 rfl (lv_at hl 0 rfl) ?_
            refine va_get (D := D) (ci := 7) (v := .int (nI i27)) (C := RX7) (T := TX7) (N := 10) hx hb hts is_cutWord_X7 hown hK hP 0 rfl rfl 2 (by decide) (hts (.fieldLink RX7 28 "SaltStreet$Tokens" "next" "I") (List.mem_of_getElem? (i := 2) rfl)) (fun _ h9 => h9) rfl dX7_cutWord_59 ?_
            refine va_iald hx hb hK hP 1 0 (f := tape) rfl rfl (vp_in_nI (by omega) (by decide)) dX7_cutWord_62 ?_
            refine lv_topi (fun z37 _ => ?_)
            refine lv_i2l hx hb dX7_cutWord_63 rfl ?_
            refine lv_topl (fun y38 _ => ?_)
            refine lv_ladd hx hb dX7_cutWord_64 ?_
            refine lv_topl (fun y39 _ => ?_)
            refine lv_ldc2 (v := 97) hx hb hown (hts (.constantLong RX7 69 (97)) (List.mem_of_getElem? (i := 11) rfl)) dX7_cutWord_65 ?_
            refine lv_lsub hx hb dX7_cutWord_68 ?_
            refine lv_topl (fun y40 _ => ?_)
            refine lv_lconst (v := 1) hx hb dX7_cutWord_69 (by decide) ?_
            refine lv_ladd hx hb dX7_cutWord_70 ?_
            refine lv_topl (fun y41 _ => ?_)
            refine va_put (D := D) (ci := 7) (v := .long y41) (ty := .long) (C := RX7) (T := TX7) (N := 10) hx hb hts is_cutWord_X7 tyX7 tyX7_ok nmX7 hown hK hP hD hS 0 rfl rfl 6 (by decide) (hts (.fieldLink RX7 50 "SaltStreet$Tokens" "name" "J") (List.mem_of_getElem? (i := 1) rfl)) (fun _ h9 => h9) rfl (by decide +kernel) rfl rfl (Nat.le_of_ble_eq_true rfl) dX7_cutWord_71 (fun H locs hP hD hS => ?_)
            have hP : va_P D vwCl [(xa 7, .inr (7, [.ref (xa 1), .int (nI tk_length), .int (nI i27), .int tk_kind, .int tk_start, .int tk_number, .long y41, .int tk_taken, .int tk_fault, .int tk_place])), (xa 1, .inl (kc 0, 900, .inl tape))] H := hP
            have hD : va_D A [(xa 7, .inr (7, [.ref (xa 1), .int (nI tk_length), .int (nI i27), .int tk_kind, .int tk_start, .int tk_number, .long y41, .int tk_taken, .int tk_fault, .int tk_place])), (xa 1, .inl (kc 0, 900, .inl tape))] := hD
            refine lv_aload_n hx hb dX7_cutWord_74 rfl (lv_at hl 0 rfl) ?_
            refine lv_dup hx hb dX7_cutWord_75 rfl ?_
            refine va_get (D := D) (ci := 7) (v := .int (nI i27)) (C := RX7) (T := TX7) (N := 10) hx hb hts is_cutWord_X7 hown hK hP 0 rfl rfl 2 (by decide) (hts (.fieldLink RX7 28 "SaltStreet$Tokens" "next" "I") (List.mem_of_getElem? (i := 2) rfl)) (fun _ h9 => h9) rfl dX7_cutWord_76 ?_
            refine lv_iconst (v := 1) hx hb dX7_cutWord_79 (by decide) ?_
            refine lv_iadd hx hb dX7_cutWord_80 ?_
            refine lv_ci (y := (nI (i27 + 1))) (nI_add _ _) ?_
            refine va_put (D := D) (ci := 7) (v := .int (nI (i27 + 1))) (ty := .int) (C := RX7) (T := TX7) (N := 10) hx hb hts is_cutWord_X7 tyX7 tyX7_ok nmX7 hown hK hP hD hS 0 rfl rfl 2 (by decide) (hts (.fieldLink RX7 28 "SaltStreet$Tokens" "next" "I") (List.mem_of_getElem? (i := 2) rfl)) (fun _ h9 => h9) rfl (by decide +kernel) rfl rfl (Nat.le_of_ble_eq_true rfl) dX7_cutWord_81 (fun H locs hP hD hS => ?_)
            have hP : va_P D vwCl [(xa 7, .inr (7, [.ref (xa 1), .int (nI tk_length), .int (nI (i27 + 1)), .int tk_kind, .int tk_start, .int tk_number, .long y41, .int tk_taken, .int tk_fault, .int tk_place])), (xa 1, .inl (kc 0, 900, .inl tape))] H := hP
            have hD : va_D A [(xa 7, .inr (7, [.ref (xa 1), .int (nI tk_length), .int (nI (i27 + 1)), .int tk_kind, .int tk_start, .int tk_number, .long y41, .int tk_taken, .int tk_fault, .int tk_place])), (xa 1, .inl (kc 0, 900, .inl tape))] := hD
            refine lv_goto (tgt := 5) hx hb dX7_cutWord_84 (by decide) ?_
            exact ih_n9_5_29 (i27 + 1) y41 (by omega) (by omega) _ _ ls hP hD hS (lv_sub hl [0] rfl)
  exact loop_n9_5_29 ((tk_length + tk_next) + 1) tk_next 0 (by omega) (by omega) _ _ ls hP hD hS (lv_sub hl [0] rfl)
theorem dX7_cutNumber_0 : decode cX7_cutNumber 0 = .ok (.aload_n 0, 1) := by decide +kernel
theorem dX7_cutNumber_1 : decode cX7_cutNumber 1 = .ok (.iconst 0, 1) := by decide +kernel
theorem dX7_cutNumber_2 : decode cX7_cutNumber 2 = .ok (.putfield 82, 3) := by decide +kernel
theorem dX7_cutNumber_5 : decode cX7_cutNumber 5 = .ok (.aload_n 0, 1) := by decide +kernel
theorem dX7_cutNumber_6 : decode cX7_cutNumber 6 = .ok (.getfield 28, 3) := by decide +kernel
theorem dX7_cutNumber_9 : decode cX7_cutNumber 9 = .ok (.aload_n 0, 1) := by decide +kernel
theorem dX7_cutNumber_10 : decode cX7_cutNumber 10 = .ok (.getfield 25, 3) := by decide +kernel
theorem dX7_cutNumber_13 : decode cX7_cutNumber 13 = .ok (.if_icmp .ge 68, 3) := by decide +kernel
theorem dX7_cutNumber_81 : decode cX7_cutNumber 81 = .ok (.aload_n 0, 1) := by decide +kernel
theorem dX7_cutNumber_82 : decode cX7_cutNumber 82 = .ok (.aload_n 0, 1) := by decide +kernel
theorem dX7_cutNumber_83 : decode cX7_cutNumber 83 = .ok (.getfield 28, 3) := by decide +kernel
theorem dX7_cutNumber_86 : decode cX7_cutNumber 86 = .ok (.aload_n 0, 1) := by decide +kernel
theorem dX7_cutNumber_87 : decode cX7_cutNumber 87 = .ok (.getfield 37, 3) := by decide +kernel
theorem dX7_cutNumber_90 : decode cX7_cutNumber 90 = .ok (.isub, 1) := by decide +kernel
theorem dX7_cutNumber_91 : decode cX7_cutNumber 91 = .ok (.iconst 4, 1) := by decide +kernel
theorem dX7_cutNumber_92 : decode cX7_cutNumber 92 = .ok (.if_icmp .le 7, 3) := by decide +kernel
theorem dX7_cutNumber_99 : decode cX7_cutNumber 99 = .ok (.iconst 3, 1) := by decide +kernel
theorem dX7_cutNumber_100 : decode cX7_cutNumber 100 = .ok (.putfield 40, 3) := by decide +kernel
theorem dX7_cutNumber_103 : decode cX7_cutNumber 103 = .ok (.return_, 1) := by decide +kernel
theorem dX7_cutNumber_95 : decode cX7_cutNumber 95 = .ok (.iconst 4, 1) := by decide +kernel
theorem dX7_cutNumber_96 : decode cX7_cutNumber 96 = .ok (.goto 4, 3) := by decide +kernel
theorem dX7_cutNumber_16 : decode cX7_cutNumber 16 = .ok (.aload_n 0, 1) := by decide +kernel
theorem dX7_cutNumber_17 : decode cX7_cutNumber 17 = .ok (.getfield 15, 3) := by decide +kernel
theorem dX7_cutNumber_20 : decode cX7_cutNumber 20 = .ok (.aload_n 0, 1) := by decide +kernel
theorem dX7_cutNumber_21 : decode cX7_cutNumber 21 = .ok (.getfield 28, 3) := by decide +kernel
theorem dX7_cutNumber_24 : decode cX7_cutNumber 24 = .ok (.iaload, 1) := by decide +kernel
theorem dX7_cutNumber_25 : decode cX7_cutNumber 25 = .ok (.invokestatic 58, 3) := by decide +kernel
theorem dX7_cutNumber_28 : decode cX7_cutNumber 28 = .ok (.ifCond .eq 53, 3) := by decide +kernel
theorem dX7_cutNumber_31 : decode cX7_cutNumber 31 = .ok (.aload_n 0, 1) := by decide +kernel
theorem dX7_cutNumber_32 : decode cX7_cutNumber 32 = .ok (.getfield 28, 3) := by decide +kernel
theorem dX7_cutNumber_35 : decode cX7_cutNumber 35 = .ok (.aload_n 0, 1) := by decide +kernel
theorem dX7_cutNumber_36 : decode cX7_cutNumber 36 = .ok (.getfield 37, 3) := by decide +kernel
theorem dX7_cutNumber_39 : decode cX7_cutNumber 39 = .ok (.isub, 1) := by decide +kernel
theorem dX7_cutNumber_40 : decode cX7_cutNumber 40 = .ok (.iconst 4, 1) := by decide +kernel
theorem dX7_cutNumber_41 : decode cX7_cutNumber 41 = .ok (.if_icmp .ge 27, 3) := by decide +kernel
theorem dX7_cutNumber_68 : decode cX7_cutNumber 68 = .ok (.aload_n 0, 1) := by decide +kernel
theorem dX7_cutNumber_69 : decode cX7_cutNumber 69 = .ok (.dup, 1) := by decide +kernel
theorem dX7_cutNumber_70 : decode cX7_cutNumber 70 = .ok (.getfield 28, 3) := by decide +kernel
theorem dX7_cutNumber_73 : decode cX7_cutNumber 73 = .ok (.iconst 1, 1) := by decide +kernel
theorem dX7_cutNumber_74 : decode cX7_cutNumber 74 = .ok (.iadd, 1) := by decide +kernel
theorem dX7_cutNumber_75 : decode cX7_cutNumber 75 = .ok (.putfield 28, 3) := by decide +kernel
theorem dX7_cutNumber_78 : decode cX7_cutNumber 78 = .ok (.goto (-73), 3) := by decide +kernel
theorem dX7_cutNumber_44 : decode cX7_cutNumber 44 = .ok (.aload_n 0, 1) := by decide +kernel
theorem dX7_cutNumber_45 : decode cX7_cutNumber 45 = .ok (.aload_n 0, 1) := by decide +kernel
theorem dX7_cutNumber_46 : decode cX7_cutNumber 46 = .ok (.getfield 82, 3) := by decide +kernel
theorem dX7_cutNumber_49 : decode cX7_cutNumber 49 = .ok (.bipush 10, 2) := by decide +kernel
theorem dX7_cutNumber_51 : decode cX7_cutNumber 51 = .ok (.imul, 1) := by decide +kernel
theorem dX7_cutNumber_52 : decode cX7_cutNumber 52 = .ok (.aload_n 0, 1) := by decide +kernel
theorem dX7_cutNumber_53 : decode cX7_cutNumber 53 = .ok (.getfield 15, 3) := by decide +kernel
theorem dX7_cutNumber_56 : decode cX7_cutNumber 56 = .ok (.aload_n 0, 1) := by decide +kernel
theorem dX7_cutNumber_57 : decode cX7_cutNumber 57 = .ok (.getfield 28, 3) := by decide +kernel
theorem dX7_cutNumber_60 : decode cX7_cutNumber 60 = .ok (.iaload, 1) := by decide +kernel
theorem dX7_cutNumber_61 : decode cX7_cutNumber 61 = .ok (.iadd, 1) := by decide +kernel
theorem dX7_cutNumber_62 : decode cX7_cutNumber 62 = .ok (.bipush 48, 2) := by decide +kernel
theorem dX7_cutNumber_64 : decode cX7_cutNumber 64 = .ok (.isub, 1) := by decide +kernel
theorem dX7_cutNumber_65 : decode cX7_cutNumber 65 = .ok (.putfield 82, 3) := by decide +kernel
def vds_cutNumber : List Cond := [.code yX7_cutNumber cX7_cutNumber 1 none, .fieldLink RX7 82 "SaltStreet$Tokens" "number" "I", .fieldLink RX7 28 "SaltStreet$Tokens" "next" "I", .fieldLink RX7 25 "SaltStreet$Tokens" "length" "I", .fieldLink RX7 37 "SaltStreet$Tokens" "start" "I", .fieldLink RX7 40 "SaltStreet$Tokens" "kind" "I", .fieldLink RX7 15 "SaltStreet$Tokens" "text" "[I", .methodLink RX7 58 yX7_isDigit, .code yX7_isDigit cX7_isDigit 1 (some .boolean), .static yX7_isDigit, .initialized RX7]
def vs_cutNumber : List Cond := vds_cutNumber ++ (wsX70 ++ ([] : List Cond))
theorem is_cutNumber_X7 : ∀ w ∈ wsX70, w ∈ vs_cutNumber := fun _ h => List.mem_append_right _ (List.mem_append_left _ h)
set_option maxRecDepth 20000 in
theorem gs_cutNumber_58_s_isDigit : GoodIn vs_cutNumber (va_wsS RX7 58 yX7_isDigit vs_isDigit) := (goodIn_app (goodIn_r _ [7, 9, 10] rfl (by decide +kernel)) (goodIn_app (goodIn_r vds_isDigit [8] rfl (by decide +kernel)) goodIn_nil))
set_option maxHeartbeats 4000000 in
set_option maxRecDepth 100000 in
theorem s_cutNumber (l : Launch) (D : va_G) (kc : Nat → ClassId) (sz : Nat) (xa : Nat → Nat) (tk_length : Nat) (tk_next : Nat) (tk_kind : Int32) (tk_start : Int32) (tk_number : Int32) (tk_name : Int64) (tk_taken : Int32) (tk_fault : Int32) (tk_place : Int32) (tape : Nat → Int32) (h_tk_length : tk_length ≤ 900) (h_tk_next : tk_next ≤ 900) : Met l yX7_cutNumber vs_cutNumber ({ frames := 1, cells := 0, slots := 0, locals := 20 }) (va_Pc [.ref (xa 7)] (wPre D kc [(xa 7, .inr (7, [.ref (xa 1), .int (nI tk_length), .int (nI tk_next), .int tk_kind, .int tk_start, .int tk_number, .long tk_name, .int tk_taken, .int tk_fault, .int tk_place])), (xa 1, .inl (kc 0, 900, .inl tape))] sz)) (va_Qv (fun (_ : Unit) => True) (fun (_ : Unit) (t9 : State) => ∃ tk_next_n : Nat, ∃ tk_kind_n : Int32, ∃ tk_number_n : Int32, tk_next_n ≤ 900 ∧ va_P D vwCl [(xa 7, .inr (7, [.ref (xa 1), .int (nI tk_length), .int (nI tk_next_n), .int tk_kind_n, .int tk_start, .int tk_number_n, .long tk_name, .int tk_taken, .int tk_fault, .int tk_place])), (xa 1, .inl (kc 0, 900, .inl tape))] t9.heap ∧ va_D (va_A [(xa 7, .inr (7, [.ref (xa 1), .int (nI tk_length), .int (nI tk_next), .int tk_kind, .int tk_start, .int tk_number, .long tk_name, .int tk_taken, .int tk_fault, .int tk_place])), (xa 1, .inl (kc 0, 900, .inl tape))] sz) [(xa 7, .inr (7, [.ref (xa 1), .int (nI tk_length), .int (nI tk_next_n), .int tk_kind_n, .int tk_start, .int tk_number_n, .long tk_name, .int tk_taken, .int tk_fault, .int tk_place])), (xa 1, .inl (kc 0, 900, .inl tape))]) (va_A [(xa 7, .inr (7, [.ref (xa 1), .int (nI tk_length), .int (nI tk_next), .int tk_kind, .int tk_start, .int tk_number, .long tk_name, .int tk_taken, .int tk_fault, .int tk_place])), (xa 1, .inl (kc 0, 900, .inl tape))] sz)) 0 0 (va_A [(xa 7, .inr (7, [.ref (xa 1), .int (nI tk_length), .int (nI tk_next), .int tk_kind, .int tk_start, .int tk_number, .long tk_name, .int tk_taken, .int tk_fault, .int tk_place])), (xa 1, .inl (kc 0, 900, .inl tape))] sz) := by
  refine Met.ofW (cc := cX7_cutNumber) (maxL := 1) (ret := none) (by decide) rfl ?_
  intro p e s m args below meth c s₁ B hml hv
  obtain ⟨rfl, hsz, hP, hE, hD0⟩ := hv
  have hx := B.exec
  have hb := B.bytes
  have hr := B.returns
  have hts := atoms_spec (ws := vs_cutNumber) B.pre
  have hown : s.vm.findClass RX7 = some m.cls := findClass_of_methodNamed B.named
  have hlocks := B.notSynchronized
  subst hsz
  have hD := hD0.self (sz := s.heap.size)
  generalize hAe : va_A [(xa 7, .inr (7, [.ref (xa 1), .int (nI tk_length), .int (nI tk_next), .int tk_kind, .int tk_start, .int tk_number, .long tk_name, .int tk_taken, .int tk_fault, .int tk_place])), (xa 1, .inl (kc 0, 900, .inl tape))] s.heap.size = A at hD ⊢
  have hA : ∀ q : Nat, s.heap.size ≤ q → A q := fun q h => by rw [← hAe]; exact Or.inr h
  have hS : va_S A s.heap s.heap [] := va_S.rf
  have hK := hE.1
  have hP : va_P D vwCl [(xa 7, .inr (7, [.ref (xa 1), .int (nI tk_length), .int (nI tk_next), .int tk_kind, .int tk_start, .int tk_number, .long tk_name, .int tk_taken, .int tk_fault, .int tk_place])), (xa 1, .inl (kc 0, 900, .inl tape))] s.heap := hP
  have hl := lv_entry ([.ref (xa 7)]) (n := 1) (Nat.le_of_ble_eq_true rfl)
  rw [lg_entry_eq]
  generalize (lg_sl ([.ref (xa 7)]) ++ List.replicate (1 - (lg_sl ([.ref (xa 7)])).length) Slot.unset).toArray = ls at hl ⊢
  have hl : lv_has ls 1 [(0, .ref (xa 7))] := hl
  refine lv_aload_n hx hb dX7_cutNumber_0 rfl (lv_at hl 0 rfl) ?_
  refine lv_iconst (v := 0) hx hb dX7_cutNumber_1 (by decide) ?_
  refine va_put (D := D) (ci := 7) (v := .int 0) (ty := .int) (C := RX7) (T := TX7) (N := 10) hx hb hts is_cutNumber_X7 tyX7 tyX7_ok nmX7 hown hK hP hD hS 0 rfl rfl 5 (by decide) (hts (.fieldLink RX7 82 "SaltStreet$Tokens" "number" "I") (List.mem_of_getElem? (i := 1) rfl)) (fun _ h9 => h9) rfl (by decide +kernel) rfl rfl (Nat.le_of_ble_eq_true rfl) dX7_cutNumber_2 (fun H locs hP hD hS => ?_)
  have hP : va_P D vwCl [(xa 7, .inr (7, [.ref (xa 1), .int (nI tk_length), .int (nI tk_next), .int tk_kind, .int tk_start, .int 0, .long tk_name, .int tk_taken, .int tk_fault, .int tk_place])), (xa 1, .inl (kc 0, 900, .inl tape))] H := hP
  have hD : va_D A [(xa 7, .inr (7, [.ref (xa 1), .int (nI tk_length), .int (nI tk_next), .int tk_kind, .int tk_start, .int 0, .long tk_name, .int tk_taken, .int tk_fault, .int tk_place])), (xa 1, .inl (kc 0, 900, .inl tape))] := hD
  have loop_n9_5_33 : ∀ (n9_5_33 : Nat) (i31 : Nat) (z32 : Int32), i31 ≤ (tk_length + tk_next) → (tk_length + tk_next) < i31 + n9_5_33 → ∀ (H : Heap) (locs : List Loc) (ls : Array Slot), va_P D vwCl [(xa 7, .inr (7, [.ref (xa 1), .int (nI tk_length), .int (nI i31), .int tk_kind, .int tk_start, .int z32, .long tk_name, .int tk_taken, .int tk_fault, .int tk_place])), (xa 1, .inl (kc 0, 900, .inl tape))] H → va_D A [(xa 7, .inr (7, [.ref (xa 1), .int (nI tk_length), .int (nI i31), .int tk_kind, .int tk_start, .int z32, .long tk_name, .int tk_taken, .int tk_fault, .int tk_place])), (xa 1, .inl (kc 0, 900, .inl tape))] → va_S A s.heap H locs → lv_has ls 1 [(0, .ref (xa 7))] → W p l e (headSpec vs_cutNumber ({ frames := 1, cells := 0, slots := 0, locals := 20 })).room s m [.ref (xa 7)].toArray below meth c H locs 0 0 (MQ below (va_Qv (fun (_ : Unit) => True) (fun (_ : Unit) (t9 : State) => ∃ tk_next_n : Nat, ∃ tk_kind_n : Int32, ∃ tk_number_n : Int32, tk_next_n ≤ 900 ∧ va_P D vwCl [(xa 7, .inr (7, [.ref (xa 1), .int (nI tk_length), .int (nI tk_next_n), .int tk_kind_n, .int tk_start, .int tk_number_n, .long tk_name, .int tk_taken, .int tk_fault, .int tk_place])), (xa 1, .inl (kc 0, 900, .inl tape))] t9.heap ∧ va_D A [(xa 7, .inr (7, [.ref (xa 1), .int (nI tk_length), .int (nI tk_next_n), .int tk_kind_n, .int tk_start, .int tk_number_n, .long tk_name, .int tk_taken, .int tk_fault, .int tk_place])), (xa 1, .inl (kc 0, 900, .inl tape))]) A) [.ref (xa 7)].toArray s 0 0 A) (F0 m 5 ls []) := by
    intro n9_5_33
    induction n9_5_33 with
    | zero => intro i31 z32  h1 h2; exact absurd h2 (by omega)
    | succ n9_5_33 ih_n9_5_33 =>
      intro i31 z32  h1_n9_5_33 h2_n9_5_33 H locs ls hP hD hS hl
      refine lv_aload_n hx hb dX7_cutNumber_5 rfl (lv_at hl 0 rfl) ?_
      refine va_get (D := D) (ci := 7) (v := .int (nI i31)) (C := RX7) (T := TX7) (N := 10) hx hb hts is_cutNumber_X7 hown hK hP 0 rfl rfl 2 (by decide) (hts (.fieldLink RX7 28 "SaltStreet$Tokens" "next" "I") (List.mem_of_getElem? (i := 2) rfl)) (fun _ h9 => h9) rfl dX7_cutNumber_6 ?_
      refine lv_aload_n hx hb dX7_cutNumber_9 rfl (lv_at hl 0 rfl) ?_
      refine va_get (D := D) (ci := 7) (v := .int (nI tk_length)) (C := RX7) (T := TX7) (N := 10) hx hb hts is_cutNumber_X7 hown hK hP 0 rfl rfl 1 (by decide) (hts (.fieldLink RX7 25 "SaltStreet$Tokens" "length" "I") (List.mem_of_getElem? (i := 3) rfl)) (fun _ h9 => h9) rfl dX7_cutNumber_10 ?_
      refine lv_icmp_ge (tgt := 81) hx hb dX7_cutNumber_13 (by decide) (fun c34 => ?_) (fun c34 => ?_)
      · have nc34 := (nI_leI (a := tk_length) (b := i31) (by omega) (by omega)).mp c34
        refine lv_aload_n hx hb dX7_cutNumber_81 rfl (lv_at hl 0 rfl) ?_
        refine lv_aload_n hx hb dX7_cutNumber_82 rfl (lv_at hl 0 rfl) ?_
        refine va_get (D := D) (ci := 7) (v := .int (nI i31)) (C := RX7) (T := TX7) (N := 10) hx hb hts is_cutNumber_X7 hown hK hP 0 rfl rfl 2 (by decide) (hts (.fieldLink RX7 28 "SaltStreet$Tokens" "next" "I") (List.mem_of_getElem? (i := 2) rfl)) (fun _ h9 => h9) rfl dX7_cutNumber_83 ?_
        refine lv_aload_n hx hb dX7_cutNumber_86 rfl (lv_at hl 0 rfl) ?_
        refine va_get (D := D) (ci := 7) (v := .int tk_start) (C := RX7) (T := TX7) (N := 10) hx hb hts is_cutNumber_X7 hown hK hP 0 rfl rfl 4 (by decide) (hts (.fieldLink RX7 37 "SaltStreet$Tokens" "start" "I") (List.mem_of_getElem? (i := 4) rfl)) (fun _ h9 => h9) rfl dX7_cutNumber_87 ?_
        refine lv_isub hx hb dX7_cutNumber_90 ?_
        refine lv_topi (fun z35 _ => ?_)
        refine lv_iconst (v := 4) hx hb dX7_cutNumber_91 (by decide) ?_
        refine lv_icmp_le (tgt := 99) hx hb dX7_cutNumber_92 (by decide) (fun c36 => ?_) (fun c36 => ?_)
        · refine lv_iconst (v := 3) hx hb dX7_cutNumber_99 (by decide) ?_
          refine va_put (D := D) (ci := 7) (v := .int 3) (ty := .int) (C := RX7) (T := TX7) (N := 10) hx hb hts is_cutNumber_X7 tyX7 tyX7_ok nmX7 hown hK hP hD hS 0 rfl rfl 3 (by decide) (hts (.fieldLink RX7 40 "SaltStreet$Tokens" "kind" "I") (List.mem_of_getElem? (i := 5) rfl)) (fun _ h9 => h9) rfl (by decide +kernel) rfl rfl (Nat.le_of_ble_eq_true rfl) dX7_cutNumber_100 (fun H locs hP hD hS => ?_)
          have hP : va_P D vwCl [(xa 7, .inr (7, [.ref (xa 1), .int (nI tk_length), .int (nI i31), .int 3, .int tk_start, .int z32, .long tk_name, .int tk_taken, .int tk_fault, .int tk_place])), (xa 1, .inl (kc 0, 900, .inl tape))] H := hP
          have hD : va_D A [(xa 7, .inr (7, [.ref (xa 1), .int (nI tk_length), .int (nI i31), .int 3, .int tk_start, .int z32, .long tk_name, .int tk_taken, .int tk_fault, .int tk_place])), (xa 1, .inl (kc 0, 900, .inl tape))] := hD
          have hP9 := hP.sub (ws' := [(xa 7, .inr (7, [.ref (xa 1), .int (nI tk_length), .int (nI i31), .int 3, .int tk_start, .int z32, .long tk_name, .int tk_taken, .int tk_fault, .int tk_place])), (xa 1, .inl (kc 0, 900, .inl tape))]) [0, 1] rfl
          have hD9 := hD.sub (ws' := [(xa 7, .inr (7, [.ref (xa 1), .int (nI tk_length), .int (nI i31), .int 3, .int tk_start, .int z32, .long tk_name, .int tk_taken, .int tk_fault, .int tk_place])), (xa 1, .inl (kc 0, 900, .inl tape))]) [0, 1] (by decide) rfl
          exact W.vret hx hb hr (fun t9 ht hW => ⟨⟨(), rfl, trivial, i31, 3, z32, by omega, by rw [ht]; exact hP9, hD9⟩, hS.F ht⟩) hS.2.2 dX7_cutNumber_103
        · refine lv_iconst (v := 4) hx hb dX7_cutNumber_95 (by decide) ?_
          refine lv_goto (tgt := 100) hx hb dX7_cutNumber_96 (by decide) ?_
          refine va_put (D := D) (ci := 7) (v := .int 4) (ty := .int) (C := RX7) (T := TX7) (N := 10) hx hb hts is_cutNumber_X7 tyX7 tyX7_ok nmX7 hown hK hP hD hS 0 rfl rfl 3 (by decide) (hts (.fieldLink RX7 40 "SaltStreet$Tokens" "kind" "I") (List.mem_of_getElem? (i := 5) rfl)) (fun _ h9 => h9) rfl (by decide +kernel) rfl rfl (Nat.le_of_ble_eq_true rfl) dX7_cutNumber_100 (fun H locs hP hD hS => ?_)
          have hP : va_P D vwCl [(xa 7, .inr (7, [.ref (xa 1), .int (nI tk_length), .int (nI i31), .int 4, .int tk_start, .int z32, .long tk_name, .int tk_taken, .int tk_fault, .int tk_place])), (xa 1, .inl (kc 0, 900, .inl tape))] H := hP
          have hD : va_D A [(xa 7, .inr (7, [.ref (xa 1), .int (nI tk_length), .int (nI i31), .int 4, .int tk_start, .int z32, .long tk_name, .int tk_taken, .int tk_fault, .int tk_place])), (xa 1, .inl (kc 0, 900, .inl tape))] := hD
          have hP9 := hP.sub (ws' := [(xa 7, .inr (7, [.ref (xa 1), .int (nI tk_length), .int (nI i31), .int 4, .int tk_start, .int z32, .long tk_name, .int tk_taken, .int tk_fault, .int tk_place])), (xa 1, .inl (kc 0, 900, .inl tape))]) [0, 1] rfl
          have hD9 := hD.sub (ws' := [(xa 7, .inr (7, [.ref (xa 1), .int (nI tk_length), .int (nI i31), .int 4, .int tk_start, .int z32, .long tk_name, .int tk_taken, .int tk_fault, .int tk_place])), (xa 1, .inl (kc 0, 900, .inl tape))]) [0, 1] (by decide) rfl
          exact W.vret hx hb hr (fun t9 ht hW => ⟨⟨(), rfl, trivial, i31, 4, z32, by omega, by rw [ht]; exact hP9, hD9⟩, hS.F ht⟩) hS.2.2 dX7_cutNumber_103
      · have nc34 := Nat.not_le.mp (fun q => c34 ((nI_leI (a := tk_length) (b := i31) (by omega) (by omega)).mpr q))
        refine lv_aload_n hx hb dX7_cutNumber_16 rfl (lv_at hl 0 rfl) ?_
        refine va_get (D := D) (ci := 7) (v := .ref (xa 1)) (C := RX7) (T := TX7) (N := 10) hx hb hts is_cutNumber_X7 hown hK hP 0 rfl rfl 0 (by decide) (hts (.fieldLink RX7 15 "SaltStreet$Tokens" "text" "[I") (List.mem_of_getElem? (i := 6) rfl)) (fun _ h9 => h9) rfl dX7_cutNumber_17 ?_
        refine lv_aload_n hx hb dX7_cutNumber_20 rfl (lv_at hl 0 rfl) ?_
        refine va_get (D := D) (ci := 7) (v := .int (nI i31)) (C := RX7) (T := TX7) (N := 10) hx hb hts is_cutNumber_X7 hown hK hP 0 rfl rfl 2 (by decide) (hts (.fieldLink RX7 28 "SaltStreet$Tokens" "next" "I") (List.mem_of_getElem? (i := 2) rfl)) (fun _ h9 => h9) rfl dX7_cutNumber_21 ?_
        refine va_iald hx hb hK hP 1 0 (f := tape) rfl rfl (vp_in_nI (by omega) (by decide)) dX7_cutNumber_24 ?_
        refine lv_topi (fun z37 _ => ?_)
        have hPc := hP.sub (ws' := []) [] rfl
        have hDc := hD.sub (ws' := []) [] (by decide) rfl
        have hFc := va_free (wc := []) hD hS hA [] rfl
        refine va_calli (va_runS (As := [.int z37]) (rest := []) ⟨hx, hb, hml, hown, hts⟩ (s_isDigit l D kc H.size z37) (va_cwS 1 hts gs_cutNumber_58_s_isDigit rfl rfl rfl (by decide +kernel) ⟨Nat.le_of_ble_eq_true rfl, Nat.le_of_ble_eq_true rfl⟩) (preS_ok hPc hDc hE) rfl rfl hl.1 rfl (lv_room (Nat.le_of_ble_eq_true rfl)) dX7_cutNumber_25 ⟨Nat.le_of_ble_eq_true rfl, Nat.le_of_ble_eq_true rfl⟩) hS (fun q _ h => hFc q h) hFc (fun r38 u9 t9 H locs ht hvm hw hB hz1 hk1 hS => ?_)
        obtain ⟨hP1, hD1⟩ := hB
        rw [ht] at hP1
        obtain ⟨hP, hD⟩ := va_join (wr := [(xa 7, .inr (7, [.ref (xa 1), .int (nI tk_length), .int (nI i31), .int tk_kind, .int tk_start, .int z32, .long tk_name, .int tk_taken, .int tk_fault, .int tk_place])), (xa 1, .inl (kc 0, 900, .inl tape))]) (w1 := []) hP hD [] [0, 1] rfl rfl (by decide) (by decide) hk1 hFc hP1 hD1
        have hP : va_P D vwCl [(xa 7, .inr (7, [.ref (xa 1), .int (nI tk_length), .int (nI i31), .int tk_kind, .int tk_start, .int z32, .long tk_name, .int tk_taken, .int tk_fault, .int tk_place])), (xa 1, .inl (kc 0, 900, .inl tape))] H := hP
        have hD : va_D A [(xa 7, .inr (7, [.ref (xa 1), .int (nI tk_length), .int (nI i31), .int tk_kind, .int tk_start, .int z32, .long tk_name, .int tk_taken, .int tk_fault, .int tk_place])), (xa 1, .inl (kc 0, 900, .inl tape))] := hD
        have h_r38 := hw
        refine lv_if_eq (tgt := 81) hx hb dX7_cutNumber_28 (by decide) (fun c39 => ?_) (fun c39 => ?_)
        · refine lv_aload_n hx hb dX7_cutNumber_81 rfl (lv_at hl 0 rfl) ?_
          refine lv_aload_n hx hb dX7_cutNumber_82 rfl (lv_at hl 0 rfl) ?_
          refine va_get (D := D) (ci := 7) (v := .int (nI i31)) (C := RX7) (T := TX7) (N := 10) hx hb hts is_cutNumber_X7 hown hK hP 0 rfl rfl 2 (by decide) (hts (.fieldLink RX7 28 "SaltStreet$Tokens" "next" "I") (List.mem_of_getElem? (i := 2) rfl)) (fun _ h9 => h9) rfl dX7_cutNumber_83 ?_
          refine lv_aload_n hx hb dX7_cutNumber_86 rfl (lv_at hl 0 rfl) ?_
          refine va_get (D := D) (ci := 7) (v := .int tk_start) (C := RX7) (T := TX7) (N := 10) hx hb hts is_cutNumber_X7 hown hK hP 0 rfl rfl 4 (by decide) (hts (.fieldLink RX7 37 "SaltStreet$Tokens" "start" "I") (List.mem_of_getElem? (i := 4) rfl)) (fun _ h9 => h9) rfl dX7_cutNumber_87 ?_
          refine lv_isub hx hb dX7_cutNumber_90 ?_
          refine lv_topi (fun z40 _ => ?_)
          refine lv_iconst (v := 4) hx hb dX7_cutNumber_91 (by decide) ?_
          refine lv_icmp_le (tgt := 99) hx hb dX7_cutNumber_92 (by decide) (fun c41 => ?_) (fun c41 => ?_)
          · refine lv_iconst (v := 3) hx hb dX7_cutNumber_99 (by decide) ?_
            refine va_put (D := D) (ci := 7) (v := .int 3) (ty := .int) (C := RX7) (T := TX7) (N := 10) hx hb hts is_cutNumber_X7 tyX7 tyX7_ok nmX7 hown hK hP hD hS 0 rfl rfl 3 (by decide) (hts (.fieldLink RX7 40 "SaltStreet$Tokens" "kind" "I") (List.mem_of_getElem? (i := 5) rfl)) (fun _ h9 => h9) rfl (by decide +kernel) rfl rfl (Nat.le_of_ble_eq_true rfl) dX7_cutNumber_100 (fun H locs hP hD hS => ?_)
            have hP : va_P D vwCl [(xa 7, .inr (7, [.ref (xa 1), .int (nI tk_length), .int (nI i31), .int 3, .int tk_start, .int z32, .long tk_name, .int tk_taken, .int tk_fault, .int tk_place])), (xa 1, .inl (kc 0, 900, .inl tape))] H := hP
            have hD : va_D A [(xa 7, .inr (7, [.ref (xa 1), .int (nI tk_length), .int (nI i31), .int 3, .int tk_start, .int z32, .long tk_name, .int tk_taken, .int tk_fault, .int tk_place])), (xa 1, .inl (kc 0, 900, .inl tape))] := hD
            have hP9 := hP.sub (ws' := [(xa 7, .inr (7, [.ref (xa 1), .int (nI tk_length), .int (nI i31), .int 3, .int tk_start, .int z32, .long tk_name, .int tk_taken, .int tk_fault, .int tk_place])), (xa 1, .inl (kc 0, 900, .inl tape))]) [0, 1] rfl
            have hD9 := hD.sub (ws' := [(xa 7, .inr (7, [.ref (xa 1), .int (nI tk_length), .int (nI i31), .int 3, .int tk_start, .int z32, .long tk_name, .int tk_taken, .int tk_fault, .int tk_place])), (xa 1, .inl (kc 0, 900, .inl tape))]) [0, 1] (by decide) rfl
            exact W.vret hx hb hr (fun t9 ht hW => ⟨⟨(), rfl, trivial, i31, 3, z32, by omega, by rw [ht]; exact hP9, hD9⟩, hS.F ht⟩) hS.2.2 dX7_cutNumber_103
          · refine lv_iconst (v := 4) hx hb dX7_cutNumber_95 (by decide) ?_
            refine lv_goto (tgt := 100) hx hb dX7_cutNumber_96 (by decide) ?_
            refine va_put (D := D) (ci := 7) (v := .int 4) (ty := .int) (C := RX7) (T := TX7) (N := 10) hx hb hts is_cutNumber_X7 tyX7 tyX7_ok nmX7 hown hK hP hD hS 0 rfl rfl 3 (by decide) (hts (.fieldLink RX7 40 "SaltStreet$Tokens" "kind" "I") (List.mem_of_getElem? (i := 5) rfl)) (fun _ h9 => h9) rfl (by decide +kernel) rfl rfl (Nat.le_of_ble_eq_true rfl) dX7_cutNumber_100 (fun H locs hP hD hS => ?_)
            have hP : va_P D vwCl [(xa 7, .inr (7, [.ref (xa 1), .int (nI tk_length), .int (nI i31), .int 4, .int tk_start, .int z32, .long tk_name, .int tk_taken, .int tk_fault, .int tk_place])), (xa 1, .inl (kc 0, 900, .inl tape))] H := hP
            have hD : va_D A [(xa 7, .inr (7, [.ref (xa 1), .int (nI tk_length), .int (nI i31), .int 4, .int tk_start, .int z32, .long tk_name, .int tk_taken, .int tk_fault, .int tk_place])), (xa 1, .inl (kc 0, 900, .inl tape))] := hD
            have hP9 := hP.sub (ws' := [(xa 7, .inr (7, [.ref (xa 1), .int (nI tk_length), .int (nI i31), .int 4, .int tk_start, .int z32, .long tk_name, .int tk_taken, .int tk_fault, .int tk_place])), (xa 1, .inl (kc 0, 900, .inl tape))]) [0, 1] rfl
            have hD9 := hD.sub (ws' := [(xa 7, .inr (7, [.ref (xa 1), .int (nI tk_length), .int (nI i31), .int 4, .int tk_start, .int z32, .long tk_name, .int tk_taken, .int tk_fault, .int tk_place])), (xa 1, .inl (kc 0, 900, .inl tape))]) [0, 1] (by decide) rfl
            exact W.vret hx hb hr (fun t9 ht hW => ⟨⟨(), rfl, trivial, i31, 4, z32, by omega, by rw [ht]; exact hP9, hD9⟩, hS.F ht⟩) hS.2.2 dX7_cutNumber_103
        · refine lv_aload_n hx hb dX7_cutNumber_31 rfl (lv_at hl 0 rfl) ?_
          refine va_get (D := D) (ci := 7) (v := .int (nI i31)) (C := RX7) (T := TX7) (N := 10) hx hb hts is_cutNumber_X7 hown hK hP 0 rfl rfl 2 (by decide) (hts (.fieldLink RX7 28 "SaltStreet$Tokens" "next" "I") (List.mem_of_getElem? (i := 2) rfl)) (fun _ h9 => h9) rfl dX7_cutNumber_32 ?_
          refine lv_aload_n hx hb dX7_cutNumber_35 rfl (lv_at hl 0 rfl) ?_
          refine va_get (D := D) (ci := 7) (v := .int tk_start) (C := RX7) (T := TX7) (N := 10) hx hb hts is_cutNumber_X7 hown hK hP 0 rfl rfl 4 (by decide) (hts (.fieldLink RX7 37 "SaltStreet$Tokens" "start" "I") (List.mem_of_getElem? (i := 4) rfl)) (fun _ h9 => h9) rfl dX7_cutNumber_36 ?_
          refine lv_isub hx hb dX7_cutNumber_39 ?_
          refine lv_topi (fun z42 _ => ?_)
          refine lv_iconst (v := 4) hx hb dX7_cutNumber_40 (by decide) ?_
          refine lv_icmp_ge (tgt := 68) hx hb dX7_cutNumber_41 (by decide) (fun c43 => ?_) (fun c43 => ?_)
          · refine lv_aload_n hx hb dX7_cutNumber_68 rfl (lv_at hl 0 rfl) ?_
            refine lv_dup hx hb dX7_cutNumber_69 rfl ?_
            refine va_get (D := D) (ci := 7) (v := .int (nI i31)) (C := RX7) (T := TX7) (N := 10) hx hb hts is_cutNumber_X7 hown hK hP 0 rfl rfl 2 (by decide) (hts (.fieldLink RX7 28 "SaltStreet$Tokens" "next" "I") (List.mem_of_getElem? (i := 2) rfl)) (fun _ h9 => h9) rfl dX7_cutNumber_70 ?_
            refine lv_iconst (v := 1) hx hb dX7_cutNumber_73 (by decide) ?_
            refine lv_iadd hx hb dX7_cutNumber_74 ?_
            refine lv_ci (y := (nI (i31 + 1))) (nI_add _ _) ?_
            refine va_put (D := D) (ci := 7) (v := .int (nI (i31 + 1))) (ty := .int) (C := RX7) (T := TX7) (N := 10) hx hb hts is_cutNumber_X7 tyX7 tyX7_ok nmX7 hown hK hP hD hS 0 rfl rfl 2 (by decide) (hts (.fieldLink RX7 28 "SaltStreet$Tokens" "next" "I") (List.mem_of_getElem? (i := 2) rfl)) (fun _ h9 => h9) rfl (by decide +kernel) rfl rfl (Nat.le_of_ble_eq_true rfl) dX7_cutNumber_75 (fun H locs hP hD hS => ?_)
            have hP : va_P D vwCl [(xa 7, .inr (7, [.ref (xa 1), .int (nI tk_length), .int (nI (i31 + 1)), .int tk_kind, .int tk_start, .int z32, .long tk_name, .int tk_taken, .int tk_fault, .int tk_place])), (xa 1, .inl (kc 0, 900, .inl tape))] H := hP
            have hD : va_D A [(xa 7, .inr (7, [.ref (xa 1), .int (nI tk_length), .int (nI (i31 + 1)), .int tk_kind, .int tk_start, .int z32, .long tk_name, .int tk_taken, .int tk_fault, .int tk_place])), (xa 1, .inl (kc 0, 900, .inl tape))] := hD
            refine lv_goto (tgt := 5) hx hb dX7_cutNumber_78 (by decide) ?_
            exact ih_n9_5_33 (i31 + 1) z32 (by omega) (by omega) _ _ ls hP hD hS (lv_sub hl [0] rfl)
          · refine lv_aload_n hx hb dX7_cutNumber_44 rfl (lv_at hl 0 rfl) ?_
            refine lv_aload_n hx hb dX7_cutNumber_45 rfl (lv_at hl 0 rfl) ?_
            refine va_get (D := D) (ci := 7) (v := .int z32) (C := RX7) (T := TX7) (N := 10) hx hb hts is_cutNumber_X7 hown hK hP 0 rfl rfl 5 (by decide) (hts (.fieldLink RX7 82 "SaltStreet$Tokens" "number" "I") (List.mem_of_getElem? (i := 1) rfl)) (fun _ h9 => h9) rfl dX7_cutNumber_46 ?_
            refine lv_bipush (v := 10) hx hb dX7_cutNumber_49 (by decide) ?_
            refine lv_imul hx hb dX7_cutNumber_51 ?_
            refine lv_topi (fun z44 _ => ?_)
            refine lv_aload_n hx hb dX7_cutNumber_52 rfl (lv_at hl 0 rfl) ?_
            refine va_get (D := D) (ci := 7) (v := .ref (xa 1)) (C := RX7) (T := TX7) (N := 10) hx hb hts is_cutNumber_X7 hown hK hP 0 rfl rfl 0 (by decide) (hts (.fieldLink RX7 15 "SaltStreet$Tokens" "text" "[I") (List.mem_of_getElem? (i := 6) rfl)) (fun _ h9 => h9) rfl dX7_cutNumber_53 ?_
            refine lv_aload_n hx hb dX7_cutNumber_56 rfl (lv_at hl 0 rfl) ?_
            refine va_get (D := D) (ci := 7) (v := .int (nI i31)) (C := RX7) (T := TX7) (N := 10) hx hb hts is_cutNumber_X7 hown hK hP 0 rfl rfl 2 (by decide) (hts (.fieldLink RX7 28 "SaltStreet$Tokens" "next" "I") (List.mem_of_getElem? (i := 2) rfl)) (fun _ h9 => h9) rfl dX7_cutNumber_57 ?_
            refine va_iald hx hb hK hP 1 0 (f := tape) rfl rfl (vp_in_nI (by omega) (by decide)) dX7_cutNumber_60 ?_
            refine lv_topi (fun z45 _ => ?_)
            refine lv_iadd hx hb dX7_cutNumber_61 ?_
            refine lv_topi (fun z46 _ => ?_)
            refine lv_bipush (v := 48) hx hb dX7_cutNumber_62 (by decide) ?_
            refine lv_isub hx hb dX7_cutNumber_64 ?_
            refine lv_topi (fun z47 _ => ?_)
            refine va_put (D := D) (ci := 7) (v := .int z47) (ty := .int) (C := RX7) (T := TX7) (N := 10) hx hb hts is_cutNumber_X7 tyX7 tyX7_ok nmX7 hown hK hP hD hS 0 rfl rfl 5 (by decide) (hts (.fieldLink RX7 82 "SaltStreet$Tokens" "number" "I") (List.mem_of_getElem? (i := 1) rfl)) (fun _ h9 => h9) rfl (by decide +kernel) rfl rfl (Nat.le_of_ble_eq_true rfl) dX7_cutNumber_65 (fun H locs hP hD hS => ?_)
            have hP : va_P D vwCl [(xa 7, .inr (7, [.ref (xa 1), .int (nI tk_length), .int (nI i31), .int tk_kind, .int tk_start, .int z47, .long tk_name, .int tk_taken, .int tk_fault, .int tk_place])), (xa 1, .inl (kc 0, 900, .inl tape))] H := hP
            have hD : va_D A [(xa 7, .inr (7, [.ref (xa 1), .int (nI tk_length), .int (nI i31), .int tk_kind, .int tk_start, .int z47, .long tk_name, .int tk_taken, .int tk_fault, .int tk_place])), (xa 1, .inl (kc 0, 900, .inl tape))] := hD
            refine lv_aload_n hx hb dX7_cutNumber_68 rfl (lv_at hl 0 rfl) ?_
            refine lv_dup hx hb dX7_cutNumber_69 rfl ?_
            refine va_get (D := D) (ci := 7) (v := .int (nI i31)) (C := RX7) (T := TX7) (N := 10) hx hb hts is_cutNumber_X7 hown hK hP 0 rfl rfl 2 (by decide) (hts (.fieldLink RX7 28 "SaltStreet$Tokens" "next" "I") (List.mem_of_getElem? (i := 2) rfl)) (fun _ h9 => h9) rfl dX7_cutNumber_70 ?_
            refine lv_iconst (v := 1) hx hb dX7_cutNumber_73 (by decide) ?_
            refine lv_iadd hx hb dX7_cutNumber_74 ?_
            refine lv_ci (y := (nI (i31 + 1))) (nI_add _ _) ?_
            refine va_put (D := D) (ci := 7) (v := .int (nI (i31 + 1))) (ty := .int) (C := RX7) (T := TX7) (N := 10) hx hb hts is_cutNumber_X7 tyX7 tyX7_ok nmX7 hown hK hP hD hS 0 rfl rfl 2 (by decide) (hts (.fieldLink RX7 28 "SaltStreet$Tokens" "next" "I") (List.mem_of_getElem? (i := 2) rfl)) (fun _ h9 => h9) rfl (by decide +kernel) rfl rfl (Nat.le_of_ble_eq_true rfl) dX7_cutNumber_75 (fun H locs hP hD hS => ?_)
            have hP : va_P D vwCl [(xa 7, .inr (7, [.ref (xa 1), .int (nI tk_length), .int (nI (i31 + 1)), .int tk_kind, .int tk_start, .int z47, .long tk_name, .int tk_taken, .int tk_fault, .int tk_place])), (xa 1, .inl (kc 0, 900, .inl tape))] H := hP
            have hD : va_D A [(xa 7, .inr (7, [.ref (xa 1), .int (nI tk_length), .int (nI (i31 + 1)), .int tk_kind, .int tk_start, .int z47, .long tk_name, .int tk_taken, .int tk_fault, .int tk_place])), (xa 1, .inl (kc 0, 900, .inl tape))] := hD
            refine lv_goto (tgt := 5) hx hb dX7_cutNumber_78 (by decide) ?_
            exact ih_n9_5_33 (i31 + 1) z47 (by omega) (by omega) _ _ ls hP hD hS (lv_sub hl [0] rfl)
  exact loop_n9_5_33 ((tk_length + tk_next) + 1) tk_next 0 (by omega) (by omega) _ _ ls hP hD hS (lv_sub hl [0] rfl)
theorem dX7_cutSign_0 : decode cX7_cutSign 0 = .ok (.aload_n 0, 1) := by decide +kernel
theorem dX7_cutSign_1 : decode cX7_cutSign 1 = .ok (.getfield 15, 3) := by decide +kernel
theorem dX7_cutSign_4 : decode cX7_cutSign 4 = .ok (.aload_n 0, 1) := by decide +kernel
theorem dX7_cutSign_5 : decode cX7_cutSign 5 = .ok (.getfield 28, 3) := by decide +kernel
theorem dX7_cutSign_8 : decode cX7_cutSign 8 = .ok (.iaload, 1) := by decide +kernel
theorem dX7_cutSign_9 : decode cX7_cutSign 9 = .ok (.istore_n 1, 1) := by decide +kernel
theorem dX7_cutSign_10 : decode cX7_cutSign 10 = .ok (.aload_n 0, 1) := by decide +kernel
theorem dX7_cutSign_11 : decode cX7_cutSign 11 = .ok (.iload_n 1, 1) := by decide +kernel
theorem dX7_cutSign_12 : decode cX7_cutSign 12 = .ok (.bipush 59, 2) := by decide +kernel
theorem dX7_cutSign_14 : decode cX7_cutSign 14 = .ok (.if_icmp .eq 21, 3) := by decide +kernel
theorem dX7_cutSign_35 : decode cX7_cutSign 35 = .ok (.iload_n 1, 1) := by decide +kernel
theorem dX7_cutSign_36 : decode cX7_cutSign 36 = .ok (.goto 4, 3) := by decide +kernel
theorem dX7_cutSign_40 : decode cX7_cutSign 40 = .ok (.putfield 40, 3) := by decide +kernel
theorem dX7_cutSign_43 : decode cX7_cutSign 43 = .ok (.aload_n 0, 1) := by decide +kernel
theorem dX7_cutSign_44 : decode cX7_cutSign 44 = .ok (.dup, 1) := by decide +kernel
theorem dX7_cutSign_45 : decode cX7_cutSign 45 = .ok (.getfield 28, 3) := by decide +kernel
theorem dX7_cutSign_48 : decode cX7_cutSign 48 = .ok (.iconst 1, 1) := by decide +kernel
theorem dX7_cutSign_49 : decode cX7_cutSign 49 = .ok (.iadd, 1) := by decide +kernel
theorem dX7_cutSign_50 : decode cX7_cutSign 50 = .ok (.putfield 28, 3) := by decide +kernel
theorem dX7_cutSign_53 : decode cX7_cutSign 53 = .ok (.return_, 1) := by decide +kernel
theorem dX7_cutSign_17 : decode cX7_cutSign 17 = .ok (.iload_n 1, 1) := by decide +kernel
theorem dX7_cutSign_18 : decode cX7_cutSign 18 = .ok (.bipush 60, 2) := by decide +kernel
theorem dX7_cutSign_20 : decode cX7_cutSign 20 = .ok (.if_icmp .eq 15, 3) := by decide +kernel
theorem dX7_cutSign_23 : decode cX7_cutSign 23 = .ok (.iload_n 1, 1) := by decide +kernel
theorem dX7_cutSign_24 : decode cX7_cutSign 24 = .ok (.bipush 62, 2) := by decide +kernel
theorem dX7_cutSign_26 : decode cX7_cutSign 26 = .ok (.if_icmp .eq 9, 3) := by decide +kernel
theorem dX7_cutSign_29 : decode cX7_cutSign 29 = .ok (.iload_n 1, 1) := by decide +kernel
theorem dX7_cutSign_30 : decode cX7_cutSign 30 = .ok (.bipush 61, 2) := by decide +kernel
theorem dX7_cutSign_32 : decode cX7_cutSign 32 = .ok (.if_icmp .ne 7, 3) := by decide +kernel
theorem dX7_cutSign_39 : decode cX7_cutSign 39 = .ok (.iconst 4, 1) := by decide +kernel
def vds_cutSign : List Cond := [.code yX7_cutSign cX7_cutSign 2 none, .fieldLink RX7 15 "SaltStreet$Tokens" "text" "[I", .fieldLink RX7 28 "SaltStreet$Tokens" "next" "I", .fieldLink RX7 40 "SaltStreet$Tokens" "kind" "I"]
def vs_cutSign : List Cond := vds_cutSign ++ (wsX70 ++ ([] : List Cond))
theorem is_cutSign_X7 : ∀ w ∈ wsX70, w ∈ vs_cutSign := fun _ h => List.mem_append_right _ (List.mem_append_left _ h)
set_option maxHeartbeats 4000000 in
set_option maxRecDepth 100000 in
theorem s_cutSign (l : Launch) (D : va_G) (kc : Nat → ClassId) (sz : Nat) (xa : Nat → Nat) (tk_length : Nat) (tk_next : Nat) (tk_kind : Int32) (tk_start : Int32) (tk_number : Int32) (tk_name : Int64) (tk_taken : Int32) (tk_fault : Int32) (tk_place : Int32) (tape : Nat → Int32) (h_tk_length : tk_length ≤ 900) (h_tk_next : tk_next ≤ 900) (hlt : tk_next < tk_length) : Met l yX7_cutSign vs_cutSign ({ frames := 0, cells := 0, slots := 0, locals := 0 }) (va_Pc [.ref (xa 7)] (wPre D kc [(xa 7, .inr (7, [.ref (xa 1), .int (nI tk_length), .int (nI tk_next), .int tk_kind, .int tk_start, .int tk_number, .long tk_name, .int tk_taken, .int tk_fault, .int tk_place])), (xa 1, .inl (kc 0, 900, .inl tape))] sz)) (va_Qv (fun (_ : Unit) => True) (fun (_ : Unit) (t9 : State) => ∃ tk_next_n : Nat, ∃ tk_kind_n : Int32, tk_next_n ≤ 900 ∧ va_P D vwCl [(xa 7, .inr (7, [.ref (xa 1), .int (nI tk_length), .int (nI tk_next_n), .int tk_kind_n, .int tk_start, .int tk_number, .long tk_name, .int tk_taken, .int tk_fault, .int tk_place])), (xa 1, .inl (kc 0, 900, .inl tape))] t9.heap ∧ va_D (va_A [(xa 7, .inr (7, [.ref (xa 1), .int (nI tk_length), .int (nI tk_next), .int tk_kind, .int tk_start, .int tk_number, .long tk_name, .int tk_taken, .int tk_fault, .int tk_place])), (xa 1, .inl (kc 0, 900, .inl tape))] sz) [(xa 7, .inr (7, [.ref (xa 1), .int (nI tk_length), .int (nI tk_next_n), .int tk_kind_n, .int tk_start, .int tk_number, .long tk_name, .int tk_taken, .int tk_fault, .int tk_place])), (xa 1, .inl (kc 0, 900, .inl tape))]) (va_A [(xa 7, .inr (7, [.ref (xa 1), .int (nI tk_length), .int (nI tk_next), .int tk_kind, .int tk_start, .int tk_number, .long tk_name, .int tk_taken, .int tk_fault, .int tk_place])), (xa 1, .inl (kc 0, 900, .inl tape))] sz)) 0 0 (va_A [(xa 7, .inr (7, [.ref (xa 1), .int (nI tk_length), .int (nI tk_next), .int tk_kind, .int tk_start, .int tk_number, .long tk_name, .int tk_taken, .int tk_fault, .int tk_place])), (xa 1, .inl (kc 0, 900, .inl tape))] sz) := by
  refine Met.ofW (cc := cX7_cutSign) (maxL := 2) (ret := none) (by decide) rfl ?_
  intro p e s m args below meth c s₁ B hml hv
  obtain ⟨rfl, hsz, hP, hE, hD0⟩ := hv
  have hx := B.exec
  have hb := B.bytes
  have hr := B.returns
  have hts := atoms_spec (ws := vs_cutSign) B.pre
  have hown : s.vm.findClass RX7 = some m.cls := findClass_of_methodNamed B.named
  have hlocks := B.notSynchronized
  subst hsz
  have hD := hD0.self (sz := s.heap.size)
  generalize hAe : va_A [(xa 7, .inr (7, [.ref (xa 1), .int (nI tk_length), .int (nI tk_next), .int tk_kind, .int tk_start, .int tk_number, .long tk_name, .int tk_taken, .int tk_fault, .int tk_place])), (xa 1, .inl (kc 0, 900, .inl tape))] s.heap.size = A at hD ⊢
  have hA : ∀ q : Nat, s.heap.size ≤ q → A q := fun q h => by rw [← hAe]; exact Or.inr h
  have hS : va_S A s.heap s.heap [] := va_S.rf
  have hK := hE.1
  have hP : va_P D vwCl [(xa 7, .inr (7, [.ref (xa 1), .int (nI tk_length), .int (nI tk_next), .int tk_kind, .int tk_start, .int tk_number, .long tk_name, .int tk_taken, .int tk_fault, .int tk_place])), (xa 1, .inl (kc 0, 900, .inl tape))] s.heap := hP
  have hl := lv_entry ([.ref (xa 7)]) (n := 2) (Nat.le_of_ble_eq_true rfl)
  rw [lg_entry_eq]
  generalize (lg_sl ([.ref (xa 7)]) ++ List.replicate (2 - (lg_sl ([.ref (xa 7)])).length) Slot.unset).toArray = ls at hl ⊢
  have hl : lv_has ls 2 [(0, .ref (xa 7))] := hl
  refine lv_aload_n hx hb dX7_cutSign_0 rfl (lv_at hl 0 rfl) ?_
  refine va_get (D := D) (ci := 7) (v := .ref (xa 1)) (C := RX7) (T := TX7) (N := 10) hx hb hts is_cutSign_X7 hown hK hP 0 rfl rfl 0 (by decide) (hts (.fieldLink RX7 15 "SaltStreet$Tokens" "text" "[I") (List.mem_of_getElem? (i := 1) rfl)) (fun _ h9 => h9) rfl dX7_cutSign_1 ?_
  refine lv_aload_n hx hb dX7_cutSign_4 rfl (lv_at hl 0 rfl) ?_
  refine va_get (D := D) (ci := 7) (v := .int (nI tk_next)) (C := RX7) (T := TX7) (N := 10) hx hb hts is_cutSign_X7 hown hK hP 0 rfl rfl 2 (by decide) (hts (.fieldLink RX7 28 "SaltStreet$Tokens" "next" "I") (List.mem_of_getElem? (i := 2) rfl)) (fun _ h9 => h9) rfl dX7_cutSign_5 ?_
  refine va_iald hx hb hK hP 1 0 (f := tape) rfl rfl (vp_in_nI (by omega) (by decide)) dX7_cutSign_8 ?_
  refine lv_topi (fun z1 _ => ?_)
  refine lv_istore_n (lv' := [(1, .int z1), (0, .ref (xa 7))]) hx hb dX7_cutSign_9 rfl hl (by decide) rfl (fun ls hl => ?_)
  refine lv_aload_n hx hb dX7_cutSign_10 rfl (lv_at hl 1 rfl) ?_
  refine lv_iload_n hx hb dX7_cutSign_11 rfl (lv_at hl 0 rfl) ?_
  refine lv_bipush (v := 59) hx hb dX7_cutSign_12 (by decide) ?_
  refine lv_icmp_eq (tgt := 35) hx hb dX7_cutSign_14 (by decide) (fun c2 => ?_) (fun c2 => ?_)
  · refine lv_iload_n hx hb dX7_cutSign_35 rfl (lv_at hl 0 rfl) ?_
    refine lv_goto (tgt := 40) hx hb dX7_cutSign_36 (by decide) ?_
    refine va_put (D := D) (ci := 7) (v := .int z1) (ty := .int) (C := RX7) (T := TX7) (N := 10) hx hb hts is_cutSign_X7 tyX7 tyX7_ok nmX7 hown hK hP hD hS 0 rfl rfl 3 (by decide) (hts (.fieldLink RX7 40 "SaltStreet$Tokens" "kind" "I") (List.mem_of_getElem? (i := 3) rfl)) (fun _ h9 => h9) rfl (by decide +kernel) rfl rfl (Nat.le_of_ble_eq_true rfl) dX7_cutSign_40 (fun H locs hP hD hS => ?_)
    have hP : va_P D vwCl [(xa 7, .inr (7, [.ref (xa 1), .int (nI tk_length), .int (nI tk_next), .int z1, .int tk_start, .int tk_number, .long tk_name, .int tk_taken, .int tk_fault, .int tk_place])), (xa 1, .inl (kc 0, 900, .inl tape))] H := hP
    have hD : va_D A [(xa 7, .inr (7, [.ref (xa 1), .int (nI tk_length), .int (nI tk_next), .int z1, .int tk_start, .int tk_number, .long tk_name, .int tk_taken, .int tk_fault, .int tk_place])), (xa 1, .inl (kc 0, 900, .inl tape))] := hD
    refine lv_aload_n hx hb dX7_cutSign_43 rfl (lv_at hl 1 rfl) ?_
    refine lv_dup hx hb dX7_cutSign_44 rfl ?_
    refine va_get (D := D) (ci := 7) (v := .int (nI tk_next)) (C := RX7) (T := TX7) (N := 10) hx hb hts is_cutSign_X7 hown hK hP 0 rfl rfl 2 (by decide) (hts (.fieldLink RX7 28 "SaltStreet$Tokens" "next" "I") (List.mem_of_getElem? (i := 2) rfl)) (fun _ h9 => h9) rfl dX7_cutSign_45 ?_
    refine lv_iconst (v := 1) hx hb dX7_cutSign_48 (by decide) ?_
    refine lv_iadd hx hb dX7_cutSign_49 ?_
    refine lv_ci (y := (nI (tk_next + 1))) (nI_add _ _) ?_
    refine va_put (D := D) (ci := 7) (v := .int (nI (tk_next + 1))) (ty := .int) (C := RX7) (T := TX7) (N := 10) hx hb hts is_cutSign_X7 tyX7 tyX7_ok nmX7 hown hK hP hD hS 0 rfl rfl 2 (by decide) (hts (.fieldLink RX7 28 "SaltStreet$Tokens" "next" "I") (List.mem_of_getElem? (i := 2) rfl)) (fun _ h9 => h9) rfl (by decide +kernel) rfl rfl (Nat.le_of_ble_eq_true rfl) dX7_cutSign_50 (fun H locs hP hD hS => ?_)
    have hP : va_P D vwCl [(xa 7, .inr (7, [.ref (xa 1), .int (nI tk_length), .int (nI (tk_next + 1)), .int z1, .int tk_start, .int tk_number, .long tk_name, .int tk_taken, .int tk_fault, .int tk_place])), (xa 1, .inl (kc 0, 900, .inl tape))] H := hP
    have hD : va_D A [(xa 7, .inr (7, [.ref (xa 1), .int (nI tk_length), .int (nI (tk_next + 1)), .int z1, .int tk_start, .int tk_number, .long tk_name, .int tk_taken, .int tk_fault, .int tk_place])), (xa 1, .inl (kc 0, 900, .inl tape))] := hD
    have hP9 := hP.sub (ws' := [(xa 7, .inr (7, [.ref (xa 1), .int (nI tk_length), .int (nI (tk_next + 1)), .int z1, .int tk_start, .int tk_number, .long tk_name, .int tk_taken, .int tk_fault, .int tk_place])), (xa 1, .inl (kc 0, 900, .inl tape))]) [0, 1] rfl
    have hD9 := hD.sub (ws' := [(xa 7, .inr (7, [.ref (xa 1), .int (nI tk_length), .int (nI (tk_next + 1)), .int z1, .int tk_start, .int tk_number, .long tk_name, .int tk_taken, .int tk_fault, .int tk_place])), (xa 1, .inl (kc 0, 900, .inl tape))]) [0, 1] (by decide) rfl
    exact W.vret hx hb hr (fun t9 ht hW => ⟨⟨(), rfl, trivial, (tk_next + 1), z1, by omega, by rw [ht]; exact hP9, hD9⟩, hS.F ht⟩) hS.2.2 dX7_cutSign_53
  · refine lv_iload_n hx hb dX7_cutSign_17 rfl (lv_at hl 0 rfl) ?_
    refine lv_bipush (v := 60) hx hb dX7_cutSign_18 (by decide) ?_
    refine lv_icmp_eq (tgt := 35) hx hb dX7_cutSign_20 (by decide) (fun c3 => ?_) (fun c3 => ?_)
    · refine lv_iload_n hx hb dX7_cutSign_35 rfl (lv_at hl 0 rfl) ?_
      refine lv_goto (tgt := 40) hx hb dX7_cutSign_36 (by decide) ?_
      refine va_put (D := D) (ci := 7) (v := .int z1) (ty := .int) (C := RX7) (T := TX7) (N := 10) hx hb hts is_cutSign_X7 tyX7 tyX7_ok nmX7 hown hK hP hD hS 0 rfl rfl 3 (by decide) (hts (.fieldLink RX7 40 "SaltStreet$Tokens" "kind" "I") (List.mem_of_getElem? (i := 3) rfl)) (fun _ h9 => h9) rfl (by decide +kernel) rfl rfl (Nat.le_of_ble_eq_true rfl) dX7_cutSign_40 (fun H locs hP hD hS => ?_)
      have hP : va_P D vwCl [(xa 7, .inr (7, [.ref (xa 1), .int (nI tk_length), .int (nI tk_next), .int z1, .int tk_start, .int tk_number, .long tk_name, .int tk_taken, .int tk_fault, .int tk_place])), (xa 1, .inl (kc 0, 900, .inl tape))] H := hP
      have hD : va_D A [(xa 7, .inr (7, [.ref (xa 1), .int (nI tk_length), .int (nI tk_next), .int z1, .int tk_start, .int tk_number, .long tk_name, .int tk_taken, .int tk_fault, .int tk_place])), (xa 1, .inl (kc 0, 900, .inl tape))] := hD
      refine lv_aload_n hx hb dX7_cutSign_43 rfl (lv_at hl 1 rfl) ?_
      refine lv_dup hx hb dX7_cutSign_44 rfl ?_
      refine va_get (D := D) (ci := 7) (v := .int (nI tk_next)) (C := RX7) (T := TX7) (N := 10) hx hb hts is_cutSign_X7 hown hK hP 0 rfl rfl 2 (by decide) (hts (.fieldLink RX7 28 "SaltStreet$Tokens" "next" "I") (List.mem_of_getElem? (i := 2) rfl)) (fun _ h9 => h9) rfl dX7_cutSign_45 ?_
      refine lv_iconst (v := 1) hx hb dX7_cutSign_48 (by decide) ?_
      refine lv_iadd hx hb dX7_cutSign_49 ?_
      refine lv_ci (y := (nI (tk_next + 1))) (nI_add _ _) ?_
      refine va_put (D := D) (ci := 7) (v := .int (nI (tk_next + 1))) (ty := .int) (C := RX7) (T := TX7) (N := 10) hx hb hts is_cutSign_X7 tyX7 tyX7_ok nmX7 hown hK hP hD hS 0 rfl rfl 2 (by decide) (hts (.fieldLink RX7 28 "SaltStreet$Tokens" "next" "I") (List.mem_of_getElem? (i := 2) rfl)) (fun _ h9 => h9) rfl (by decide +kernel) rfl rfl (Nat.le_of_ble_eq_true rfl) dX7_cutSign_50 (fun H locs hP hD hS => ?_)
      have hP : va_P D vwCl [(xa 7, .inr (7, [.ref (xa 1), .int (nI tk_length), .int (nI (tk_next + 1)), .int z1, .int tk_start, .int tk_number, .long tk_name, .int tk_taken, .int tk_fault, .int tk_place])), (xa 1, .inl (kc 0, 900, .inl tape))] H := hP
      have hD : va_D A [(xa 7, .inr (7, [.ref (xa 1), .int (nI tk_length), .int (nI (tk_next + 1)), .int z1, .int tk_start, .int tk_number, .long tk_name, .int tk_taken, .int tk_fault, .int tk_place])), (xa 1, .inl (kc 0, 900, .inl tape))] := hD
      have hP9 := hP.sub (ws' := [(xa 7, .inr (7, [.ref (xa 1), .int (nI tk_length), .int (nI (tk_next + 1)), .int z1, .int tk_start, .int tk_number, .long tk_name, .int tk_taken, .int tk_fault, .int tk_place])), (xa 1, .inl (kc 0, 900, .inl tape))]) [0, 1] rfl
      have hD9 := hD.sub (ws' := [(xa 7, .inr (7, [.ref (xa 1), .int (nI tk_length), .int (nI (tk_next + 1)), .int z1, .int tk_start, .int tk_number, .long tk_name, .int tk_taken, .int tk_fault, .int tk_place])), (xa 1, .inl (kc 0, 900, .inl tape))]) [0, 1] (by decide) rfl
      exact W.vret hx hb hr (fun t9 ht hW => ⟨⟨(), rfl, trivial, (tk_next + 1), z1, by omega, by rw [ht]; exact hP9, hD9⟩, hS.F ht⟩) hS.2.2 dX7_cutSign_53
    · refine lv_iload_n hx hb dX7_cutSign_23 rfl (lv_at hl 0 rfl) ?_
      refine lv_bipush (v := 62) hx hb dX7_cutSign_24 (by decide) ?_
      refine lv_icmp_eq (tgt := 35) hx hb dX7_cutSign_26 (by decide) (fun c4 => ?_) (fun c4 => ?_)
      · refine lv_iload_n hx hb dX7_cutSign_35 rfl (lv_at hl 0 rfl) ?_
        refine lv_goto (tgt := 40) hx hb dX7_cutSign_36 (by decide) ?_
        refine va_put (D := D) (ci := 7) (v := .int z1) (ty := .int) (C := RX7) (T := TX7) (N := 10) hx hb hts is_cutSign_X7 tyX7 tyX7_ok nmX7 hown hK hP hD hS 0 rfl rfl 3 (by decide) (hts (.fieldLink RX7 40 "SaltStreet$Tokens" "kind" "I") (List.mem_of_getElem? (i := 3) rfl)) (fun _ h9 => h9) rfl (by decide +kernel) rfl rfl (Nat.le_of_ble_eq_true rfl) dX7_cutSign_40 (fun H locs hP hD hS => ?_)
        have hP : va_P D vwCl [(xa 7, .inr (7, [.ref (xa 1), .int (nI tk_length), .int (nI tk_next), .int z1, .int tk_start, .int tk_number, .long tk_name, .int tk_taken, .int tk_fault, .int tk_place])), (xa 1, .inl (kc 0, 900, .inl tape))] H := hP
        have hD : va_D A [(xa 7, .inr (7, [.ref (xa 1), .int (nI tk_length), .int (nI tk_next), .int z1, .int tk_start, .int tk_number, .long tk_name, .int tk_taken, .int tk_fault, .int tk_place])), (xa 1, .inl (kc 0, 900, .inl tape))] := hD
        refine lv_aload_n hx hb dX7_cutSign_43 rfl (lv_at hl 1 rfl) ?_
        refine lv_dup hx hb dX7_cutSign_44 rfl ?_
        refine va_get (D := D) (ci := 7) (v := .int (nI tk_next)) (C := RX7) (T := TX7) (N := 10) hx hb hts is_cutSign_X7 hown hK hP 0 rfl rfl 2 (by decide) (hts (.fieldLink RX7 28 "SaltStreet$Tokens" "next" "I") (List.mem_of_getElem? (i := 2) rfl)) (fun _ h9 => h9) rfl dX7_cutSign_45 ?_
        refine lv_iconst (v := 1) hx hb dX7_cutSign_48 (by decide) ?_
        refine lv_iadd hx hb dX7_cutSign_49 ?_
        refine lv_ci (y := (nI (tk_next + 1))) (nI_add _ _) ?_
        refine va_put (D := D) (ci := 7) (v := .int (nI (tk_next + 1))) (ty := .int) (C := RX7) (T := TX7) (N := 10) hx hb hts is_cutSign_X7 tyX7 tyX7_ok nmX7 hown hK hP hD hS 0 rfl rfl 2 (by decide) (hts (.fieldLink RX7 28 "SaltStreet$Tokens" "next" "I") (List.mem_of_getElem? (i := 2) rfl)) (fun _ h9 => h9) rfl (by decide +kernel) rfl rfl (Nat.le_of_ble_eq_true rfl) dX7_cutSign_50 (fun H locs hP hD hS => ?_)
        have hP : va_P D vwCl [(xa 7, .inr (7, [.ref (xa 1), .int (nI tk_length), .int (nI (tk_next + 1)), .int z1, .int tk_start, .int tk_number, .long tk_name, .int tk_taken, .int tk_fault, .int tk_place])), (xa 1, .inl (kc 0, 900, .inl tape))] H := hP
        have hD : va_D A [(xa 7, .inr (7, [.ref (xa 1), .int (nI tk_length), .int (nI (tk_next + 1)), .int z1, .int tk_start, .int tk_number, .long tk_name, .int tk_taken, .int tk_fault, .int tk_place])), (xa 1, .inl (kc 0, 900, .inl tape))] := hD
        have hP9 := hP.sub (ws' := [(xa 7, .inr (7, [.ref (xa 1), .int (nI tk_length), .int (nI (tk_next + 1)), .int z1, .int tk_start, .int tk_number, .long tk_name, .int tk_taken, .int tk_fault, .int tk_place])), (xa 1, .inl (kc 0, 900, .inl tape))]) [0, 1] rfl
        have hD9 := hD.sub (ws' := [(xa 7, .inr (7, [.ref (xa 1), .int (nI tk_length), .int (nI (tk_next + 1)), .int z1, .int tk_start, .int tk_number, .long tk_name, .int tk_taken, .int tk_fault, .int tk_place])), (xa 1, .inl (kc 0, 900, .inl tape))]) [0, 1] (by decide) rfl
        exact W.vret hx hb hr (fun t9 ht hW => ⟨⟨(), rfl, trivial, (tk_next + 1), z1, by omega, by rw [ht]; exact hP9, hD9⟩, hS.F ht⟩) hS.2.2 dX7_cutSign_53
      · refine lv_iload_n hx hb dX7_cutSign_29 rfl (lv_at hl 0 rfl) ?_
        refine lv_bipush (v := 61) hx hb dX7_cutSign_30 (by decide) ?_
        refine lv_icmp_ne (tgt := 39) hx hb dX7_cutSign_32 (by decide) (fun c5 => ?_) (fun c5 => ?_)
        · refine lv_iconst (v := 4) hx hb dX7_cutSign_39 (by decide) ?_
          refine va_put (D := D) (ci := 7) (v := .int 4) (ty := .int) (C := RX7) (T := TX7) (N := 10) hx hb hts is_cutSign_X7 tyX7 tyX7_ok nmX7 hown hK hP hD hS 0 rfl rfl 3 (by decide) (hts (.fieldLink RX7 40 "SaltStreet$Tokens" "kind" "I") (List.mem_of_getElem? (i := 3) rfl)) (fun _ h9 => h9) rfl (by decide +kernel) rfl rfl (Nat.le_of_ble_eq_true rfl) dX7_cutSign_40 (fun H locs hP hD hS => ?_)
          have hP : va_P D vwCl [(xa 7, .inr (7, [.ref (xa 1), .int (nI tk_length), .int (nI tk_next), .int 4, .int tk_start, .int tk_number, .long tk_name, .int tk_taken, .int tk_fault, .int tk_place])), (xa 1, .inl (kc 0, 900, .inl tape))] H := hP
          have hD : va_D A [(xa 7, .inr (7, [.ref (xa 1), .int (nI tk_length), .int (nI tk_next), .int 4, .int tk_start, .int tk_number, .long tk_name, .int tk_taken, .int tk_fault, .int tk_place])), (xa 1, .inl (kc 0, 900, .inl tape))] := hD
          refine lv_aload_n hx hb dX7_cutSign_43 rfl (lv_at hl 1 rfl) ?_
          refine lv_dup hx hb dX7_cutSign_44 rfl ?_
          refine va_get (D := D) (ci := 7) (v := .int (nI tk_next)) (C := RX7) (T := TX7) (N := 10) hx hb hts is_cutSign_X7 hown hK hP 0 rfl rfl 2 (by decide) (hts (.fieldLink RX7 28 "SaltStreet$Tokens" "next" "I") (List.mem_of_getElem? (i := 2) rfl)) (fun _ h9 => h9) rfl dX7_cutSign_45 ?_
          refine lv_iconst (v := 1) hx hb dX7_cutSign_48 (by decide) ?_
          refine lv_iadd hx hb dX7_cutSign_49 ?_
          refine lv_ci (y := (nI (tk_next + 1))) (nI_add _ _) ?_
          refine va_put (D := D) (ci := 7) (v := .int (nI (tk_next + 1))) (ty := .int) (C := RX7) (T := TX7) (N := 10) hx hb hts is_cutSign_X7 tyX7 tyX7_ok nmX7 hown hK hP hD hS 0 rfl rfl 2 (by decide) (hts (.fieldLink RX7 28 "SaltStreet$Tokens" "next" "I") (List.mem_of_getElem? (i := 2) rfl)) (fun _ h9 => h9) rfl (by decide +kernel) rfl rfl (Nat.le_of_ble_eq_true rfl) dX7_cutSign_50 (fun H locs hP hD hS => ?_)
          have hP : va_P D vwCl [(xa 7, .inr (7, [.ref (xa 1), .int (nI tk_length), .int (nI (tk_next + 1)), .int 4, .int tk_start, .int tk_number, .long tk_name, .int tk_taken, .int tk_fault, .int tk_place])), (xa 1, .inl (kc 0, 900, .inl tape))] H := hP
          have hD : va_D A [(xa 7, .inr (7, [.ref (xa 1), .int (nI tk_length), .int (nI (tk_next + 1)), .int 4, .int tk_start, .int tk_number, .long tk_name, .int tk_taken, .int tk_fault, .int tk_place])), (xa 1, .inl (kc 0, 900, .inl tape))] := hD
          have hP9 := hP.sub (ws' := [(xa 7, .inr (7, [.ref (xa 1), .int (nI tk_length), .int (nI (tk_next + 1)), .int 4, .int tk_start, .int tk_number, .long tk_name, .int tk_taken, .int tk_fault, .int tk_place])), (xa 1, .inl (kc 0, 900, .inl tape))]) [0, 1] rfl
          have hD9 := hD.sub (ws' := [(xa 7, .inr (7, [.ref (xa 1), .int (nI tk_length), .int (nI (tk_next + 1)), .int 4, .int tk_start, .int tk_number, .long tk_name, .int tk_taken, .int tk_fault, .int tk_place])), (xa 1, .inl (kc 0, 900, .inl tape))]) [0, 1] (by decide) rfl
          exact W.vret hx hb hr (fun t9 ht hW => ⟨⟨(), rfl, trivial, (tk_next + 1), 4, by omega, by rw [ht]; exact hP9, hD9⟩, hS.F ht⟩) hS.2.2 dX7_cutSign_53
        · refine lv_iload_n hx hb dX7_cutSign_35 rfl (lv_at hl 0 rfl) ?_
          refine lv_goto (tgt := 40) hx hb dX7_cutSign_36 (by decide) ?_
          refine va_put (D := D) (ci := 7) (v := .int z1) (ty := .int) (C := RX7) (T := TX7) (N := 10) hx hb hts is_cutSign_X7 tyX7 tyX7_ok nmX7 hown hK hP hD hS 0 rfl rfl 3 (by decide) (hts (.fieldLink RX7 40 "SaltStreet$Tokens" "kind" "I") (List.mem_of_getElem? (i := 3) rfl)) (fun _ h9 => h9) rfl (by decide +kernel) rfl rfl (Nat.le_of_ble_eq_true rfl) dX7_cutSign_40 (fun H locs hP hD hS => ?_)
          have hP : va_P D vwCl [(xa 7, .inr (7, [.ref (xa 1), .int (nI tk_length), .int (nI tk_next), .int z1, .int tk_start, .int tk_number, .long tk_name, .int tk_taken, .int tk_fault, .int tk_place])), (xa 1, .inl (kc 0, 900, .inl tape))] H := hP
          have hD : va_D A [(xa 7, .inr (7, [.ref (xa 1), .int (nI tk_length), .int (nI tk_next), .int z1, .int tk_start, .int tk_number, .long tk_name, .int tk_taken, .int tk_fault, .int tk_place])), (xa 1, .inl (kc 0, 900, .inl tape))] := hD
          refine lv_aload_n hx hb dX7_cutSign_43 rfl (lv_at hl 1 rfl) ?_
          refine lv_dup hx hb dX7_cutSign_44 rfl ?_
          refine va_get (D := D) (ci := 7) (v := .int (nI tk_next)) (C := RX7) (T := TX7) (N := 10) hx hb hts is_cutSign_X7 hown hK hP 0 rfl rfl 2 (by decide) (hts (.fieldLink RX7 28 "SaltStreet$Tokens" "next" "I") (List.mem_of_getElem? (i := 2) rfl)) (fun _ h9 => h9) rfl dX7_cutSign_45 ?_
          refine lv_iconst (v := 1) hx hb dX7_cutSign_48 (by decide) ?_
          refine lv_iadd hx hb dX7_cutSign_49 ?_
          refine lv_ci (y := (nI (tk_next + 1))) (nI_add _ _) ?_
          refine va_put (D := D) (ci := 7) (v := .int (nI (tk_next + 1))) (ty := .int) (C := RX7) (T := TX7) (N := 10) hx hb hts is_cutSign_X7 tyX7 tyX7_ok nmX7 hown hK hP hD hS 0 rfl rfl 2 (by decide) (hts (.fieldLink RX7 28 "SaltStreet$Tokens" "next" "I") (List.mem_of_getElem? (i := 2) rfl)) (fun _ h9 => h9) rfl (by decide +kernel) rfl rfl (Nat.le_of_ble_eq_true rfl) dX7_cutSign_50 (fun H locs hP hD hS => ?_)
          have hP : va_P D vwCl [(xa 7, .inr (7, [.ref (xa 1), .int (nI tk_length), .int (nI (tk_next + 1)), .int z1, .int tk_start, .int tk_number, .long tk_name, .int tk_taken, .int tk_fault, .int tk_place])), (xa 1, .inl (kc 0, 900, .inl tape))] H := hP
          have hD : va_D A [(xa 7, .inr (7, [.ref (xa 1), .int (nI tk_length), .int (nI (tk_next + 1)), .int z1, .int tk_start, .int tk_number, .long tk_name, .int tk_taken, .int tk_fault, .int tk_place])), (xa 1, .inl (kc 0, 900, .inl tape))] := hD
          have hP9 := hP.sub (ws' := [(xa 7, .inr (7, [.ref (xa 1), .int (nI tk_length), .int (nI (tk_next + 1)), .int z1, .int tk_start, .int tk_number, .long tk_name, .int tk_taken, .int tk_fault, .int tk_place])), (xa 1, .inl (kc 0, 900, .inl tape))]) [0, 1] rfl
          have hD9 := hD.sub (ws' := [(xa 7, .inr (7, [.ref (xa 1), .int (nI tk_length), .int (nI (tk_next + 1)), .int z1, .int tk_start, .int tk_number, .long tk_name, .int tk_taken, .int tk_fault, .int tk_place])), (xa 1, .inl (kc 0, 900, .inl tape))]) [0, 1] (by decide) rfl
          exact W.vret hx hb hr (fun t9 ht hW => ⟨⟨(), rfl, trivial, (tk_next + 1), z1, by omega, by rw [ht]; exact hP9, hD9⟩, hS.F ht⟩) hS.2.2 dX7_cutSign_53
theorem dX7_advance_0 : decode cX7_advance 0 = .ok (.aload_n 0, 1) := by decide +kernel
theorem dX7_advance_1 : decode cX7_advance 1 = .ok (.getfield 28, 3) := by decide +kernel
theorem dX7_advance_4 : decode cX7_advance 4 = .ok (.aload_n 0, 1) := by decide +kernel
theorem dX7_advance_5 : decode cX7_advance 5 = .ok (.getfield 25, 3) := by decide +kernel
theorem dX7_advance_8 : decode cX7_advance 8 = .ok (.if_icmp .ge 44, 3) := by decide +kernel
theorem dX7_advance_52 : decode cX7_advance 52 = .ok (.aload_n 0, 1) := by decide +kernel
theorem dX7_advance_53 : decode cX7_advance 53 = .ok (.aload_n 0, 1) := by decide +kernel
theorem dX7_advance_54 : decode cX7_advance 54 = .ok (.getfield 28, 3) := by decide +kernel
theorem dX7_advance_57 : decode cX7_advance 57 = .ok (.putfield 37, 3) := by decide +kernel
theorem dX7_advance_60 : decode cX7_advance 60 = .ok (.aload_n 0, 1) := by decide +kernel
theorem dX7_advance_61 : decode cX7_advance 61 = .ok (.getfield 28, 3) := by decide +kernel
theorem dX7_advance_64 : decode cX7_advance 64 = .ok (.aload_n 0, 1) := by decide +kernel
theorem dX7_advance_65 : decode cX7_advance 65 = .ok (.getfield 25, 3) := by decide +kernel
theorem dX7_advance_68 : decode cX7_advance 68 = .ok (.if_icmp .lt 11, 3) := by decide +kernel
theorem dX7_advance_79 : decode cX7_advance 79 = .ok (.aload_n 0, 1) := by decide +kernel
theorem dX7_advance_80 : decode cX7_advance 80 = .ok (.getfield 15, 3) := by decide +kernel
theorem dX7_advance_83 : decode cX7_advance 83 = .ok (.aload_n 0, 1) := by decide +kernel
theorem dX7_advance_84 : decode cX7_advance 84 = .ok (.getfield 28, 3) := by decide +kernel
theorem dX7_advance_87 : decode cX7_advance 87 = .ok (.iaload, 1) := by decide +kernel
theorem dX7_advance_88 : decode cX7_advance 88 = .ok (.invokestatic 43, 3) := by decide +kernel
theorem dX7_advance_91 : decode cX7_advance 91 = .ok (.ifCond .eq 39, 3) := by decide +kernel
theorem dX7_advance_130 : decode cX7_advance 130 = .ok (.aload_n 0, 1) := by decide +kernel
theorem dX7_advance_131 : decode cX7_advance 131 = .ok (.getfield 15, 3) := by decide +kernel
theorem dX7_advance_134 : decode cX7_advance 134 = .ok (.aload_n 0, 1) := by decide +kernel
theorem dX7_advance_135 : decode cX7_advance 135 = .ok (.getfield 28, 3) := by decide +kernel
theorem dX7_advance_138 : decode cX7_advance 138 = .ok (.iaload, 1) := by decide +kernel
theorem dX7_advance_139 : decode cX7_advance 139 = .ok (.invokestatic 58, 3) := by decide +kernel
theorem dX7_advance_142 : decode cX7_advance 142 = .ok (.ifCond .eq 10, 3) := by decide +kernel
theorem dX7_advance_152 : decode cX7_advance 152 = .ok (.aload_n 0, 1) := by decide +kernel
theorem dX7_advance_153 : decode cX7_advance 153 = .ok (.invokevirtual 64, 3) := by decide +kernel
theorem dX7_advance_156 : decode cX7_advance 156 = .ok (.return_, 1) := by decide +kernel
theorem dX7_advance_145 : decode cX7_advance 145 = .ok (.aload_n 0, 1) := by decide +kernel
theorem dX7_advance_146 : decode cX7_advance 146 = .ok (.invokevirtual 61, 3) := by decide +kernel
theorem dX7_advance_149 : decode cX7_advance 149 = .ok (.goto 7, 3) := by decide +kernel
theorem dX7_advance_94 : decode cX7_advance 94 = .ok (.aload_n 0, 1) := by decide +kernel
theorem dX7_advance_95 : decode cX7_advance 95 = .ok (.invokevirtual 47, 3) := by decide +kernel
theorem dX7_advance_98 : decode cX7_advance 98 = .ok (.aload_n 0, 1) := by decide +kernel
theorem dX7_advance_99 : decode cX7_advance 99 = .ok (.aload_n 0, 1) := by decide +kernel
theorem dX7_advance_100 : decode cX7_advance 100 = .ok (.getfield 28, 3) := by decide +kernel
theorem dX7_advance_103 : decode cX7_advance 103 = .ok (.aload_n 0, 1) := by decide +kernel
theorem dX7_advance_104 : decode cX7_advance 104 = .ok (.getfield 37, 3) := by decide +kernel
theorem dX7_advance_107 : decode cX7_advance 107 = .ok (.isub, 1) := by decide +kernel
theorem dX7_advance_108 : decode cX7_advance 108 = .ok (.bipush 8, 2) := by decide +kernel
theorem dX7_advance_110 : decode cX7_advance 110 = .ok (.if_icmp .le 7, 3) := by decide +kernel
theorem dX7_advance_117 : decode cX7_advance 117 = .ok (.aload_n 0, 1) := by decide +kernel
theorem dX7_advance_118 : decode cX7_advance 118 = .ok (.getfield 50, 3) := by decide +kernel
theorem dX7_advance_121 : decode cX7_advance 121 = .ok (.invokestatic 54, 3) := by decide +kernel
theorem dX7_advance_124 : decode cX7_advance 124 = .ok (.putfield 40, 3) := by decide +kernel
theorem dX7_advance_127 : decode cX7_advance 127 = .ok (.goto 29, 3) := by decide +kernel
theorem dX7_advance_113 : decode cX7_advance 113 = .ok (.iconst 2, 1) := by decide +kernel
theorem dX7_advance_114 : decode cX7_advance 114 = .ok (.goto 10, 3) := by decide +kernel
theorem dX7_advance_71 : decode cX7_advance 71 = .ok (.aload_n 0, 1) := by decide +kernel
theorem dX7_advance_72 : decode cX7_advance 72 = .ok (.iconst 0, 1) := by decide +kernel
theorem dX7_advance_73 : decode cX7_advance 73 = .ok (.putfield 40, 3) := by decide +kernel
theorem dX7_advance_76 : decode cX7_advance 76 = .ok (.goto 80, 3) := by decide +kernel
theorem dX7_advance_11 : decode cX7_advance 11 = .ok (.aload_n 0, 1) := by decide +kernel
theorem dX7_advance_12 : decode cX7_advance 12 = .ok (.getfield 15, 3) := by decide +kernel
theorem dX7_advance_15 : decode cX7_advance 15 = .ok (.aload_n 0, 1) := by decide +kernel
theorem dX7_advance_16 : decode cX7_advance 16 = .ok (.getfield 28, 3) := by decide +kernel
theorem dX7_advance_19 : decode cX7_advance 19 = .ok (.iaload, 1) := by decide +kernel
theorem dX7_advance_20 : decode cX7_advance 20 = .ok (.bipush 32, 2) := by decide +kernel
theorem dX7_advance_22 : decode cX7_advance 22 = .ok (.if_icmp .eq 17, 3) := by decide +kernel
theorem dX7_advance_39 : decode cX7_advance 39 = .ok (.aload_n 0, 1) := by decide +kernel
theorem dX7_advance_40 : decode cX7_advance 40 = .ok (.dup, 1) := by decide +kernel
theorem dX7_advance_41 : decode cX7_advance 41 = .ok (.getfield 28, 3) := by decide +kernel
theorem dX7_advance_44 : decode cX7_advance 44 = .ok (.iconst 1, 1) := by decide +kernel
theorem dX7_advance_45 : decode cX7_advance 45 = .ok (.iadd, 1) := by decide +kernel
theorem dX7_advance_46 : decode cX7_advance 46 = .ok (.putfield 28, 3) := by decide +kernel
theorem dX7_advance_49 : decode cX7_advance 49 = .ok (.goto (-49), 3) := by decide +kernel
theorem dX7_advance_25 : decode cX7_advance 25 = .ok (.aload_n 0, 1) := by decide +kernel
theorem dX7_advance_26 : decode cX7_advance 26 = .ok (.getfield 15, 3) := by decide +kernel
theorem dX7_advance_29 : decode cX7_advance 29 = .ok (.aload_n 0, 1) := by decide +kernel
theorem dX7_advance_30 : decode cX7_advance 30 = .ok (.getfield 28, 3) := by decide +kernel
theorem dX7_advance_33 : decode cX7_advance 33 = .ok (.iaload, 1) := by decide +kernel
theorem dX7_advance_34 : decode cX7_advance 34 = .ok (.bipush 10, 2) := by decide +kernel
theorem dX7_advance_36 : decode cX7_advance 36 = .ok (.if_icmp .ne 16, 3) := by decide +kernel
def vds_advance_0 : List Cond := [.code yX7_advance cX7_advance 1 none, .fieldLink RX7 28 "SaltStreet$Tokens" "next" "I", .fieldLink RX7 25 "SaltStreet$Tokens" "length" "I", .fieldLink RX7 37 "SaltStreet$Tokens" "start" "I", .fieldLink RX7 15 "SaltStreet$Tokens" "text" "[I", .methodLink RX7 43 yX7_isLetter, .code yX7_isLetter cX7_isLetter 1 (some .boolean), .static yX7_isLetter, .initialized RX7, .methodLink RX7 58 yX7_isDigit, .code yX7_isDigit cX7_isDigit 1 (some .boolean), .static yX7_isDigit, .methodLink RX7 64 yX7_cutSign, .code yX7_cutSign cX7_cutSign 2 none, .fieldLink RX7 40 "SaltStreet$Tokens" "kind" "I", .instanceMethod yX7_cutSign, .selects RX7 yX7_cutSign yX7_cutSign, .methodLink RX7 61 yX7_cutNumber, .code yX7_cutNumber cX7_cutNumber 1 none, .fieldLink RX7 82 "SaltStreet$Tokens" "number" "I", .instanceMethod yX7_cutNumber, .selects RX7 yX7_cutNumber yX7_cutNumber, .methodLink RX7 47 yX7_cutWord, .code yX7_cutWord cX7_cutWord 1 none]
def vds_advance_1 : List Cond := [.fieldLink RX7 50 "SaltStreet$Tokens" "name" "J", .constantLong RX7 67 (27), .constantLong RX7 69 (97), .instanceMethod yX7_cutWord, .selects RX7 yX7_cutWord yX7_cutWord, .methodLink RX7 54 yX7_kindOfWord, .code yX7_kindOfWord cX7_kindOfWord 7 (some .int), .static yX7_kindOfWord]
def vds_advance : List Cond := (vds_advance_0 ++ vds_advance_1)
def vs_advance : List Cond := vds_advance ++ (wsX70 ++ ([] : List Cond))
theorem is_advance_X7 : ∀ w ∈ wsX70, w ∈ vs_advance := fun _ h => List.mem_append_right _ (List.mem_append_left _ h)
set_option maxRecDepth 20000 in
theorem gs_advance_43_s_isLetter : GoodIn vs_advance (va_wsS RX7 43 yX7_isLetter vs_isLetter) := (goodIn_app (goodIn_r _ [5, 7, 8] rfl (by decide +kernel)) (goodIn_app (goodIn_r vds_isLetter [6] rfl (by decide +kernel)) goodIn_nil))
set_option maxRecDepth 20000 in
theorem gs_advance_58_s_isDigit : GoodIn vs_advance (va_wsS RX7 58 yX7_isDigit vs_isDigit) := (goodIn_app (goodIn_r _ [9, 11, 8] rfl (by decide +kernel)) (goodIn_app (goodIn_r vds_isDigit [10] rfl (by decide +kernel)) goodIn_nil))
set_option maxRecDepth 20000 in
theorem gs_advance_64_s_cutSign : GoodIn vs_advance (wsV RX7 64 RX7 yX7_cutSign vs_cutSign) := (goodIn_app (goodIn_r _ [12, 15, 16, 8] rfl (by decide +kernel)) (goodIn_app (goodIn_r vds_cutSign [13, 4, 1, 14] rfl (by decide +kernel)) (goodIn_app (goodIn_sub is_advance_X7 gdX7) goodIn_nil)))
set_option maxRecDepth 20000 in
theorem gs_advance_61_s_cutNumber : GoodIn vs_advance (wsV RX7 61 RX7 yX7_cutNumber vs_cutNumber) := (goodIn_app (goodIn_r _ [17, 20, 21, 8] rfl (by decide +kernel)) (goodIn_app (goodIn_r vds_cutNumber [18, 19, 1, 2, 3, 14, 4, 9, 10, 11, 8] rfl (by decide +kernel)) (goodIn_app (goodIn_sub is_advance_X7 gdX7) goodIn_nil)))
set_option maxRecDepth 20000 in
theorem gs_advance_47_s_cutWord : GoodIn vs_advance (wsV RX7 47 RX7 yX7_cutWord vs_cutWord) := (goodIn_app (goodIn_r _ [22, 27, 28, 8] rfl (by decide +kernel)) (goodIn_app (goodIn_r vds_cutWord [23, 24, 1, 2, 4, 5, 6, 7, 8, 3, 25, 26] rfl (by decide +kernel)) (goodIn_app (goodIn_sub is_advance_X7 gdX7) goodIn_nil)))
set_option maxRecDepth 20000 in
theorem gs_advance_54_s_kindOfWord : GoodIn vs_advance (va_wsS RX7 54 yX7_kindOfWord vs_kindOfWord) := (goodIn_app (goodIn_r _ [29, 31, 8] rfl (by decide +kernel)) (goodIn_app (goodIn_r vds_kindOfWord [30] rfl (by decide +kernel)) goodIn_nil))
set_option maxHeartbeats 4000000 in
set_option maxRecDepth 100000 in
theorem s_advance (l : Launch) (D : va_G) (kc : Nat → ClassId) (sz : Nat) (xa : Nat → Nat) (tk_length : Nat) (tk_next : Nat) (tk_kind : Int32) (tk_start : Int32) (tk_number : Int32) (tk_name : Int64) (tk_taken : Int32) (tk_fault : Int32) (tk_place : Int32) (tape : Nat → Int32) (h_tk_length : tk_length ≤ 900) (h_tk_next : tk_next ≤ 900) : Met l yX7_advance vs_advance ({ frames := 7, cells := 0, slots := 0, locals := 226 }) (va_Pc [.ref (xa 7)] (wPre D kc [(xa 7, .inr (7, [.ref (xa 1), .int (nI tk_length), .int (nI tk_next), .int tk_kind, .int tk_start, .int tk_number, .long tk_name, .int tk_taken, .int tk_fault, .int tk_place])), (xa 1, .inl (kc 0, 900, .inl tape))] sz)) (va_Qv (fun (_ : Unit) => True) (fun (_ : Unit) (t9 : State) => ∃ tk_next_n : Nat, ∃ tk_kind_n : Int32, ∃ tk_start_n : Int32, ∃ tk_number_n : Int32, ∃ tk_name_n : Int64, tk_next_n ≤ 900 ∧ va_P D vwCl [(xa 7, .inr (7, [.ref (xa 1), .int (nI tk_length), .int (nI tk_next_n), .int tk_kind_n, .int tk_start_n, .int tk_number_n, .long tk_name_n, .int tk_taken, .int tk_fault, .int tk_place])), (xa 1, .inl (kc 0, 900, .inl tape))] t9.heap ∧ va_D (va_A [(xa 7, .inr (7, [.ref (xa 1), .int (nI tk_length), .int (nI tk_next), .int tk_kind, .int tk_start, .int tk_number, .long tk_name, .int tk_taken, .int tk_fault, .int tk_place])), (xa 1, .inl (kc 0, 900, .inl tape))] sz) [(xa 7, .inr (7, [.ref (xa 1), .int (nI tk_length), .int (nI tk_next_n), .int tk_kind_n, .int tk_start_n, .int tk_number_n, .long tk_name_n, .int tk_taken, .int tk_fault, .int tk_place])), (xa 1, .inl (kc 0, 900, .inl tape))]) (va_A [(xa 7, .inr (7, [.ref (xa 1), .int (nI tk_length), .int (nI tk_next), .int tk_kind, .int tk_start, .int tk_number, .long tk_name, .int tk_taken, .int tk_fault, .int tk_place])), (xa 1, .inl (kc 0, 900, .inl tape))] sz)) 0 0 (va_A [(xa 7, .inr (7, [.ref (xa 1), .int (nI tk_length), .int (nI tk_next), .int tk_kind, .int tk_start, .int tk_number, .long tk_name, .int tk_taken, .int tk_fault, .int tk_place])), (xa 1, .inl (kc 0, 900, .inl tape))] sz) := by
  refine Met.ofW (cc := cX7_advance) (maxL := 1) (ret := none) (by decide) rfl ?_
  intro p e s m args below meth c s₁ B hml hv
  obtain ⟨rfl, hsz, hP, hE, hD0⟩ := hv
  have hx := B.exec
  have hb := B.bytes
  have hr := B.returns
  have hts := atoms_spec (ws := vs_advance) B.pre
  have hown : s.vm.findClass RX7 = some m.cls := findClass_of_methodNamed B.named
  have hlocks := B.notSynchronized
  subst hsz
  have hD := hD0.self (sz := s.heap.size)
  generalize hAe : va_A [(xa 7, .inr (7, [.ref (xa 1), .int (nI tk_length), .int (nI tk_next), .int tk_kind, .int tk_start, .int tk_number, .long tk_name, .int tk_taken, .int tk_fault, .int tk_place])), (xa 1, .inl (kc 0, 900, .inl tape))] s.heap.size = A at hD ⊢
  have hA : ∀ q : Nat, s.heap.size ≤ q → A q := fun q h => by rw [← hAe]; exact Or.inr h
  have hS : va_S A s.heap s.heap [] := va_S.rf
  have hK := hE.1
  have hP : va_P D vwCl [(xa 7, .inr (7, [.ref (xa 1), .int (nI tk_length), .int (nI tk_next), .int tk_kind, .int tk_start, .int tk_number, .long tk_name, .int tk_taken, .int tk_fault, .int tk_place])), (xa 1, .inl (kc 0, 900, .inl tape))] s.heap := hP
  have hl := lv_entry ([.ref (xa 7)]) (n := 1) (Nat.le_of_ble_eq_true rfl)
  rw [lg_entry_eq]
  generalize (lg_sl ([.ref (xa 7)]) ++ List.replicate (1 - (lg_sl ([.ref (xa 7)])).length) Slot.unset).toArray = ls at hl ⊢
  have hl : lv_has ls 1 [(0, .ref (xa 7))] := hl
  have loop_n9_0_48 : ∀ (n9_0_48 : Nat) (i47 : Nat), i47 ≤ (tk_length + tk_next) → (tk_length + tk_next) < i47 + n9_0_48 → ∀ (H : Heap) (locs : List Loc) (ls : Array Slot), va_P D vwCl [(xa 7, .inr (7, [.ref (xa 1), .int (nI tk_length), .int (nI i47), .int tk_kind, .int tk_start, .int tk_number, .long tk_name, .int tk_taken, .int tk_fault, .int tk_place])), (xa 1, .inl (kc 0, 900, .inl tape))] H → va_D A [(xa 7, .inr (7, [.ref (xa 1), .int (nI tk_length), .int (nI i47), .int tk_kind, .int tk_start, .int tk_number, .long tk_name, .int tk_taken, .int tk_fault, .int tk_place])), (xa 1, .inl (kc 0, 900, .inl tape))] → va_S A s.heap H locs → lv_has ls 1 [(0, .ref (xa 7))] → W p l e (headSpec vs_advance ({ frames := 7, cells := 0, slots := 0, locals := 226 })).room s m [.ref (xa 7)].toArray below meth c H locs 0 0 (MQ below (va_Qv (fun (_ : Unit) => True) (fun (_ : Unit) (t9 : State) => ∃ tk_next_n : Nat, ∃ tk_kind_n : Int32, ∃ tk_start_n : Int32, ∃ tk_number_n : Int32, ∃ tk_name_n : Int64, tk_next_n ≤ 900 ∧ va_P D vwCl [(xa 7, .inr (7, [.ref (xa 1), .int (nI tk_length), .int (nI tk_next_n), .int tk_kind_n, .int tk_start_n, .int tk_number_n, .long tk_name_n, .int tk_taken, .int tk_fault, .int tk_place])), (xa 1, .inl (kc 0, 900, .inl tape))] t9.heap ∧ va_D A [(xa 7, .inr (7, [.ref (xa 1), .int (nI tk_length), .int (nI tk_next_n), .int tk_kind_n, .int tk_start_n, .int tk_number_n, .long tk_name_n, .int tk_taken, .int tk_fault, .int tk_place])), (xa 1, .inl (kc 0, 900, .inl tape))]) A) [.ref (xa 7)].toArray s 0 0 A) (F0 m 0 ls []) := by
    intro n9_0_48
    induction n9_0_48 with
    | zero => intro i47   h1 h2; exact absurd h2 (by omega)
    | succ n9_0_48 ih_n9_0_48 =>
      intro i47   h1_n9_0_48 h2_n9_0_48 H locs ls hP hD hS hl
      refine lv_aload_n hx hb dX7_advance_0 rfl (lv_at hl 0 rfl) ?_
      refine va_get (D := D) (ci := 7) (v := .int (nI i47)) (C := RX7) (T := TX7) (N := 10) hx hb hts is_advance_X7 hown hK hP 0 rfl rfl 2 (by decide) (hts (.fieldLink RX7 28 "SaltStreet$Tokens" "next" "I") (List.mem_of_getElem? (i := 1) rfl)) (fun _ h9 => h9) rfl dX7_advance_1 ?_
      refine lv_aload_n hx hb dX7_advance_4 rfl (lv_at hl 0 rfl) ?_
      refine va_get (D := D) (ci := 7) (v := .int (nI tk_length)) (C := RX7) (T := TX7) (N := 10) hx hb hts is_advance_X7 hown hK hP 0 rfl rfl 1 (by decide) (hts (.fieldLink RX7 25 "SaltStreet$Tokens" "length" "I") (List.mem_of_getElem? (i := 2) rfl)) (fun _ h9 => h9) rfl dX7_advance_5 ?_
      refine lv_icmp_ge (tgt := 52) hx hb dX7_advance_8 (by decide) (fun c49 => ?_) (fun c49 => ?_)
      · have nc49 := (nI_leI (a := tk_length) (b := i47) (by omega) (by omega)).mp c49
        refine lv_aload_n hx hb dX7_advance_52 rfl (lv_at hl 0 rfl) ?_
        refine lv_aload_n hx hb dX7_advance_53 rfl (lv_at hl 0 rfl) ?_
        refine va_get (D := D) (ci := 7) (v := .int (nI i47)) (C := RX7) (T := TX7) (N := 10) hx hb hts is_advance_X7 hown hK hP 0 rfl rfl 2 (by decide) (hts (.fieldLink RX7 28 "SaltStreet$Tokens" "next" "I") (List.mem_of_getElem? (i := 1) rfl)) (fun _ h9 => h9) rfl dX7_advance_54 ?_
        refine va_put (D := D) (ci := 7) (v := .int (nI i47)) (ty := .int) (C := RX7) (T := TX7) (N := 10) hx hb hts is_advance_X7 tyX7 tyX7_ok nmX7 hown hK hP hD hS 0 rfl rfl 4 (by decide) (hts (.fieldLink RX7 37 "SaltStreet$Tokens" "start" "I") (List.mem_of_getElem? (i := 3) rfl)) (fun _ h9 => h9) rfl (by decide +kernel) rfl rfl (Nat.le_of_ble_eq_true rfl) dX7_advance_57 (fun H locs hP hD hS => ?_)
        have hP : va_P D vwCl [(xa 7, .inr (7, [.ref (xa 1), .int (nI tk_length), .int (nI i47), .int tk_kind, .int (nI i47), .int tk_number, .long tk_name, .int tk_taken, .int tk_fault, .int tk_place])), (xa 1, .inl (kc 0, 900, .inl tape))] H := hP
        have hD : va_D A [(xa 7, .inr (7, [.ref (xa 1), .int (nI tk_length), .int (nI i47), .int tk_kind, .int (nI i47), .int tk_number, .long tk_name, .int tk_taken, .int tk_fault, .int tk_place])), (xa 1, .inl (kc 0, 900, .inl tape))] := hD
        refine lv_aload_n hx hb dX7_advance_60 rfl (lv_at hl 0 rfl) ?_
        refine va_get (D := D) (ci := 7) (v := .int (nI i47)) (C := RX7) (T := TX7) (N := 10) hx hb hts is_advance_X7 hown hK hP 0 rfl rfl 2 (by decide) (hts (.fieldLink RX7 28 "SaltStreet$Tokens" "next" "I") (List.mem_of_getElem? (i := 1) rfl)) (fun _ h9 => h9) rfl dX7_advance_61 ?_
        refine lv_aload_n hx hb dX7_advance_64 rfl (lv_at hl 0 rfl) ?_
        refine va_get (D := D) (ci := 7) (v := .int (nI tk_length)) (C := RX7) (T := TX7) (N := 10) hx hb hts is_advance_X7 hown hK hP 0 rfl rfl 1 (by decide) (hts (.fieldLink RX7 25 "SaltStreet$Tokens" "length" "I") (List.mem_of_getElem? (i := 2) rfl)) (fun _ h9 => h9) rfl dX7_advance_65 ?_
        refine lv_icmp_lt (tgt := 79) hx hb dX7_advance_68 (by decide) (fun c50 => ?_) (fun c50 => ?_)
        · have nc50 := (nI_ltI (a := i47) (b := tk_length) (by omega) (by omega)).mp c50
          refine lv_aload_n hx hb dX7_advance_79 rfl (lv_at hl 0 rfl) ?_
          refine va_get (D := D) (ci := 7) (v := .ref (xa 1)) (C := RX7) (T := TX7) (N := 10) hx hb hts is_advance_X7 hown hK hP 0 rfl rfl 0 (by decide) (hts (.fieldLink RX7 15 "SaltStreet$Tokens" "text" "[I") (List.mem_of_getElem? (i := 4) rfl)) (fun _ h9 => h9) rfl dX7_advance_80 ?_
          refine lv_aload_n hx hb dX7_advance_83 rfl (lv_at hl 0 rfl) ?_
          refine va_get (D := D) (ci := 7) (v := .int (nI i47)) (C := RX7) (T := TX7) (N := 10) hx hb hts is_advance_X7 hown hK hP 0 rfl rfl 2 (by decide) (hts (.fieldLink RX7 28 "SaltStreet$Tokens" "next" "I") (List.mem_of_getElem? (i := 1) rfl)) (fun _ h9 => h9) rfl dX7_advance_84 ?_
          refine va_iald hx hb hK hP 1 0 (f := tape) rfl rfl (vp_in_nI (by omega) (by decide)) dX7_advance_87 ?_
          refine lv_topi (fun z51 _ => ?_)
          have hPc := hP.sub (ws' := []) [] rfl
          have hDc := hD.sub (ws' := []) [] (by decide) rfl
          have hFc := va_free (wc := []) hD hS hA [] rfl
          refine va_calli (va_runS (As := [.int z51]) (rest := []) ⟨hx, hb, hml, hown, hts⟩ (s_isLetter l D kc H.size z51) (va_cwS 1 hts gs_advance_43_s_isLetter rfl rfl rfl (by decide +kernel) ⟨Nat.le_of_ble_eq_true rfl, Nat.le_of_ble_eq_true rfl⟩) (preS_ok hPc hDc hE) rfl rfl hl.1 rfl (lv_room (Nat.le_of_ble_eq_true rfl)) dX7_advance_88 ⟨Nat.le_of_ble_eq_true rfl, Nat.le_of_ble_eq_true rfl⟩) hS (fun q _ h => hFc q h) hFc (fun r52 u9 t9 H locs ht hvm hw hB hz1 hk1 hS => ?_)
          obtain ⟨hP1, hD1⟩ := hB
          rw [ht] at hP1
          obtain ⟨hP, hD⟩ := va_join (wr := [(xa 7, .inr (7, [.ref (xa 1), .int (nI tk_length), .int (nI i47), .int tk_kind, .int (nI i47), .int tk_number, .long tk_name, .int tk_taken, .int tk_fault, .int tk_place])), (xa 1, .inl (kc 0, 900, .inl tape))]) (w1 := []) hP hD [] [0, 1] rfl rfl (by decide) (by decide) hk1 hFc hP1 hD1
          have hP : va_P D vwCl [(xa 7, .inr (7, [.ref (xa 1), .int (nI tk_length), .int (nI i47), .int tk_kind, .int (nI i47), .int tk_number, .long tk_name, .int tk_taken, .int tk_fault, .int tk_place])), (xa 1, .inl (kc 0, 900, .inl tape))] H := hP
          have hD : va_D A [(xa 7, .inr (7, [.ref (xa 1), .int (nI tk_length), .int (nI i47), .int tk_kind, .int (nI i47), .int tk_number, .long tk_name, .int tk_taken, .int tk_fault, .int tk_place])), (xa 1, .inl (kc 0, 900, .inl tape))] := hD
          have h_r52 := hw
          refine lv_if_eq (tgt := 130) hx hb dX7_advance_91 (by decide) (fun c53 => ?_) (fun c53 => ?_)
          · refine lv_aload_n hx hb dX7_advance_130 rfl (lv_at hl 0 rfl) ?_
            refine va_get (D := D) (ci := 7) (v := .ref (xa 1)) (C := RX7) (T := TX7) (N := 10) hx hb hts is_advance_X7 hown hK hP 0 rfl rfl 0 (by decide) (hts (.fieldLink RX7 15 "SaltStreet$Tokens" "text" "[I") (List.mem_of_getElem? (i := 4) rfl)) (fun _ h9 => h9) rfl dX7_advance_131 ?_
            refine lv_aload_n hx hb dX7_advance_134 rfl (lv_at hl 0 rfl) ?_
            refine va_get (D := D) (ci := 7) (v := .int (nI i47)) (C := RX7) (T := TX7) (N := 10) hx hb hts is_advance_X7 hown hK hP 0 rfl rfl 2 (by decide) (hts (.fieldLink RX7 28 "SaltStreet$Tokens" "next" "I") (List.mem_of_getElem? (i := 1) rfl)) (fun _ h9 => h9) rfl dX7_advance_135 ?_
            refine va_iald hx hb hK hP 1 0 (f := tape) rfl rfl (vp_in_nI (by omega) (by decide)) dX7_advance_138 ?_
            refine lv_topi (fun z54 _ => ?_)
            have hPc := hP.sub (ws' := []) [] rfl
            have hDc := hD.sub (ws' := []) [] (by decide) rfl
            have hFc := va_free (wc := []) hD hS hA [] rfl
            refine va_calli (va_runS (As := [.int z54]) (rest := []) ⟨hx, hb, hml, hown, hts⟩ (s_isDigit l D kc H.size z54) (va_cwS 1 hts gs_advance_58_s_isDigit rfl rfl rfl (by decide +kernel) ⟨Nat.le_of_ble_eq_true rfl, Nat.le_of_ble_eq_true rfl⟩) (preS_ok hPc hDc hE) rfl rfl hl.1 rfl (lv_room (Nat.le_of_ble_eq_true rfl)) dX7_advance_139 ⟨Nat.le_of_ble_eq_true rfl, Nat.le_of_ble_eq_true rfl⟩) hS (fun q _ h => hFc q h) hFc (fun r55 u9 t9 H locs ht hvm hw hB hz1 hk1 hS => ?_)
            obtain ⟨hP1, hD1⟩ := hB
            rw [ht] at hP1
            obtain ⟨hP, hD⟩ := va_join (wr := [(xa 7, .inr (7, [.ref (xa 1), .int (nI tk_length), .int (nI i47), .int tk_kind, .int (nI i47), .int tk_number, .long tk_name, .int tk_taken, .int tk_fault, .int tk_place])), (xa 1, .inl (kc 0, 900, .inl tape))]) (w1 := []) hP hD [] [0, 1] rfl rfl (by decide) (by decide) hk1 hFc hP1 hD1
            have hP : va_P D vwCl [(xa 7, .inr (7, [.ref (xa 1), .int (nI tk_length), .int (nI i47), .int tk_kind, .int (nI i47), .int tk_number, .long tk_name, .int tk_taken, .int tk_fault, .int tk_place])), (xa 1, .inl (kc 0, 900, .inl tape))] H := hP
            have hD : va_D A [(xa 7, .inr (7, [.ref (xa 1), .int (nI tk_length), .int (nI i47), .int tk_kind, .int (nI i47), .int tk_number, .long tk_name, .int tk_taken, .int tk_fault, .int tk_place])), (xa 1, .inl (kc 0, 900, .inl tape))] := hD
            have h_r55 := hw
            refine lv_if_eq (tgt := 152) hx hb dX7_advance_142 (by decide) (fun c56 => ?_) (fun c56 => ?_)
            · refine lv_aload_n hx hb dX7_advance_152 rfl (lv_at hl 0 rfl) ?_
              have hPc := hP.sub (ws' := [(xa 7, .inr (7, [.ref (xa 1), .int (nI tk_length), .int (nI i47), .int tk_kind, .int (nI i47), .int tk_number, .long tk_name, .int tk_taken, .int tk_fault, .int tk_place])), (xa 1, .inl (kc 0, 900, .inl tape))]) [0, 1] rfl
              have hDc := hD.sub (ws' := [(xa 7, .inr (7, [.ref (xa 1), .int (nI tk_length), .int (nI i47), .int tk_kind, .int (nI i47), .int tk_number, .long tk_name, .int tk_taken, .int tk_fault, .int tk_place])), (xa 1, .inl (kc 0, 900, .inl tape))]) [0, 1] (by decide) rfl
              have hFc := va_free (wc := [(xa 7, .inr (7, [.ref (xa 1), .int (nI tk_length), .int (nI i47), .int tk_kind, .int (nI i47), .int tk_number, .long tk_name, .int tk_taken, .int tk_fault, .int tk_place])), (xa 1, .inl (kc 0, 900, .inl tape))]) hD hS hA [0, 1] rfl
              refine va_callv (va_runV (As := []) (rest := []) ⟨hx, hb, hml, hown, hts⟩ (s_cutSign l D kc H.size xa tk_length i47 tk_kind (nI i47) tk_number tk_name tk_taken tk_fault tk_place tape (by omega) (by omega) (by first | assumption | omega | (intro h9; first | exact absurd h9 (by decide) | omega | (have h8 := hs h9; omega)))) (cwV 0 hts gs_advance_64_s_cutSign rfl rfl rfl (by decide +kernel) ⟨Nat.le_of_ble_eq_true rfl, Nat.le_of_ble_eq_true rfl⟩) (preV_ok hPc hDc hE (ci := 7) (q0 := 0) rfl rfl) rfl rfl hl.1 rfl (lv_room (Nat.le_of_ble_eq_true rfl)) dX7_advance_153 ⟨Nat.le_of_ble_eq_true rfl, Nat.le_of_ble_eq_true rfl⟩) hS (fun q _ h => hFc q h) hFc (fun u9 t9 H locs ht hvm hw hB hz1 hk1 hS => ?_)
              obtain ⟨k58, z59, h_k58, hP1, hD1⟩ := hB
              rw [ht] at hP1
              obtain ⟨hP, hD⟩ := va_join (wr := []) (w1 := [(xa 7, .inr (7, [.ref (xa 1), .int (nI tk_length), .int (nI k58), .int z59, .int (nI i47), .int tk_number, .long tk_name, .int tk_taken, .int tk_fault, .int tk_place])), (xa 1, .inl (kc 0, 900, .inl tape))]) hP hD [0, 1] [] rfl rfl (by decide) (by decide) hk1 hFc hP1 hD1
              have hP : va_P D vwCl [(xa 7, .inr (7, [.ref (xa 1), .int (nI tk_length), .int (nI k58), .int z59, .int (nI i47), .int tk_number, .long tk_name, .int tk_taken, .int tk_fault, .int tk_place])), (xa 1, .inl (kc 0, 900, .inl tape))] H := hP
              have hD : va_D A [(xa 7, .inr (7, [.ref (xa 1), .int (nI tk_length), .int (nI k58), .int z59, .int (nI i47), .int tk_number, .long tk_name, .int tk_taken, .int tk_fault, .int tk_place])), (xa 1, .inl (kc 0, 900, .inl tape))] := hD
              have hP9 := hP.sub (ws' := [(xa 7, .inr (7, [.ref (xa 1), .int (nI tk_length), .int (nI k58), .int z59, .int (nI i47), .int tk_number, .long tk_name, .int tk_taken, .int tk_fault, .int tk_place])), (xa 1, .inl (kc 0, 900, .inl tape))]) [0, 1] rfl
              have hD9 := hD.sub (ws' := [(xa 7, .inr (7, [.ref (xa 1), .int (nI tk_length), .int (nI k58), .int z59, .int (nI i47), .int tk_number, .long tk_name, .int tk_taken, .int tk_fault, .int tk_place])), (xa 1, .inl (kc 0, 900, .inl tape))]) [0, 1] (by decide) rfl
              exact W.vret hx hb hr (fun t9 ht hW => ⟨⟨(), rfl, trivial, k58, z59, (nI i47), tk_number, tk_name, by omega, by rw [ht]; exact hP9, hD9⟩, hS.F ht⟩) hS.2.2 dX7_advance_156
            · refine lv_aload_n hx hb dX7_advance_145 rfl (lv_at hl 0 rfl) ?_
              have hPc := hP.sub (ws' := [(xa 7, .inr (7, [.ref (xa 1), .int (nI tk_length), .int (nI i47), .int tk_kind, .int (nI i47), .int tk_number, .long tk_name, .int tk_taken, .int tk_fault, .int tk_place])), (xa 1, .inl (kc 0, 900, .inl tape))]) [0, 1] rfl
              have hDc := hD.sub (ws' := [(xa 7, .inr (7, [.ref (xa 1), .int (nI tk_length), .int (nI i47), .int tk_kind, .int (nI i47), .int tk_number, .long tk_name, .int tk_taken, .int tk_fault, .int tk_place])), (xa 1, .inl (kc 0, 900, .inl tape))]) [0, 1] (by decide) rfl
              have hFc := va_free (wc := [(xa 7, .inr (7, [.ref (xa 1), .int (nI tk_length), .int (nI i47), .int tk_kind, .int (nI i47), .int tk_number, .long tk_name, .int tk_taken, .int tk_fault, .int tk_place])), (xa 1, .inl (kc 0, 900, .inl tape))]) hD hS hA [0, 1] rfl
              refine va_callv (va_runV (As := []) (rest := []) ⟨hx, hb, hml, hown, hts⟩ (s_cutNumber l D kc H.size xa tk_length i47 tk_kind (nI i47) tk_number tk_name tk_taken tk_fault tk_place tape (by omega) (by omega)) (cwV 0 hts gs_advance_61_s_cutNumber rfl rfl rfl (by decide +kernel) ⟨Nat.le_of_ble_eq_true rfl, Nat.le_of_ble_eq_true rfl⟩) (preV_ok hPc hDc hE (ci := 7) (q0 := 0) rfl rfl) rfl rfl hl.1 rfl (lv_room (Nat.le_of_ble_eq_true rfl)) dX7_advance_146 ⟨Nat.le_of_ble_eq_true rfl, Nat.le_of_ble_eq_true rfl⟩) hS (fun q _ h => hFc q h) hFc (fun u9 t9 H locs ht hvm hw hB hz1 hk1 hS => ?_)
              obtain ⟨k61, z62, z63, h_k61, hP1, hD1⟩ := hB
              rw [ht] at hP1
              obtain ⟨hP, hD⟩ := va_join (wr := []) (w1 := [(xa 7, .inr (7, [.ref (xa 1), .int (nI tk_length), .int (nI k61), .int z62, .int (nI i47), .int z63, .long tk_name, .int tk_taken, .int tk_fault, .int tk_place])), (xa 1, .inl (kc 0, 900, .inl tape))]) hP hD [0, 1] [] rfl rfl (by decide) (by decide) hk1 hFc hP1 hD1
              have hP : va_P D vwCl [(xa 7, .inr (7, [.ref (xa 1), .int (nI tk_length), .int (nI k61), .int z62, .int (nI i47), .int z63, .long tk_name, .int tk_taken, .int tk_fault, .int tk_place])), (xa 1, .inl (kc 0, 900, .inl tape))] H := hP
              have hD : va_D A [(xa 7, .inr (7, [.ref (xa 1), .int (nI tk_length), .int (nI k61), .int z62, .int (nI i47), .int z63, .long tk_name, .int tk_taken, .int tk_fault, .int tk_place])), (xa 1, .inl (kc 0, 900, .inl tape))] := hD
              refine lv_goto (tgt := 156) hx hb dX7_advance_149 (by decide) ?_
              have hP9 := hP.sub (ws' := [(xa 7, .inr (7, [.ref (xa 1), .int (nI tk_length), .int (nI k61), .int z62, .int (nI i47), .int z63, .long tk_name, .int tk_taken, .int tk_fault, .int tk_place])), (xa 1, .inl (kc 0, 900, .inl tape))]) [0, 1] rfl
              have hD9 := hD.sub (ws' := [(xa 7, .inr (7, [.ref (xa 1), .int (nI tk_length), .int (nI k61), .int z62, .int (nI i47), .int z63, .long tk_name, .int tk_taken, .int tk_fault, .int tk_place])), (xa 1, .inl (kc 0, 900, .inl tape))]) [0, 1] (by decide) rfl
              exact W.vret hx hb hr (fun t9 ht hW => ⟨⟨(), rfl, trivial, k61, z62, (nI i47), z63, tk_name, by omega, by rw [ht]; exact hP9, hD9⟩, hS.F ht⟩) hS.2.2 dX7_advance_156
          · refine lv_aload_n hx hb dX7_advance_94 rfl (lv_at hl 0 rfl) ?_
            have hPc := hP.sub (ws' := [(xa 7, .inr (7, [.ref (xa 1), .int (nI tk_length), .int (nI i47), .int tk_kind, .int (nI i47), .int tk_number, .long tk_name, .int tk_taken, .int tk_fault, .int tk_place])), (xa 1, .inl (kc 0, 900, .inl tape))]) [0, 1] rfl
            have hDc := hD.sub (ws' := [(xa 7, .inr (7, [.ref (xa 1), .int (nI tk_length), .int (nI i47), .int tk_kind, .int (nI i47), .int tk_number, .long tk_name, .int tk_taken, .int tk_fault, .int tk_place])), (xa 1, .inl (kc 0, 900, .inl tape))]) [0, 1] (by decide) rfl
            have hFc := va_free (wc := [(xa 7, .inr (7, [.ref (xa 1), .int (nI tk_length), .int (nI i47), .int tk_kind, .int (nI i47), .int tk_number, .long tk_name, .int tk_taken, .int tk_fault, .int tk_place])), (xa 1, .inl (kc 0, 900, .inl tape))]) hD hS hA [0, 1] rfl
            refine va_callv (va_runV (As := []) (rest := []) ⟨hx, hb, hml, hown, hts⟩ (s_cutWord l D kc H.size xa tk_length i47 tk_kind (nI i47) tk_number tk_name tk_taken tk_fault tk_place tape (by omega) (by omega)) (cwV 0 hts gs_advance_47_s_cutWord rfl rfl rfl (by decide +kernel) ⟨Nat.le_of_ble_eq_true rfl, Nat.le_of_ble_eq_true rfl⟩) (preV_ok hPc hDc hE (ci := 7) (q0 := 0) rfl rfl) rfl rfl hl.1 rfl (lv_room (Nat.le_of_ble_eq_true rfl)) dX7_advance_95 ⟨Nat.le_of_ble_eq_true rfl, Nat.le_of_ble_eq_true rfl⟩) hS (fun q _ h => hFc q h) hFc (fun u9 t9 H locs ht hvm hw hB hz1 hk1 hS => ?_)
            obtain ⟨k65, y66, h_k65, hP1, hD1⟩ := hB
            rw [ht] at hP1
            obtain ⟨hP, hD⟩ := va_join (wr := []) (w1 := [(xa 7, .inr (7, [.ref (xa 1), .int (nI tk_length), .int (nI k65), .int tk_kind, .int (nI i47), .int tk_number, .long y66, .int tk_taken, .int tk_fault, .int tk_place])), (xa 1, .inl (kc 0, 900, .inl tape))]) hP hD [0, 1] [] rfl rfl (by decide) (by decide) hk1 hFc hP1 hD1
            have hP : va_P D vwCl [(xa 7, .inr (7, [.ref (xa 1), .int (nI tk_length), .int (nI k65), .int tk_kind, .int (nI i47), .int tk_number, .long y66, .int tk_taken, .int tk_fault, .int tk_place])), (xa 1, .inl (kc 0, 900, .inl tape))] H := hP
            have hD : va_D A [(xa 7, .inr (7, [.ref (xa 1), .int (nI tk_length), .int (nI k65), .int tk_kind, .int (nI i47), .int tk_number, .long y66, .int tk_taken, .int tk_fault, .int tk_place])), (xa 1, .inl (kc 0, 900, .inl tape))] := hD
            refine lv_aload_n hx hb dX7_advance_98 rfl (lv_at hl 0 rfl) ?_
            refine lv_aload_n hx hb dX7_advance_99 rfl (lv_at hl 0 rfl) ?_
            refine va_get (D := D) (ci := 7) (v := .int (nI k65)) (C := RX7) (T := TX7) (N := 10) hx hb hts is_advance_X7 hown hK hP 0 rfl rfl 2 (by decide) (hts (.fieldLink RX7 28 "SaltStreet$Tokens" "next" "I") (List.mem_of_getElem? (i := 1) rfl)) (fun _ h9 => h9) rfl dX7_advance_100 ?_
            refine lv_aload_n hx hb dX7_advance_103 rfl (lv_at hl 0 rfl) ?_
            refine va_get (D := D) (ci := 7) (v := .int (nI i47)) (C := RX7) (T := TX7) (N := 10) hx hb hts is_advance_X7 hown hK hP 0 rfl rfl 4 (by decide) (hts (.fieldLink RX7 37 "SaltStreet$Tokens" "start" "I") (List.mem_of_getElem? (i := 3) rfl)) (fun _ h9 => h9) rfl dX7_advance_104 ?_
            refine lv_isub hx hb dX7_advance_107 ?_
            refine lv_topi (fun z67 _ => ?_)
            refine lv_bipush (v := 8) hx hb dX7_advance_108 (by decide) ?_
            refine lv_icmp_le (tgt := 117) hx hb dX7_advance_110 (by decide) (fun c68 => ?_) (fun c68 => ?_)
            · refine lv_aload_n hx hb dX7_advance_117 rfl (lv_at hl 0 rfl) ?_
              refine va_get (D := D) (ci := 7) (v := .long y66) (C := RX7) (T := TX7) (N := 10) hx hb hts is_advance_X7 hown hK hP 0 rfl rfl 6 (by decide) (hts (.fieldLink RX7 50 "SaltStreet$Tokens" "name" "J") (List.mem_of_getElem? (i := 24) rfl)) (fun _ h9 => h9) rfl dX7_advance_118 ?_
              have hPc := hP.sub (ws' := []) [] rfl
              have hDc := hD.sub (ws' := []) [] (by decide) rfl
              have hFc := va_free (wc := []) hD hS hA [] rfl
              refine va_calli (va_runS (As := [.long y66]) (rest := [.ref (xa 7)]) ⟨hx, hb, hml, hown, hts⟩ (s_kindOfWord l D kc H.size y66) (va_cwS 1 hts gs_advance_54_s_kindOfWord rfl rfl rfl (by decide +kernel) ⟨Nat.le_of_ble_eq_true rfl, Nat.le_of_ble_eq_true rfl⟩) (preS_ok hPc hDc hE) rfl rfl hl.1 rfl (lv_room (Nat.le_of_ble_eq_true rfl)) dX7_advance_121 ⟨Nat.le_of_ble_eq_true rfl, Nat.le_of_ble_eq_true rfl⟩) hS (fun q _ h => hFc q h) hFc (fun r69 u9 t9 H locs ht hvm hw hB hz1 hk1 hS => ?_)
              obtain ⟨hP1, hD1⟩ := hB
              rw [ht] at hP1
              obtain ⟨hP, hD⟩ := va_join (wr := [(xa 7, .inr (7, [.ref (xa 1), .int (nI tk_length), .int (nI k65), .int tk_kind, .int (nI i47), .int tk_number, .long y66, .int tk_taken, .int tk_fault, .int tk_place])), (xa 1, .inl (kc 0, 900, .inl tape))]) (w1 := []) hP hD [] [0, 1] rfl rfl (by decide) (by decide) hk1 hFc hP1 hD1
              have hP : va_P D vwCl [(xa 7, .inr (7, [.ref (xa 1), .int (nI tk_length), .int (nI k65), .int tk_kind, .int (nI i47), .int tk_number, .long y66, .int tk_taken, .int tk_fault, .int tk_place])), (xa 1, .inl (kc 0, 900, .inl tape))] H := hP
              have hD : va_D A [(xa 7, .inr (7, [.ref (xa 1), .int (nI tk_length), .int (nI k65), .int tk_kind, .int (nI i47), .int tk_number, .long y66, .int tk_taken, .int tk_fault, .int tk_place])), (xa 1, .inl (kc 0, 900, .inl tape))] := hD
              refine va_put (D := D) (ci := 7) (v := .int r69) (ty := .int) (C := RX7) (T := TX7) (N := 10) hx hb hts is_advance_X7 tyX7 tyX7_ok nmX7 hown hK hP hD hS 0 rfl rfl 3 (by decide) (hts (.fieldLink RX7 40 "SaltStreet$Tokens" "kind" "I") (List.mem_of_getElem? (i := 14) rfl)) (fun _ h9 => h9) rfl (by decide +kernel) rfl rfl (Nat.le_of_ble_eq_true rfl) dX7_advance_124 (fun H locs hP hD hS => ?_)
              have hP : va_P D vwCl [(xa 7, .inr (7, [.ref (xa 1), .int (nI tk_length), .int (nI k65), .int r69, .int (nI i47), .int tk_number, .long y66, .int tk_taken, .int tk_fault, .int tk_place])), (xa 1, .inl (kc 0, 900, .inl tape))] H := hP
              have hD : va_D A [(xa 7, .inr (7, [.ref (xa 1), .int (nI tk_length), .int (nI k65), .int r69, .int (nI i47), .int tk_number, .long y66, .int tk_taken, .int tk_fault, .int tk_place])), (xa 1, .inl (kc 0, 900, .inl tape))] := hD
              refine lv_goto (tgt := 156) hx hb dX7_advance_127 (by decide) ?_
              have hP9 := hP.sub (ws' := [(xa 7, .inr (7, [.ref (xa 1), .int (nI tk_length), .int (nI k65), .int r69, .int (nI i47), .int tk_number, .long y66, .int tk_taken, .int tk_fault, .int tk_place])), (xa 1, .inl (kc 0, 900, .inl tape))]) [0, 1] rfl
              have hD9 := hD.sub (ws' := [(xa 7, .inr (7, [.ref (xa 1), .int (nI tk_length), .int (nI k65), .int r69, .int (nI i47), .int tk_number, .long y66, .int tk_taken, .int tk_fault, .int tk_place])), (xa 1, .inl (kc 0, 900, .inl tape))]) [0, 1] (by decide) rfl
              exact W.vret hx hb hr (fun t9 ht hW => ⟨⟨(), rfl, trivial, k65, r69, (nI i47), tk_number, y66, by omega, by rw [ht]; exact hP9, hD9⟩, hS.F ht⟩) hS.2.2 dX7_advance_156
            · refine lv_iconst (v := 2) hx hb dX7_advance_113 (by decide) ?_
              refine lv_goto (tgt := 124) hx hb dX7_advance_114 (by decide) ?_
              refine va_put (D := D) (ci := 7) (v := .int 2) (ty := .int) (C := RX7) (T := TX7) (N := 10) hx hb hts is_advance_X7 tyX7 tyX7_ok nmX7 hown hK hP hD hS 0 rfl rfl 3 (by decide) (hts (.fieldLink RX7 40 "SaltStreet$Tokens" "kind" "I") (List.mem_of_getElem? (i := 14) rfl)) (fun _ h9 => h9) rfl (by decide +kernel) rfl rfl (Nat.le_of_ble_eq_true rfl) dX7_advance_124 (fun H locs hP hD hS => ?_)
              have hP : va_P D vwCl [(xa 7, .inr (7, [.ref (xa 1), .int (nI tk_length), .int (nI k65), .int 2, .int (nI i47), .int tk_number, .long y66, .int tk_taken, .int tk_fault, .int tk_place])), (xa 1, .inl (kc 0, 900, .inl tape))] H := hP
              have hD : va_D A [(xa 7, .inr (7, [.ref (xa 1), .int (nI tk_length), .int (nI k65), .int 2, .int (nI i47), .int tk_number, .long y66, .int tk_taken, .int tk_fault, .int tk_place])), (xa 1, .inl (kc 0, 900, .inl tape))] := hD
              refine lv_goto (tgt := 156) hx hb dX7_advance_127 (by decide) ?_
              have hP9 := hP.sub (ws' := [(xa 7, .inr (7, [.ref (xa 1), .int (nI tk_length), .int (nI k65), .int 2, .int (nI i47), .int tk_number, .long y66, .int tk_taken, .int tk_fault, .int tk_place])), (xa 1, .inl (kc 0, 900, .inl tape))]) [0, 1] rfl
              have hD9 := hD.sub (ws' := [(xa 7, .inr (7, [.ref (xa 1), .int (nI tk_length), .int (nI k65), .int 2, .int (nI i47), .int tk_number, .long y66, .int tk_taken, .int tk_fault, .int tk_place])), (xa 1, .inl (kc 0, 900, .inl tape))]) [0, 1] (by decide) rfl
              exact W.vret hx hb hr (fun t9 ht hW => ⟨⟨(), rfl, trivial, k65, 2, (nI i47), tk_number, y66, by omega, by rw [ht]; exact hP9, hD9⟩, hS.F ht⟩) hS.2.2 dX7_advance_156
        · have nc50 := Nat.not_lt.mp (fun q => c50 ((nI_ltI (a := i47) (b := tk_length) (by omega) (by omega)).mpr q))
          refine lv_aload_n hx hb dX7_advance_71 rfl (lv_at hl 0 rfl) ?_
          refine lv_iconst (v := 0) hx hb dX7_advance_72 (by decide) ?_
          refine va_put (D := D) (ci := 7) (v := .int 0) (ty := .int) (C := RX7) (T := TX7) (N := 10) hx hb hts is_advance_X7 tyX7 tyX7_ok nmX7 hown hK hP hD hS 0 rfl rfl 3 (by decide) (hts (.fieldLink RX7 40 "SaltStreet$Tokens" "kind" "I") (List.mem_of_getElem? (i := 14) rfl)) (fun _ h9 => h9) rfl (by decide +kernel) rfl rfl (Nat.le_of_ble_eq_true rfl) dX7_advance_73 (fun H locs hP hD hS => ?_)
          have hP : va_P D vwCl [(xa 7, .inr (7, [.ref (xa 1), .int (nI tk_length), .int (nI i47), .int 0, .int (nI i47), .int tk_number, .long tk_name, .int tk_taken, .int tk_fault, .int tk_place])), (xa 1, .inl (kc 0, 900, .inl tape))] H := hP
          have hD : va_D A [(xa 7, .inr (7, [.ref (xa 1), .int (nI tk_length), .int (nI i47), .int 0, .int (nI i47), .int tk_number, .long tk_name, .int tk_taken, .int tk_fault, .int tk_place])), (xa 1, .inl (kc 0, 900, .inl tape))] := hD
          refine lv_goto (tgt := 156) hx hb dX7_advance_76 (by decide) ?_
          have hP9 := hP.sub (ws' := [(xa 7, .inr (7, [.ref (xa 1), .int (nI tk_length), .int (nI i47), .int 0, .int (nI i47), .int tk_number, .long tk_name, .int tk_taken, .int tk_fault, .int tk_place])), (xa 1, .inl (kc 0, 900, .inl tape))]) [0, 1] rfl
          have hD9 := hD.sub (ws' := [(xa 7, .inr (7, [.ref (xa 1), .int (nI tk_length), .int (nI i47), .int 0, .int (nI i47), .int tk_number, .long tk_name, .int tk_taken, .int tk_fault, .int tk_place])), (xa 1, .inl (kc 0, 900, .inl tape))]) [0, 1] (by decide) rfl
          exact W.vret hx hb hr (fun t9 ht hW => ⟨⟨(), rfl, trivial, i47, 0, (nI i47), tk_number, tk_name, by omega, by rw [ht]; exact hP9, hD9⟩, hS.F ht⟩) hS.2.2 dX7_advance_156
      · have nc49 := Nat.not_le.mp (fun q => c49 ((nI_leI (a := tk_length) (b := i47) (by omega) (by omega)).mpr q))
        refine lv_aload_n hx hb dX7_advance_11 rfl (lv_at hl 0 rfl) ?_
        refine va_get (D := D) (ci := 7) (v := .ref (xa 1)) (C := RX7) (T := TX7) (N := 10) hx hb hts is_advance_X7 hown hK hP 0 rfl rfl 0 (by decide) (hts (.fieldLink RX7 15 "SaltStreet$Tokens" "text" "[I") (List.mem_of_getElem? (i := 4) rfl)) (fun _ h9 => h9) rfl dX7_advance_12 ?_
        refine lv_aload_n hx hb dX7_advance_15 rfl (lv_at hl 0 rfl) ?_
        refine va_get (D := D) (ci := 7) (v := .int (nI i47)) (C := RX7) (T := TX7) (N := 10) hx hb hts is_advance_X7 hown hK hP 0 rfl rfl 2 (by decide) (hts (.fieldLink RX7 28 "SaltStreet$Tokens" "next" "I") (List.mem_of_getElem? (i := 1) rfl)) (fun _ h9 => h9) rfl dX7_advance_16 ?_
        refine va_iald hx hb hK hP 1 0 (f := tape) rfl rfl (vp_in_nI (by omega) (by decide)) dX7_advance_19 ?_
        refine lv_topi (fun z70 _ => ?_)
        refine lv_bipush (v := 32) hx hb dX7_advance_20 (by decide) ?_
        refine lv_icmp_eq (tgt := 39) hx hb dX7_advance_22 (by decide) (fun c71 => ?_) (fun c71 => ?_)
        · refine lv_aload_n hx hb dX7_advance_39 rfl (lv_at hl 0 rfl) ?_
          refine lv_dup hx hb dX7_advance_40 rfl ?_
          refine va_get (D := D) (ci := 7) (v := .int (nI i47)) (C := RX7) (T := TX7) (N := 10) hx hb hts is_advance_X7 hown hK hP 0 rfl rfl 2 (by decide) (hts (.fieldLink RX7 28 "SaltStreet$Tokens" "next" "I") (List.mem_of_getElem? (i := 1) rfl)) (fun _ h9 => h9) rfl dX7_advance_41 ?_
          refine lv_iconst (v := 1) hx hb dX7_advance_44 (by decide) ?_
          refine lv_iadd hx hb dX7_advance_45 ?_
          refine lv_ci (y := (nI (i47 + 1))) (nI_add _ _) ?_
          refine va_put (D := D) (ci := 7) (v := .int (nI (i47 + 1))) (ty := .int) (C := RX7) (T := TX7) (N := 10) hx hb hts is_advance_X7 tyX7 tyX7_ok nmX7 hown hK hP hD hS 0 rfl rfl 2 (by decide) (hts (.fieldLink RX7 28 "SaltStreet$Tokens" "next" "I") (List.mem_of_getElem? (i := 1) rfl)) (fun _ h9 => h9) rfl (by decide +kernel) rfl rfl (Nat.le_of_ble_eq_true rfl) dX7_advance_46 (fun H locs hP hD hS => ?_)
          have hP : va_P D vwCl [(xa 7, .inr (7, [.ref (xa 1), .int (nI tk_length), .int (nI (i47 + 1)), .int tk_kind, .int tk_start, .int tk_number, .long tk_name, .int tk_taken, .int tk_fault, .int tk_place])), (xa 1, .inl (kc 0, 900, .inl tape))] H := hP
          have hD : va_D A [(xa 7, .inr (7, [.ref (xa 1), .int (nI tk_length), .int (nI (i47 + 1)), .int tk_kind, .int tk_start, .int tk_number, .long tk_name, .int tk_taken, .int tk_fault, .int tk_place])), (xa 1, .inl (kc 0, 900, .inl tape))] := hD
          refine lv_goto (tgt := 0) hx hb dX7_advance_49 (by decide) ?_
          exact ih_n9_0_48 (i47 + 1) (by omega) (by omega) _ _ ls hP hD hS (lv_sub hl [0] rfl)
        · refine lv_aload_n hx hb dX7_advance_25 rfl (lv_at hl 0 rfl) ?_
          refine va_get (D := D) (ci := 7) (v := .ref (xa 1)) (C := RX7) (T := TX7) (N := 10) hx hb hts is_advance_X7 hown hK hP 0 rfl rfl 0 (by decide) (hts (.fieldLink RX7 15 "SaltStreet$Tokens" "text" "[I") (List.mem_of_getElem? (i := 4) rfl)) (fun _ h9 => h9) rfl dX7_advance_26 ?_
          refine lv_aload_n hx hb dX7_advance_29 rfl (lv_at hl 0 rfl) ?_
          refine va_get (D := D) (ci := 7) (v := .int (nI i47)) (C := RX7) (T := TX7) (N := 10) hx hb hts is_advance_X7 hown hK hP 0 rfl rfl 2 (by decide) (hts (.fieldLink RX7 28 "SaltStreet$Tokens" "next" "I") (List.mem_of_getElem? (i := 1) rfl)) (fun _ h9 => h9) rfl dX7_advance_30 ?_
          refine va_iald hx hb hK hP 1 0 (f := tape) rfl rfl (vp_in_nI (by omega) (by decide)) dX7_advance_33 ?_
          refine lv_topi (fun z72 _ => ?_)
          refine lv_bipush (v := 10) hx hb dX7_advance_34 (by decide) ?_
          refine lv_icmp_ne (tgt := 52) hx hb dX7_advance_36 (by decide) (fun c73 => ?_) (fun c73 => ?_)
          · refine lv_aload_n hx hb dX7_advance_52 rfl (lv_at hl 0 rfl) ?_
            refine lv_aload_n hx hb dX7_advance_53 rfl (lv_at hl 0 rfl) ?_
            refine va_get (D := D) (ci := 7) (v := .int (nI i47)) (C := RX7) (T := TX7) (N := 10) hx hb hts is_advance_X7 hown hK hP 0 rfl rfl 2 (by decide) (hts (.fieldLink RX7 28 "SaltStreet$Tokens" "next" "I") (List.mem_of_getElem? (i := 1) rfl)) (fun _ h9 => h9) rfl dX7_advance_54 ?_
            refine va_put (D := D) (ci := 7) (v := .int (nI i47)) (ty := .int) (C := RX7) (T := TX7) (N := 10) hx hb hts is_advance_X7 tyX7 tyX7_ok nmX7 hown hK hP hD hS 0 rfl rfl 4 (by decide) (hts (.fieldLink RX7 37 "SaltStreet$Tokens" "start" "I") (List.mem_of_getElem? (i := 3) rfl)) (fun _ h9 => h9) rfl (by decide +kernel) rfl rfl (Nat.le_of_ble_eq_true rfl) dX7_advance_57 (fun H locs hP hD hS => ?_)
            have hP : va_P D vwCl [(xa 7, .inr (7, [.ref (xa 1), .int (nI tk_length), .int (nI i47), .int tk_kind, .int (nI i47), .int tk_number, .long tk_name, .int tk_taken, .int tk_fault, .int tk_place])), (xa 1, .inl (kc 0, 900, .inl tape))] H := hP
            have hD : va_D A [(xa 7, .inr (7, [.ref (xa 1), .int (nI tk_length), .int (nI i47), .int tk_kind, .int (nI i47), .int tk_number, .long tk_name, .int tk_taken, .int tk_fault, .int tk_place])), (xa 1, .inl (kc 0, 900, .inl tape))] := hD
            refine lv_aload_n hx hb dX7_advance_60 rfl (lv_at hl 0 rfl) ?_
            refine va_get (D := D) (ci := 7) (v := .int (nI i47)) (C := RX7) (T := TX7) (N := 10) hx hb hts is_advance_X7 hown hK hP 0 rfl rfl 2 (by decide) (hts (.fieldLink RX7 28 "SaltStreet$Tokens" "next" "I") (List.mem_of_getElem? (i := 1) rfl)) (fun _ h9 => h9) rfl dX7_advance_61 ?_
            refine lv_aload_n hx hb dX7_advance_64 rfl (lv_at hl 0 rfl) ?_
            refine va_get (D := D) (ci := 7) (v := .int (nI tk_length)) (C := RX7) (T := TX7) (N := 10) hx hb hts is_advance_X7 hown hK hP 0 rfl rfl 1 (by decide) (hts (.fieldLink RX7 25 "SaltStreet$Tokens" "length" "I") (List.mem_of_getElem? (i := 2) rfl)) (fun _ h9 => h9) rfl dX7_advance_65 ?_
            refine lv_icmp_lt (tgt := 79) hx hb dX7_advance_68 (by decide) (fun c74 => ?_) (fun c74 => ?_)
            · have nc74 := (nI_ltI (a := i47) (b := tk_length) (by omega) (by omega)).mp c74
              refine lv_aload_n hx hb dX7_advance_79 rfl (lv_at hl 0 rfl) ?_
              refine va_get (D := D) (ci := 7) (v := .ref (xa 1)) (C := RX7) (T := TX7) (N := 10) hx hb hts is_advance_X7 hown hK hP 0 rfl rfl 0 (by decide) (hts (.fieldLink RX7 15 "SaltStreet$Tokens" "text" "[I") (List.mem_of_getElem? (i := 4) rfl)) (fun _ h9 => h9) rfl dX7_advance_80 ?_
              refine lv_aload_n hx hb dX7_advance_83 rfl (lv_at hl 0 rfl) ?_
              refine va_get (D := D) (ci := 7) (v := .int (nI i47)) (C := RX7) (T := TX7) (N := 10) hx hb hts is_advance_X7 hown hK hP 0 rfl rfl 2 (by decide) (hts (.fieldLink RX7 28 "SaltStreet$Tokens" "next" "I") (List.mem_of_getElem? (i := 1) rfl)) (fun _ h9 => h9) rfl dX7_advance_84 ?_
              refine va_iald hx hb hK hP 1 0 (f := tape) rfl rfl (vp_in_nI (by omega) (by decide)) dX7_advance_87 ?_
              refine lv_topi (fun z75 _ => ?_)
              have hPc := hP.sub (ws' := []) [] rfl
              have hDc := hD.sub (ws' := []) [] (by decide) rfl
              have hFc := va_free (wc := []) hD hS hA [] rfl
              refine va_calli (va_runS (As := [.int z75]) (rest := []) ⟨hx, hb, hml, hown, hts⟩ (s_isLetter l D kc H.size z75) (va_cwS 1 hts gs_advance_43_s_isLetter rfl rfl rfl (by decide +kernel) ⟨Nat.le_of_ble_eq_true rfl, Nat.le_of_ble_eq_true rfl⟩) (preS_ok hPc hDc hE) rfl rfl hl.1 rfl (lv_room (Nat.le_of_ble_eq_true rfl)) dX7_advance_88 ⟨Nat.le_of_ble_eq_true rfl, Nat.le_of_ble_eq_true rfl⟩) hS (fun q _ h => hFc q h) hFc (fun r76 u9 t9 H locs ht hvm hw hB hz1 hk1 hS => ?_)
              obtain ⟨hP1, hD1⟩ := hB
              rw [ht] at hP1
              obtain ⟨hP, hD⟩ := va_join (wr := [(xa 7, .inr (7, [.ref (xa 1), .int (nI tk_length), .int (nI i47), .int tk_kind, .int (nI i47), .int tk_number, .long tk_name, .int tk_taken, .int tk_fault, .int tk_place])), (xa 1, .inl (kc 0, 900, .inl tape))]) (w1 := []) hP hD [] [0, 1] rfl rfl (by decide) (by decide) hk1 hFc hP1 hD1
              have hP : va_P D vwCl [(xa 7, .inr (7, [.ref (xa 1), .int (nI tk_length), .int (nI i47), .int tk_kind, .int (nI i47), .int tk_number, .long tk_name, .int tk_taken, .int tk_fault, .int tk_place])), (xa 1, .inl (kc 0, 900, .inl tape))] H := hP
              have hD : va_D A [(xa 7, .inr (7, [.ref (xa 1), .int (nI tk_length), .int (nI i47), .int tk_kind, .int (nI i47), .int tk_number, .long tk_name, .int tk_taken, .int tk_fault, .int tk_place])), (xa 1, .inl (kc 0, 900, .inl tape))] := hD
              have h_r76 := hw
              refine lv_if_eq (tgt := 130) hx hb dX7_advance_91 (by decide) (fun c77 => ?_) (fun c77 => ?_)
              · refine lv_aload_n hx hb dX7_advance_130 rfl (lv_at hl 0 rfl) ?_
                refine va_get (D := D) (ci := 7) (v := .ref (xa 1)) (C := RX7) (T := TX7) (N := 10) hx hb hts is_advance_X7 hown hK hP 0 rfl rfl 0 (by decide) (hts (.fieldLink RX7 15 "SaltStreet$Tokens" "text" "[I") (List.mem_of_getElem? (i := 4) rfl)) (fun _ h9 => h9) rfl dX7_advance_131 ?_
                refine lv_aload_n hx hb dX7_advance_134 rfl (lv_at hl 0 rfl) ?_
                refine va_get (D := D) (ci := 7) (v := .int (nI i47)) (C := RX7) (T := TX7) (N := 10) hx hb hts is_advance_X7 hown hK hP 0 rfl rfl 2 (by decide) (hts (.fieldLink RX7 28 "SaltStreet$Tokens" "next" "I") (List.mem_of_getElem? (i := 1) rfl)) (fun _ h9 => h9) rfl dX7_advance_135 ?_
                refine va_iald hx hb hK hP 1 0 (f := tape) rfl rfl (vp_in_nI (by omega) (by decide)) dX7_advance_138 ?_
                refine lv_topi (fun z78 _ => ?_)
                have hPc := hP.sub (ws' := []) [] rfl
                have hDc := hD.sub (ws' := []) [] (by decide) rfl
                have hFc := va_free (wc := []) hD hS hA [] rfl
                refine va_calli (va_runS (As := [.int z78]) (rest := []) ⟨hx, hb, hml, hown, hts⟩ (s_isDigit l D kc H.size z78) (va_cwS 1 hts gs_advance_58_s_isDigit rfl rfl rfl (by decide +kernel) ⟨Nat.le_of_ble_eq_true rfl, Nat.le_of_ble_eq_true rfl⟩) (preS_ok hPc hDc hE) rfl rfl hl.1 rfl (lv_room (Nat.le_of_ble_eq_true rfl)) dX7_advance_139 ⟨Nat.le_of_ble_eq_true rfl, Nat.le_of_ble_eq_true rfl⟩) hS (fun q _ h => hFc q h) hFc (fun r79 u9 t9 H locs ht hvm hw hB hz1 hk1 hS => ?_)
                obtain ⟨hP1, hD1⟩ := hB
                rw [ht] at hP1
                obtain ⟨hP, hD⟩ := va_join (wr := [(xa 7, .inr (7, [.ref (xa 1), .int (nI tk_length), .int (nI i47), .int tk_kind, .int (nI i47), .int tk_number, .long tk_name, .int tk_taken, .int tk_fault, .int tk_place])), (xa 1, .inl (kc 0, 900, .inl tape))]) (w1 := []) hP hD [] [0, 1] rfl rfl (by decide) (by decide) hk1 hFc hP1 hD1
                have hP : va_P D vwCl [(xa 7, .inr (7, [.ref (xa 1), .int (nI tk_length), .int (nI i47), .int tk_kind, .int (nI i47), .int tk_number, .long tk_name, .int tk_taken, .int tk_fault, .int tk_place])), (xa 1, .inl (kc 0, 900, .inl tape))] H := hP
                have hD : va_D A [(xa 7, .inr (7, [.ref (xa 1), .int (nI tk_length), .int (nI i47), .int tk_kind, .int (nI i47), .int tk_number, .long tk_name, .int tk_taken, .int tk_fault, .int tk_place])), (xa 1, .inl (kc 0, 900, .inl tape))] := hD
                have h_r79 := hw
                refine lv_if_eq (tgt := 152) hx hb dX7_advance_142 (by decide) (fun c80 => ?_) (fun c80 => ?_)
                · refine lv_aload_n hx hb dX7_advance_152 rfl (lv_at hl 0 rfl) ?_
                  have hPc := hP.sub (ws' := [(xa 7, .inr (7, [.ref (xa 1), .int (nI tk_length), .int (nI i47), .int tk_kind, .int (nI i47), .int tk_number, .long tk_name, .int tk_taken, .int tk_fault, .int tk_place])), (xa 1, .inl (kc 0, 900, .inl tape))]) [0, 1] rfl
                  have hDc := hD.sub (ws' := [(xa 7, .inr (7, [.ref (xa 1), .int (nI tk_length), .int (nI i47), .int tk_kind, .int (nI i47), .int tk_number, .long tk_name, .int tk_taken, .int tk_fault, .int tk_place])), (xa 1, .inl (kc 0, 900, .inl tape))]) [0, 1] (by decide) rfl
                  have hFc := va_free (wc := [(xa 7, .inr (7, [.ref (xa 1), .int (nI tk_length), .int (nI i47), .int tk_kind, .int (nI i47), .int tk_number, .long tk_name, .int tk_taken, .int tk_fault, .int tk_place])), (xa 1, .inl (kc 0, 900, .inl tape))]) hD hS hA [0, 1] rfl
                  refine va_callv (va_runV (As := []) (rest := []) ⟨hx, hb, hml, hown, hts⟩ (s_cutSign l D kc H.size xa tk_length i47 tk_kind (nI i47) tk_number tk_name tk_taken tk_fault tk_place tape (by omega) (by omega) (by first | assumption | omega | (intro h9; first | exact absurd h9 (by decide) | omega | (have h8 := hs h9; omega)))) (cwV 0 hts gs_advance_64_s_cutSign rfl rfl rfl (by decide +kernel) ⟨Nat.le_of_ble_eq_true rfl, Nat.le_of_ble_eq_true rfl⟩) (preV_ok hPc hDc hE (ci := 7) (q0 := 0) rfl rfl) rfl rfl hl.1 rfl (lv_room (Nat.le_of_ble_eq_true rfl)) dX7_advance_153 ⟨Nat.le_of_ble_eq_true rfl, Nat.le_of_ble_eq_true rfl⟩) hS (fun q _ h => hFc q h) hFc (fun u9 t9 H locs ht hvm hw hB hz1 hk1 hS => ?_)
                  obtain ⟨k82, z83, h_k82, hP1, hD1⟩ := hB
                  rw [ht] at hP1
                  obtain ⟨hP, hD⟩ := va_join (wr := []) (w1 := [(xa 7, .inr (7, [.ref (xa 1), .int (nI tk_length), .int (nI k82), .int z83, .int (nI i47), .int tk_number, .long tk_name, .int tk_taken, .int tk_fault, .int tk_place])), (xa 1, .inl (kc 0, 900, .inl tape))]) hP hD [0, 1] [] rfl rfl (by decide) (by decide) hk1 hFc hP1 hD1
                  have hP : va_P D vwCl [(xa 7, .inr (7, [.ref (xa 1), .int (nI tk_length), .int (nI k82), .int z83, .int (nI i47), .int tk_number, .long tk_name, .int tk_taken, .int tk_fault, .int tk_place])), (xa 1, .inl (kc 0, 900, .inl tape))] H := hP
                  have hD : va_D A [(xa 7, .inr (7, [.ref (xa 1), .int (nI tk_length), .int (nI k82), .int z83, .int (nI i47), .int tk_number, .long tk_name, .int tk_taken, .int tk_fault, .int tk_place])), (xa 1, .inl (kc 0, 900, .inl tape))] := hD
                  have hP9 := hP.sub (ws' := [(xa 7, .inr (7, [.ref (xa 1), .int (nI tk_length), .int (nI k82), .int z83, .int (nI i47), .int tk_number, .long tk_name, .int tk_taken, .int tk_fault, .int tk_place])), (xa 1, .inl (kc 0, 900, .inl tape))]) [0, 1] rfl
                  have hD9 := hD.sub (ws' := [(xa 7, .inr (7, [.ref (xa 1), .int (nI tk_length), .int (nI k82), .int z83, .int (nI i47), .int tk_number, .long tk_name, .int tk_taken, .int tk_fault, .int tk_place])), (xa 1, .inl (kc 0, 900, .inl tape))]) [0, 1] (by decide) rfl
                  exact W.vret hx hb hr (fun t9 ht hW => ⟨⟨(), rfl, trivial, k82, z83, (nI i47), tk_number, tk_name, by omega, by rw [ht]; exact hP9, hD9⟩, hS.F ht⟩) hS.2.2 dX7_advance_156
                · refine lv_aload_n hx hb dX7_advance_145 rfl (lv_at hl 0 rfl) ?_
                  have hPc := hP.sub (ws' := [(xa 7, .inr (7, [.ref (xa 1), .int (nI tk_length), .int (nI i47), .int tk_kind, .int (nI i47), .int tk_number, .long tk_name, .int tk_taken, .int tk_fault, .int tk_place])), (xa 1, .inl (kc 0, 900, .inl tape))]) [0, 1] rfl
                  have hDc := hD.sub (ws' := [(xa 7, .inr (7, [.ref (xa 1), .int (nI tk_length), .int (nI i47), .int tk_kind, .int (nI i47), .int tk_number, .long tk_name, .int tk_taken, .int tk_fault, .int tk_place])), (xa 1, .inl (kc 0, 900, .inl tape))]) [0, 1] (by decide) rfl
                  have hFc := va_free (wc := [(xa 7, .inr (7, [.ref (xa 1), .int (nI tk_length), .int (nI i47), .int tk_kind, .int (nI i47), .int tk_number, .long tk_name, .int tk_taken, .int tk_fault, .int tk_place])), (xa 1, .inl (kc 0, 900, .inl tape))]) hD hS hA [0, 1] rfl
                  refine va_callv (va_runV (As := []) (rest := []) ⟨hx, hb, hml, hown, hts⟩ (s_cutNumber l D kc H.size xa tk_length i47 tk_kind (nI i47) tk_number tk_name tk_taken tk_fault tk_place tape (by omega) (by omega)) (cwV 0 hts gs_advance_61_s_cutNumber rfl rfl rfl (by decide +kernel) ⟨Nat.le_of_ble_eq_true rfl, Nat.le_of_ble_eq_true rfl⟩) (preV_ok hPc hDc hE (ci := 7) (q0 := 0) rfl rfl) rfl rfl hl.1 rfl (lv_room (Nat.le_of_ble_eq_true rfl)) dX7_advance_146 ⟨Nat.le_of_ble_eq_true rfl, Nat.le_of_ble_eq_true rfl⟩) hS (fun q _ h => hFc q h) hFc (fun u9 t9 H locs ht hvm hw hB hz1 hk1 hS => ?_)
                  obtain ⟨k85, z86, z87, h_k85, hP1, hD1⟩ := hB
                  rw [ht] at hP1
                  obtain ⟨hP, hD⟩ := va_join (wr := []) (w1 := [(xa 7, .inr (7, [.ref (xa 1), .int (nI tk_length), .int (nI k85), .int z86, .int (nI i47), .int z87, .long tk_name, .int tk_taken, .int tk_fault, .int tk_place])), (xa 1, .inl (kc 0, 900, .inl tape))]) hP hD [0, 1] [] rfl rfl (by decide) (by decide) hk1 hFc hP1 hD1
                  have hP : va_P D vwCl [(xa 7, .inr (7, [.ref (xa 1), .int (nI tk_length), .int (nI k85), .int z86, .int (nI i47), .int z87, .long tk_name, .int tk_taken, .int tk_fault, .int tk_place])), (xa 1, .inl (kc 0, 900, .inl tape))] H := hP
                  have hD : va_D A [(xa 7, .inr (7, [.ref (xa 1), .int (nI tk_length), .int (nI k85), .int z86, .int (nI i47), .int z87, .long tk_name, .int tk_taken, .int tk_fault, .int tk_place])), (xa 1, .inl (kc 0, 900, .inl tape))] := hD
                  refine lv_goto (tgt := 156) hx hb dX7_advance_149 (by decide) ?_
                  have hP9 := hP.sub (ws' := [(xa 7, .inr (7, [.ref (xa 1), .int (nI tk_length), .int (nI k85), .int z86, .int (nI i47), .int z87, .long tk_name, .int tk_taken, .int tk_fault, .int tk_place])), (xa 1, .inl (kc 0, 900, .inl tape))]) [0, 1] rfl
                  have hD9 := hD.sub (ws' := [(xa 7, .inr (7, [.ref (xa 1), .int (nI tk_length), .int (nI k85), .int z86, .int (nI i47), .int z87, .long tk_name, .int tk_taken, .int tk_fault, .int tk_place])), (xa 1, .inl (kc 0, 900, .inl tape))]) [0, 1] (by decide) rfl
                  exact W.vret hx hb hr (fun t9 ht hW => ⟨⟨(), rfl, trivial, k85, z86, (nI i47), z87, tk_name, by omega, by rw [ht]; exact hP9, hD9⟩, hS.F ht⟩) hS.2.2 dX7_advance_156
              · refine lv_aload_n hx hb dX7_advance_94 rfl (lv_at hl 0 rfl) ?_
                have hPc := hP.sub (ws' := [(xa 7, .inr (7, [.ref (xa 1), .int (nI tk_length), .int (nI i47), .int tk_kind, .int (nI i47), .int tk_number, .long tk_name, .int tk_taken, .int tk_fault, .int tk_place])), (xa 1, .inl (kc 0, 900, .inl tape))]) [0, 1] rfl
                have hDc := hD.sub (ws' := [(xa 7, .inr (7, [.ref (xa 1), .int (nI tk_length), .int (nI i47), .int tk_kind, .int (nI i47), .int tk_number, .long tk_name, .int tk_taken, .int tk_fault, .int tk_place])), (xa 1, .inl (kc 0, 900, .inl tape))]) [0, 1] (by decide) rfl
                have hFc := va_free (wc := [(xa 7, .inr (7, [.ref (xa 1), .int (nI tk_length), .int (nI i47), .int tk_kind, .int (nI i47), .int tk_number, .long tk_name, .int tk_taken, .int tk_fault, .int tk_place])), (xa 1, .inl (kc 0, 900, .inl tape))]) hD hS hA [0, 1] rfl
                refine va_callv (va_runV (As := []) (rest := []) ⟨hx, hb, hml, hown, hts⟩ (s_cutWord l D kc H.size xa tk_length i47 tk_kind (nI i47) tk_number tk_name tk_taken tk_fault tk_place tape (by omega) (by omega)) (cwV 0 hts gs_advance_47_s_cutWord rfl rfl rfl (by decide +kernel) ⟨Nat.le_of_ble_eq_true rfl, Nat.le_of_ble_eq_true rfl⟩) (preV_ok hPc hDc hE (ci := 7) (q0 := 0) rfl rfl) rfl rfl hl.1 rfl (lv_room (Nat.le_of_ble_eq_true rfl)) dX7_advance_95 ⟨Nat.le_of_ble_eq_true rfl, Nat.le_of_ble_eq_true rfl⟩) hS (fun q _ h => hFc q h) hFc (fun u9 t9 H locs ht hvm hw hB hz1 hk1 hS => ?_)
                obtain ⟨k89, y90, h_k89, hP1, hD1⟩ := hB
                rw [ht] at hP1
                obtain ⟨hP, hD⟩ := va_join (wr := []) (w1 := [(xa 7, .inr (7, [.ref (xa 1), .int (nI tk_length), .int (nI k89), .int tk_kind, .int (nI i47), .int tk_number, .long y90, .int tk_taken, .int tk_fault, .int tk_place])), (xa 1, .inl (kc 0, 900, .inl tape))]) hP hD [0, 1] [] rfl rfl (by decide) (by decide) hk1 hFc hP1 hD1
                have hP : va_P D vwCl [(xa 7, .inr (7, [.ref (xa 1), .int (nI tk_length), .int (nI k89), .int tk_kind, .int (nI i47), .int tk_number, .long y90, .int tk_taken, .int tk_fault, .int tk_place])), (xa 1, .inl (kc 0, 900, .inl tape))] H := hP
                have hD : va_D A [(xa 7, .inr (7, [.ref (xa 1), .int (nI tk_length), .int (nI k89), .int tk_kind, .int (nI i47), .int tk_number, .long y90, .int tk_taken, .int tk_fault, .int tk_place])), (xa 1, .inl (kc 0, 900, .inl tape))] := hD
                refine lv_aload_n hx hb dX7_advance_98 rfl (lv_at hl 0 rfl) ?_
                refine lv_aload_n hx hb dX7_advance_99 rfl (lv_at hl 0 rfl) ?_
                refine va_get (D := D) (ci := 7) (v := .int (nI k89)) (C := RX7) (T := TX7) (N := 10) hx hb hts is_advance_X7 hown hK hP 0 rfl rfl 2 (by decide) (hts (.fieldLink RX7 28 "SaltStreet$Tokens" "next" "I") (List.mem_of_getElem? (i := 1) rfl)) (fun _ h9 => h9) rfl dX7_advance_100 ?_
                refine lv_aload_n hx hb dX7_advance_103 rfl (lv_at hl 0 rfl) ?_
                refine va_get (D := D) (ci := 7) (v := .int (nI i47)) (C := RX7) (T := TX7) (N := 10) hx hb hts is_advance_X7 hown hK hP 0 rfl rfl 4 (by decide) (hts (.fieldLink RX7 37 "SaltStreet$Tokens" "start" "I") (List.mem_of_getElem? (i := 3) rfl)) (fun _ h9 => h9) rfl dX7_advance_104 ?_
                refine lv_isub hx hb dX7_advance_107 ?_
                refine lv_topi (fun z91 _ => ?_)
                refine lv_bipush (v := 8) hx hb dX7_advance_108 (by decide) ?_
                refine lv_icmp_le (tgt := 117) hx hb dX7_advance_110 (by decide) (fun c92 => ?_) (fun c92 => ?_)
                · refine lv_aload_n hx hb dX7_advance_117 rfl (lv_at hl 0 rfl) ?_
                  refine va_get (D := D) (ci := 7) (v := .long y90) (C := RX7) (T := TX7) (N := 10) hx hb hts is_advance_X7 hown hK hP 0 rfl rfl 6 (by decide) (hts (.fieldLink RX7 50 "SaltStreet$Tokens" "name" "J") (List.mem_of_getElem? (i := 24) rfl)) (fun _ h9 => h9) rfl dX7_advance_118 ?_
                  have hPc := hP.sub (ws' := []) [] rfl
                  have hDc := hD.sub (ws' := []) [] (by decide) rfl
                  have hFc := va_free (wc := []) hD hS hA [] rfl
                  refine va_calli (va_runS (As := [.long y90]) (rest := [.ref (xa 7)]) ⟨hx, hb, hml, hown, hts⟩ (s_kindOfWord l D kc H.size y90) (va_cwS 1 hts gs_advance_54_s_kindOfWord rfl rfl rfl (by decide +kernel) ⟨Nat.le_of_ble_eq_true rfl, Nat.le_of_ble_eq_true rfl⟩) (preS_ok hPc hDc hE) rfl rfl hl.1 rfl (lv_room (Nat.le_of_ble_eq_true rfl)) dX7_advance_121 ⟨Nat.le_of_ble_eq_true rfl, Nat.le_of_ble_eq_true rfl⟩) hS (fun q _ h => hFc q h) hFc (fun r93 u9 t9 H locs ht hvm hw hB hz1 hk1 hS => ?_)
                  obtain ⟨hP1, hD1⟩ := hB
                  rw [ht] at hP1
                  obtain ⟨hP, hD⟩ := va_join (wr := [(xa 7, .inr (7, [.ref (xa 1), .int (nI tk_length), .int (nI k89), .int tk_kind, .int (nI i47), .int tk_number, .long y90, .int tk_taken, .int tk_fault, .int tk_place])), (xa 1, .inl (kc 0, 900, .inl tape))]) (w1 := []) hP hD [] [0, 1] rfl rfl (by decide) (by decide) hk1 hFc hP1 hD1
                  have hP : va_P D vwCl [(xa 7, .inr (7, [.ref (xa 1), .int (nI tk_length), .int (nI k89), .int tk_kind, .int (nI i47), .int tk_number, .long y90, .int tk_taken, .int tk_fault, .int tk_place])), (xa 1, .inl (kc 0, 900, .inl tape))] H := hP
                  have hD : va_D A [(xa 7, .inr (7, [.ref (xa 1), .int (nI tk_length), .int (nI k89), .int tk_kind, .int (nI i47), .int tk_number, .long y90, .int tk_taken, .int tk_fault, .int tk_place])), (xa 1, .inl (kc 0, 900, .inl tape))] := hD
                  refine va_put (D := D) (ci := 7) (v := .int r93) (ty := .int) (C := RX7) (T := TX7) (N := 10) hx hb hts is_advance_X7 tyX7 tyX7_ok nmX7 hown hK hP hD hS 0 rfl rfl 3 (by decide) (hts (.fieldLink RX7 40 "SaltStreet$Tokens" "kind" "I") (List.mem_of_getElem? (i := 14) rfl)) (fun _ h9 => h9) rfl (by decide +kernel) rfl rfl (Nat.le_of_ble_eq_true rfl) dX7_advance_124 (fun H locs hP hD hS => ?_)
                  have hP : va_P D vwCl [(xa 7, .inr (7, [.ref (xa 1), .int (nI tk_length), .int (nI k89), .int r93, .int (nI i47), .int tk_number, .long y90, .int tk_taken, .int tk_fault, .int tk_place])), (xa 1, .inl (kc 0, 900, .inl tape))] H := hP
                  have hD : va_D A [(xa 7, .inr (7, [.ref (xa 1), .int (nI tk_length), .int (nI k89), .int r93, .int (nI i47), .int tk_number, .long y90, .int tk_taken, .int tk_fault, .int tk_place])), (xa 1, .inl (kc 0, 900, .inl tape))] := hD
                  refine lv_goto (tgt := 156) hx hb dX7_advance_127 (by decide) ?_
                  have hP9 := hP.sub (ws' := [(xa 7, .inr (7, [.ref (xa 1), .int (nI tk_length), .int (nI k89), .int r93, .int (nI i47), .int tk_number, .long y90, .int tk_taken, .int tk_fault, .int tk_place])), (xa 1, .inl (kc 0, 900, .inl tape))]) [0, 1] rfl
                  have hD9 := hD.sub (ws' := [(xa 7, .inr (7, [.ref (xa 1), .int (nI tk_length), .int (nI k89), .int r93, .int (nI i47), .int tk_number, .long y90, .int tk_taken, .int tk_fault, .int tk_place])), (xa 1, .inl (kc 0, 900, .inl tape))]) [0, 1] (by decide) rfl
                  exact W.vret hx hb hr (fun t9 ht hW => ⟨⟨(), rfl, trivial, k89, r93, (nI i47), tk_number, y90, by omega, by rw [ht]; exact hP9, hD9⟩, hS.F ht⟩) hS.2.2 dX7_advance_156
                · refine lv_iconst (v := 2) hx hb dX7_advance_113 (by decide) ?_
                  refine lv_goto (tgt := 124) hx hb dX7_advance_114 (by decide) ?_
                  refine va_put (D := D) (ci := 7) (v := .int 2) (ty := .int) (C := RX7) (T := TX7) (N := 10) hx hb hts is_advance_X7 tyX7 tyX7_ok nmX7 hown hK hP hD hS 0 rfl rfl 3 (by decide) (hts (.fieldLink RX7 40 "SaltStreet$Tokens" "kind" "I") (List.mem_of_getElem? (i := 14) rfl)) (fun _ h9 => h9) rfl (by decide +kernel) rfl rfl (Nat.le_of_ble_eq_true rfl) dX7_advance_124 (fun H locs hP hD hS => ?_)
                  have hP : va_P D vwCl [(xa 7, .inr (7, [.ref (xa 1), .int (nI tk_length), .int (nI k89), .int 2, .int (nI i47), .int tk_number, .long y90, .int tk_taken, .int tk_fault, .int tk_place])), (xa 1, .inl (kc 0, 900, .inl tape))] H := hP
                  have hD : va_D A [(xa 7, .inr (7, [.ref (xa 1), .int (nI tk_length), .int (nI k89), .int 2, .int (nI i47), .int tk_number, .long y90, .int tk_taken, .int tk_fault, .int tk_place])), (xa 1, .inl (kc 0, 900, .inl tape))] := hD
                  refine lv_goto (tgt := 156) hx hb dX7_advance_127 (by decide) ?_
                  have hP9 := hP.sub (ws' := [(xa 7, .inr (7, [.ref (xa 1), .int (nI tk_length), .int (nI k89), .int 2, .int (nI i47), .int tk_number, .long y90, .int tk_taken, .int tk_fault, .int tk_place])), (xa 1, .inl (kc 0, 900, .inl tape))]) [0, 1] rfl
                  have hD9 := hD.sub (ws' := [(xa 7, .inr (7, [.ref (xa 1), .int (nI tk_length), .int (nI k89), .int 2, .int (nI i47), .int tk_number, .long y90, .int tk_taken, .int tk_fault, .int tk_place])), (xa 1, .inl (kc 0, 900, .inl tape))]) [0, 1] (by decide) rfl
                  exact W.vret hx hb hr (fun t9 ht hW => ⟨⟨(), rfl, trivial, k89, 2, (nI i47), tk_number, y90, by omega, by rw [ht]; exact hP9, hD9⟩, hS.F ht⟩) hS.2.2 dX7_advance_156
            · have nc74 := Nat.not_lt.mp (fun q => c74 ((nI_ltI (a := i47) (b := tk_length) (by omega) (by omega)).mpr q))
              refine lv_aload_n hx hb dX7_advance_71 rfl (lv_at hl 0 rfl) ?_
              refine lv_iconst (v := 0) hx hb dX7_advance_72 (by decide) ?_
              refine va_put (D := D) (ci := 7) (v := .int 0) (ty := .int) (C := RX7) (T := TX7) (N := 10) hx hb hts is_advance_X7 tyX7 tyX7_ok nmX7 hown hK hP hD hS 0 rfl rfl 3 (by decide) (hts (.fieldLink RX7 40 "SaltStreet$Tokens" "kind" "I") (List.mem_of_getElem? (i := 14) rfl)) (fun _ h9 => h9) rfl (by decide +kernel) rfl rfl (Nat.le_of_ble_eq_true rfl) dX7_advance_73 (fun H locs hP hD hS => ?_)
              have hP : va_P D vwCl [(xa 7, .inr (7, [.ref (xa 1), .int (nI tk_length), .int (nI i47), .int 0, .int (nI i47), .int tk_number, .long tk_name, .int tk_taken, .int tk_fault, .int tk_place])), (xa 1, .inl (kc 0, 900, .inl tape))] H := hP
              have hD : va_D A [(xa 7, .inr (7, [.ref (xa 1), .int (nI tk_length), .int (nI i47), .int 0, .int (nI i47), .int tk_number, .long tk_name, .int tk_taken, .int tk_fault, .int tk_place])), (xa 1, .inl (kc 0, 900, .inl tape))] := hD
              refine lv_goto (tgt := 156) hx hb dX7_advance_76 (by decide) ?_
              have hP9 := hP.sub (ws' := [(xa 7, .inr (7, [.ref (xa 1), .int (nI tk_length), .int (nI i47), .int 0, .int (nI i47), .int tk_number, .long tk_name, .int tk_taken, .int tk_fault, .int tk_place])), (xa 1, .inl (kc 0, 900, .inl tape))]) [0, 1] rfl
              have hD9 := hD.sub (ws' := [(xa 7, .inr (7, [.ref (xa 1), .int (nI tk_length), .int (nI i47), .int 0, .int (nI i47), .int tk_number, .long tk_name, .int tk_taken, .int tk_fault, .int tk_place])), (xa 1, .inl (kc 0, 900, .inl tape))]) [0, 1] (by decide) rfl
              exact W.vret hx hb hr (fun t9 ht hW => ⟨⟨(), rfl, trivial, i47, 0, (nI i47), tk_number, tk_name, by omega, by rw [ht]; exact hP9, hD9⟩, hS.F ht⟩) hS.2.2 dX7_advance_156
          · refine lv_aload_n hx hb dX7_advance_39 rfl (lv_at hl 0 rfl) ?_
            refine lv_dup hx hb dX7_advance_40 rfl ?_
            refine va_get (D := D) (ci := 7) (v := .int (nI i47)) (C := RX7) (T := TX7) (N := 10) hx hb hts is_advance_X7 hown hK hP 0 rfl rfl 2 (by decide) (hts (.fieldLink RX7 28 "SaltStreet$Tokens" "next" "I") (List.mem_of_getElem? (i := 1) rfl)) (fun _ h9 => h9) rfl dX7_advance_41 ?_
            refine lv_iconst (v := 1) hx hb dX7_advance_44 (by decide) ?_
            refine lv_iadd hx hb dX7_advance_45 ?_
            refine lv_ci (y := (nI (i47 + 1))) (nI_add _ _) ?_
            refine va_put (D := D) (ci := 7) (v := .int (nI (i47 + 1))) (ty := .int) (C := RX7) (T := TX7) (N := 10) hx hb hts is_advance_X7 tyX7 tyX7_ok nmX7 hown hK hP hD hS 0 rfl rfl 2 (by decide) (hts (.fieldLink RX7 28 "SaltStreet$Tokens" "next" "I") (List.mem_of_getElem? (i := 1) rfl)) (fun _ h9 => h9) rfl (by decide +kernel) rfl rfl (Nat.le_of_ble_eq_true rfl) dX7_advance_46 (fun H locs hP hD hS => ?_)
            have hP : va_P D vwCl [(xa 7, .inr (7, [.ref (xa 1), .int (nI tk_length), .int (nI (i47 + 1)), .int tk_kind, .int tk_start, .int tk_number, .long tk_name, .int tk_taken, .int tk_fault, .int tk_place])), (xa 1, .inl (kc 0, 900, .inl tape))] H := hP
            have hD : va_D A [(xa 7, .inr (7, [.ref (xa 1), .int (nI tk_length), .int (nI (i47 + 1)), .int tk_kind, .int tk_start, .int tk_number, .long tk_name, .int tk_taken, .int tk_fault, .int tk_place])), (xa 1, .inl (kc 0, 900, .inl tape))] := hD
            refine lv_goto (tgt := 0) hx hb dX7_advance_49 (by decide) ?_
            exact ih_n9_0_48 (i47 + 1) (by omega) (by omega) _ _ ls hP hD hS (lv_sub hl [0] rfl)
  exact loop_n9_0_48 ((tk_length + tk_next) + 1) tk_next (by omega) (by omega) _ _ ls hP hD hS (lv_sub hl [0] rfl)
theorem dX7_wrong_0 : decode cX7_wrong 0 = .ok (.aload_n 0, 1) := by decide +kernel
theorem dX7_wrong_1 : decode cX7_wrong 1 = .ok (.aload_n 0, 1) := by decide +kernel
theorem dX7_wrong_2 : decode cX7_wrong 2 = .ok (.getfield 40, 3) := by decide +kernel
theorem dX7_wrong_5 : decode cX7_wrong 5 = .ok (.iconst 4, 1) := by decide +kernel
theorem dX7_wrong_6 : decode cX7_wrong 6 = .ok (.if_icmp .ne 7, 3) := by decide +kernel
theorem dX7_wrong_13 : decode cX7_wrong 13 = .ok (.iload_n 1, 1) := by decide +kernel
theorem dX7_wrong_14 : decode cX7_wrong 14 = .ok (.putfield 31, 3) := by decide +kernel
theorem dX7_wrong_17 : decode cX7_wrong 17 = .ok (.aload_n 0, 1) := by decide +kernel
theorem dX7_wrong_18 : decode cX7_wrong 18 = .ok (.aload_n 0, 1) := by decide +kernel
theorem dX7_wrong_19 : decode cX7_wrong 19 = .ok (.getfield 37, 3) := by decide +kernel
theorem dX7_wrong_22 : decode cX7_wrong 22 = .ok (.putfield 9, 3) := by decide +kernel
theorem dX7_wrong_25 : decode cX7_wrong 25 = .ok (.iconst 0, 1) := by decide +kernel
theorem dX7_wrong_26 : decode cX7_wrong 26 = .ok (.ireturn, 1) := by decide +kernel
theorem dX7_wrong_9 : decode cX7_wrong 9 = .ok (.iconst 1, 1) := by decide +kernel
theorem dX7_wrong_10 : decode cX7_wrong 10 = .ok (.goto 4, 3) := by decide +kernel
def vds_wrong : List Cond := [.code yX7_wrong cX7_wrong 2 (some .boolean), .fieldLink RX7 40 "SaltStreet$Tokens" "kind" "I", .fieldLink RX7 31 "SaltStreet$Tokens" "fault" "I", .fieldLink RX7 37 "SaltStreet$Tokens" "start" "I", .fieldLink RX7 9 "SaltStreet$Tokens" "place" "I"]
def vs_wrong : List Cond := vds_wrong ++ (wsX70 ++ ([] : List Cond))
theorem is_wrong_X7 : ∀ w ∈ wsX70, w ∈ vs_wrong := fun _ h => List.mem_append_right _ (List.mem_append_left _ h)
set_option maxHeartbeats 4000000 in
set_option maxRecDepth 100000 in
theorem s_wrong (l : Launch) (D : va_G) (kc : Nat → ClassId) (sz : Nat) (xa : Nat → Nat) (tk_length : Nat) (tk_next : Nat) (tk_kind : Int32) (tk_start : Int32) (tk_number : Int32) (tk_name : Int64) (tk_taken : Int32) (tk_fault : Int32) (tk_place : Int32) (a0 : Int32) (h_tk_length : tk_length ≤ 900) (h_tk_next : tk_next ≤ 900) : Met l yX7_wrong vs_wrong ({ frames := 0, cells := 0, slots := 0, locals := 0 }) (va_Pc [.ref (xa 7), .int a0] (wPre D kc [(xa 7, .inr (7, [.ref (xa 1), .int (nI tk_length), .int (nI tk_next), .int tk_kind, .int tk_start, .int tk_number, .long tk_name, .int tk_taken, .int tk_fault, .int tk_place]))] sz)) (va_Qi (fun (r : Int32) (_ : Unit) => (∃ k, k ≤ 0 ∧ r = nI k)) (fun (_ : Unit) (t9 : State) => ∃ tk_fault_n : Int32, ∃ tk_place_n : Int32, va_P D vwCl [(xa 7, .inr (7, [.ref (xa 1), .int (nI tk_length), .int (nI tk_next), .int tk_kind, .int tk_start, .int tk_number, .long tk_name, .int tk_taken, .int tk_fault_n, .int tk_place_n]))] t9.heap ∧ va_D (va_A [(xa 7, .inr (7, [.ref (xa 1), .int (nI tk_length), .int (nI tk_next), .int tk_kind, .int tk_start, .int tk_number, .long tk_name, .int tk_taken, .int tk_fault, .int tk_place]))] sz) [(xa 7, .inr (7, [.ref (xa 1), .int (nI tk_length), .int (nI tk_next), .int tk_kind, .int tk_start, .int tk_number, .long tk_name, .int tk_taken, .int tk_fault_n, .int tk_place_n]))]) (va_A [(xa 7, .inr (7, [.ref (xa 1), .int (nI tk_length), .int (nI tk_next), .int tk_kind, .int tk_start, .int tk_number, .long tk_name, .int tk_taken, .int tk_fault, .int tk_place]))] sz)) 0 0 (va_A [(xa 7, .inr (7, [.ref (xa 1), .int (nI tk_length), .int (nI tk_next), .int tk_kind, .int tk_start, .int tk_number, .long tk_name, .int tk_taken, .int tk_fault, .int tk_place]))] sz) := by
  refine Met.ofW (cc := cX7_wrong) (maxL := 2) (ret := (some .boolean)) (by decide) rfl ?_
  intro p e s m args below meth c s₁ B hml hv
  obtain ⟨rfl, hsz, hP, hE, hD0⟩ := hv
  have hx := B.exec
  have hb := B.bytes
  have hr := B.returns
  have hts := atoms_spec (ws := vs_wrong) B.pre
  have hown : s.vm.findClass RX7 = some m.cls := findClass_of_methodNamed B.named
  have hlocks := B.notSynchronized
  subst hsz
  have hD := hD0.self (sz := s.heap.size)
  generalize hAe : va_A [(xa 7, .inr (7, [.ref (xa 1), .int (nI tk_length), .int (nI tk_next), .int tk_kind, .int tk_start, .int tk_number, .long tk_name, .int tk_taken, .int tk_fault, .int tk_place]))] s.heap.size = A at hD ⊢
  have hA : ∀ q : Nat, s.heap.size ≤ q → A q := fun q h => by rw [← hAe]; exact Or.inr h
  have hS : va_S A s.heap s.heap [] := va_S.rf
  have hK := hE.1
  have hP : va_P D vwCl [(xa 7, .inr (7, [.ref (xa 1), .int (nI tk_length), .int (nI tk_next), .int tk_kind, .int tk_start, .int tk_number, .long tk_name, .int tk_taken, .int tk_fault, .int tk_place]))] s.heap := hP
  have hl := lv_entry ([.ref (xa 7), .int a0]) (n := 2) (Nat.le_of_ble_eq_true rfl)
  rw [lg_entry_eq]
  generalize (lg_sl ([.ref (xa 7), .int a0]) ++ List.replicate (2 - (lg_sl ([.ref (xa 7), .int a0])).length) Slot.unset).toArray = ls at hl ⊢
  have hl : lv_has ls 2 [(0, .ref (xa 7)), (1, .int a0)] := hl
  refine lv_aload_n hx hb dX7_wrong_0 rfl (lv_at hl 0 rfl) ?_
  refine lv_aload_n hx hb dX7_wrong_1 rfl (lv_at hl 0 rfl) ?_
  refine va_get (D := D) (ci := 7) (v := .int tk_kind) (C := RX7) (T := TX7) (N := 10) hx hb hts is_wrong_X7 hown hK hP 0 rfl rfl 3 (by decide) (hts (.fieldLink RX7 40 "SaltStreet$Tokens" "kind" "I") (List.mem_of_getElem? (i := 1) rfl)) (fun _ h9 => h9) rfl dX7_wrong_2 ?_
  refine lv_iconst (v := 4) hx hb dX7_wrong_5 (by decide) ?_
  refine lv_icmp_ne (tgt := 13) hx hb dX7_wrong_6 (by decide) (fun c1 => ?_) (fun c1 => ?_)
  · refine lv_iload_n hx hb dX7_wrong_13 rfl (lv_at hl 1 rfl) ?_
    refine va_put (D := D) (ci := 7) (v := .int a0) (ty := .int) (C := RX7) (T := TX7) (N := 10) hx hb hts is_wrong_X7 tyX7 tyX7_ok nmX7 hown hK hP hD hS 0 rfl rfl 8 (by decide) (hts (.fieldLink RX7 31 "SaltStreet$Tokens" "fault" "I") (List.mem_of_getElem? (i := 2) rfl)) (fun _ h9 => h9) rfl (by decide +kernel) rfl rfl (Nat.le_of_ble_eq_true rfl) dX7_wrong_14 (fun H locs hP hD hS => ?_)
    have hP : va_P D vwCl [(xa 7, .inr (7, [.ref (xa 1), .int (nI tk_length), .int (nI tk_next), .int tk_kind, .int tk_start, .int tk_number, .long tk_name, .int tk_taken, .int a0, .int tk_place]))] H := hP
    have hD : va_D A [(xa 7, .inr (7, [.ref (xa 1), .int (nI tk_length), .int (nI tk_next), .int tk_kind, .int tk_start, .int tk_number, .long tk_name, .int tk_taken, .int a0, .int tk_place]))] := hD
    refine lv_aload_n hx hb dX7_wrong_17 rfl (lv_at hl 0 rfl) ?_
    refine lv_aload_n hx hb dX7_wrong_18 rfl (lv_at hl 0 rfl) ?_
    refine va_get (D := D) (ci := 7) (v := .int tk_start) (C := RX7) (T := TX7) (N := 10) hx hb hts is_wrong_X7 hown hK hP 0 rfl rfl 4 (by decide) (hts (.fieldLink RX7 37 "SaltStreet$Tokens" "start" "I") (List.mem_of_getElem? (i := 3) rfl)) (fun _ h9 => h9) rfl dX7_wrong_19 ?_
    refine va_put (D := D) (ci := 7) (v := .int tk_start) (ty := .int) (C := RX7) (T := TX7) (N := 10) hx hb hts is_wrong_X7 tyX7 tyX7_ok nmX7 hown hK hP hD hS 0 rfl rfl 9 (by decide) (hts (.fieldLink RX7 9 "SaltStreet$Tokens" "place" "I") (List.mem_of_getElem? (i := 4) rfl)) (fun _ h9 => h9) rfl (by decide +kernel) rfl rfl (Nat.le_of_ble_eq_true rfl) dX7_wrong_22 (fun H locs hP hD hS => ?_)
    have hP : va_P D vwCl [(xa 7, .inr (7, [.ref (xa 1), .int (nI tk_length), .int (nI tk_next), .int tk_kind, .int tk_start, .int tk_number, .long tk_name, .int tk_taken, .int a0, .int tk_start]))] H := hP
    have hD : va_D A [(xa 7, .inr (7, [.ref (xa 1), .int (nI tk_length), .int (nI tk_next), .int tk_kind, .int tk_start, .int tk_number, .long tk_name, .int tk_taken, .int a0, .int tk_start]))] := hD
    refine lv_iconst (v := 0) hx hb dX7_wrong_25 (by decide) ?_
    have hP9 := hP.sub (ws' := [(xa 7, .inr (7, [.ref (xa 1), .int (nI tk_length), .int (nI tk_next), .int tk_kind, .int tk_start, .int tk_number, .long tk_name, .int tk_taken, .int a0, .int tk_start]))]) [0] rfl
    have hD9 := hD.sub (ws' := [(xa 7, .inr (7, [.ref (xa 1), .int (nI tk_length), .int (nI tk_next), .int tk_kind, .int tk_start, .int tk_number, .long tk_name, .int tk_taken, .int a0, .int tk_start]))]) [0] (by decide) rfl
    exact W.zret (v := 0) hx hb hr rfl (fun t9 ht hW => ⟨⟨0, (), rfl, ⟨0, by omega, rfl⟩, a0, tk_start, by rw [ht]; exact hP9, hD9⟩, hS.F ht⟩) hS.2.2 dX7_wrong_26
  · refine lv_iconst (v := 1) hx hb dX7_wrong_9 (by decide) ?_
    refine lv_goto (tgt := 14) hx hb dX7_wrong_10 (by decide) ?_
    refine va_put (D := D) (ci := 7) (v := .int 1) (ty := .int) (C := RX7) (T := TX7) (N := 10) hx hb hts is_wrong_X7 tyX7 tyX7_ok nmX7 hown hK hP hD hS 0 rfl rfl 8 (by decide) (hts (.fieldLink RX7 31 "SaltStreet$Tokens" "fault" "I") (List.mem_of_getElem? (i := 2) rfl)) (fun _ h9 => h9) rfl (by decide +kernel) rfl rfl (Nat.le_of_ble_eq_true rfl) dX7_wrong_14 (fun H locs hP hD hS => ?_)
    have hP : va_P D vwCl [(xa 7, .inr (7, [.ref (xa 1), .int (nI tk_length), .int (nI tk_next), .int tk_kind, .int tk_start, .int tk_number, .long tk_name, .int tk_taken, .int 1, .int tk_place]))] H := hP
    have hD : va_D A [(xa 7, .inr (7, [.ref (xa 1), .int (nI tk_length), .int (nI tk_next), .int tk_kind, .int tk_start, .int tk_number, .long tk_name, .int tk_taken, .int 1, .int tk_place]))] := hD
    refine lv_aload_n hx hb dX7_wrong_17 rfl (lv_at hl 0 rfl) ?_
    refine lv_aload_n hx hb dX7_wrong_18 rfl (lv_at hl 0 rfl) ?_
    refine va_get (D := D) (ci := 7) (v := .int tk_start) (C := RX7) (T := TX7) (N := 10) hx hb hts is_wrong_X7 hown hK hP 0 rfl rfl 4 (by decide) (hts (.fieldLink RX7 37 "SaltStreet$Tokens" "start" "I") (List.mem_of_getElem? (i := 3) rfl)) (fun _ h9 => h9) rfl dX7_wrong_19 ?_
    refine va_put (D := D) (ci := 7) (v := .int tk_start) (ty := .int) (C := RX7) (T := TX7) (N := 10) hx hb hts is_wrong_X7 tyX7 tyX7_ok nmX7 hown hK hP hD hS 0 rfl rfl 9 (by decide) (hts (.fieldLink RX7 9 "SaltStreet$Tokens" "place" "I") (List.mem_of_getElem? (i := 4) rfl)) (fun _ h9 => h9) rfl (by decide +kernel) rfl rfl (Nat.le_of_ble_eq_true rfl) dX7_wrong_22 (fun H locs hP hD hS => ?_)
    have hP : va_P D vwCl [(xa 7, .inr (7, [.ref (xa 1), .int (nI tk_length), .int (nI tk_next), .int tk_kind, .int tk_start, .int tk_number, .long tk_name, .int tk_taken, .int 1, .int tk_start]))] H := hP
    have hD : va_D A [(xa 7, .inr (7, [.ref (xa 1), .int (nI tk_length), .int (nI tk_next), .int tk_kind, .int tk_start, .int tk_number, .long tk_name, .int tk_taken, .int 1, .int tk_start]))] := hD
    refine lv_iconst (v := 0) hx hb dX7_wrong_25 (by decide) ?_
    have hP9 := hP.sub (ws' := [(xa 7, .inr (7, [.ref (xa 1), .int (nI tk_length), .int (nI tk_next), .int tk_kind, .int tk_start, .int tk_number, .long tk_name, .int tk_taken, .int 1, .int tk_start]))]) [0] rfl
    have hD9 := hD.sub (ws' := [(xa 7, .inr (7, [.ref (xa 1), .int (nI tk_length), .int (nI tk_next), .int tk_kind, .int tk_start, .int tk_number, .long tk_name, .int tk_taken, .int 1, .int tk_start]))]) [0] (by decide) rfl
    exact W.zret (v := 0) hx hb hr rfl (fun t9 ht hW => ⟨⟨0, (), rfl, ⟨0, by omega, rfl⟩, 1, tk_start, by rw [ht]; exact hP9, hD9⟩, hS.F ht⟩) hS.2.2 dX7_wrong_26
theorem dX7_pass_0 : decode cX7_pass 0 = .ok (.aload_n 0, 1) := by decide +kernel
theorem dX7_pass_1 : decode cX7_pass 1 = .ok (.getfield 40, 3) := by decide +kernel
theorem dX7_pass_4 : decode cX7_pass 4 = .ok (.iload_n 1, 1) := by decide +kernel
theorem dX7_pass_5 : decode cX7_pass 5 = .ok (.if_icmp .eq 9, 3) := by decide +kernel
theorem dX7_pass_14 : decode cX7_pass 14 = .ok (.aload_n 0, 1) := by decide +kernel
theorem dX7_pass_15 : decode cX7_pass 15 = .ok (.invokevirtual 34, 3) := by decide +kernel
theorem dX7_pass_18 : decode cX7_pass 18 = .ok (.iconst 1, 1) := by decide +kernel
theorem dX7_pass_19 : decode cX7_pass 19 = .ok (.ireturn, 1) := by decide +kernel
theorem dX7_pass_8 : decode cX7_pass 8 = .ok (.aload_n 0, 1) := by decide +kernel
theorem dX7_pass_9 : decode cX7_pass 9 = .ok (.iconst 2, 1) := by decide +kernel
theorem dX7_pass_10 : decode cX7_pass 10 = .ok (.invokevirtual 85, 3) := by decide +kernel
theorem dX7_pass_13 : decode cX7_pass 13 = .ok (.ireturn, 1) := by decide +kernel
def vds_pass_0 : List Cond := [.code yX7_pass cX7_pass 2 (some .boolean), .fieldLink RX7 40 "SaltStreet$Tokens" "kind" "I", .methodLink RX7 34 yX7_advance, .code yX7_advance cX7_advance 1 none, .fieldLink RX7 28 "SaltStreet$Tokens" "next" "I", .fieldLink RX7 25 "SaltStreet$Tokens" "length" "I", .fieldLink RX7 37 "SaltStreet$Tokens" "start" "I", .fieldLink RX7 15 "SaltStreet$Tokens" "text" "[I", .methodLink RX7 43 yX7_isLetter, .code yX7_isLetter cX7_isLetter 1 (some .boolean), .static yX7_isLetter, .initialized RX7, .methodLink RX7 58 yX7_isDigit, .code yX7_isDigit cX7_isDigit 1 (some .boolean), .static yX7_isDigit, .methodLink RX7 64 yX7_cutSign, .code yX7_cutSign cX7_cutSign 2 none, .instanceMethod yX7_cutSign, .selects RX7 yX7_cutSign yX7_cutSign, .methodLink RX7 61 yX7_cutNumber, .code yX7_cutNumber cX7_cutNumber 1 none, .fieldLink RX7 82 "SaltStreet$Tokens" "number" "I", .instanceMethod yX7_cutNumber, .selects RX7 yX7_cutNumber yX7_cutNumber]
def vds_pass_1 : List Cond := [.methodLink RX7 47 yX7_cutWord, .code yX7_cutWord cX7_cutWord 1 none, .fieldLink RX7 50 "SaltStreet$Tokens" "name" "J", .constantLong RX7 67 (27), .constantLong RX7 69 (97), .instanceMethod yX7_cutWord, .selects RX7 yX7_cutWord yX7_cutWord, .methodLink RX7 54 yX7_kindOfWord, .code yX7_kindOfWord cX7_kindOfWord 7 (some .int), .static yX7_kindOfWord, .instanceMethod yX7_advance, .selects RX7 yX7_advance yX7_advance, .methodLink RX7 85 yX7_wrong, .code yX7_wrong cX7_wrong 2 (some .boolean), .fieldLink RX7 31 "SaltStreet$Tokens" "fault" "I", .fieldLink RX7 9 "SaltStreet$Tokens" "place" "I", .instanceMethod yX7_wrong, .selects RX7 yX7_wrong yX7_wrong]
def vds_pass : List Cond := (vds_pass_0 ++ vds_pass_1)
def vs_pass : List Cond := vds_pass ++ (wsX70 ++ ([] : List Cond))
theorem is_pass_X7 : ∀ w ∈ wsX70, w ∈ vs_pass := fun _ h => List.mem_append_right _ (List.mem_append_left _ h)
set_option maxRecDepth 20000 in
theorem gs_pass_34_s_advance : GoodIn vs_pass (wsV RX7 34 RX7 yX7_advance vs_advance) := (goodIn_app (goodIn_r _ [2, 34, 35, 11] rfl (by decide +kernel)) (goodIn_app (goodIn_r vds_advance [3, 4, 5, 6, 7, 8, 9, 10, 11, 12, 13, 14, 15, 16, 1, 17, 18, 19, 20, 21, 22, 23, 24, 25, 26, 27, 28, 29, 30, 31, 32, 33] rfl (by decide +kernel)) (goodIn_app (goodIn_sub is_pass_X7 gdX7) goodIn_nil)))
set_option maxRecDepth 20000 in
theorem gs_pass_85_s_wrong : GoodIn vs_pass (wsV RX7 85 RX7 yX7_wrong vs_wrong) := (goodIn_app (goodIn_r _ [36, 40, 41, 11] rfl (by decide +kernel)) (goodIn_app (goodIn_r vds_wrong [37, 1, 38, 6, 39] rfl (by decide +kernel)) (goodIn_app (goodIn_sub is_pass_X7 gdX7) goodIn_nil)))
set_option maxHeartbeats 4000000 in
set_option maxRecDepth 100000 in
theorem s_pass (l : Launch) (D : va_G) (kc : Nat → ClassId) (sz : Nat) (xa : Nat → Nat) (tk_length : Nat) (tk_next : Nat) (tk_kind : Int32) (tk_start : Int32) (tk_number : Int32) (tk_name : Int64) (tk_taken : Int32) (tk_fault : Int32) (tk_place : Int32) (tape : Nat → Int32) (a0 : Int32) (h_tk_length : tk_length ≤ 900) (h_tk_next : tk_next ≤ 900) : Met l yX7_pass vs_pass ({ frames := 8, cells := 0, slots := 0, locals := 246 }) (va_Pc [.ref (xa 7), .int a0] (wPre D kc [(xa 7, .inr (7, [.ref (xa 1), .int (nI tk_length), .int (nI tk_next), .int tk_kind, .int tk_start, .int tk_number, .long tk_name, .int tk_taken, .int tk_fault, .int tk_place])), (xa 1, .inl (kc 0, 900, .inl tape))] sz)) (va_Qi (fun (r : Int32) (_ : Unit) => (r = 0 ∨ r = 1)) (fun (_ : Unit) (t9 : State) => ∃ tk_next_n : Nat, ∃ tk_kind_n : Int32, ∃ tk_start_n : Int32, ∃ tk_number_n : Int32, ∃ tk_name_n : Int64, ∃ tk_fault_n : Int32, ∃ tk_place_n : Int32, tk_next_n ≤ 900 ∧ va_P D vwCl [(xa 7, .inr (7, [.ref (xa 1), .int (nI tk_length), .int (nI tk_next_n), .int tk_kind_n, .int tk_start_n, .int tk_number_n, .long tk_name_n, .int tk_taken, .int tk_fault_n, .int tk_place_n])), (xa 1, .inl (kc 0, 900, .inl tape))] t9.heap ∧ va_D (va_A [(xa 7, .inr (7, [.ref (xa 1), .int (nI tk_length), .int (nI tk_next), .int tk_kind, .int tk_start, .int tk_number, .long tk_name, .int tk_taken, .int tk_fault, .int tk_place])), (xa 1, .inl (kc 0, 900, .inl tape))] sz) [(xa 7, .inr (7, [.ref (xa 1), .int (nI tk_length), .int (nI tk_next_n), .int tk_kind_n, .int tk_start_n, .int tk_number_n, .long tk_name_n, .int tk_taken, .int tk_fault_n, .int tk_place_n])), (xa 1, .inl (kc 0, 900, .inl tape))]) (va_A [(xa 7, .inr (7, [.ref (xa 1), .int (nI tk_length), .int (nI tk_next), .int tk_kind, .int tk_start, .int tk_number, .long tk_name, .int tk_taken, .int tk_fault, .int tk_place])), (xa 1, .inl (kc 0, 900, .inl tape))] sz)) 0 0 (va_A [(xa 7, .inr (7, [.ref (xa 1), .int (nI tk_length), .int (nI tk_next), .int tk_kind, .int tk_start, .int tk_number, .long tk_name, .int tk_taken, .int tk_fault, .int tk_place])), (xa 1, .inl (kc 0, 900, .inl tape))] sz) := by
  refine Met.ofW (cc := cX7_pass) (maxL := 2) (ret := (some .boolean)) (by decide) rfl ?_
  intro p e s m args below meth c s₁ B hml hv
  obtain ⟨rfl, hsz, hP, hE, hD0⟩ := hv
  have hx := B.exec
  have hb := B.bytes
  have hr := B.returns
  have hts := atoms_spec (ws := vs_pass) B.pre
  have hown : s.vm.findClass RX7 = some m.cls := findClass_of_methodNamed B.named
  have hlocks := B.notSynchronized
  subst hsz
  have hD := hD0.self (sz := s.heap.size)
  generalize hAe : va_A [(xa 7, .inr (7, [.ref (xa 1), .int (nI tk_length), .int (nI tk_next), .int tk_kind, .int tk_start, .int tk_number, .long tk_name, .int tk_taken, .int tk_fault, .int tk_place])), (xa 1, .inl (kc 0, 900, .inl tape))] s.heap.size = A at hD ⊢
  have hA : ∀ q : Nat, s.heap.size ≤ q → A q := fun q h => by rw [← hAe]; exact Or.inr h
  have hS : va_S A s.heap s.heap [] := va_S.rf
  have hK := hE.1
  have hP : va_P D vwCl [(xa 7, .inr (7, [.ref (xa 1), .int (nI tk_length), .int (nI tk_next), .int tk_kind, .int tk_start, .int tk_number, .long tk_name, .int tk_taken, .int tk_fault, .int tk_place])), (xa 1, .inl (kc 0, 900, .inl tape))] s.heap := hP
  have hl := lv_entry ([.ref (xa 7), .int a0]) (n := 2) (Nat.le_of_ble_eq_true rfl)
  rw [lg_entry_eq]
  generalize (lg_sl ([.ref (xa 7), .int a0]) ++ List.replicate (2 - (lg_sl ([.ref (xa 7), .int a0])).length) Slot.unset).toArray = ls at hl ⊢
  have hl : lv_has ls 2 [(0, .ref (xa 7)), (1, .int a0)] := hl
  refine lv_aload_n hx hb dX7_pass_0 rfl (lv_at hl 0 rfl) ?_
  refine va_get (D := D) (ci := 7) (v := .int tk_kind) (C := RX7) (T := TX7) (N := 10) hx hb hts is_pass_X7 hown hK hP 0 rfl rfl 3 (by decide) (hts (.fieldLink RX7 40 "SaltStreet$Tokens" "kind" "I") (List.mem_of_getElem? (i := 1) rfl)) (fun _ h9 => h9) rfl dX7_pass_1 ?_
  refine lv_iload_n hx hb dX7_pass_4 rfl (lv_at hl 1 rfl) ?_
  refine lv_icmp_eq (tgt := 14) hx hb dX7_pass_5 (by decide) (fun c1 => ?_) (fun c1 => ?_)
  · refine lv_aload_n hx hb dX7_pass_14 rfl (lv_at hl 0 rfl) ?_
    have hPc := hP.sub (ws' := [(xa 7, .inr (7, [.ref (xa 1), .int (nI tk_length), .int (nI tk_next), .int tk_kind, .int tk_start, .int tk_number, .long tk_name, .int tk_taken, .int tk_fault, .int tk_place])), (xa 1, .inl (kc 0, 900, .inl tape))]) [0, 1] rfl
    have hDc := hD.sub (ws' := [(xa 7, .inr (7, [.ref (xa 1), .int (nI tk_length), .int (nI tk_next), .int tk_kind, .int tk_start, .int tk_number, .long tk_name, .int tk_taken, .int tk_fault, .int tk_place])), (xa 1, .inl (kc 0, 900, .inl tape))]) [0, 1] (by decide) rfl
    have hFc := va_free (wc := [(xa 7, .inr (7, [.ref (xa 1), .int (nI tk_length), .int (nI tk_next), .int tk_kind, .int tk_start, .int tk_number, .long tk_name, .int tk_taken, .int tk_fault, .int tk_place])), (xa 1, .inl (kc 0, 900, .inl tape))]) hD hS hA [0, 1] rfl
    refine va_callv (va_runV (As := []) (rest := []) ⟨hx, hb, hml, hown, hts⟩ (s_advance l D kc s.heap.size xa tk_length tk_next tk_kind tk_start tk_number tk_name tk_taken tk_fault tk_place tape (by omega) (by omega)) (cwV 0 hts gs_pass_34_s_advance rfl rfl rfl (by decide +kernel) ⟨Nat.le_of_ble_eq_true rfl, Nat.le_of_ble_eq_true rfl⟩) (preV_ok hPc hDc hE (ci := 7) (q0 := 0) rfl rfl) rfl rfl hl.1 rfl (lv_room (Nat.le_of_ble_eq_true rfl)) dX7_pass_15 ⟨Nat.le_of_ble_eq_true rfl, Nat.le_of_ble_eq_true rfl⟩) hS (fun q _ h => hFc q h) hFc (fun u9 t9 H locs ht hvm hw hB hz1 hk1 hS => ?_)
    obtain ⟨k3, z4, z5, z6, y7, h_k3, hP1, hD1⟩ := hB
    rw [ht] at hP1
    obtain ⟨hP, hD⟩ := va_join (wr := []) (w1 := [(xa 7, .inr (7, [.ref (xa 1), .int (nI tk_length), .int (nI k3), .int z4, .int z5, .int z6, .long y7, .int tk_taken, .int tk_fault, .int tk_place])), (xa 1, .inl (kc 0, 900, .inl tape))]) hP hD [0, 1] [] rfl rfl (by decide) (by decide) hk1 hFc hP1 hD1
    have hP : va_P D vwCl [(xa 7, .inr (7, [.ref (xa 1), .int (nI tk_length), .int (nI k3), .int z4, .int z5, .int z6, .long y7, .int tk_taken, .int tk_fault, .int tk_place])), (xa 1, .inl (kc 0, 900, .inl tape))] H := hP
    have hD : va_D A [(xa 7, .inr (7, [.ref (xa 1), .int (nI tk_length), .int (nI k3), .int z4, .int z5, .int z6, .long y7, .int tk_taken, .int tk_fault, .int tk_place])), (xa 1, .inl (kc 0, 900, .inl tape))] := hD
    refine lv_iconst (v := 1) hx hb dX7_pass_18 (by decide) ?_
    have hP9 := hP.sub (ws' := [(xa 7, .inr (7, [.ref (xa 1), .int (nI tk_length), .int (nI k3), .int z4, .int z5, .int z6, .long y7, .int tk_taken, .int tk_fault, .int tk_place])), (xa 1, .inl (kc 0, 900, .inl tape))]) [0, 1] rfl
    have hD9 := hD.sub (ws' := [(xa 7, .inr (7, [.ref (xa 1), .int (nI tk_length), .int (nI k3), .int z4, .int z5, .int z6, .long y7, .int tk_taken, .int tk_fault, .int tk_place])), (xa 1, .inl (kc 0, 900, .inl tape))]) [0, 1] (by decide) rfl
    exact W.zret (v := 1) hx hb hr rfl (fun t9 ht hW => ⟨⟨1, (), rfl, Or.inr rfl, k3, z4, z5, z6, y7, tk_fault, tk_place, by omega, by rw [ht]; exact hP9, hD9⟩, hS.F ht⟩) hS.2.2 dX7_pass_19
  · refine lv_aload_n hx hb dX7_pass_8 rfl (lv_at hl 0 rfl) ?_
    refine lv_iconst (v := 2) hx hb dX7_pass_9 (by decide) ?_
    have hPc := hP.sub (ws' := [(xa 7, .inr (7, [.ref (xa 1), .int (nI tk_length), .int (nI tk_next), .int tk_kind, .int tk_start, .int tk_number, .long tk_name, .int tk_taken, .int tk_fault, .int tk_place]))]) [0] rfl
    have hDc := hD.sub (ws' := [(xa 7, .inr (7, [.ref (xa 1), .int (nI tk_length), .int (nI tk_next), .int tk_kind, .int tk_start, .int tk_number, .long tk_name, .int tk_taken, .int tk_fault, .int tk_place]))]) [0] (by decide) rfl
    have hFc := va_free (wc := [(xa 7, .inr (7, [.ref (xa 1), .int (nI tk_length), .int (nI tk_next), .int tk_kind, .int tk_start, .int tk_number, .long tk_name, .int tk_taken, .int tk_fault, .int tk_place]))]) hD hS hA [0] rfl
    refine va_calli (va_runV (As := [.int 2]) (rest := []) ⟨hx, hb, hml, hown, hts⟩ (s_wrong l D kc s.heap.size xa tk_length tk_next tk_kind tk_start tk_number tk_name tk_taken tk_fault tk_place 2 (by omega) (by omega)) (cwV 1 hts gs_pass_85_s_wrong rfl rfl rfl (by decide +kernel) ⟨Nat.le_of_ble_eq_true rfl, Nat.le_of_ble_eq_true rfl⟩) (preV_ok hPc hDc hE (ci := 7) (q0 := 0) rfl rfl) rfl rfl hl.1 rfl (lv_room (Nat.le_of_ble_eq_true rfl)) dX7_pass_10 ⟨Nat.le_of_ble_eq_true rfl, Nat.le_of_ble_eq_true rfl⟩) hS (fun q _ h => hFc q h) hFc (fun r8 u9 t9 H locs ht hvm hw hB hz1 hk1 hS => ?_)
    obtain ⟨z9, z10, hP1, hD1⟩ := hB
    rw [ht] at hP1
    obtain ⟨hP, hD⟩ := va_join (wr := [(xa 1, .inl (kc 0, 900, .inl tape))]) (w1 := [(xa 7, .inr (7, [.ref (xa 1), .int (nI tk_length), .int (nI tk_next), .int tk_kind, .int tk_start, .int tk_number, .long tk_name, .int tk_taken, .int z9, .int z10]))]) hP hD [0] [1] rfl rfl (by decide) (by decide) hk1 hFc hP1 hD1
    have hP : va_P D vwCl [(xa 1, .inl (kc 0, 900, .inl tape)), (xa 7, .inr (7, [.ref (xa 1), .int (nI tk_length), .int (nI tk_next), .int tk_kind, .int tk_start, .int tk_number, .long tk_name, .int tk_taken, .int z9, .int z10]))] H := hP
    have hD : va_D A [(xa 1, .inl (kc 0, 900, .inl tape)), (xa 7, .inr (7, [.ref (xa 1), .int (nI tk_length), .int (nI tk_next), .int tk_kind, .int tk_start, .int tk_number, .long tk_name, .int tk_taken, .int z9, .int z10]))] := hD
    obtain ⟨k11, h_k11, rfl⟩ := hw
    have hP9 := hP.sub (ws' := [(xa 7, .inr (7, [.ref (xa 1), .int (nI tk_length), .int (nI tk_next), .int tk_kind, .int tk_start, .int tk_number, .long tk_name, .int tk_taken, .int z9, .int z10])), (xa 1, .inl (kc 0, 900, .inl tape))]) [1, 0] rfl
    have hD9 := hD.sub (ws' := [(xa 7, .inr (7, [.ref (xa 1), .int (nI tk_length), .int (nI tk_next), .int tk_kind, .int tk_start, .int tk_number, .long tk_name, .int tk_taken, .int z9, .int z10])), (xa 1, .inl (kc 0, 900, .inl tape))]) [1, 0] (by decide) rfl
    exact W.zret (v := (nI k11)) hx hb hr (nar_b (nat01 (by omega))) (fun t9 ht hW => ⟨⟨(nI k11), (), rfl, nat01 (by omega), tk_next, tk_kind, tk_start, tk_number, tk_name, z9, z10, by omega, by rw [ht]; exact hP9, hD9⟩, hS.F ht⟩) hS.2.2 dX7_pass_13
theorem dX7_passNumber_0 : decode cX7_passNumber 0 = .ok (.aload_n 0, 1) := by decide +kernel
theorem dX7_passNumber_1 : decode cX7_passNumber 1 = .ok (.getfield 40, 3) := by decide +kernel
theorem dX7_passNumber_4 : decode cX7_passNumber 4 = .ok (.iconst 3, 1) := by decide +kernel
theorem dX7_passNumber_5 : decode cX7_passNumber 5 = .ok (.if_icmp .eq 9, 3) := by decide +kernel
theorem dX7_passNumber_14 : decode cX7_passNumber 14 = .ok (.aload_n 0, 1) := by decide +kernel
theorem dX7_passNumber_15 : decode cX7_passNumber 15 = .ok (.getfield 82, 3) := by decide +kernel
theorem dX7_passNumber_18 : decode cX7_passNumber 18 = .ok (.iload_n 1, 1) := by decide +kernel
theorem dX7_passNumber_19 : decode cX7_passNumber 19 = .ok (.iload_n 2, 1) := by decide +kernel
theorem dX7_passNumber_20 : decode cX7_passNumber 20 = .ok (.invokestatic 88, 3) := by decide +kernel
theorem dX7_passNumber_23 : decode cX7_passNumber 23 = .ok (.ifCond .ne 9, 3) := by decide +kernel
theorem dX7_passNumber_32 : decode cX7_passNumber 32 = .ok (.aload_n 0, 1) := by decide +kernel
theorem dX7_passNumber_33 : decode cX7_passNumber 33 = .ok (.aload_n 0, 1) := by decide +kernel
theorem dX7_passNumber_34 : decode cX7_passNumber 34 = .ok (.getfield 82, 3) := by decide +kernel
theorem dX7_passNumber_37 : decode cX7_passNumber 37 = .ok (.putfield 92, 3) := by decide +kernel
theorem dX7_passNumber_40 : decode cX7_passNumber 40 = .ok (.aload_n 0, 1) := by decide +kernel
theorem dX7_passNumber_41 : decode cX7_passNumber 41 = .ok (.invokevirtual 34, 3) := by decide +kernel
theorem dX7_passNumber_44 : decode cX7_passNumber 44 = .ok (.iconst 1, 1) := by decide +kernel
theorem dX7_passNumber_45 : decode cX7_passNumber 45 = .ok (.ireturn, 1) := by decide +kernel
theorem dX7_passNumber_26 : decode cX7_passNumber 26 = .ok (.aload_n 0, 1) := by decide +kernel
theorem dX7_passNumber_27 : decode cX7_passNumber 27 = .ok (.iconst 4, 1) := by decide +kernel
theorem dX7_passNumber_28 : decode cX7_passNumber 28 = .ok (.invokevirtual 85, 3) := by decide +kernel
theorem dX7_passNumber_31 : decode cX7_passNumber 31 = .ok (.ireturn, 1) := by decide +kernel
theorem dX7_passNumber_8 : decode cX7_passNumber 8 = .ok (.aload_n 0, 1) := by decide +kernel
theorem dX7_passNumber_9 : decode cX7_passNumber 9 = .ok (.iconst 2, 1) := by decide +kernel
theorem dX7_passNumber_10 : decode cX7_passNumber 10 = .ok (.invokevirtual 85, 3) := by decide +kernel
theorem dX7_passNumber_13 : decode cX7_passNumber 13 = .ok (.ireturn, 1) := by decide +kernel
def vds_passNumber_0 : List Cond := [.code yX7_passNumber cX7_passNumber 3 (some .boolean), .fieldLink RX7 40 "SaltStreet$Tokens" "kind" "I", .fieldLink RX7 82 "SaltStreet$Tokens" "number" "I", .code yX11_within cX11_within 3 (some .boolean), .initialized RX11, .static yX11_within, .fieldLink RX7 92 "SaltStreet$Tokens" "taken" "I", .methodLink RX7 34 yX7_advance, .code yX7_advance cX7_advance 1 none, .fieldLink RX7 28 "SaltStreet$Tokens" "next" "I", .fieldLink RX7 25 "SaltStreet$Tokens" "length" "I", .fieldLink RX7 37 "SaltStreet$Tokens" "start" "I", .fieldLink RX7 15 "SaltStreet$Tokens" "text" "[I", .methodLink RX7 43 yX7_isLetter, .code yX7_isLetter cX7_isLetter 1 (some .boolean), .static yX7_isLetter, .initialized RX7, .methodLink RX7 58 yX7_isDigit, .code yX7_isDigit cX7_isDigit 1 (some .boolean), .static yX7_isDigit, .methodLink RX7 64 yX7_cutSign, .code yX7_cutSign cX7_cutSign 2 none, .instanceMethod yX7_cutSign, .selects RX7 yX7_cutSign yX7_cutSign]
def vds_passNumber_1 : List Cond := [.methodLink RX7 61 yX7_cutNumber, .code yX7_cutNumber cX7_cutNumber 1 none, .instanceMethod yX7_cutNumber, .selects RX7 yX7_cutNumber yX7_cutNumber, .methodLink RX7 47 yX7_cutWord, .code yX7_cutWord cX7_cutWord 1 none, .fieldLink RX7 50 "SaltStreet$Tokens" "name" "J", .constantLong RX7 67 (27), .constantLong RX7 69 (97), .instanceMethod yX7_cutWord, .selects RX7 yX7_cutWord yX7_cutWord, .methodLink RX7 54 yX7_kindOfWord, .code yX7_kindOfWord cX7_kindOfWord 7 (some .int), .static yX7_kindOfWord, .instanceMethod yX7_advance, .selects RX7 yX7_advance yX7_advance, .methodLink RX7 85 yX7_wrong, .code yX7_wrong cX7_wrong 2 (some .boolean), .fieldLink RX7 31 "SaltStreet$Tokens" "fault" "I", .fieldLink RX7 9 "SaltStreet$Tokens" "place" "I", .instanceMethod yX7_wrong, .selects RX7 yX7_wrong yX7_wrong]
def vds_passNumber : List Cond := (vds_passNumber_0 ++ vds_passNumber_1)
def vs_passNumber : List Cond := vds_passNumber ++ (wsX70 ++ ([] : List Cond))
theorem is_passNumber_X7 : ∀ w ∈ wsX70, w ∈ vs_passNumber := fun _ h => List.mem_append_right _ (List.mem_append_left _ h)
set_option maxRecDepth 20000 in
theorem gs_passNumber_88_s_within : GoodIn vs_passNumber vs_within := (goodIn_app (goodIn_r vds_within [3] rfl (by decide +kernel)) goodIn_nil)
set_option maxRecDepth 20000 in
theorem gs_passNumber_34_s_advance : GoodIn vs_passNumber (wsV RX7 34 RX7 yX7_advance vs_advance) := (goodIn_app (goodIn_r _ [7, 38, 39, 16] rfl (by decide +kernel)) (goodIn_app (goodIn_r vds_advance [8, 9, 10, 11, 12, 13, 14, 15, 16, 17, 18, 19, 20, 21, 1, 22, 23, 24, 25, 2, 26, 27, 28, 29, 30, 31, 32, 33, 34, 35, 36, 37] rfl (by decide +kernel)) (goodIn_app (goodIn_sub is_passNumber_X7 gdX7) goodIn_nil)))
set_option maxRecDepth 20000 in
theorem gs_passNumber_85_s_wrong : GoodIn vs_passNumber (wsV RX7 85 RX7 yX7_wrong vs_wrong) := (goodIn_app (goodIn_r _ [40, 44, 45, 16] rfl (by decide +kernel)) (goodIn_app (goodIn_r vds_wrong [41, 1, 42, 11, 43] rfl (by decide +kernel)) (goodIn_app (goodIn_sub is_passNumber_X7 gdX7) goodIn_nil)))
set_option maxHeartbeats 4000000 in
set_option maxRecDepth 100000 in
theorem s_passNumber (l : Launch) (D : va_G) (kc : Nat → ClassId) (sz : Nat) (xa : Nat → Nat) (tk_length : Nat) (tk_next : Nat) (tk_kind : Int32) (tk_start : Int32) (tk_number : Int32) (tk_name : Int64) (tk_taken : Int32) (tk_fault : Int32) (tk_place : Int32) (tape : Nat → Int32) (a0 : Int32) (a1 : Int32) (h_tk_length : tk_length ≤ 900) (h_tk_next : tk_next ≤ 900) : Met l yX7_passNumber vs_passNumber ({ frames := 8, cells := 0, slots := 0, locals := 246 }) (va_Pc [.ref (xa 7), .int a0, .int a1] (wPre D kc [(xa 7, .inr (7, [.ref (xa 1), .int (nI tk_length), .int (nI tk_next), .int tk_kind, .int tk_start, .int tk_number, .long tk_name, .int tk_taken, .int tk_fault, .int tk_place])), (xa 1, .inl (kc 0, 900, .inl tape))] sz)) (va_Qi (fun (r : Int32) (_ : Unit) => (r = 0 ∨ r = 1)) (fun (_ : Unit) (t9 : State) => ∃ tk_next_n : Nat, ∃ tk_kind_n : Int32, ∃ tk_start_n : Int32, ∃ tk_number_n : Int32, ∃ tk_name_n : Int64, ∃ tk_taken_n : Int32, ∃ tk_fault_n : Int32, ∃ tk_place_n : Int32, tk_next_n ≤ 900 ∧ va_P D vwCl [(xa 7, .inr (7, [.ref (xa 1), .int (nI tk_length), .int (nI tk_next_n), .int tk_kind_n, .int tk_start_n, .int tk_number_n, .long tk_name_n, .int tk_taken_n, .int tk_fault_n, .int tk_place_n])), (xa 1, .inl (kc 0, 900, .inl tape))] t9.heap ∧ va_D (va_A [(xa 7, .inr (7, [.ref (xa 1), .int (nI tk_length), .int (nI tk_next), .int tk_kind, .int tk_start, .int tk_number, .long tk_name, .int tk_taken, .int tk_fault, .int tk_place])), (xa 1, .inl (kc 0, 900, .inl tape))] sz) [(xa 7, .inr (7, [.ref (xa 1), .int (nI tk_length), .int (nI tk_next_n), .int tk_kind_n, .int tk_start_n, .int tk_number_n, .long tk_name_n, .int tk_taken_n, .int tk_fault_n, .int tk_place_n])), (xa 1, .inl (kc 0, 900, .inl tape))]) (va_A [(xa 7, .inr (7, [.ref (xa 1), .int (nI tk_length), .int (nI tk_next), .int tk_kind, .int tk_start, .int tk_number, .long tk_name, .int tk_taken, .int tk_fault, .int tk_place])), (xa 1, .inl (kc 0, 900, .inl tape))] sz)) 0 0 (va_A [(xa 7, .inr (7, [.ref (xa 1), .int (nI tk_length), .int (nI tk_next), .int tk_kind, .int tk_start, .int tk_number, .long tk_name, .int tk_taken, .int tk_fault, .int tk_place])), (xa 1, .inl (kc 0, 900, .inl tape))] sz) := by
  refine Met.ofW (cc := cX7_passNumber) (maxL := 3) (ret := (some .boolean)) (by decide) rfl ?_
  intro p e s m args below meth c s₁ B hml hv
  obtain ⟨rfl, hsz, hP, hE, hD0⟩ := hv
  have hx := B.exec
  have hb := B.bytes
  have hr := B.returns
  have hts := atoms_spec (ws := vs_passNumber) B.pre
  have hown : s.vm.findClass RX7 = some m.cls := findClass_of_methodNamed B.named
  have hlocks := B.notSynchronized
  subst hsz
  have hD := hD0.self (sz := s.heap.size)
  generalize hAe : va_A [(xa 7, .inr (7, [.ref (xa 1), .int (nI tk_length), .int (nI tk_next), .int tk_kind, .int tk_start, .int tk_number, .long tk_name, .int tk_taken, .int tk_fault, .int tk_place])), (xa 1, .inl (kc 0, 900, .inl tape))] s.heap.size = A at hD ⊢
  have hA : ∀ q : Nat, s.heap.size ≤ q → A q := fun q h => by rw [← hAe]; exact Or.inr h
  have hS : va_S A s.heap s.heap [] := va_S.rf
  have hK := hE.1
  have hP : va_P D vwCl [(xa 7, .inr (7, [.ref (xa 1), .int (nI tk_length), .int (nI tk_next), .int tk_kind, .int tk_start, .int tk_number, .long tk_name, .int tk_taken, .int tk_fault, .int tk_place])), (xa 1, .inl (kc 0, 900, .inl tape))] s.heap := hP
  have hl := lv_entry ([.ref (xa 7), .int a0, .int a1]) (n := 3) (Nat.le_of_ble_eq_true rfl)
  rw [lg_entry_eq]
  generalize (lg_sl ([.ref (xa 7), .int a0, .int a1]) ++ List.replicate (3 - (lg_sl ([.ref (xa 7), .int a0, .int a1])).length) Slot.unset).toArray = ls at hl ⊢
  have hl : lv_has ls 3 [(0, .ref (xa 7)), (1, .int a0), (2, .int a1)] := hl
  refine lv_aload_n hx hb dX7_passNumber_0 rfl (lv_at hl 0 rfl) ?_
  refine va_get (D := D) (ci := 7) (v := .int tk_kind) (C := RX7) (T := TX7) (N := 10) hx hb hts is_passNumber_X7 hown hK hP 0 rfl rfl 3 (by decide) (hts (.fieldLink RX7 40 "SaltStreet$Tokens" "kind" "I") (List.mem_of_getElem? (i := 1) rfl)) (fun _ h9 => h9) rfl dX7_passNumber_1 ?_
  refine lv_iconst (v := 3) hx hb dX7_passNumber_4 (by decide) ?_
  refine lv_icmp_eq (tgt := 14) hx hb dX7_passNumber_5 (by decide) (fun c1 => ?_) (fun c1 => ?_)
  · refine lv_aload_n hx hb dX7_passNumber_14 rfl (lv_at hl 0 rfl) ?_
    refine va_get (D := D) (ci := 7) (v := .int tk_number) (C := RX7) (T := TX7) (N := 10) hx hb hts is_passNumber_X7 hown hK hP 0 rfl rfl 5 (by decide) (hts (.fieldLink RX7 82 "SaltStreet$Tokens" "number" "I") (List.mem_of_getElem? (i := 2) rfl)) (fun _ h9 => h9) rfl dX7_passNumber_15 ?_
    refine lv_iload_n hx hb dX7_passNumber_18 rfl (lv_at hl 1 rfl) ?_
    refine lv_iload_n hx hb dX7_passNumber_19 rfl (lv_at hl 2 rfl) ?_
    have hPc := hP.sub (ws' := []) [] rfl
    have hDc := hD.sub (ws' := []) [] (by decide) rfl
    have hFc := va_free (wc := []) hD hS hA [] rfl
    refine va_calli (va_runSN (As := [.int tk_number, .int a0, .int a1]) (rest := []) ⟨hx, hb, hml, hown, hts⟩ (s_within l D kc s.heap.size tk_number a0 a1) ⟨va_cnB 3 hts gs_passNumber_88_s_within rfl rfl rfl (hE.nn 119 rfl) (hts (.initialized RX11) (List.mem_of_getElem? (i := 4) rfl)) (by decide +kernel) ⟨Nat.le_of_ble_eq_true rfl, Nat.le_of_ble_eq_true rfl⟩, (hts (.static yX11_within) (List.mem_of_getElem? (i := 5) rfl)), trivial⟩ (preS_ok hPc hDc hE) rfl rfl hl.1 rfl (lv_room (Nat.le_of_ble_eq_true rfl)) dX7_passNumber_20 ⟨Nat.le_of_ble_eq_true rfl, Nat.le_of_ble_eq_true rfl⟩) hS (fun q _ h => hFc q h) hFc (fun r2 u9 t9 H locs ht hvm hw hB hz1 hk1 hS => ?_)
    obtain ⟨hP1, hD1⟩ := hB
    rw [ht] at hP1
    obtain ⟨hP, hD⟩ := va_join (wr := [(xa 7, .inr (7, [.ref (xa 1), .int (nI tk_length), .int (nI tk_next), .int tk_kind, .int tk_start, .int tk_number, .long tk_name, .int tk_taken, .int tk_fault, .int tk_place])), (xa 1, .inl (kc 0, 900, .inl tape))]) (w1 := []) hP hD [] [0, 1] rfl rfl (by decide) (by decide) hk1 hFc hP1 hD1
    have hP : va_P D vwCl [(xa 7, .inr (7, [.ref (xa 1), .int (nI tk_length), .int (nI tk_next), .int tk_kind, .int tk_start, .int tk_number, .long tk_name, .int tk_taken, .int tk_fault, .int tk_place])), (xa 1, .inl (kc 0, 900, .inl tape))] H := hP
    have hD : va_D A [(xa 7, .inr (7, [.ref (xa 1), .int (nI tk_length), .int (nI tk_next), .int tk_kind, .int tk_start, .int tk_number, .long tk_name, .int tk_taken, .int tk_fault, .int tk_place])), (xa 1, .inl (kc 0, 900, .inl tape))] := hD
    have w_r2 := hw
    refine lv_if_ne (tgt := 32) hx hb dX7_passNumber_23 (by decide) (fun c3 => ?_) (fun c3 => ?_)
    · refine lv_aload_n hx hb dX7_passNumber_32 rfl (lv_at hl 0 rfl) ?_
      refine lv_aload_n hx hb dX7_passNumber_33 rfl (lv_at hl 0 rfl) ?_
      refine va_get (D := D) (ci := 7) (v := .int tk_number) (C := RX7) (T := TX7) (N := 10) hx hb hts is_passNumber_X7 hown hK hP 0 rfl rfl 5 (by decide) (hts (.fieldLink RX7 82 "SaltStreet$Tokens" "number" "I") (List.mem_of_getElem? (i := 2) rfl)) (fun _ h9 => h9) rfl dX7_passNumber_34 ?_
      refine va_put (D := D) (ci := 7) (v := .int tk_number) (ty := .int) (C := RX7) (T := TX7) (N := 10) hx hb hts is_passNumber_X7 tyX7 tyX7_ok nmX7 hown hK hP hD hS 0 rfl rfl 7 (by decide) (hts (.fieldLink RX7 92 "SaltStreet$Tokens" "taken" "I") (List.mem_of_getElem? (i := 6) rfl)) (fun _ h9 => h9) rfl (by decide +kernel) rfl rfl (Nat.le_of_ble_eq_true rfl) dX7_passNumber_37 (fun H locs hP hD hS => ?_)
      have hP : va_P D vwCl [(xa 7, .inr (7, [.ref (xa 1), .int (nI tk_length), .int (nI tk_next), .int tk_kind, .int tk_start, .int tk_number, .long tk_name, .int tk_number, .int tk_fault, .int tk_place])), (xa 1, .inl (kc 0, 900, .inl tape))] H := hP
      have hD : va_D A [(xa 7, .inr (7, [.ref (xa 1), .int (nI tk_length), .int (nI tk_next), .int tk_kind, .int tk_start, .int tk_number, .long tk_name, .int tk_number, .int tk_fault, .int tk_place])), (xa 1, .inl (kc 0, 900, .inl tape))] := hD
      refine lv_aload_n hx hb dX7_passNumber_40 rfl (lv_at hl 0 rfl) ?_
      have hPc := hP.sub (ws' := [(xa 7, .inr (7, [.ref (xa 1), .int (nI tk_length), .int (nI tk_next), .int tk_kind, .int tk_start, .int tk_number, .long tk_name, .int tk_number, .int tk_fault, .int tk_place])), (xa 1, .inl (kc 0, 900, .inl tape))]) [0, 1] rfl
      have hDc := hD.sub (ws' := [(xa 7, .inr (7, [.ref (xa 1), .int (nI tk_length), .int (nI tk_next), .int tk_kind, .int tk_start, .int tk_number, .long tk_name, .int tk_number, .int tk_fault, .int tk_place])), (xa 1, .inl (kc 0, 900, .inl tape))]) [0, 1] (by decide) rfl
      have hFc := va_free (wc := [(xa 7, .inr (7, [.ref (xa 1), .int (nI tk_length), .int (nI tk_next), .int tk_kind, .int tk_start, .int tk_number, .long tk_name, .int tk_number, .int tk_fault, .int tk_place])), (xa 1, .inl (kc 0, 900, .inl tape))]) hD hS hA [0, 1] rfl
      refine va_callv (va_runV (As := []) (rest := []) ⟨hx, hb, hml, hown, hts⟩ (s_advance l D kc H.size xa tk_length tk_next tk_kind tk_start tk_number tk_name tk_number tk_fault tk_place tape (by omega) (by omega)) (cwV 0 hts gs_passNumber_34_s_advance rfl rfl rfl (by decide +kernel) ⟨Nat.le_of_ble_eq_true rfl, Nat.le_of_ble_eq_true rfl⟩) (preV_ok hPc hDc hE (ci := 7) (q0 := 0) rfl rfl) rfl rfl hl.1 rfl (lv_room (Nat.le_of_ble_eq_true rfl)) dX7_passNumber_41 ⟨Nat.le_of_ble_eq_true rfl, Nat.le_of_ble_eq_true rfl⟩) hS (fun q _ h => hFc q h) hFc (fun u9 t9 H locs ht hvm hw hB hz1 hk1 hS => ?_)
      obtain ⟨k5, z6, z7, z8, y9, h_k5, hP1, hD1⟩ := hB
      rw [ht] at hP1
      obtain ⟨hP, hD⟩ := va_join (wr := []) (w1 := [(xa 7, .inr (7, [.ref (xa 1), .int (nI tk_length), .int (nI k5), .int z6, .int z7, .int z8, .long y9, .int tk_number, .int tk_fault, .int tk_place])), (xa 1, .inl (kc 0, 900, .inl tape))]) hP hD [0, 1] [] rfl rfl (by decide) (by decide) hk1 hFc hP1 hD1
      have hP : va_P D vwCl [(xa 7, .inr (7, [.ref (xa 1), .int (nI tk_length), .int (nI k5), .int z6, .int z7, .int z8, .long y9, .int tk_number, .int tk_fault, .int tk_place])), (xa 1, .inl (kc 0, 900, .inl tape))] H := hP
      have hD : va_D A [(xa 7, .inr (7, [.ref (xa 1), .int (nI tk_length), .int (nI k5), .int z6, .int z7, .int z8, .long y9, .int tk_number, .int tk_fault, .int tk_place])), (xa 1, .inl (kc 0, 900, .inl tape))] := hD
      refine lv_iconst (v := 1) hx hb dX7_passNumber_44 (by decide) ?_
      have hP9 := hP.sub (ws' := [(xa 7, .inr (7, [.ref (xa 1), .int (nI tk_length), .int (nI k5), .int z6, .int z7, .int z8, .long y9, .int tk_number, .int tk_fault, .int tk_place])), (xa 1, .inl (kc 0, 900, .inl tape))]) [0, 1] rfl
      have hD9 := hD.sub (ws' := [(xa 7, .inr (7, [.ref (xa 1), .int (nI tk_length), .int (nI k5), .int z6, .int z7, .int z8, .long y9, .int tk_number, .int tk_fault, .int tk_place])), (xa 1, .inl (kc 0, 900, .inl tape))]) [0, 1] (by decide) rfl
      exact W.zret (v := 1) hx hb hr rfl (fun t9 ht hW => ⟨⟨1, (), rfl, Or.inr rfl, k5, z6, z7, z8, y9, tk_number, tk_fault, tk_place, by omega, by rw [ht]; exact hP9, hD9⟩, hS.F ht⟩) hS.2.2 dX7_passNumber_45
    · refine lv_aload_n hx hb dX7_passNumber_26 rfl (lv_at hl 0 rfl) ?_
      refine lv_iconst (v := 4) hx hb dX7_passNumber_27 (by decide) ?_
      have hPc := hP.sub (ws' := [(xa 7, .inr (7, [.ref (xa 1), .int (nI tk_length), .int (nI tk_next), .int tk_kind, .int tk_start, .int tk_number, .long tk_name, .int tk_taken, .int tk_fault, .int tk_place]))]) [0] rfl
      have hDc := hD.sub (ws' := [(xa 7, .inr (7, [.ref (xa 1), .int (nI tk_length), .int (nI tk_next), .int tk_kind, .int tk_start, .int tk_number, .long tk_name, .int tk_taken, .int tk_fault, .int tk_place]))]) [0] (by decide) rfl
      have hFc := va_free (wc := [(xa 7, .inr (7, [.ref (xa 1), .int (nI tk_length), .int (nI tk_next), .int tk_kind, .int tk_start, .int tk_number, .long tk_name, .int tk_taken, .int tk_fault, .int tk_place]))]) hD hS hA [0] rfl
      refine va_calli (va_runV (As := [.int 4]) (rest := []) ⟨hx, hb, hml, hown, hts⟩ (s_wrong l D kc H.size xa tk_length tk_next tk_kind tk_start tk_number tk_name tk_taken tk_fault tk_place 4 (by omega) (by omega)) (cwV 1 hts gs_passNumber_85_s_wrong rfl rfl rfl (by decide +kernel) ⟨Nat.le_of_ble_eq_true rfl, Nat.le_of_ble_eq_true rfl⟩) (preV_ok hPc hDc hE (ci := 7) (q0 := 0) rfl rfl) rfl rfl hl.1 rfl (lv_room (Nat.le_of_ble_eq_true rfl)) dX7_passNumber_28 ⟨Nat.le_of_ble_eq_true rfl, Nat.le_of_ble_eq_true rfl⟩) hS (fun q _ h => hFc q h) hFc (fun r10 u9 t9 H locs ht hvm hw hB hz1 hk1 hS => ?_)
      obtain ⟨z11, z12, hP1, hD1⟩ := hB
      rw [ht] at hP1
      obtain ⟨hP, hD⟩ := va_join (wr := [(xa 1, .inl (kc 0, 900, .inl tape))]) (w1 := [(xa 7, .inr (7, [.ref (xa 1), .int (nI tk_length), .int (nI tk_next), .int tk_kind, .int tk_start, .int tk_number, .long tk_name, .int tk_taken, .int z11, .int z12]))]) hP hD [0] [1] rfl rfl (by decide) (by decide) hk1 hFc hP1 hD1
      have hP : va_P D vwCl [(xa 1, .inl (kc 0, 900, .inl tape)), (xa 7, .inr (7, [.ref (xa 1), .int (nI tk_length), .int (nI tk_next), .int tk_kind, .int tk_start, .int tk_number, .long tk_name, .int tk_taken, .int z11, .int z12]))] H := hP
      have hD : va_D A [(xa 1, .inl (kc 0, 900, .inl tape)), (xa 7, .inr (7, [.ref (xa 1), .int (nI tk_length), .int (nI tk_next), .int tk_kind, .int tk_start, .int tk_number, .long tk_name, .int tk_taken, .int z11, .int z12]))] := hD
      obtain ⟨k13, h_k13, rfl⟩ := hw
      have hP9 := hP.sub (ws' := [(xa 7, .inr (7, [.ref (xa 1), .int (nI tk_length), .int (nI tk_next), .int tk_kind, .int tk_start, .int tk_number, .long tk_name, .int tk_taken, .int z11, .int z12])), (xa 1, .inl (kc 0, 900, .inl tape))]) [1, 0] rfl
      have hD9 := hD.sub (ws' := [(xa 7, .inr (7, [.ref (xa 1), .int (nI tk_length), .int (nI tk_next), .int tk_kind, .int tk_start, .int tk_number, .long tk_name, .int tk_taken, .int z11, .int z12])), (xa 1, .inl (kc 0, 900, .inl tape))]) [1, 0] (by decide) rfl
      exact W.zret (v := (nI k13)) hx hb hr (nar_b (nat01 (by omega))) (fun t9 ht hW => ⟨⟨(nI k13), (), rfl, nat01 (by omega), tk_next, tk_kind, tk_start, tk_number, tk_name, tk_taken, z11, z12, by omega, by rw [ht]; exact hP9, hD9⟩, hS.F ht⟩) hS.2.2 dX7_passNumber_31
  · refine lv_aload_n hx hb dX7_passNumber_8 rfl (lv_at hl 0 rfl) ?_
    refine lv_iconst (v := 2) hx hb dX7_passNumber_9 (by decide) ?_
    have hPc := hP.sub (ws' := [(xa 7, .inr (7, [.ref (xa 1), .int (nI tk_length), .int (nI tk_next), .int tk_kind, .int tk_start, .int tk_number, .long tk_name, .int tk_taken, .int tk_fault, .int tk_place]))]) [0] rfl
    have hDc := hD.sub (ws' := [(xa 7, .inr (7, [.ref (xa 1), .int (nI tk_length), .int (nI tk_next), .int tk_kind, .int tk_start, .int tk_number, .long tk_name, .int tk_taken, .int tk_fault, .int tk_place]))]) [0] (by decide) rfl
    have hFc := va_free (wc := [(xa 7, .inr (7, [.ref (xa 1), .int (nI tk_length), .int (nI tk_next), .int tk_kind, .int tk_start, .int tk_number, .long tk_name, .int tk_taken, .int tk_fault, .int tk_place]))]) hD hS hA [0] rfl
    refine va_calli (va_runV (As := [.int 2]) (rest := []) ⟨hx, hb, hml, hown, hts⟩ (s_wrong l D kc s.heap.size xa tk_length tk_next tk_kind tk_start tk_number tk_name tk_taken tk_fault tk_place 2 (by omega) (by omega)) (cwV 1 hts gs_passNumber_85_s_wrong rfl rfl rfl (by decide +kernel) ⟨Nat.le_of_ble_eq_true rfl, Nat.le_of_ble_eq_true rfl⟩) (preV_ok hPc hDc hE (ci := 7) (q0 := 0) rfl rfl) rfl rfl hl.1 rfl (lv_room (Nat.le_of_ble_eq_true rfl)) dX7_passNumber_10 ⟨Nat.le_of_ble_eq_true rfl, Nat.le_of_ble_eq_true rfl⟩) hS (fun q _ h => hFc q h) hFc (fun r14 u9 t9 H locs ht hvm hw hB hz1 hk1 hS => ?_)
    obtain ⟨z15, z16, hP1, hD1⟩ := hB
    rw [ht] at hP1
    obtain ⟨hP, hD⟩ := va_join (wr := [(xa 1, .inl (kc 0, 900, .inl tape))]) (w1 := [(xa 7, .inr (7, [.ref (xa 1), .int (nI tk_length), .int (nI tk_next), .int tk_kind, .int tk_start, .int tk_number, .long tk_name, .int tk_taken, .int z15, .int z16]))]) hP hD [0] [1] rfl rfl (by decide) (by decide) hk1 hFc hP1 hD1
    have hP : va_P D vwCl [(xa 1, .inl (kc 0, 900, .inl tape)), (xa 7, .inr (7, [.ref (xa 1), .int (nI tk_length), .int (nI tk_next), .int tk_kind, .int tk_start, .int tk_number, .long tk_name, .int tk_taken, .int z15, .int z16]))] H := hP
    have hD : va_D A [(xa 1, .inl (kc 0, 900, .inl tape)), (xa 7, .inr (7, [.ref (xa 1), .int (nI tk_length), .int (nI tk_next), .int tk_kind, .int tk_start, .int tk_number, .long tk_name, .int tk_taken, .int z15, .int z16]))] := hD
    obtain ⟨k17, h_k17, rfl⟩ := hw
    have hP9 := hP.sub (ws' := [(xa 7, .inr (7, [.ref (xa 1), .int (nI tk_length), .int (nI tk_next), .int tk_kind, .int tk_start, .int tk_number, .long tk_name, .int tk_taken, .int z15, .int z16])), (xa 1, .inl (kc 0, 900, .inl tape))]) [1, 0] rfl
    have hD9 := hD.sub (ws' := [(xa 7, .inr (7, [.ref (xa 1), .int (nI tk_length), .int (nI tk_next), .int tk_kind, .int tk_start, .int tk_number, .long tk_name, .int tk_taken, .int z15, .int z16])), (xa 1, .inl (kc 0, 900, .inl tape))]) [1, 0] (by decide) rfl
    exact W.zret (v := (nI k17)) hx hb hr (nar_b (nat01 (by omega))) (fun t9 ht hW => ⟨⟨(nI k17), (), rfl, nat01 (by omega), tk_next, tk_kind, tk_start, tk_number, tk_name, tk_taken, z15, z16, by omega, by rw [ht]; exact hP9, hD9⟩, hS.F ht⟩) hS.2.2 dX7_passNumber_13
