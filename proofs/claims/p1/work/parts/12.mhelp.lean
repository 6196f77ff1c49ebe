def at0 : Nat → Int32 := upd (upd z0 11 (-1)) 13 5
def tm0 : Nat → Int32 := upd (upd (upd (upd z0 0 (-1)) 1 (-1)) 2 (-1)) 3 (-1)
def bL (v a b : Int64) : Int32 := if lg_cmp v a < 0 then 0 else if 0 < lg_cmp v b then 0 else 1
theorem bL_01 (v a b : Int64) : bL v a b = 0 ∨ bL v a b = 1 := by
  unfold bL; split
  · exact Or.inl rfl
  · split
    · exact Or.inl rfl
    · exact Or.inr rfl
theorem bL_nar (v a b : Int64) : narrow .boolean (.int (bL v a b)) = .int (bL v a b) := by
  rcases bL_01 v a b with h | h <;> rw [h] <;> rfl
theorem bL_2 {v a b : Int64} (h : ¬ lg_cmp v a < 0) (h2 : 0 < lg_cmp v b) : bL v a b = 0 := by
  unfold bL; rw [if_neg h, if_pos h2]
theorem bL_3 {v a b : Int64} (h : ¬ lg_cmp v a < 0) (h2 : ¬ 0 < lg_cmp v b) : bL v a b = 1 := by
  unfold bL; rw [if_neg h, if_neg h2]
theorem bL_iff (v a b : Int64) : bL v a b = if a ≤ v ∧ v ≤ b then 1 else 0 := by
  unfold bL
  by_cases h : lg_cmp v a < 0
  · rw [if_pos h, if_neg]
    intro q
    rw [lg_cmp_lt] at h
    have h1 := Int64.lt_iff_toInt_lt.mp h
    have h2 := Int64.le_iff_toInt_le.mp q.1
    omega
  · rw [if_neg h]
    rw [lg_cmp_lt] at h
    by_cases h2 : 0 < lg_cmp v b
    · rw [if_pos h2, if_neg]
      intro q
      rw [lg_cmp_gt] at h2
      have h3 := Int64.lt_iff_toInt_lt.mp h2
      have h4 := Int64.le_iff_toInt_le.mp q.2
      omega
    · rw [if_neg h2, if_pos]
      rw [lg_cmp_gt] at h2
      rw [Int64.lt_iff_toInt_lt] at h h2
      rw [Int64.le_iff_toInt_le, Int64.le_iff_toInt_le]
      omega
theorem bL_bW (n : Int32) (a b : Int64) (a' b' : Int32) (ha : a.toInt = a'.toInt) (hb : b.toInt = b'.toInt) : bL n.toInt64 a b = bW n a' b' := by
  rw [bL_iff]; unfold bW
  have e : n.toInt64.toInt = n.toInt := Int32.toInt_toInt64 n
  have hi : (a ≤ n.toInt64 ∧ n.toInt64 ≤ b) ↔ (a' ≤ n ∧ n ≤ b') := by
    rw [Int64.le_iff_toInt_le, Int64.le_iff_toInt_le, Int32.le_iff_toInt_le, Int32.le_iff_toInt_le, e, ha, hb]
  by_cases h : a' ≤ n ∧ n ≤ b'
  · rw [if_pos h, if_pos (hi.mpr h)]
  · rw [if_neg h, if_neg (fun q => h (hi.mp q))]
theorem mo_t1 {t : Int32} (h : (4 : Int32) ≤ t) : bW t 0 3 = 0 := bW_0b (fun q => by
  rw [Int32.le_iff_toInt_le] at h q
  have e : (4 : Int32).toInt = 4 := rfl
  have e' : (3 : Int32).toInt = 3 := rfl
  omega)
theorem mo_t2 {t : Int32} (h1 : ¬ t < 0) (h : ¬ (4 : Int32) ≤ t) : bW t 0 3 = 1 := bW_1 (nlt_le h1) (by
  rw [Int32.le_iff_toInt_le] at h ⊢
  have e : (4 : Int32).toInt = 4 := rfl
  have e' : (3 : Int32).toInt = 3 := rfl
  omega)
theorem mo_s1 {t : Int32} (h : (1 : Int32) ≤ t) : bW t 0 0 = 0 := bW_0b (fun q => by
  rw [Int32.le_iff_toInt_le] at h q
  have e : (1 : Int32).toInt = 1 := rfl
  have e' : (0 : Int32).toInt = 0 := rfl
  omega)
theorem mo_s2 {t : Int32} (h1 : ¬ t < 0) (h : ¬ (1 : Int32) ≤ t) : bW t 0 0 = 1 := bW_1 (nlt_le h1) (by
  rw [Int32.le_iff_toInt_le] at h ⊢
  have e : (1 : Int32).toInt = 1 := rfl
  have e' : (0 : Int32).toInt = 0 := rfl
  omega)
theorem eZ_wNP (t : Int32) : eZ (wNP t) = 0 := if_neg (wNP_ne t)
theorem wNP_pos (t : Int32) : ¬ wNP t ≤ 0 := by
  unfold wNP; split <;> decide
theorem z_out {n : Int32} (h : bW n 0 0 = 0) (c : ¬ n < 0) : 0 < n := by
  unfold bW at h
  by_cases q : 0 ≤ n ∧ n ≤ 0
  · rw [if_pos q] at h; exact absurd h (by decide)
  · rw [Int32.lt_iff_toInt_lt] at c ⊢
    rw [Int32.le_iff_toInt_le, Int32.le_iff_toInt_le] at q
    have e' : (0 : Int32).toInt = 0 := rfl
    omega
def sCo (q : Int32) : Int32 := if q ≤ 0 then 0 else (-1)
theorem cost_m1 {g : Int32} (h : bL g.toInt64 0 9999 = 0) : ¬ g = 0 := by
  rw [bL_bW g 0 9999 0 9999 rfl rfl] at h; exact cost_out h
theorem cost_m2 {g : Int32} (h : ¬ bL g.toInt64 0 9999 = 0) : sCo g = sCost g := by
  rw [bL_bW g 0 9999 0 9999 rfl rfl] at h
  unfold sCo sCost
  have h2 := bW_ne h
  unfold bW at h2
  by_cases q : 0 ≤ g ∧ g ≤ 9999
  · by_cases q0 : g = 0
    · rw [if_pos q0, if_pos (by rw [q0]; decide)]
    · rw [if_neg q0, if_neg]
      intro q1
      apply q0
      have h3 := Int32.le_iff_toInt_le.mp q.1
      have h4 := Int32.le_iff_toInt_le.mp q1
      exact Int32.toInt_inj.mp (by omega)
  · rw [if_neg q] at h2; exact absurd h2 (by decide)
theorem dear_m {g : Int32} (h : ¬ bL g.toInt64 1 9999 = 0) (h2 : ¬ sCo g = -1) : False := by
  rw [bL_bW g 1 9999 1 9999 rfl rfl] at h
  have h3 := bW_ne h
  unfold bW at h3
  by_cases q : 1 ≤ g ∧ g ≤ 9999
  · apply h2
    unfold sCo
    rw [if_neg]
    intro q1
    have h4 := Int32.le_iff_toInt_le.mp q.1
    have h5 := Int32.le_iff_toInt_le.mp q1
    have e' : (0 : Int32).toInt = 0 := rfl
    have e : (1 : Int32).toInt = 1 := rfl
    omega
  · rw [if_neg q] at h3; exact absurd h3 (by decide)
theorem tz_s1 {t s m : Int32} (h : s < 0) : sTray t s m = 0 := by
  unfold sTray; rw [bW_0a (lt_nle h)]; simp
theorem tz_s2 {t s m : Int32} (h : 3 < s) : sTray t s m = 0 := by
  unfold sTray; rw [bW_0b (lt_nle h)]; simp
theorem tz_m1 {t s m : Int32} (h : m < 0) : sTray t s m = 0 := by
  unfold sTray; rw [bW_0a (v := m) (lt_nle h)]; simp
theorem tz_m2 {t s m : Int32} (h : ¬ m ≤ 60) : sTray t s m = 0 := by
  unfold sTray; rw [bW_0b (v := m) h]; simp
theorem tz_1 {t s m : Int32} (ht : ¬ bW t 0 3 = 0) (h1 : ¬ s < 0) (h2 : ¬ 3 < s) (h3 : ¬ m < 0) (h4 : m ≤ 60) : sTray t s m = 1 := st_3 _ _ _ ht (by rw [bW_1 (nlt_le h1) (nlt_le h2)]; decide) (by rw [bW_1 (nlt_le h3) h4]; decide)
theorem steps_m1 {w : Int32} (h : w < 0) : sSteps w = -1 := if_pos (bW_0a (lt_nle h))
theorem steps_m2 {w : Int32} (h : ¬ w ≤ 2) : sSteps w = -1 := if_pos (bW_0b h)
theorem steps_m2' {w : Int32} (h : 2 < w) : sSteps w = -1 := if_pos (bW_0b (lt_nle h))
theorem steps_m3 {w : Int32} (h : ¬ w < 0) (h2 : w ≤ 2) : sSteps w = 0 := if_neg (by rw [bW_1 (nlt_le h) h2]; decide)
theorem steps_m3' {w : Int32} (h : ¬ w < 0) (h2 : ¬ 2 < w) : sSteps w = 0 := if_neg (by rw [bW_1 (nlt_le h) (nlt_le h2)]; decide)
theorem clp {n : Nat} (h : n < 2 ^ 31) : (nI n).toNatClampNeg = n := nI_clamp h
theorem cp_inv {f : Nat → Int32} {i : Nat} (h : f 1 = 0 ∧ f 1921 = 0) (hi : i < 480) : (upd f (nI i).toNatClampNeg (f (nI (1920 + i)).toNatClampNeg)) 1 = 0 ∧ (upd f (nI i).toNatClampNeg (f (nI (1920 + i)).toNatClampNeg)) 1921 = 0 := by
  rw [clp (n := i) (by omega), clp (n := 1920 + i) (by omega)]
  unfold upd
  refine ⟨?_, ?_⟩
  · by_cases q : 1 = i
    · rw [if_pos q, ← q]; exact h.2
    · rw [if_neg q]; exact h.1
  · rw [if_neg (by omega)]; exact h.2
theorem up0 {f : Nat → Int32} {k j : Nat} (h : f j = 0) : upd f k 0 j = 0 := by
  unfold upd; split
  · rfl
  · exact h
theorem pl_inv {f : Nat → Int32} {k : Nat} (h : f 1 = 0 ∧ f 1921 = 0) : upd f k 0 1 = 0 ∧ upd f k 0 1921 = 0 := ⟨up0 h.1, up0 h.2⟩
theorem kp_inv {f : Nat → Int32} {i : Nat} {x : Int32} (h : f 0 = 0) (hi : i < 480) : (upd f (nI (2400 + i)).toNatClampNeg x) 0 = 0 := by
  rw [clp (n := 2400 + i) (by omega)]
  unfold upd
  rw [if_neg (by omega)]; exact h
theorem dX12_is_0 : decode cX12_is 0 = .ok (.aload_n 0, 1) := by decide +kernel
theorem dX12_is_1 : decode cX12_is 1 = .ok (.iload_n 1, 1) := by decide +kernel
theorem dX12_is_2 : decode cX12_is 2 = .ok (.putfield 66, 3) := by decide +kernel
theorem dX12_is_5 : decode cX12_is 5 = .ok (.iload_n 1, 1) := by decide +kernel
theorem dX12_is_6 : decode cX12_is 6 = .ok (.ifCond .ne 7, 3) := by decide +kernel
theorem dX12_is_13 : decode cX12_is 13 = .ok (.iconst 0, 1) := by decide +kernel
theorem dX12_is_14 : decode cX12_is 14 = .ok (.ireturn, 1) := by decide +kernel
theorem dX12_is_9 : decode cX12_is 9 = .ok (.iconst 1, 1) := by decide +kernel
theorem dX12_is_10 : decode cX12_is 10 = .ok (.goto 4, 3) := by decide +kernel
def vdm_is : List Cond := [.code yX12_is cX12_is 2 (some .boolean), .fieldLink RX12 66 "SaltStreetModel" "status" "I"]
def vm_is : List Cond := vdm_is ++ (wsX120 ++ ([] : List Cond))
theorem im_is_X12 : ∀ w ∈ wsX120, w ∈ vm_is := fun _ h => List.mem_append_right _ (List.mem_append_left _ h)
set_option maxHeartbeats 4000000 in
set_option maxRecDepth 100000 in
theorem m_is (l : Launch) (D : va_G) (kc : Nat → ClassId) (sz : Nat) (ma : Nat → Nat) (g_status : Int32) (g_top : Int64) (g_bottom : Int64) (g_taped : Int32) (g_size : Int32) (g_token : Int32) (g_from : Int32) (g_end : Int32) (g_value : Int32) (g_faultKind : Int32) (g_faultPlace : Int32) (g_faults : Int32) (g_seen : Int32) (g_told0 : Int32) (g_depth : Int32) (g_counted : Int32) (g_easy : Int32) (g_ended : Int32) (g_began : Int32) (g_lastPrice : Int32) (g_drawn : Int32) (g_ranSteps : Int32) (g_isTold : Int32) (g_marks : Int32) (why : Int32) : Met l yX12_is vm_is ({ frames := 0, cells := 0, slots := 0, locals := 0 }) (va_Pc [.ref (ma 0), .int why] (wPre D kc [(ma 0, .inr (11, [.ref (ma 1), .ref (ma 2), .int g_status, .long g_top, .long g_bottom, .ref (ma 3), .ref (ma 4), .ref (ma 5), .ref (ma 6), .ref (ma 7), .int g_taped, .int g_size, .int g_token, .int g_from, .int g_end, .int g_value, .int g_faultKind, .int g_faultPlace, .int g_faults, .int g_seen, .int g_told0, .ref (ma 8), .int g_depth, .int g_counted, .int g_easy, .int g_ended, .int g_began, .int g_lastPrice, .ref (ma 9), .int g_drawn, .int g_ranSteps, .ref (ma 10), .ref (ma 11), .ref (ma 12), .int g_isTold, .int g_marks]))] sz)) (va_Qi (fun (r : Int32) (_ : Unit) => r = (eZ why)) (wPost D [(ma 0, .inr (11, [.ref (ma 1), .ref (ma 2), .int why, .long g_top, .long g_bottom, .ref (ma 3), .ref (ma 4), .ref (ma 5), .ref (ma 6), .ref (ma 7), .int g_taped, .int g_size, .int g_token, .int g_from, .int g_end, .int g_value, .int g_faultKind, .int g_faultPlace, .int g_faults, .int g_seen, .int g_told0, .ref (ma 8), .int g_depth, .int g_counted, .int g_easy, .int g_ended, .int g_began, .int g_lastPrice, .ref (ma 9), .int g_drawn, .int g_ranSteps, .ref (ma 10), .ref (ma 11), .ref (ma 12), .int g_isTold, .int g_marks]))] (va_A [(ma 0, .inr (11, [.ref (ma 1), .ref (ma 2), .int g_status, .long g_top, .long g_bottom, .ref (ma 3), .ref (ma 4), .ref (ma 5), .ref (ma 6), .ref (ma 7), .int g_taped, .int g_size, .int g_token, .int g_from, .int g_end, .int g_value, .int g_faultKind, .int g_faultPlace, .int g_faults, .int g_seen, .int g_told0, .ref (ma 8), .int g_depth, .int g_counted, .int g_easy, .int g_ended, .int g_began, .int g_lastPrice, .ref (ma 9), .int g_drawn, .int g_ranSteps, .ref (ma 10), .ref (ma 11), .ref (ma 12), .int g_isTold, .int g_marks]))] sz)) (va_A [(ma 0, .inr (11, [.ref (ma 1), .ref (ma 2), .int g_status, .long g_top, .long g_bottom, .ref (ma 3), .ref (ma 4), .ref (ma 5), .ref (ma 6), .ref (ma 7), .int g_taped, .int g_size, .int g_token, .int g_from, .int g_end, .int g_value, .int g_faultKind, .int g_faultPlace, .int g_faults, .int g_seen, .int g_told0, .ref (ma 8), .int g_depth, .int g_counted, .int g_easy, .int g_ended, .int g_began, .int g_lastPrice, .ref (ma 9), .int g_drawn, .int g_ranSteps, .ref (ma 10), .ref (ma 11), .ref (ma 12), .int g_isTold, .int g_marks]))] sz)) 0 0 (va_A [(ma 0, .inr (11, [.ref (ma 1), .ref (ma 2), .int g_status, .long g_top, .long g_bottom, .ref (ma 3), .ref (ma 4), .ref (ma 5), .ref (ma 6), .ref (ma 7), .int g_taped, .int g_size, .int g_token, .int g_from, .int g_end, .int g_value, .int g_faultKind, .int g_faultPlace, .int g_faults, .int g_seen, .int g_told0, .ref (ma 8), .int g_depth, .int g_counted, .int g_easy, .int g_ended, .int g_began, .int g_lastPrice, .ref (ma 9), .int g_drawn, .int g_ranSteps, .ref (ma 10), .ref (ma 11), .ref (ma 12), .int g_isTold, .int g_marks]))] sz) := by
  refine Met.ofW (cc := cX12_is) (maxL := 2) (ret := (some .boolean)) (by decide) rfl ?_
  intro p e s m args below meth c s₁ B hml hv
  obtain ⟨rfl, hsz, hP, hE, hD0⟩ := hv
  have hx := B.exec
  have hb := B.bytes
  have hr := B.returns
  have hts := atoms_spec (ws := vm_is) B.pre
  have hown : s.vm.findClass RX12 = some m.cls := findClass_of_methodNamed B.named
  have hlocks := B.notSynchronized
  subst hsz
  have hD := hD0.self (sz := s.heap.size)
  generalize hAe : va_A [(ma 0, .inr (11, [.ref (ma 1), .ref (ma 2), .int g_status, .long g_top, .long g_bottom, .ref (ma 3), .ref (ma 4), .ref (ma 5), .ref (ma 6), .ref (ma 7), .int g_taped, .int g_size, .int g_token, .int g_from, .int g_end, .int g_value, .int g_faultKind, .int g_faultPlace, .int g_faults, .int g_seen, .int g_told0, .ref (ma 8), .int g_depth, .int g_counted, .int g_easy, .int g_ended, .int g_began, .int g_lastPrice, .ref (ma 9), .int g_drawn, .int g_ranSteps, .ref (ma 10), .ref (ma 11), .ref (ma 12), .int g_isTold, .int g_marks]))] s.heap.size = A at hD ⊢
  have hA : ∀ q : Nat, s.heap.size ≤ q → A q := fun q h => by rw [← hAe]; exact Or.inr h
  have hS : va_S A s.heap s.heap [] := va_S.rf
  have hK := hE.1
  have hP : va_P D vwCl [(ma 0, .inr (11, [.ref (ma 1), .ref (ma 2), .int g_status, .long g_top, .long g_bottom, .ref (ma 3), .ref (ma 4), .ref (ma 5), .ref (ma 6), .ref (ma 7), .int g_taped, .int g_size, .int g_token, .int g_from, .int g_end, .int g_value, .int g_faultKind, .int g_faultPlace, .int g_faults, .int g_seen, .int g_told0, .ref (ma 8), .int g_depth, .int g_counted, .int g_easy, .int g_ended, .int g_began, .int g_lastPrice, .ref (ma 9), .int g_drawn, .int g_ranSteps, .ref (ma 10), .ref (ma 11), .ref (ma 12), .int g_isTold, .int g_marks]))] s.heap := hP
  have hl := lv_entry ([.ref (ma 0), .int why]) (n := 2) (Nat.le_of_ble_eq_true rfl)
  rw [lg_entry_eq]
  generalize (lg_sl ([.ref (ma 0), .int why]) ++ List.replicate (2 - (lg_sl ([.ref (ma 0), .int why])).length) Slot.unset).toArray = ls at hl ⊢
  have hl : lv_has ls 2 [(0, .ref (ma 0)), (1, .int why)] := hl
  refine lv_aload_n hx hb dX12_is_0 rfl (lv_at hl 0 rfl) ?_
  refine lv_iload_n hx hb dX12_is_1 rfl (lv_at hl 1 rfl) ?_
  refine va_put (D := D) (ci := 11) (v := .int why) (ty := .int) (C := RX12) (T := TX12) (N := 36) hx hb hts im_is_X12 tyX12 tyX12_ok nmX12 hown hK hP hD hS 0 rfl rfl 2 (by decide) (hts (.fieldLink RX12 66 "SaltStreetModel" "status" "I") (List.mem_of_getElem? (i := 1) rfl)) (fun _ h9 => h9) rfl (by decide +kernel) rfl rfl (Nat.le_of_ble_eq_true rfl) dX12_is_2 (fun H locs hP hD hS => ?_)
  have hP : va_P D vwCl [(ma 0, .inr (11, [.ref (ma 1), .ref (ma 2), .int why, .long g_top, .long g_bottom, .ref (ma 3), .ref (ma 4), .ref (ma 5), .ref (ma 6), .ref (ma 7), .int g_taped, .int g_size, .int g_token, .int g_from, .int g_end, .int g_value, .int g_faultKind, .int g_faultPlace, .int g_faults, .int g_seen, .int g_told0, .ref (ma 8), .int g_depth, .int g_counted, .int g_easy, .int g_ended, .int g_began, .int g_lastPrice, .ref (ma 9), .int g_drawn, .int g_ranSteps, .ref (ma 10), .ref (ma 11), .ref (ma 12), .int g_isTold, .int g_marks]))] H := hP
  have hD : va_D A [(ma 0, .inr (11, [.ref (ma 1), .ref (ma 2), .int why, .long g_top, .long g_bottom, .ref (ma 3), .ref (ma 4), .ref (ma 5), .ref (ma 6), .ref (ma 7), .int g_taped, .int g_size, .int g_token, .int g_from, .int g_end, .int g_value, .int g_faultKind, .int g_faultPlace, .int g_faults, .int g_seen, .int g_told0, .ref (ma 8), .int g_depth, .int g_counted, .int g_easy, .int g_ended, .int g_began, .int g_lastPrice, .ref (ma 9), .int g_drawn, .int g_ranSteps, .ref (ma 10), .ref (ma 11), .ref (ma 12), .int g_isTold, .int g_marks]))] := hD
  refine lv_iload_n hx hb dX12_is_5 rfl (lv_at hl 1 rfl) ?_
  refine lv_if_ne (tgt := 13) hx hb dX12_is_6 (by decide) (fun c_6 => ?_) (fun c_6 => ?_)
  · refine lv_iconst (v := 0) hx hb dX12_is_13 (by decide) ?_
    have hP9 := hP.sub (ws' := [(ma 0, .inr (11, [.ref (ma 1), .ref (ma 2), .int why, .long g_top, .long g_bottom, .ref (ma 3), .ref (ma 4), .ref (ma 5), .ref (ma 6), .ref (ma 7), .int g_taped, .int g_size, .int g_token, .int g_from, .int g_end, .int g_value, .int g_faultKind, .int g_faultPlace, .int g_faults, .int g_seen, .int g_told0, .ref (ma 8), .int g_depth, .int g_counted, .int g_easy, .int g_ended, .int g_began, .int g_lastPrice, .ref (ma 9), .int g_drawn, .int g_ranSteps, .ref (ma 10), .ref (ma 11), .ref (ma 12), .int g_isTold, .int g_marks]))]) [0] rfl
    have hD9 := hD.sub (ws' := [(ma 0, .inr (11, [.ref (ma 1), .ref (ma 2), .int why, .long g_top, .long g_bottom, .ref (ma 3), .ref (ma 4), .ref (ma 5), .ref (ma 6), .ref (ma 7), .int g_taped, .int g_size, .int g_token, .int g_from, .int g_end, .int g_value, .int g_faultKind, .int g_faultPlace, .int g_faults, .int g_seen, .int g_told0, .ref (ma 8), .int g_depth, .int g_counted, .int g_easy, .int g_ended, .int g_began, .int g_lastPrice, .ref (ma 9), .int g_drawn, .int g_ranSteps, .ref (ma 10), .ref (ma 11), .ref (ma 12), .int g_isTold, .int g_marks]))]) [0] (by decide) rfl
    exact W.zret (v := 0) hx hb hr rfl (fun t9 ht hW => ⟨⟨0, (), rfl, by first | exact (if_pos c_6).symm | exact (if_neg c_6).symm, ⟨by rw [ht]; exact hP9, hD9⟩⟩, hS.F ht⟩) hS.2.2 dX12_is_14
  · refine lv_iconst (v := 1) hx hb dX12_is_9 (by decide) ?_
    refine lv_goto (tgt := 14) hx hb dX12_is_10 (by decide) ?_
    have hP9 := hP.sub (ws' := [(ma 0, .inr (11, [.ref (ma 1), .ref (ma 2), .int why, .long g_top, .long g_bottom, .ref (ma 3), .ref (ma 4), .ref (ma 5), .ref (ma 6), .ref (ma 7), .int g_taped, .int g_size, .int g_token, .int g_from, .int g_end, .int g_value, .int g_faultKind, .int g_faultPlace, .int g_faults, .int g_seen, .int g_told0, .ref (ma 8), .int g_depth, .int g_counted, .int g_easy, .int g_ended, .int g_began, .int g_lastPrice, .ref (ma 9), .int g_drawn, .int g_ranSteps, .ref (ma 10), .ref (ma 11), .ref (ma 12), .int g_isTold, .int g_marks]))]) [0] rfl
    have hD9 := hD.sub (ws' := [(ma 0, .inr (11, [.ref (ma 1), .ref (ma 2), .int why, .long g_top, .long g_bottom, .ref (ma 3), .ref (ma 4), .ref (ma 5), .ref (ma 6), .ref (ma 7), .int g_taped, .int g_size, .int g_token, .int g_from, .int g_end, .int g_value, .int g_faultKind, .int g_faultPlace, .int g_faults, .int g_seen, .int g_told0, .ref (ma 8), .int g_depth, .int g_counted, .int g_easy, .int g_ended, .int g_began, .int g_lastPrice, .ref (ma 9), .int g_drawn, .int g_ranSteps, .ref (ma 10), .ref (ma 11), .ref (ma 12), .int g_isTold, .int g_marks]))]) [0] (by decide) rfl
    exact W.zret (v := 1) hx hb hr rfl (fun t9 ht hW => ⟨⟨1, (), rfl, by first | exact (if_pos c_6).symm | exact (if_neg c_6).symm, ⟨by rw [ht]; exact hP9, hD9⟩⟩, hS.F ht⟩) hS.2.2 dX12_is_14
theorem dX12_refuse_0 : decode cX12_refuse 0 = .ok (.aload_n 0, 1) := by decide +kernel
theorem dX12_refuse_1 : decode cX12_refuse 1 = .ok (.iload_n 1, 1) := by decide +kernel
theorem dX12_refuse_2 : decode cX12_refuse 2 = .ok (.putfield 66, 3) := by decide +kernel
theorem dX12_refuse_5 : decode cX12_refuse 5 = .ok (.iconst (-1), 1) := by decide +kernel
theorem dX12_refuse_6 : decode cX12_refuse 6 = .ok (.ireturn, 1) := by decide +kernel
def vdm_refuse : List Cond := [.code yX12_refuse cX12_refuse 2 (some .int), .fieldLink RX12 66 "SaltStreetModel" "status" "I"]
def vm_refuse : List Cond := vdm_refuse ++ (wsX120 ++ ([] : List Cond))
theorem im_refuse_X12 : ∀ w ∈ wsX120, w ∈ vm_refuse := fun _ h => List.mem_append_right _ (List.mem_append_left _ h)
set_option maxHeartbeats 4000000 in
set_option maxRecDepth 100000 in
theorem m_refuse (l : Launch) (D : va_G) (kc : Nat → ClassId) (sz : Nat) (ma : Nat → Nat) (g_status : Int32) (g_top : Int64) (g_bottom : Int64) (g_taped : Int32) (g_size : Int32) (g_token : Int32) (g_from : Int32) (g_end : Int32) (g_value : Int32) (g_faultKind : Int32) (g_faultPlace : Int32) (g_faults : Int32) (g_seen : Int32) (g_told0 : Int32) (g_depth : Int32) (g_counted : Int32) (g_easy : Int32) (g_ended : Int32) (g_began : Int32) (g_lastPrice : Int32) (g_drawn : Int32) (g_ranSteps : Int32) (g_isTold : Int32) (g_marks : Int32) (why : Int32) : Met l yX12_refuse vm_refuse ({ frames := 0, cells := 0, slots := 0, locals := 0 }) (va_Pc [.ref (ma 0), .int why] (wPre D kc [(ma 0, .inr (11, [.ref (ma 1), .ref (ma 2), .int g_status, .long g_top, .long g_bottom, .ref (ma 3), .ref (ma 4), .ref (ma 5), .ref (ma 6), .ref (ma 7), .int g_taped, .int g_size, .int g_token, .int g_from, .int g_end, .int g_value, .int g_faultKind, .int g_faultPlace, .int g_faults, .int g_seen, .int g_told0, .ref (ma 8), .int g_depth, .int g_counted, .int g_easy, .int g_ended, .int g_began, .int g_lastPrice, .ref (ma 9), .int g_drawn, .int g_ranSteps, .ref (ma 10), .ref (ma 11), .ref (ma 12), .int g_isTold, .int g_marks]))] sz)) (va_Qi (fun (r : Int32) (_ : Unit) => r = (-1)) (wPost D [(ma 0, .inr (11, [.ref (ma 1), .ref (ma 2), .int why, .long g_top, .long g_bottom, .ref (ma 3), .ref (ma 4), .ref (ma 5), .ref (ma 6), .ref (ma 7), .int g_taped, .int g_size, .int g_token, .int g_from, .int g_end, .int g_value, .int g_faultKind, .int g_faultPlace, .int g_faults, .int g_seen, .int g_told0, .ref (ma 8), .int g_depth, .int g_counted, .int g_easy, .int g_ended, .int g_began, .int g_lastPrice, .ref (ma 9), .int g_drawn, .int g_ranSteps, .ref (ma 10), .ref (ma 11), .ref (ma 12), .int g_isTold, .int g_marks]))] (va_A [(ma 0, .inr (11, [.ref (ma 1), .ref (ma 2), .int g_status, .long g_top, .long g_bottom, .ref (ma 3), .ref (ma 4), .ref (ma 5), .ref (ma 6), .ref (ma 7), .int g_taped, .int g_size, .int g_token, .int g_from, .int g_end, .int g_value, .int g_faultKind, .int g_faultPlace, .int g_faults, .int g_seen, .int g_told0, .ref (ma 8), .int g_depth, .int g_counted, .int g_easy, .int g_ended, .int g_began, .int g_lastPrice, .ref (ma 9), .int g_drawn, .int g_ranSteps, .ref (ma 10), .ref (ma 11), .ref (ma 12), .int g_isTold, .int g_marks]))] sz)) (va_A [(ma 0, .inr (11, [.ref (ma 1), .ref (ma 2), .int g_status, .long g_top, .long g_bottom, .ref (ma 3), .ref (ma 4), .ref (ma 5), .ref (ma 6), .ref (ma 7), .int g_taped, .int g_size, .int g_token, .int g_from, .int g_end, .int g_value, .int g_faultKind, .int g_faultPlace, .int g_faults, .int g_seen, .int g_told0, .ref (ma 8), .int g_depth, .int g_counted, .int g_easy, .int g_ended, .int g_began, .int g_lastPrice, .ref (ma 9), .int g_drawn, .int g_ranSteps, .ref (ma 10), .ref (ma 11), .ref (ma 12), .int g_isTold, .int g_marks]))] sz)) 0 0 (va_A [(ma 0, .inr (11, [.ref (ma 1), .ref (ma 2), .int g_status, .long g_top, .long g_bottom, .ref (ma 3), .ref (ma 4), .ref (ma 5), .ref (ma 6), .ref (ma 7), .int g_taped, .int g_size, .int g_token, .int g_from, .int g_end, .int g_value, .int g_faultKind, .int g_faultPlace, .int g_faults, .int g_seen, .int g_told0, .ref (ma 8), .int g_depth, .int g_counted, .int g_easy, .int g_ended, .int g_began, .int g_lastPrice, .ref (ma 9), .int g_drawn, .int g_ranSteps, .ref (ma 10), .ref (ma 11), .ref (ma 12), .int g_isTold, .int g_marks]))] sz) := by
  refine Met.ofW (cc := cX12_refuse) (maxL := 2) (ret := (some .int)) (by decide) rfl ?_
  intro p e s m args below meth c s₁ B hml hv
  obtain ⟨rfl, hsz, hP, hE, hD0⟩ := hv
  have hx := B.exec
  have hb := B.bytes
  have hr := B.returns
  have hts := atoms_spec (ws := vm_refuse) B.pre
  have hown : s.vm.findClass RX12 = some m.cls := findClass_of_methodNamed B.named
  have hlocks := B.notSynchronized
  subst hsz
  have hD := hD0.self (sz := s.heap.size)
  generalize hAe : va_A [(ma 0, .inr (11, [.ref (ma 1), .ref (ma 2), .int g_status, .long g_top, .long g_bottom, .ref (ma 3), .ref (ma 4), .ref (ma 5), .ref (ma 6), .ref (ma 7), .int g_taped, .int g_size, .int g_token, .int g_from, .int g_end, .int g_value, .int g_faultKind, .int g_faultPlace, .int g_faults, .int g_seen, .int g_told0, .ref (ma 8), .int g_depth, .int g_counted, .int g_easy, .int g_ended, .int g_began, .int g_lastPrice, .ref (ma 9), .int g_drawn, .int g_ranSteps, .ref (ma 10), .ref (ma 11), .ref (ma 12), .int g_isTold, .int g_marks]))] s.heap.size = A at hD ⊢
  have hA : ∀ q : Nat, s.heap.size ≤ q → A q := fun q h => by rw [← hAe]; exact Or.inr h
  have hS : va_S A s.heap s.heap [] := va_S.rf
  have hK := hE.1
  have hP : va_P D vwCl [(ma 0, .inr (11, [.ref (ma 1), .ref (ma 2), .int g_status, .long g_top, .long g_bottom, .ref (ma 3), .ref (ma 4), .ref (ma 5), .ref (ma 6), .ref (ma 7), .int g_taped, .int g_size, .int g_token, .int g_from, .int g_end, .int g_value, .int g_faultKind, .int g_faultPlace, .int g_faults, .int g_seen, .int g_told0, .ref (ma 8), .int g_depth, .int g_counted, .int g_easy, .int g_ended, .int g_began, .int g_lastPrice, .ref (ma 9), .int g_drawn, .int g_ranSteps, .ref (ma 10), .ref (ma 11), .ref (ma 12), .int g_isTold, .int g_marks]))] s.heap := hP
  have hl := lv_entry ([.ref (ma 0), .int why]) (n := 2) (Nat.le_of_ble_eq_true rfl)
  rw [lg_entry_eq]
  generalize (lg_sl ([.ref (ma 0), .int why]) ++ List.replicate (2 - (lg_sl ([.ref (ma 0), .int why])).length) Slot.unset).toArray = ls at hl ⊢
  have hl : lv_has ls 2 [(0, .ref (ma 0)), (1, .int why)] := hl
  refine lv_aload_n hx hb dX12_refuse_0 rfl (lv_at hl 0 rfl) ?_
  refine lv_iload_n hx hb dX12_refuse_1 rfl (lv_at hl 1 rfl) ?_
  refine va_put (D := D) (ci := 11) (v := .int why) (ty := .int) (C := RX12) (T := TX12) (N := 36) hx hb hts im_refuse_X12 tyX12 tyX12_ok nmX12 hown hK hP hD hS 0 rfl rfl 2 (by decide) (hts (.fieldLink RX12 66 "SaltStreetModel" "status" "I") (List.mem_of_getElem? (i := 1) rfl)) (fun _ h9 => h9) rfl (by decide +kernel) rfl rfl (Nat.le_of_ble_eq_true rfl) dX12_refuse_2 (fun H locs hP hD hS => ?_)
  have hP : va_P D vwCl [(ma 0, .inr (11, [.ref (ma 1), .ref (ma 2), .int why, .long g_top, .long g_bottom, .ref (ma 3), .ref (ma 4), .ref (ma 5), .ref (ma 6), .ref (ma 7), .int g_taped, .int g_size, .int g_token, .int g_from, .int g_end, .int g_value, .int g_faultKind, .int g_faultPlace, .int g_faults, .int g_seen, .int g_told0, .ref (ma 8), .int g_depth, .int g_counted, .int g_easy, .int g_ended, .int g_began, .int g_lastPrice, .ref (ma 9), .int g_drawn, .int g_ranSteps, .ref (ma 10), .ref (ma 11), .ref (ma 12), .int g_isTold, .int g_marks]))] H := hP
  have hD : va_D A [(ma 0, .inr (11, [.ref (ma 1), .ref (ma 2), .int why, .long g_top, .long g_bottom, .ref (ma 3), .ref (ma 4), .ref (ma 5), .ref (ma 6), .ref (ma 7), .int g_taped, .int g_size, .int g_token, .int g_from, .int g_end, .int g_value, .int g_faultKind, .int g_faultPlace, .int g_faults, .int g_seen, .int g_told0, .ref (ma 8), .int g_depth, .int g_counted, .int g_easy, .int g_ended, .int g_began, .int g_lastPrice, .ref (ma 9), .int g_drawn, .int g_ranSteps, .ref (ma 10), .ref (ma 11), .ref (ma 12), .int g_isTold, .int g_marks]))] := hD
  refine lv_iconst (v := (-1)) hx hb dX12_refuse_5 (by decide) ?_
  have hP9 := hP.sub (ws' := [(ma 0, .inr (11, [.ref (ma 1), .ref (ma 2), .int why, .long g_top, .long g_bottom, .ref (ma 3), .ref (ma 4), .ref (ma 5), .ref (ma 6), .ref (ma 7), .int g_taped, .int g_size, .int g_token, .int g_from, .int g_end, .int g_value, .int g_faultKind, .int g_faultPlace, .int g_faults, .int g_seen, .int g_told0, .ref (ma 8), .int g_depth, .int g_counted, .int g_easy, .int g_ended, .int g_began, .int g_lastPrice, .ref (ma 9), .int g_drawn, .int g_ranSteps, .ref (ma 10), .ref (ma 11), .ref (ma 12), .int g_isTold, .int g_marks]))]) [0] rfl
  have hD9 := hD.sub (ws' := [(ma 0, .inr (11, [.ref (ma 1), .ref (ma 2), .int why, .long g_top, .long g_bottom, .ref (ma 3), .ref (ma 4), .ref (ma 5), .ref (ma 6), .ref (ma 7), .int g_taped, .int g_size, .int g_token, .int g_from, .int g_end, .int g_value, .int g_faultKind, .int g_faultPlace, .int g_faults, .int g_seen, .int g_told0, .ref (ma 8), .int g_depth, .int g_counted, .int g_easy, .int g_ended, .int g_began, .int g_lastPrice, .ref (ma 9), .int g_drawn, .int g_ranSteps, .ref (ma 10), .ref (ma 11), .ref (ma 12), .int g_isTold, .int g_marks]))]) [0] (by decide) rfl
  exact W.iret (v := (-1)) hx hb hr (fun t9 ht hW => ⟨⟨(-1), (), rfl, rfl, ⟨by rw [ht]; exact hP9, hD9⟩⟩, hS.F ht⟩) hS.2.2 dX12_refuse_6
theorem dX12_gives_0 : decode cX12_gives 0 = .ok (.aload_n 0, 1) := by decide +kernel
theorem dX12_gives_1 : decode cX12_gives 1 = .ok (.iconst 0, 1) := by decide +kernel
theorem dX12_gives_2 : decode cX12_gives 2 = .ok (.putfield 66, 3) := by decide +kernel
theorem dX12_gives_5 : decode cX12_gives 5 = .ok (.iload_n 1, 1) := by decide +kernel
theorem dX12_gives_6 : decode cX12_gives 6 = .ok (.ireturn, 1) := by decide +kernel
def vdm_gives : List Cond := [.code yX12_gives cX12_gives 2 (some .int), .fieldLink RX12 66 "SaltStreetModel" "status" "I"]
def vm_gives : List Cond := vdm_gives ++ (wsX120 ++ ([] : List Cond))
theorem im_gives_X12 : ∀ w ∈ wsX120, w ∈ vm_gives := fun _ h => List.mem_append_right _ (List.mem_append_left _ h)
set_option maxHeartbeats 4000000 in
set_option maxRecDepth 100000 in
theorem m_gives (l : Launch) (D : va_G) (kc : Nat → ClassId) (sz : Nat) (ma : Nat → Nat) (g_status : Int32) (g_top : Int64) (g_bottom : Int64) (g_taped : Int32) (g_size : Int32) (g_token : Int32) (g_from : Int32) (g_end : Int32) (g_value : Int32) (g_faultKind : Int32) (g_faultPlace : Int32) (g_faults : Int32) (g_seen : Int32) (g_told0 : Int32) (g_depth : Int32) (g_counted : Int32) (g_easy : Int32) (g_ended : Int32) (g_began : Int32) (g_lastPrice : Int32) (g_drawn : Int32) (g_ranSteps : Int32) (g_isTold : Int32) (g_marks : Int32) (v : Int32) : Met l yX12_gives vm_gives ({ frames := 0, cells := 0, slots := 0, locals := 0 }) (va_Pc [.ref (ma 0), .int v] (wPre D kc [(ma 0, .inr (11, [.ref (ma 1), .ref (ma 2), .int g_status, .long g_top, .long g_bottom, .ref (ma 3), .ref (ma 4), .ref (ma 5), .ref (ma 6), .ref (ma 7), .int g_taped, .int g_size, .int g_token, .int g_from, .int g_end, .int g_value, .int g_faultKind, .int g_faultPlace, .int g_faults, .int g_seen, .int g_told0, .ref (ma 8), .int g_depth, .int g_counted, .int g_easy, .int g_ended, .int g_began, .int g_lastPrice, .ref (ma 9), .int g_drawn, .int g_ranSteps, .ref (ma 10), .ref (ma 11), .ref (ma 12), .int g_isTold, .int g_marks]))] sz)) (va_Qi (fun (r : Int32) (_ : Unit) => r = v) (wPost D [(ma 0, .inr (11, [.ref (ma 1), .ref (ma 2), .int 0, .long g_top, .long g_bottom, .ref (ma 3), .ref (ma 4), .ref (ma 5), .ref (ma 6), .ref (ma 7), .int g_taped, .int g_size, .int g_token, .int g_from, .int g_end, .int g_value, .int g_faultKind, .int g_faultPlace, .int g_faults, .int g_seen, .int g_told0, .ref (ma 8), .int g_depth, .int g_counted, .int g_easy, .int g_ended, .int g_began, .int g_lastPrice, .ref (ma 9), .int g_drawn, .int g_ranSteps, .ref (ma 10), .ref (ma 11), .ref (ma 12), .int g_isTold, .int g_marks]))] (va_A [(ma 0, .inr (11, [.ref (ma 1), .ref (ma 2), .int g_status, .long g_top, .long g_bottom, .ref (ma 3), .ref (ma 4), .ref (ma 5), .ref (ma 6), .ref (ma 7), .int g_taped, .int g_size, .int g_token, .int g_from, .int g_end, .int g_value, .int g_faultKind, .int g_faultPlace, .int g_faults, .int g_seen, .int g_told0, .ref (ma 8), .int g_depth, .int g_counted, .int g_easy, .int g_ended, .int g_began, .int g_lastPrice, .ref (ma 9), .int g_drawn, .int g_ranSteps, .ref (ma 10), .ref (ma 11), .ref (ma 12), .int g_isTold, .int g_marks]))] sz)) (va_A [(ma 0, .inr (11, [.ref (ma 1), .ref (ma 2), .int g_status, .long g_top, .long g_bottom, .ref (ma 3), .ref (ma 4), .ref (ma 5), .ref (ma 6), .ref (ma 7), .int g_taped, .int g_size, .int g_token, .int g_from, .int g_end, .int g_value, .int g_faultKind, .int g_faultPlace, .int g_faults, .int g_seen, .int g_told0, .ref (ma 8), .int g_depth, .int g_counted, .int g_easy, .int g_ended, .int g_began, .int g_lastPrice, .ref (ma 9), .int g_drawn, .int g_ranSteps, .ref (ma 10), .ref (ma 11), .ref (ma 12), .int g_isTold, .int g_marks]))] sz)) 0 0 (va_A [(ma 0, .inr (11, [.ref (ma 1), .ref (ma 2), .int g_status, .long g_top, .long g_bottom, .ref (ma 3), .ref (ma 4), .ref (ma 5), .ref (ma 6), .ref (ma 7), .int g_taped, .int g_size, .int g_token, .int g_from, .int g_end, .int g_value, .int g_faultKind, .int g_faultPlace, .int g_faults, .int g_seen, .int g_told0, .ref (ma 8), .int g_depth, .int g_counted, .int g_easy, .int g_ended, .int g_began, .int g_lastPrice, .ref (ma 9), .int g_drawn, .int g_ranSteps, .ref (ma 10), .ref (ma 11), .ref (ma 12), .int g_isTold, .int g_marks]))] sz) := by
  refine Met.ofW (cc := cX12_gives) (maxL := 2) (ret := (some .int)) (by decide) rfl ?_
  intro p e s m args below meth c s₁ B hml hv
  obtain ⟨rfl, hsz, hP, hE, hD0⟩ := hv
  have hx := B.exec
  have hb := B.bytes
  have hr := B.returns
  have hts := atoms_spec (ws := vm_gives) B.pre
  have hown : s.vm.findClass RX12 = some m.cls := findClass_of_methodNamed B.named
  have hlocks := B.notSynchronized
  subst hsz
  have hD := hD0.self (sz := s.heap.size)
  generalize hAe : va_A [(ma 0, .inr (11, [.ref (ma 1), .ref (ma 2), .int g_status, .long g_top, .long g_bottom, .ref (ma 3), .ref (ma 4), .ref (ma 5), .ref (ma 6), .ref (ma 7), .int g_taped, .int g_size, .int g_token, .int g_from, .int g_end, .int g_value, .int g_faultKind, .int g_faultPlace, .int g_faults, .int g_seen, .int g_told0, .ref (ma 8), .int g_depth, .int g_counted, .int g_easy, .int g_ended, .int g_began, .int g_lastPrice, .ref (ma 9), .int g_drawn, .int g_ranSteps, .ref (ma 10), .ref (ma 11), .ref (ma 12), .int g_isTold, .int g_marks]))] s.heap.size = A at hD ⊢
  have hA : ∀ q : Nat, s.heap.size ≤ q → A q := fun q h => by rw [← hAe]; exact Or.inr h
  have hS : va_S A s.heap s.heap [] := va_S.rf
  have hK := hE.1
  have hP : va_P D vwCl [(ma 0, .inr (11, [.ref (ma 1), .ref (ma 2), .int g_status, .long g_top, .long g_bottom, .ref (ma 3), .ref (ma 4), .ref (ma 5), .ref (ma 6), .ref (ma 7), .int g_taped, .int g_size, .int g_token, .int g_from, .int g_end, .int g_value, .int g_faultKind, .int g_faultPlace, .int g_faults, .int g_seen, .int g_told0, .ref (ma 8), .int g_depth, .int g_counted, .int g_easy, .int g_ended, .int g_began, .int g_lastPrice, .ref (ma 9), .int g_drawn, .int g_ranSteps, .ref (ma 10), .ref (ma 11), .ref (ma 12), .int g_isTold, .int g_marks]))] s.heap := hP
  have hl := lv_entry ([.ref (ma 0), .int v]) (n := 2) (Nat.le_of_ble_eq_true rfl)
  rw [lg_entry_eq]
  generalize (lg_sl ([.ref (ma 0), .int v]) ++ List.replicate (2 - (lg_sl ([.ref (ma 0), .int v])).length) Slot.unset).toArray = ls at hl ⊢
  have hl : lv_has ls 2 [(0, .ref (ma 0)), (1, .int v)] := hl
  refine lv_aload_n hx hb dX12_gives_0 rfl (lv_at hl 0 rfl) ?_
  refine lv_iconst (v := 0) hx hb dX12_gives_1 (by decide) ?_
  refine va_put (D := D) (ci := 11) (v := .int 0) (ty := .int) (C := RX12) (T := TX12) (N := 36) hx hb hts im_gives_X12 tyX12 tyX12_ok nmX12 hown hK hP hD hS 0 rfl rfl 2 (by decide) (hts (.fieldLink RX12 66 "SaltStreetModel" "status" "I") (List.mem_of_getElem? (i := 1) rfl)) (fun _ h9 => h9) rfl (by decide +kernel) rfl rfl (Nat.le_of_ble_eq_true rfl) dX12_gives_2 (fun H locs hP hD hS => ?_)
  have hP : va_P D vwCl [(ma 0, .inr (11, [.ref (ma 1), .ref (ma 2), .int 0, .long g_top, .long g_bottom, .ref (ma 3), .ref (ma 4), .ref (ma 5), .ref (ma 6), .ref (ma 7), .int g_taped, .int g_size, .int g_token, .int g_from, .int g_end, .int g_value, .int g_faultKind, .int g_faultPlace, .int g_faults, .int g_seen, .int g_told0, .ref (ma 8), .int g_depth, .int g_counted, .int g_easy, .int g_ended, .int g_began, .int g_lastPrice, .ref (ma 9), .int g_drawn, .int g_ranSteps, .ref (ma 10), .ref (ma 11), .ref (ma 12), .int g_isTold, .int g_marks]))] H := hP
  have hD : va_D A [(ma 0, .inr (11, [.ref (ma 1), .ref (ma 2), .int 0, .long g_top, .long g_bottom, .ref (ma 3), .ref (ma 4), .ref (ma 5), .ref (ma 6), .ref (ma 7), .int g_taped, .int g_size, .int g_token, .int g_from, .int g_end, .int g_value, .int g_faultKind, .int g_faultPlace, .int g_faults, .int g_seen, .int g_told0, .ref (ma 8), .int g_depth, .int g_counted, .int g_easy, .int g_ended, .int g_began, .int g_lastPrice, .ref (ma 9), .int g_drawn, .int g_ranSteps, .ref (ma 10), .ref (ma 11), .ref (ma 12), .int g_isTold, .int g_marks]))] := hD
  refine lv_iload_n hx hb dX12_gives_5 rfl (lv_at hl 1 rfl) ?_
  have hP9 := hP.sub (ws' := [(ma 0, .inr (11, [.ref (ma 1), .ref (ma 2), .int 0, .long g_top, .long g_bottom, .ref (ma 3), .ref (ma 4), .ref (ma 5), .ref (ma 6), .ref (ma 7), .int g_taped, .int g_size, .int g_token, .int g_from, .int g_end, .int g_value, .int g_faultKind, .int g_faultPlace, .int g_faults, .int g_seen, .int g_told0, .ref (ma 8), .int g_depth, .int g_counted, .int g_easy, .int g_ended, .int g_began, .int g_lastPrice, .ref (ma 9), .int g_drawn, .int g_ranSteps, .ref (ma 10), .ref (ma 11), .ref (ma 12), .int g_isTold, .int g_marks]))]) [0] rfl
  have hD9 := hD.sub (ws' := [(ma 0, .inr (11, [.ref (ma 1), .ref (ma 2), .int 0, .long g_top, .long g_bottom, .ref (ma 3), .ref (ma 4), .ref (ma 5), .ref (ma 6), .ref (ma 7), .int g_taped, .int g_size, .int g_token, .int g_from, .int g_end, .int g_value, .int g_faultKind, .int g_faultPlace, .int g_faults, .int g_seen, .int g_told0, .ref (ma 8), .int g_depth, .int g_counted, .int g_easy, .int g_ended, .int g_began, .int g_lastPrice, .ref (ma 9), .int g_drawn, .int g_ranSteps, .ref (ma 10), .ref (ma 11), .ref (ma 12), .int g_isTold, .int g_marks]))]) [0] (by decide) rfl
  exact W.iret (v := v) hx hb hr (fun t9 ht hW => ⟨⟨v, (), rfl, rfl, ⟨by rw [ht]; exact hP9, hD9⟩⟩, hS.F ht⟩) hS.2.2 dX12_gives_6
theorem dX12_orNone_0 : decode cX12_orNone 0 = .ok (.iload_n 1, 1) := by decide +kernel
theorem dX12_orNone_1 : decode cX12_orNone 1 = .ok (.iconst (-1), 1) := by decide +kernel
theorem dX12_orNone_2 : decode cX12_orNone 2 = .ok (.if_icmp .ne 12, 3) := by decide +kernel
theorem dX12_orNone_14 : decode cX12_orNone 14 = .ok (.aload_n 0, 1) := by decide +kernel
theorem dX12_orNone_15 : decode cX12_orNone 15 = .ok (.iload_n 1, 1) := by decide +kernel
theorem dX12_orNone_16 : decode cX12_orNone 16 = .ok (.invokevirtual 76, 3) := by decide +kernel
theorem dX12_orNone_19 : decode cX12_orNone 19 = .ok (.ireturn, 1) := by decide +kernel
theorem dX12_orNone_5 : decode cX12_orNone 5 = .ok (.aload_n 0, 1) := by decide +kernel
theorem dX12_orNone_6 : decode cX12_orNone 6 = .ok (.bipush 6, 2) := by decide +kernel
theorem dX12_orNone_8 : decode cX12_orNone 8 = .ok (.invokevirtual 72, 3) := by decide +kernel
theorem dX12_orNone_11 : decode cX12_orNone 11 = .ok (.goto 8, 3) := by decide +kernel
def vdm_orNone : List Cond := [.code yX12_orNone cX12_orNone 2 (some .int), .methodLink RX12 76 yX12_gives, .code yX12_gives cX12_gives 2 (some .int), .fieldLink RX12 66 "SaltStreetModel" "status" "I", .instanceMethod yX12_gives, .selects RX12 yX12_gives yX12_gives, .initialized RX12, .methodLink RX12 72 yX12_refuse, .code yX12_refuse cX12_refuse 2 (some .int), .instanceMethod yX12_refuse, .selects RX12 yX12_refuse yX12_refuse]
def vm_orNone : List Cond := vdm_orNone ++ (wsX120 ++ ([] : List Cond))
theorem im_orNone_X12 : ∀ w ∈ wsX120, w ∈ vm_orNone := fun _ h => List.mem_append_right _ (List.mem_append_left _ h)
set_option maxRecDepth 20000 in
theorem gm_orNone_76_m_gives : GoodIn vm_orNone (wsV RX12 76 RX12 yX12_gives vm_gives) := (goodIn_app (goodIn_r _ [1, 4, 5, 6] rfl (by decide +kernel)) (goodIn_app (goodIn_r vdm_gives [2, 3] rfl (by decide +kernel)) (goodIn_app (goodIn_sub im_orNone_X12 gdX12) goodIn_nil)))
set_option maxRecDepth 20000 in
theorem gm_orNone_72_m_refuse : GoodIn vm_orNone (wsV RX12 72 RX12 yX12_refuse vm_refuse) := (goodIn_app (goodIn_r _ [7, 9, 10, 6] rfl (by decide +kernel)) (goodIn_app (goodIn_r vdm_refuse [8, 3] rfl (by decide +kernel)) (goodIn_app (goodIn_sub im_orNone_X12 gdX12) goodIn_nil)))
set_option maxHeartbeats 4000000 in
set_option maxRecDepth 100000 in
theorem m_orNone (l : Launch) (D : va_G) (kc : Nat → ClassId) (sz : Nat) (ma : Nat → Nat) (g_status : Int32) (g_top : Int64) (g_bottom : Int64) (g_taped : Int32) (g_size : Int32) (g_token : Int32) (g_from : Int32) (g_end : Int32) (g_value : Int32) (g_faultKind : Int32) (g_faultPlace : Int32) (g_faults : Int32) (g_seen : Int32) (g_told0 : Int32) (g_depth : Int32) (g_counted : Int32) (g_easy : Int32) (g_ended : Int32) (g_began : Int32) (g_lastPrice : Int32) (g_drawn : Int32) (g_ranSteps : Int32) (g_isTold : Int32) (g_marks : Int32) (v : Int32) : Met l yX12_orNone vm_orNone ({ frames := 1, cells := 0, slots := 0, locals := 21 }) (va_Pc [.ref (ma 0), .int v] (wPre D kc [(ma 0, .inr (11, [.ref (ma 1), .ref (ma 2), .int g_status, .long g_top, .long g_bottom, .ref (ma 3), .ref (ma 4), .ref (ma 5), .ref (ma 6), .ref (ma 7), .int g_taped, .int g_size, .int g_token, .int g_from, .int g_end, .int g_value, .int g_faultKind, .int g_faultPlace, .int g_faults, .int g_seen, .int g_told0, .ref (ma 8), .int g_depth, .int g_counted, .int g_easy, .int g_ended, .int g_began, .int g_lastPrice, .ref (ma 9), .int g_drawn, .int g_ranSteps, .ref (ma 10), .ref (ma 11), .ref (ma 12), .int g_isTold, .int g_marks]))] sz)) (va_Qi (fun (r : Int32) (_ : Unit) => r = v) wAny (va_A [(ma 0, .inr (11, [.ref (ma 1), .ref (ma 2), .int g_status, .long g_top, .long g_bottom, .ref (ma 3), .ref (ma 4), .ref (ma 5), .ref (ma 6), .ref (ma 7), .int g_taped, .int g_size, .int g_token, .int g_from, .int g_end, .int g_value, .int g_faultKind, .int g_faultPlace, .int g_faults, .int g_seen, .int g_told0, .ref (ma 8), .int g_depth, .int g_counted, .int g_easy, .int g_ended, .int g_began, .int g_lastPrice, .ref (ma 9), .int g_drawn, .int g_ranSteps, .ref (ma 10), .ref (ma 11), .ref (ma 12), .int g_isTold, .int g_marks]))] sz)) 0 0 (va_A [(ma 0, .inr (11, [.ref (ma 1), .ref (ma 2), .int g_status, .long g_top, .long g_bottom, .ref (ma 3), .ref (ma 4), .ref (ma 5), .ref (ma 6), .ref (ma 7), .int g_taped, .int g_size, .int g_token, .int g_from, .int g_end, .int g_value, .int g_faultKind, .int g_faultPlace, .int g_faults, .int g_seen, .int g_told0, .ref (ma 8), .int g_depth, .int g_counted, .int g_easy, .int g_ended, .int g_began, .int g_lastPrice, .ref (ma 9), .int g_drawn, .int g_ranSteps, .ref (ma 10), .ref (ma 11), .ref (ma 12), .int g_isTold, .int g_marks]))] sz) := by
  refine Met.ofW (cc := cX12_orNone) (maxL := 2) (ret := (some .int)) (by decide) rfl ?_
  intro p e s m args below meth c s₁ B hml hv
  obtain ⟨rfl, hsz, hP, hE, hD0⟩ := hv
  have hx := B.exec
  have hb := B.bytes
  have hr := B.returns
  have hts := atoms_spec (ws := vm_orNone) B.pre
  have hown : s.vm.findClass RX12 = some m.cls := findClass_of_methodNamed B.named
  have hlocks := B.notSynchronized
  subst hsz
  have hD := hD0.self (sz := s.heap.size)
  generalize hAe : va_A [(ma 0, .inr (11, [.ref (ma 1), .ref (ma 2), .int g_status, .long g_top, .long g_bottom, .ref (ma 3), .ref (ma 4), .ref (ma 5), .ref (ma 6), .ref (ma 7), .int g_taped, .int g_size, .int g_token, .int g_from, .int g_end, .int g_value, .int g_faultKind, .int g_faultPlace, .int g_faults, .int g_seen, .int g_told0, .ref (ma 8), .int g_depth, .int g_counted, .int g_easy, .int g_ended, .int g_began, .int g_lastPrice, .ref (ma 9), .int g_drawn, .int g_ranSteps, .ref (ma 10), .ref (ma 11), .ref (ma 12), .int g_isTold, .int g_marks]))] s.heap.size = A at hD ⊢
  have hA : ∀ q : Nat, s.heap.size ≤ q → A q := fun q h => by rw [← hAe]; exact Or.inr h
  have hS : va_S A s.heap s.heap [] := va_S.rf
  have hK := hE.1
  have hP : va_P D vwCl [(ma 0, .inr (11, [.ref (ma 1), .ref (ma 2), .int g_status, .long g_top, .long g_bottom, .ref (ma 3), .ref (ma 4), .ref (ma 5), .ref (ma 6), .ref (ma 7), .int g_taped, .int g_size, .int g_token, .int g_from, .int g_end, .int g_value, .int g_faultKind, .int g_faultPlace, .int g_faults, .int g_seen, .int g_told0, .ref (ma 8), .int g_depth, .int g_counted, .int g_easy, .int g_ended, .int g_began, .int g_lastPrice, .ref (ma 9), .int g_drawn, .int g_ranSteps, .ref (ma 10), .ref (ma 11), .ref (ma 12), .int g_isTold, .int g_marks]))] s.heap := hP
  have hl := lv_entry ([.ref (ma 0), .int v]) (n := 2) (Nat.le_of_ble_eq_true rfl)
  rw [lg_entry_eq]
  generalize (lg_sl ([.ref (ma 0), .int v]) ++ List.replicate (2 - (lg_sl ([.ref (ma 0), .int v])).length) Slot.unset).toArray = ls at hl ⊢
  have hl : lv_has ls 2 [(0, .ref (ma 0)), (1, .int v)] := hl
  refine lv_iload_n hx hb dX12_orNone_0 rfl (lv_at hl 1 rfl) ?_
  refine lv_iconst (v := (-1)) hx hb dX12_orNone_1 (by decide) ?_
  refine lv_icmp_ne (tgt := 14) hx hb dX12_orNone_2 (by decide) (fun c_2 => ?_) (fun c_2 => ?_)
  · refine lv_aload_n hx hb dX12_orNone_14 rfl (lv_at hl 0 rfl) ?_
    refine lv_iload_n hx hb dX12_orNone_15 rfl (lv_at hl 1 rfl) ?_
    have hPc := hP.sub (ws' := [(ma 0, .inr (11, [.ref (ma 1), .ref (ma 2), .int g_status, .long g_top, .long g_bottom, .ref (ma 3), .ref (ma 4), .ref (ma 5), .ref (ma 6), .ref (ma 7), .int g_taped, .int g_size, .int g_token, .int g_from, .int g_end, .int g_value, .int g_faultKind, .int g_faultPlace, .int g_faults, .int g_seen, .int g_told0, .ref (ma 8), .int g_depth, .int g_counted, .int g_easy, .int g_ended, .int g_began, .int g_lastPrice, .ref (ma 9), .int g_drawn, .int g_ranSteps, .ref (ma 10), .ref (ma 11), .ref (ma 12), .int g_isTold, .int g_marks]))]) [0] rfl
    have hDc := hD.sub (ws' := [(ma 0, .inr (11, [.ref (ma 1), .ref (ma 2), .int g_status, .long g_top, .long g_bottom, .ref (ma 3), .ref (ma 4), .ref (ma 5), .ref (ma 6), .ref (ma 7), .int g_taped, .int g_size, .int g_token, .int g_from, .int g_end, .int g_value, .int g_faultKind, .int g_faultPlace, .int g_faults, .int g_seen, .int g_told0, .ref (ma 8), .int g_depth, .int g_counted, .int g_easy, .int g_ended, .int g_began, .int g_lastPrice, .ref (ma 9), .int g_drawn, .int g_ranSteps, .ref (ma 10), .ref (ma 11), .ref (ma 12), .int g_isTold, .int g_marks]))]) [0] (by decide) rfl
    have hFc := va_free (wc := [(ma 0, .inr (11, [.ref (ma 1), .ref (ma 2), .int g_status, .long g_top, .long g_bottom, .ref (ma 3), .ref (ma 4), .ref (ma 5), .ref (ma 6), .ref (ma 7), .int g_taped, .int g_size, .int g_token, .int g_from, .int g_end, .int g_value, .int g_faultKind, .int g_faultPlace, .int g_faults, .int g_seen, .int g_told0, .ref (ma 8), .int g_depth, .int g_counted, .int g_easy, .int g_ended, .int g_began, .int g_lastPrice, .ref (ma 9), .int g_drawn, .int g_ranSteps, .ref (ma 10), .ref (ma 11), .ref (ma 12), .int g_isTold, .int g_marks]))]) hD hS hA [0] rfl
    refine va_calli (va_runV (As := [.int v]) (rest := []) ⟨hx, hb, hml, hown, hts⟩ (m_gives l D kc s.heap.size ma g_status g_top g_bottom g_taped g_size g_token g_from g_end g_value g_faultKind g_faultPlace g_faults g_seen g_told0 g_depth g_counted g_easy g_ended g_began g_lastPrice g_drawn g_ranSteps g_isTold g_marks v) (cwV 1 hts gm_orNone_76_m_gives rfl rfl rfl (by decide +kernel) ⟨Nat.le_of_ble_eq_true rfl, Nat.le_of_ble_eq_true rfl⟩) (preV_ok hPc hDc hE (ci := 11) (q0 := 0) rfl rfl) rfl rfl hl.1 rfl (lv_room (Nat.le_of_ble_eq_true rfl)) dX12_orNone_16 ⟨Nat.le_of_ble_eq_true rfl, Nat.le_of_ble_eq_true rfl⟩) hS (fun q _ h => hFc q h) hFc (fun r_16_1 u9 t9 H locs ht hvm hw hB hz1 hk1 hS => ?_)
    obtain ⟨hP1, hD1⟩ := hB
    rw [ht] at hP1
    obtain ⟨hP, hD⟩ := va_join (wr := []) (w1 := [(ma 0, .inr (11, [.ref (ma 1), .ref (ma 2), .int 0, .long g_top, .long g_bottom, .ref (ma 3), .ref (ma 4), .ref (ma 5), .ref (ma 6), .ref (ma 7), .int g_taped, .int g_size, .int g_token, .int g_from, .int g_end, .int g_value, .int g_faultKind, .int g_faultPlace, .int g_faults, .int g_seen, .int g_told0, .ref (ma 8), .int g_depth, .int g_counted, .int g_easy, .int g_ended, .int g_began, .int g_lastPrice, .ref (ma 9), .int g_drawn, .int g_ranSteps, .ref (ma 10), .ref (ma 11), .ref (ma 12), .int g_isTold, .int g_marks]))]) hP hD [0] [] rfl rfl (by decide) (by decide) hk1 hFc hP1 hD1
    have hP : va_P D vwCl [(ma 0, .inr (11, [.ref (ma 1), .ref (ma 2), .int 0, .long g_top, .long g_bottom, .ref (ma 3), .ref (ma 4), .ref (ma 5), .ref (ma 6), .ref (ma 7), .int g_taped, .int g_size, .int g_token, .int g_from, .int g_end, .int g_value, .int g_faultKind, .int g_faultPlace, .int g_faults, .int g_seen, .int g_told0, .ref (ma 8), .int g_depth, .int g_counted, .int g_easy, .int g_ended, .int g_began, .int g_lastPrice, .ref (ma 9), .int g_drawn, .int g_ranSteps, .ref (ma 10), .ref (ma 11), .ref (ma 12), .int g_isTold, .int g_marks]))] H := hP
    have hD : va_D A [(ma 0, .inr (11, [.ref (ma 1), .ref (ma 2), .int 0, .long g_top, .long g_bottom, .ref (ma 3), .ref (ma 4), .ref (ma 5), .ref (ma 6), .ref (ma 7), .int g_taped, .int g_size, .int g_token, .int g_from, .int g_end, .int g_value, .int g_faultKind, .int g_faultPlace, .int g_faults, .int g_seen, .int g_told0, .ref (ma 8), .int g_depth, .int g_counted, .int g_easy, .int g_ended, .int g_began, .int g_lastPrice, .ref (ma 9), .int g_drawn, .int g_ranSteps, .ref (ma 10), .ref (ma 11), .ref (ma 12), .int g_isTold, .int g_marks]))] := hD
    refine lv_ci hw ?_
    exact W.iret (v := v) hx hb hr (fun t9 ht hW => ⟨⟨v, (), rfl, rfl, trivial⟩, hS.F ht⟩) hS.2.2 dX12_orNone_19
  · refine lv_aload_n hx hb dX12_orNone_5 rfl (lv_at hl 0 rfl) ?_
    refine lv_bipush (v := 6) hx hb dX12_orNone_6 (by decide) ?_
    have hPc := hP.sub (ws' := [(ma 0, .inr (11, [.ref (ma 1), .ref (ma 2), .int g_status, .long g_top, .long g_bottom, .ref (ma 3), .ref (ma 4), .ref (ma 5), .ref (ma 6), .ref (ma 7), .int g_taped, .int g_size, .int g_token, .int g_from, .int g_end, .int g_value, .int g_faultKind, .int g_faultPlace, .int g_faults, .int g_seen, .int g_told0, .ref (ma 8), .int g_depth, .int g_counted, .int g_easy, .int g_ended, .int g_began, .int g_lastPrice, .ref (ma 9), .int g_drawn, .int g_ranSteps, .ref (ma 10), .ref (ma 11), .ref (ma 12), .int g_isTold, .int g_marks]))]) [0] rfl
    have hDc := hD.sub (ws' := [(ma 0, .inr (11, [.ref (ma 1), .ref (ma 2), .int g_status, .long g_top, .long g_bottom, .ref (ma 3), .ref (ma 4), .ref (ma 5), .ref (ma 6), .ref (ma 7), .int g_taped, .int g_size, .int g_token, .int g_from, .int g_end, .int g_value, .int g_faultKind, .int g_faultPlace, .int g_faults, .int g_seen, .int g_told0, .ref (ma 8), .int g_depth, .int g_counted, .int g_easy, .int g_ended, .int g_began, .int g_lastPrice, .ref (ma 9), .int g_drawn, .int g_ranSteps, .ref (ma 10), .ref (ma 11), .ref (ma 12), .int g_isTold, .int g_marks]))]) [0] (by decide) rfl
    have hFc := va_free (wc := [(ma 0, .inr (11, [.ref (ma 1), .ref (ma 2), .int g_status, .long g_top, .long g_bottom, .ref (ma 3), .ref (ma 4), .ref (ma 5), .ref (ma 6), .ref (ma 7), .int g_taped, .int g_size, .int g_token, .int g_from, .int g_end, .int g_value, .int g_faultKind, .int g_faultPlace, .int g_faults, .int g_seen, .int g_told0, .ref (ma 8), .int g_depth, .int g_counted, .int g_easy, .int g_ended, .int g_began, .int g_lastPrice, .ref (ma 9), .int g_drawn, .int g_ranSteps, .ref (ma 10), .ref (ma 11), .ref (ma 12), .int g_isTold, .int g_marks]))]) hD hS hA [0] rfl
    refine va_calli (va_runV (As := [.int 6]) (rest := []) ⟨hx, hb, hml, hown, hts⟩ (m_refuse l D kc s.heap.size ma g_status g_top g_bottom g_taped g_size g_token g_from g_end g_value g_faultKind g_faultPlace g_faults g_seen g_told0 g_depth g_counted g_easy g_ended g_began g_lastPrice g_drawn g_ranSteps g_isTold g_marks 6) (cwV 1 hts gm_orNone_72_m_refuse rfl rfl rfl (by decide +kernel) ⟨Nat.le_of_ble_eq_true rfl, Nat.le_of_ble_eq_true rfl⟩) (preV_ok hPc hDc hE (ci := 11) (q0 := 0) rfl rfl) rfl rfl hl.1 rfl (lv_room (Nat.le_of_ble_eq_true rfl)) dX12_orNone_8 ⟨Nat.le_of_ble_eq_true rfl, Nat.le_of_ble_eq_true rfl⟩) hS (fun q _ h => hFc q h) hFc (fun r_8_1 u9 t9 H locs ht hvm hw hB hz1 hk1 hS => ?_)
    obtain ⟨hP1, hD1⟩ := hB
    rw [ht] at hP1
    obtain ⟨hP, hD⟩ := va_join (wr := []) (w1 := [(ma 0, .inr (11, [.ref (ma 1), .ref (ma 2), .int 6, .long g_top, .long g_bottom, .ref (ma 3), .ref (ma 4), .ref (ma 5), .ref (ma 6), .ref (ma 7), .int g_taped, .int g_size, .int g_token, .int g_from, .int g_end, .int g_value, .int g_faultKind, .int g_faultPlace, .int g_faults, .int g_seen, .int g_told0, .ref (ma 8), .int g_depth, .int g_counted, .int g_easy, .int g_ended, .int g_began, .int g_lastPrice, .ref (ma 9), .int g_drawn, .int g_ranSteps, .ref (ma 10), .ref (ma 11), .ref (ma 12), .int g_isTold, .int g_marks]))]) hP hD [0] [] rfl rfl (by decide) (by decide) hk1 hFc hP1 hD1
    have hP : va_P D vwCl [(ma 0, .inr (11, [.ref (ma 1), .ref (ma 2), .int 6, .long g_top, .long g_bottom, .ref (ma 3), .ref (ma 4), .ref (ma 5), .ref (ma 6), .ref (ma 7), .int g_taped, .int g_size, .int g_token, .int g_from, .int g_end, .int g_value, .int g_faultKind, .int g_faultPlace, .int g_faults, .int g_seen, .int g_told0, .ref (ma 8), .int g_depth, .int g_counted, .int g_easy, .int g_ended, .int g_began, .int g_lastPrice, .ref (ma 9), .int g_drawn, .int g_ranSteps, .ref (ma 10), .ref (ma 11), .ref (ma 12), .int g_isTold, .int g_marks]))] H := hP
    have hD : va_D A [(ma 0, .inr (11, [.ref (ma 1), .ref (ma 2), .int 6, .long g_top, .long g_bottom, .ref (ma 3), .ref (ma 4), .ref (ma 5), .ref (ma 6), .ref (ma 7), .int g_taped, .int g_size, .int g_token, .int g_from, .int g_end, .int g_value, .int g_faultKind, .int g_faultPlace, .int g_faults, .int g_seen, .int g_told0, .ref (ma 8), .int g_depth, .int g_counted, .int g_easy, .int g_ended, .int g_began, .int g_lastPrice, .ref (ma 9), .int g_drawn, .int g_ranSteps, .ref (ma 10), .ref (ma 11), .ref (ma 12), .int g_isTold, .int g_marks]))] := hD
    subst hw
    refine lv_goto (tgt := 19) hx hb dX12_orNone_11 (by decide) ?_
    exact W.iret (v := (-1)) hx hb hr (fun t9 ht hW => ⟨⟨(-1), (), rfl, by first | exact c_2.symm, trivial⟩, hS.F ht⟩) hS.2.2 dX12_orNone_19
theorem dX12_isTray_0 : decode cX12_isTray 0 = .ok (.iload_n 0, 1) := by decide +kernel
theorem dX12_isTray_1 : decode cX12_isTray 1 = .ok (.ifCond .lt 12, 3) := by decide +kernel
theorem dX12_isTray_13 : decode cX12_isTray 13 = .ok (.iconst 0, 1) := by decide +kernel
theorem dX12_isTray_14 : decode cX12_isTray 14 = .ok (.ireturn, 1) := by decide +kernel
theorem dX12_isTray_4 : decode cX12_isTray 4 = .ok (.iload_n 0, 1) := by decide +kernel
theorem dX12_isTray_5 : decode cX12_isTray 5 = .ok (.iconst 4, 1) := by decide +kernel
theorem dX12_isTray_6 : decode cX12_isTray 6 = .ok (.if_icmp .ge 7, 3) := by decide +kernel
theorem dX12_isTray_9 : decode cX12_isTray 9 = .ok (.iconst 1, 1) := by decide +kernel
theorem dX12_isTray_10 : decode cX12_isTray 10 = .ok (.goto 4, 3) := by decide +kernel
def vdm_isTray : List Cond := [.code yX12_isTray cX12_isTray 1 (some .boolean)]
def vm_isTray : List Cond := vdm_isTray ++ ([] : List Cond)
set_option maxHeartbeats 4000000 in
set_option maxRecDepth 100000 in
theorem m_isTray (l : Launch) (D : va_G) (kc : Nat → ClassId) (sz : Nat) (t : Int32) : Met l yX12_isTray vm_isTray ({ frames := 0, cells := 0, slots := 0, locals := 0 }) (va_Pc [.int t] (wPre D kc [] sz)) (va_Qi (fun (r : Int32) (_ : Unit) => r = (bW t 0 3)) (wPost D [] (va_A [] sz)) (va_A [] sz)) 0 0 (va_A [] sz) := by
  refine Met.ofW (cc := cX12_isTray) (maxL := 1) (ret := (some .boolean)) (by decide) rfl ?_
  intro p e s m args below meth c s₁ B hml hv
  obtain ⟨rfl, hsz, hP, hE, hD0⟩ := hv
  have hx := B.exec
  have hb := B.bytes
  have hr := B.returns
  have hts := atoms_spec (ws := vm_isTray) B.pre
  have hown : s.vm.findClass RX12 = some m.cls := findClass_of_methodNamed B.named
  have hlocks := B.notSynchronized
  subst hsz
  have hD := hD0.self (sz := s.heap.size)
  generalize hAe : va_A [] s.heap.size = A at hD ⊢
  have hA : ∀ q : Nat, s.heap.size ≤ q → A q := fun q h => by rw [← hAe]; exact Or.inr h
  have hS : va_S A s.heap s.heap [] := va_S.rf
  have hK := hE.1
  have hP : va_P D vwCl [] s.heap := hP
  have hl := lv_entry ([.int t]) (n := 1) (Nat.le_of_ble_eq_true rfl)
  rw [lg_entry_eq]
  generalize (lg_sl ([.int t]) ++ List.replicate (1 - (lg_sl ([.int t])).length) Slot.unset).toArray = ls at hl ⊢
  have hl : lv_has ls 1 [(0, .int t)] := hl
  refine lv_iload_n hx hb dX12_isTray_0 rfl (lv_at hl 0 rfl) ?_
  refine lv_if_lt (tgt := 13) hx hb dX12_isTray_1 (by decide) (fun c_1 => ?_) (fun c_1 => ?_)
  · refine lv_iconst (v := 0) hx hb dX12_isTray_13 (by decide) ?_
    have hP9 := hP.sub (ws' := []) [] rfl
    have hD9 := hD.sub (ws' := []) [] (by decide) rfl
    exact W.zret (v := 0) hx hb hr rfl (fun t9 ht hW => ⟨⟨0, (), rfl, by first | exact (bW_0a (lt_nle c_1)).symm | exact (mo_t1 c_6).symm | exact (mo_t2 c_1 c_6).symm, ⟨by rw [ht]; exact hP9, hD9⟩⟩, hS.F ht⟩) hS.2.2 dX12_isTray_14
  · refine lv_iload_n hx hb dX12_isTray_4 rfl (lv_at hl 0 rfl) ?_
    refine lv_iconst (v := 4) hx hb dX12_isTray_5 (by decide) ?_
    refine lv_icmp_ge (tgt := 13) hx hb dX12_isTray_6 (by decide) (fun c_6 => ?_) (fun c_6 => ?_)
    · refine lv_iconst (v := 0) hx hb dX12_isTray_13 (by decide) ?_
      have hP9 := hP.sub (ws' := []) [] rfl
      have hD9 := hD.sub (ws' := []) [] (by decide) rfl
      exact W.zret (v := 0) hx hb hr rfl (fun t9 ht hW => ⟨⟨0, (), rfl, by first | exact (bW_0a (lt_nle c_1)).symm | exact (mo_t1 c_6).symm | exact (mo_t2 c_1 c_6).symm, ⟨by rw [ht]; exact hP9, hD9⟩⟩, hS.F ht⟩) hS.2.2 dX12_isTray_14
    · refine lv_iconst (v := 1) hx hb dX12_isTray_9 (by decide) ?_
      refine lv_goto (tgt := 14) hx hb dX12_isTray_10 (by decide) ?_
      have hP9 := hP.sub (ws' := []) [] rfl
      have hD9 := hD.sub (ws' := []) [] (by decide) rfl
      exact W.zret (v := 1) hx hb hr rfl (fun t9 ht hW => ⟨⟨1, (), rfl, by first | exact (bW_0a (lt_nle c_1)).symm | exact (mo_t1 c_6).symm | exact (mo_t2 c_1 c_6).symm, ⟨by rw [ht]; exact hP9, hD9⟩⟩, hS.F ht⟩) hS.2.2 dX12_isTray_14
theorem dX12_wrongPlace_0 : decode cX12_wrongPlace 0 = .ok (.iload_n 1, 1) := by decide +kernel
theorem dX12_wrongPlace_1 : decode cX12_wrongPlace 1 = .ok (.invokestatic 83, 3) := by decide +kernel
theorem dX12_wrongPlace_4 : decode cX12_wrongPlace 4 = .ok (.ifCond .ne 7, 3) := by decide +kernel
theorem dX12_wrongPlace_7 : decode cX12_wrongPlace 7 = .ok (.iconst 1, 1) := by decide +kernel
theorem dX12_wrongPlace_8 : decode cX12_wrongPlace 8 = .ok (.goto 36, 3) := by decide +kernel
theorem dX12_wrongPlace_44 : decode cX12_wrongPlace 44 = .ok (.ireturn, 1) := by decide +kernel
theorem dX12_wrongPlace_11 : decode cX12_wrongPlace 11 = .ok (.aload_n 0, 1) := by decide +kernel
theorem dX12_wrongPlace_12 : decode cX12_wrongPlace 12 = .ok (.getfield 24, 3) := by decide +kernel
theorem dX12_wrongPlace_15 : decode cX12_wrongPlace 15 = .ok (.iload_n 1, 1) := by decide +kernel
theorem dX12_wrongPlace_16 : decode cX12_wrongPlace 16 = .ok (.iaload, 1) := by decide +kernel
theorem dX12_wrongPlace_17 : decode cX12_wrongPlace 17 = .ok (.iconst (-1), 1) := by decide +kernel
theorem dX12_wrongPlace_18 : decode cX12_wrongPlace 18 = .ok (.if_icmp .ne 7, 3) := by decide +kernel
theorem dX12_wrongPlace_21 : decode cX12_wrongPlace 21 = .ok (.iconst 2, 1) := by decide +kernel
theorem dX12_wrongPlace_22 : decode cX12_wrongPlace 22 = .ok (.goto 22, 3) := by decide +kernel
def vdm_wrongPlace : List Cond := [.code yX12_wrongPlace cX12_wrongPlace 3 (some .int), .methodLink RX12 83 yX12_isTray, .code yX12_isTray cX12_isTray 1 (some .boolean), .static yX12_isTray, .initialized RX12, .fieldLink RX12 24 "SaltStreetModel" "trayMany" "[I"]
def vm_wrongPlace : List Cond := vdm_wrongPlace ++ (wsX120 ++ ([] : List Cond))
theorem im_wrongPlace_X12 : ∀ w ∈ wsX120, w ∈ vm_wrongPlace := fun _ h => List.mem_append_right _ (List.mem_append_left _ h)
set_option maxRecDepth 20000 in
theorem gm_wrongPlace_83_m_isTray : GoodIn vm_wrongPlace (va_wsS RX12 83 yX12_isTray vm_isTray) := (goodIn_app (goodIn_r _ [1, 3, 4] rfl (by decide +kernel)) (goodIn_app (goodIn_r vdm_isTray [2] rfl (by decide +kernel)) goodIn_nil))
set_option maxHeartbeats 4000000 in
set_option maxRecDepth 100000 in
theorem m_wrongPlace (l : Launch) (D : va_G) (kc : Nat → ClassId) (sz : Nat) (ma : Nat → Nat) (t : Int32) (pl : Int32) : Met l yX12_wrongPlace vm_wrongPlace ({ frames := 1, cells := 0, slots := 0, locals := 20 }) (va_Pc [.ref (ma 0), .int t, .int pl] (wPre D kc [(ma 0, .inr (11, [.ref (ma 1), .ref (ma 2), .int 0, .long 0, .long 1, .ref (ma 3), .ref (ma 4), .ref (ma 5), .ref (ma 6), .ref (ma 7), .int 0, .int 0, .int 0, .int 0, .int 0, .int 0, .int (-1), .int (-1), .int 0, .int 0, .int 0, .ref (ma 8), .int 0, .int 0, .int (-1), .int 0, .int 0, .int 0, .ref (ma 9), .int 0, .int 0, .ref (ma 10), .ref (ma 11), .ref (ma 12), .int 0, .int 0])), (ma 4, .inl (kc 0, 4, .inl tm0))] sz)) (va_Qi (fun (r : Int32) (_ : Unit) => r = (wNP t)) (wPost D [(ma 0, .inr (11, [.ref (ma 1), .ref (ma 2), .int 0, .long 0, .long 1, .ref (ma 3), .ref (ma 4), .ref (ma 5), .ref (ma 6), .ref (ma 7), .int 0, .int 0, .int 0, .int 0, .int 0, .int 0, .int (-1), .int (-1), .int 0, .int 0, .int 0, .ref (ma 8), .int 0, .int 0, .int (-1), .int 0, .int 0, .int 0, .ref (ma 9), .int 0, .int 0, .ref (ma 10), .ref (ma 11), .ref (ma 12), .int 0, .int 0])), (ma 4, .inl (kc 0, 4, .inl tm0))] (va_A [(ma 0, .inr (11, [.ref (ma 1), .ref (ma 2), .int 0, .long 0, .long 1, .ref (ma 3), .ref (ma 4), .ref (ma 5), .ref (ma 6), .ref (ma 7), .int 0, .int 0, .int 0, .int 0, .int 0, .int 0, .int (-1), .int (-1), .int 0, .int 0, .int 0, .ref (ma 8), .int 0, .int 0, .int (-1), .int 0, .int 0, .int 0, .ref (ma 9), .int 0, .int 0, .ref (ma 10), .ref (ma 11), .ref (ma 12), .int 0, .int 0])), (ma 4, .inl (kc 0, 4, .inl tm0))] sz)) (va_A [(ma 0, .inr (11, [.ref (ma 1), .ref (ma 2), .int 0, .long 0, .long 1, .ref (ma 3), .ref (ma 4), .ref (ma 5), .ref (ma 6), .ref (ma 7), .int 0, .int 0, .int 0, .int 0, .int 0, .int 0, .int (-1), .int (-1), .int 0, .int 0, .int 0, .ref (ma 8), .int 0, .int 0, .int (-1), .int 0, .int 0, .int 0, .ref (ma 9), .int 0, .int 0, .ref (ma 10), .ref (ma 11), .ref (ma 12), .int 0, .int 0])), (ma 4, .inl (kc 0, 4, .inl tm0))] sz)) 0 0 (va_A [(ma 0, .inr (11, [.ref (ma 1), .ref (ma 2), .int 0, .long 0, .long 1, .ref (ma 3), .ref (ma 4), .ref (ma 5), .ref (ma 6), .ref (ma 7), .int 0, .int 0, .int 0, .int 0, .int 0, .int 0, .int (-1), .int (-1), .int 0, .int 0, .int 0, .ref (ma 8), .int 0, .int 0, .int (-1), .int 0, .int 0, .int 0, .ref (ma 9), .int 0, .int 0, .ref (ma 10), .ref (ma 11), .ref (ma 12), .int 0, .int 0])), (ma 4, .inl (kc 0, 4, .inl tm0))] sz) := by
  refine Met.ofW (cc := cX12_wrongPlace) (maxL := 3) (ret := (some .int)) (by decide) rfl ?_
  intro p e s m args below meth c s₁ B hml hv
  obtain ⟨rfl, hsz, hP, hE, hD0⟩ := hv
  have hx := B.exec
  have hb := B.bytes
  have hr := B.returns
  have hts := atoms_spec (ws := vm_wrongPlace) B.pre
  have hown : s.vm.findClass RX12 = some m.cls := findClass_of_methodNamed B.named
  have hlocks := B.notSynchronized
  subst hsz
  have hD := hD0.self (sz := s.heap.size)
  generalize hAe : va_A [(ma 0, .inr (11, [.ref (ma 1), .ref (ma 2), .int 0, .long 0, .long 1, .ref (ma 3), .ref (ma 4), .ref (ma 5), .ref (ma 6), .ref (ma 7), .int 0, .int 0, .int 0, .int 0, .int 0, .int 0, .int (-1), .int (-1), .int 0, .int 0, .int 0, .ref (ma 8), .int 0, .int 0, .int (-1), .int 0, .int 0, .int 0, .ref (ma 9), .int 0, .int 0, .ref (ma 10), .ref (ma 11), .ref (ma 12), .int 0, .int 0])), (ma 4, .inl (kc 0, 4, .inl tm0))] s.heap.size = A at hD ⊢
  have hA : ∀ q : Nat, s.heap.size ≤ q → A q := fun q h => by rw [← hAe]; exact Or.inr h
  have hS : va_S A s.heap s.heap [] := va_S.rf
  have hK := hE.1
  have hP : va_P D vwCl [(ma 0, .inr (11, [.ref (ma 1), .ref (ma 2), .int 0, .long 0, .long 1, .ref (ma 3), .ref (ma 4), .ref (ma 5), .ref (ma 6), .ref (ma 7), .int 0, .int 0, .int 0, .int 0, .int 0, .int 0, .int (-1), .int (-1), .int 0, .int 0, .int 0, .ref (ma 8), .int 0, .int 0, .int (-1), .int 0, .int 0, .int 0, .ref (ma 9), .int 0, .int 0, .ref (ma 10), .ref (ma 11), .ref (ma 12), .int 0, .int 0])), (ma 4, .inl (kc 0, 4, .inl tm0))] s.heap := hP
  have hl := lv_entry ([.ref (ma 0), .int t, .int pl]) (n := 3) (Nat.le_of_ble_eq_true rfl)
  rw [lg_entry_eq]
  generalize (lg_sl ([.ref (ma 0), .int t, .int pl]) ++ List.replicate (3 - (lg_sl ([.ref (ma 0), .int t, .int pl])).length) Slot.unset).toArray = ls at hl ⊢
  have hl : lv_has ls 3 [(0, .ref (ma 0)), (1, .int t), (2, .int pl)] := hl
  rcases tr_cases t with h_t | rfl | rfl | rfl | rfl
  · refine lv_iload_n hx hb dX12_wrongPlace_0 rfl (lv_at hl 1 rfl) ?_
    have hPc := hP.sub (ws' := []) [] rfl
    have hDc := hD.sub (ws' := []) [] (by decide) rfl
    have hFc := va_free (wc := []) hD hS hA [] rfl
    refine va_calli (va_runS (As := [.int t]) (rest := []) ⟨hx, hb, hml, hown, hts⟩ (m_isTray l D kc s.heap.size t) (va_cwS 1 hts gm_wrongPlace_83_m_isTray rfl rfl rfl (by decide +kernel) ⟨Nat.le_of_ble_eq_true rfl, Nat.le_of_ble_eq_true rfl⟩) (preS_ok hPc hDc hE) rfl rfl hl.1 rfl (lv_room (Nat.le_of_ble_eq_true rfl)) dX12_wrongPlace_1 ⟨Nat.le_of_ble_eq_true rfl, Nat.le_of_ble_eq_true rfl⟩) hS (fun q _ h => hFc q h) hFc (fun r_1 u9 t9 H locs ht hvm hw hB hz1 hk1 hS => ?_)
    obtain ⟨hP1, hD1⟩ := hB
    rw [ht] at hP1
    obtain ⟨hP, hD⟩ := va_join (wr := [(ma 0, .inr (11, [.ref (ma 1), .ref (ma 2), .int 0, .long 0, .long 1, .ref (ma 3), .ref (ma 4), .ref (ma 5), .ref (ma 6), .ref (ma 7), .int 0, .int 0, .int 0, .int 0, .int 0, .int 0, .int (-1), .int (-1), .int 0, .int 0, .int 0, .ref (ma 8), .int 0, .int 0, .int (-1), .int 0, .int 0, .int 0, .ref (ma 9), .int 0, .int 0, .ref (ma 10), .ref (ma 11), .ref (ma 12), .int 0, .int 0])), (ma 4, .inl (kc 0, 4, .inl tm0))]) (w1 := []) hP hD [] [0, 1] rfl rfl (by decide) (by decide) hk1 hFc hP1 hD1
    have hP : va_P D vwCl [(ma 0, .inr (11, [.ref (ma 1), .ref (ma 2), .int 0, .long 0, .long 1, .ref (ma 3), .ref (ma 4), .ref (ma 5), .ref (ma 6), .ref (ma 7), .int 0, .int 0, .int 0, .int 0, .int 0, .int 0, .int (-1), .int (-1), .int 0, .int 0, .int 0, .ref (ma 8), .int 0, .int 0, .int (-1), .int 0, .int 0, .int 0, .ref (ma 9), .int 0, .int 0, .ref (ma 10), .ref (ma 11), .ref (ma 12), .int 0, .int 0])), (ma 4, .inl (kc 0, 4, .inl tm0))] H := hP
    have hD : va_D A [(ma 0, .inr (11, [.ref (ma 1), .ref (ma 2), .int 0, .long 0, .long 1, .ref (ma 3), .ref (ma 4), .ref (ma 5), .ref (ma 6), .ref (ma 7), .int 0, .int 0, .int 0, .int 0, .int 0, .int 0, .int (-1), .int (-1), .int 0, .int 0, .int 0, .ref (ma 8), .int 0, .int 0, .int (-1), .int 0, .int 0, .int 0, .ref (ma 9), .int 0, .int 0, .ref (ma 10), .ref (ma 11), .ref (ma 12), .int 0, .int 0])), (ma 4, .inl (kc 0, 4, .inl tm0))] := hD
    subst hw
    refine lv_ci (y := 0) (h_t) ?_
    refine lv_if_ne (tgt := 11) hx hb dX12_wrongPlace_4 (by decide) (fun h => absurd (by decide) h) (fun _ => ?_)
    refine lv_iconst (v := 1) hx hb dX12_wrongPlace_7 (by decide) ?_
    refine lv_goto (tgt := 44) hx hb dX12_wrongPlace_8 (by decide) ?_
    have hP9 := hP.sub (ws' := [(ma 0, .inr (11, [.ref (ma 1), .ref (ma 2), .int 0, .long 0, .long 1, .ref (ma 3), .ref (ma 4), .ref (ma 5), .ref (ma 6), .ref (ma 7), .int 0, .int 0, .int 0, .int 0, .int 0, .int 0, .int (-1), .int (-1), .int 0, .int 0, .int 0, .ref (ma 8), .int 0, .int 0, .int (-1), .int 0, .int 0, .int 0, .ref (ma 9), .int 0, .int 0, .ref (ma 10), .ref (ma 11), .ref (ma 12), .int 0, .int 0])), (ma 4, .inl (kc 0, 4, .inl tm0))]) [0, 1] rfl
    have hD9 := hD.sub (ws' := [(ma 0, .inr (11, [.ref (ma 1), .ref (ma 2), .int 0, .long 0, .long 1, .ref (ma 3), .ref (ma 4), .ref (ma 5), .ref (ma 6), .ref (ma 7), .int 0, .int 0, .int 0, .int 0, .int 0, .int 0, .int (-1), .int (-1), .int 0, .int 0, .int 0, .ref (ma 8), .int 0, .int 0, .int (-1), .int 0, .int 0, .int 0, .ref (ma 9), .int 0, .int 0, .ref (ma 10), .ref (ma 11), .ref (ma 12), .int 0, .int 0])), (ma 4, .inl (kc 0, 4, .inl tm0))]) [0, 1] (by decide) rfl
    exact W.iret (v := 1) hx hb hr (fun t9 ht hW => ⟨⟨1, (), rfl, by first | exact (if_pos h_t).symm | decide, ⟨by rw [ht]; exact hP9, hD9⟩⟩, hS.F ht⟩) hS.2.2 dX12_wrongPlace_44
  · refine lv_iload_n hx hb dX12_wrongPlace_0 rfl (lv_at hl 1 rfl) ?_
    have hPc := hP.sub (ws' := []) [] rfl
    have hDc := hD.sub (ws' := []) [] (by decide) rfl
    have hFc := va_free (wc := []) hD hS hA [] rfl
    refine va_calli (va_runS (As := [.int 0]) (rest := []) ⟨hx, hb, hml, hown, hts⟩ (m_isTray l D kc s.heap.size 0) (va_cwS 1 hts gm_wrongPlace_83_m_isTray rfl rfl rfl (by decide +kernel) ⟨Nat.le_of_ble_eq_true rfl, Nat.le_of_ble_eq_true rfl⟩) (preS_ok hPc hDc hE) rfl rfl hl.1 rfl (lv_room (Nat.le_of_ble_eq_true rfl)) dX12_wrongPlace_1 ⟨Nat.le_of_ble_eq_true rfl, Nat.le_of_ble_eq_true rfl⟩) hS (fun q _ h => hFc q h) hFc (fun r_1 u9 t9 H locs ht hvm hw hB hz1 hk1 hS => ?_)
    obtain ⟨hP1, hD1⟩ := hB
    rw [ht] at hP1
    obtain ⟨hP, hD⟩ := va_join (wr := [(ma 0, .inr (11, [.ref (ma 1), .ref (ma 2), .int 0, .long 0, .long 1, .ref (ma 3), .ref (ma 4), .ref (ma 5), .ref (ma 6), .ref (ma 7), .int 0, .int 0, .int 0, .int 0, .int 0, .int 0, .int (-1), .int (-1), .int 0, .int 0, .int 0, .ref (ma 8), .int 0, .int 0, .int (-1), .int 0, .int 0, .int 0, .ref (ma 9), .int 0, .int 0, .ref (ma 10), .ref (ma 11), .ref (ma 12), .int 0, .int 0])), (ma 4, .inl (kc 0, 4, .inl tm0))]) (w1 := []) hP hD [] [0, 1] rfl rfl (by decide) (by decide) hk1 hFc hP1 hD1
    have hP : va_P D vwCl [(ma 0, .inr (11, [.ref (ma 1), .ref (ma 2), .int 0, .long 0, .long 1, .ref (ma 3), .ref (ma 4), .ref (ma 5), .ref (ma 6), .ref (ma 7), .int 0, .int 0, .int 0, .int 0, .int 0, .int 0, .int (-1), .int (-1), .int 0, .int 0, .int 0, .ref (ma 8), .int 0, .int 0, .int (-1), .int 0, .int 0, .int 0, .ref (ma 9), .int 0, .int 0, .ref (ma 10), .ref (ma 11), .ref (ma 12), .int 0, .int 0])), (ma 4, .inl (kc 0, 4, .inl tm0))] H := hP
    have hD : va_D A [(ma 0, .inr (11, [.ref (ma 1), .ref (ma 2), .int 0, .long 0, .long 1, .ref (ma 3), .ref (ma 4), .ref (ma 5), .ref (ma 6), .ref (ma 7), .int 0, .int 0, .int 0, .int 0, .int 0, .int 0, .int (-1), .int (-1), .int 0, .int 0, .int 0, .ref (ma 8), .int 0, .int 0, .int (-1), .int 0, .int 0, .int 0, .ref (ma 9), .int 0, .int 0, .ref (ma 10), .ref (ma 11), .ref (ma 12), .int 0, .int 0])), (ma 4, .inl (kc 0, 4, .inl tm0))] := hD
    subst hw
    refine lv_ci (y := 1) (by decide) ?_
    refine lv_if_ne (tgt := 11) hx hb dX12_wrongPlace_4 (by decide) (fun _ => ?_) (fun h => absurd h (by decide))
    refine lv_aload_n hx hb dX12_wrongPlace_11 rfl (lv_at hl 0 rfl) ?_
    refine va_get (D := D) (ci := 11) (v := .ref (ma 4)) (C := RX12) (T := TX12) (N := 36) hx hb hts im_wrongPlace_X12 hown hK hP 0 rfl rfl 6 (by decide) (hts (.fieldLink RX12 24 "SaltStreetModel" "trayMany" "[I") (List.mem_of_getElem? (i := 5) rfl)) (fun _ h9 => h9) rfl dX12_wrongPlace_12 ?_
    refine lv_iload_n hx hb dX12_wrongPlace_15 rfl (lv_at hl 1 rfl) ?_
    refine va_iald hx hb hK hP 1 0 (f := tm0) rfl rfl (by unfold vp_in; decide) dX12_wrongPlace_16 ?_
    refine lv_ci (y := (-1)) (by decide) ?_
    refine lv_iconst (v := (-1)) hx hb dX12_wrongPlace_17 (by decide) ?_
    refine lv_icmp_ne (tgt := 25) hx hb dX12_wrongPlace_18 (by decide) (fun h => absurd (by decide) h) (fun _ => ?_)
    refine lv_iconst (v := 2) hx hb dX12_wrongPlace_21 (by decide) ?_
    refine lv_goto (tgt := 44) hx hb dX12_wrongPlace_22 (by decide) ?_
    have hP9 := hP.sub (ws' := [(ma 0, .inr (11, [.ref (ma 1), .ref (ma 2), .int 0, .long 0, .long 1, .ref (ma 3), .ref (ma 4), .ref (ma 5), .ref (ma 6), .ref (ma 7), .int 0, .int 0, .int 0, .int 0, .int 0, .int 0, .int (-1), .int (-1), .int 0, .int 0, .int 0, .ref (ma 8), .int 0, .int 0, .int (-1), .int 0, .int 0, .int 0, .ref (ma 9), .int 0, .int 0, .ref (ma 10), .ref (ma 11), .ref (ma 12), .int 0, .int 0])), (ma 4, .inl (kc 0, 4, .inl tm0))]) [0, 1] rfl
    have hD9 := hD.sub (ws' := [(ma 0, .inr (11, [.ref (ma 1), .ref (ma 2), .int 0, .long 0, .long 1, .ref (ma 3), .ref (ma 4), .ref (ma 5), .ref (ma 6), .ref (ma 7), .int 0, .int 0, .int 0, .int 0, .int 0, .int 0, .int (-1), .int (-1), .int 0, .int 0, .int 0, .ref (ma 8), .int 0, .int 0, .int (-1), .int 0, .int 0, .int 0, .ref (ma 9), .int 0, .int 0, .ref (ma 10), .ref (ma 11), .ref (ma 12), .int 0, .int 0])), (ma 4, .inl (kc 0, 4, .inl tm0))]) [0, 1] (by decide) rfl
    exact W.iret (v := 2) hx hb hr (fun t9 ht hW => ⟨⟨2, (), rfl, by first | exact (if_pos h_t).symm | decide, ⟨by rw [ht]; exact hP9, hD9⟩⟩, hS.F ht⟩) hS.2.2 dX12_wrongPlace_44
  · refine lv_iload_n hx hb dX12_wrongPlace_0 rfl (lv_at hl 1 rfl) ?_
    have hPc := hP.sub (ws' := []) [] rfl
    have hDc := hD.sub (ws' := []) [] (by decide) rfl
    have hFc := va_free (wc := []) hD hS hA [] rfl
    refine va_calli (va_runS (As := [.int 1]) (rest := []) ⟨hx, hb, hml, hown, hts⟩ (m_isTray l D kc s.heap.size 1) (va_cwS 1 hts gm_wrongPlace_83_m_isTray rfl rfl rfl (by decide +kernel) ⟨Nat.le_of_ble_eq_true rfl, Nat.le_of_ble_eq_true rfl⟩) (preS_ok hPc hDc hE) rfl rfl hl.1 rfl (lv_room (Nat.le_of_ble_eq_true rfl)) dX12_wrongPlace_1 ⟨Nat.le_of_ble_eq_true rfl, Nat.le_of_ble_eq_true rfl⟩) hS (fun q _ h => hFc q h) hFc (fun r_1 u9 t9 H locs ht hvm hw hB hz1 hk1 hS => ?_)
    obtain ⟨hP1, hD1⟩ := hB
    rw [ht] at hP1
    obtain ⟨hP, hD⟩ := va_join (wr := [(ma 0, .inr (11, [.ref (ma 1), .ref (ma 2), .int 0, .long 0, .long 1, .ref (ma 3), .ref (ma 4), .ref (ma 5), .ref (ma 6), .ref (ma 7), .int 0, .int 0, .int 0, .int 0, .int 0, .int 0, .int (-1), .int (-1), .int 0, .int 0, .int 0, .ref (ma 8), .int 0, .int 0, .int (-1), .int 0, .int 0, .int 0, .ref (ma 9), .int 0, .int 0, .ref (ma 10), .ref (ma 11), .ref (ma 12), .int 0, .int 0])), (ma 4, .inl (kc 0, 4, .inl tm0))]) (w1 := []) hP hD [] [0, 1] rfl rfl (by decide) (by decide) hk1 hFc hP1 hD1
    have hP : va_P D vwCl [(ma 0, .inr (11, [.ref (ma 1), .ref (ma 2), .int 0, .long 0, .long 1, .ref (ma 3), .ref (ma 4), .ref (ma 5), .ref (ma 6), .ref (ma 7), .int 0, .int 0, .int 0, .int 0, .int 0, .int 0, .int (-1), .int (-1), .int 0, .int 0, .int 0, .ref (ma 8), .int 0, .int 0, .int (-1), .int 0, .int 0, .int 0, .ref (ma 9), .int 0, .int 0, .ref (ma 10), .ref (ma 11), .ref (ma 12), .int 0, .int 0])), (ma 4, .inl (kc 0, 4, .inl tm0))] H := hP
    have hD : va_D A [(ma 0, .inr (11, [.ref (ma 1), .ref (ma 2), .int 0, .long 0, .long 1, .ref (ma 3), .ref (ma 4), .ref (ma 5), .ref (ma 6), .ref (ma 7), .int 0, .int 0, .int 0, .int 0, .int 0, .int 0, .int (-1), .int (-1), .int 0, .int 0, .int 0, .ref (ma 8), .int 0, .int 0, .int (-1), .int 0, .int 0, .int 0, .ref (ma 9), .int 0, .int 0, .ref (ma 10), .ref (ma 11), .ref (ma 12), .int 0, .int 0])), (ma 4, .inl (kc 0, 4, .inl tm0))] := hD
    subst hw
    refine lv_ci (y := 1) (by decide) ?_
    refine lv_if_ne (tgt := 11) hx hb dX12_wrongPlace_4 (by decide) (fun _ => ?_) (fun h => absurd h (by decide))
    refine lv_aload_n hx hb dX12_wrongPlace_11 rfl (lv_at hl 0 rfl) ?_
    refine va_get (D := D) (ci := 11) (v := .ref (ma 4)) (C := RX12) (T := TX12) (N := 36) hx hb hts im_wrongPlace_X12 hown hK hP 0 rfl rfl 6 (by decide) (hts (.fieldLink RX12 24 "SaltStreetModel" "trayMany" "[I") (List.mem_of_getElem? (i := 5) rfl)) (fun _ h9 => h9) rfl dX12_wrongPlace_12 ?_
    refine lv_iload_n hx hb dX12_wrongPlace_15 rfl (lv_at hl 1 rfl) ?_
    refine va_iald hx hb hK hP 1 0 (f := tm0) rfl rfl (by unfold vp_in; decide) dX12_wrongPlace_16 ?_
    refine lv_ci (y := (-1)) (by decide) ?_
    refine lv_iconst (v := (-1)) hx hb dX12_wrongPlace_17 (by decide) ?_
    refine lv_icmp_ne (tgt := 25) hx hb dX12_wrongPlace_18 (by decide) (fun h => absurd (by decide) h) (fun _ => ?_)
    refine lv_iconst (v := 2) hx hb dX12_wrongPlace_21 (by decide) ?_
    refine lv_goto (tgt := 44) hx hb dX12_wrongPlace_22 (by decide) ?_
    have hP9 := hP.sub (ws' := [(ma 0, .inr (11, [.ref (ma 1), .ref (ma 2), .int 0, .long 0, .long 1, .ref (ma 3), .ref (ma 4), .ref (ma 5), .ref (ma 6), .ref (ma 7), .int 0, .int 0, .int 0, .int 0, .int 0, .int 0, .int (-1), .int (-1), .int 0, .int 0, .int 0, .ref (ma 8), .int 0, .int 0, .int (-1), .int 0, .int 0, .int 0, .ref (ma 9), .int 0, .int 0, .ref (ma 10), .ref (ma 11), .ref (ma 12), .int 0, .int 0])), (ma 4, .inl (kc 0, 4, .inl tm0))]) [0, 1] rfl
    have hD9 := hD.sub (ws' := [(ma 0, .inr (11, [.ref (ma 1), .ref (ma 2), .int 0, .long 0, .long 1, .ref (ma 3), .ref (ma 4), .ref (ma 5), .ref (ma 6), .ref (ma 7), .int 0, .int 0, .int 0, .int 0, .int 0, .int 0, .int (-1), .int (-1), .int 0, .int 0, .int 0, .ref (ma 8), .int 0, .int 0, .int (-1), .int 0, .int 0, .int 0, .ref (ma 9), .int 0, .int 0, .ref (ma 10), .ref (ma 11), .ref (ma 12), .int 0, .int 0])), (ma 4, .inl (kc 0, 4, .inl tm0))]) [0, 1] (by decide) rfl
    exact W.iret (v := 2) hx hb hr (fun t9 ht hW => ⟨⟨2, (), rfl, by first | exact (if_pos h_t).symm | decide, ⟨by rw [ht]; exact hP9, hD9⟩⟩, hS.F ht⟩) hS.2.2 dX12_wrongPlace_44
  · refine lv_iload_n hx hb dX12_wrongPlace_0 rfl (lv_at hl 1 rfl) ?_
    have hPc := hP.sub (ws' := []) [] rfl
    have hDc := hD.sub (ws' := []) [] (by decide) rfl
    have hFc := va_free (wc := []) hD hS hA [] rfl
    refine va_calli (va_runS (As := [.int 2]) (rest := []) ⟨hx, hb, hml, hown, hts⟩ (m_isTray l D kc s.heap.size 2) (va_cwS 1 hts gm_wrongPlace_83_m_isTray rfl rfl rfl (by decide +kernel) ⟨Nat.le_of_ble_eq_true rfl, Nat.le_of_ble_eq_true rfl⟩) (preS_ok hPc hDc hE) rfl rfl hl.1 rfl (lv_room (Nat.le_of_ble_eq_true rfl)) dX12_wrongPlace_1 ⟨Nat.le_of_ble_eq_true rfl, Nat.le_of_ble_eq_true rfl⟩) hS (fun q _ h => hFc q h) hFc (fun r_1 u9 t9 H locs ht hvm hw hB hz1 hk1 hS => ?_)
    obtain ⟨hP1, hD1⟩ := hB
    rw [ht] at hP1
    obtain ⟨hP, hD⟩ := va_join (wr := [(ma 0, .inr (11, [.ref (ma 1), .ref (ma 2), .int 0, .long 0, .long 1, .ref (ma 3), .ref (ma 4), .ref (ma 5), .ref (ma 6), .ref (ma 7), .int 0, .int 0, .int 0, .int 0, .int 0, .int 0, .int (-1), .int (-1), .int 0, .int 0, .int 0, .ref (ma 8), .int 0, .int 0, .int (-1), .int 0, .int 0, .int 0, .ref (ma 9), .int 0, .int 0, .ref (ma 10), .ref (ma 11), .ref (ma 12), .int 0, .int 0])), (ma 4, .inl (kc 0, 4, .inl tm0))]) (w1 := []) hP hD [] [0, 1] rfl rfl (by decide) (by decide) hk1 hFc hP1 hD1
    have hP : va_P D vwCl [(ma 0, .inr (11, [.ref (ma 1), .ref (ma 2), .int 0, .long 0, .long 1, .ref (ma 3), .ref (ma 4), .ref (ma 5), .ref (ma 6), .ref (ma 7), .int 0, .int 0, .int 0, .int 0, .int 0, .int 0, .int (-1), .int (-1), .int 0, .int 0, .int 0, .ref (ma 8), .int 0, .int 0, .int (-1), .int 0, .int 0, .int 0, .ref (ma 9), .int 0, .int 0, .ref (ma 10), .ref (ma 11), .ref (ma 12), .int 0, .int 0])), (ma 4, .inl (kc 0, 4, .inl tm0))] H := hP
    have hD : va_D A [(ma 0, .inr (11, [.ref (ma 1), .ref (ma 2), .int 0, .long 0, .long 1, .ref (ma 3), .ref (ma 4), .ref (ma 5), .ref (ma 6), .ref (ma 7), .int 0, .int 0, .int 0, .int 0, .int 0, .int 0, .int (-1), .int (-1), .int 0, .int 0, .int 0, .ref (ma 8), .int 0, .int 0, .int (-1), .int 0, .int 0, .int 0, .ref (ma 9), .int 0, .int 0, .ref (ma 10), .ref (ma 11), .ref (ma 12), .int 0, .int 0])), (ma 4, .inl (kc 0, 4, .inl tm0))] := hD
    subst hw
    refine lv_ci (y := 1) (by decide) ?_
    refine lv_if_ne (tgt := 11) hx hb dX12_wrongPlace_4 (by decide) (fun _ => ?_) (fun h => absurd h (by decide))
    refine lv_aload_n hx hb dX12_wrongPlace_11 rfl (lv_at hl 0 rfl) ?_
    refine va_get (D := D) (ci := 11) (v := .ref (ma 4)) (C := RX12) (T := TX12) (N := 36) hx hb hts im_wrongPlace_X12 hown hK hP 0 rfl rfl 6 (by decide) (hts (.fieldLink RX12 24 "SaltStreetModel" "trayMany" "[I") (List.mem_of_getElem? (i := 5) rfl)) (fun _ h9 => h9) rfl dX12_wrongPlace_12 ?_
    refine lv_iload_n hx hb dX12_wrongPlace_15 rfl (lv_at hl 1 rfl) ?_
    refine va_iald hx hb hK hP 1 0 (f := tm0) rfl rfl (by unfold vp_in; decide) dX12_wrongPlace_16 ?_
    refine lv_ci (y := (-1)) (by decide) ?_
    refine lv_iconst (v := (-1)) hx hb dX12_wrongPlace_17 (by decide) ?_
    refine lv_icmp_ne (tgt := 25) hx hb dX12_wrongPlace_18 (by decide) (fun h => absurd (by decide) h) (fun _ => ?_)
    refine lv_iconst (v := 2) hx hb dX12_wrongPlace_21 (by decide) ?_
    refine lv_goto (tgt := 44) hx hb dX12_wrongPlace_22 (by decide) ?_
    have hP9 := hP.sub (ws' := [(ma 0, .inr (11, [.ref (ma 1), .ref (ma 2), .int 0, .long 0, .long 1, .ref (ma 3), .ref (ma 4), .ref (ma 5), .ref (ma 6), .ref (ma 7), .int 0, .int 0, .int 0, .int 0, .int 0, .int 0, .int (-1), .int (-1), .int 0, .int 0, .int 0, .ref (ma 8), .int 0, .int 0, .int (-1), .int 0, .int 0, .int 0, .ref (ma 9), .int 0, .int 0, .ref (ma 10), .ref (ma 11), .ref (ma 12), .int 0, .int 0])), (ma 4, .inl (kc 0, 4, .inl tm0))]) [0, 1] rfl
    have hD9 := hD.sub (ws' := [(ma 0, .inr (11, [.ref (ma 1), .ref (ma 2), .int 0, .long 0, .long 1, .ref (ma 3), .ref (ma 4), .ref (ma 5), .ref (ma 6), .ref (ma 7), .int 0, .int 0, .int 0, .int 0, .int 0, .int 0, .int (-1), .int (-1), .int 0, .int 0, .int 0, .ref (ma 8), .int 0, .int 0, .int (-1), .int 0, .int 0, .int 0, .ref (ma 9), .int 0, .int 0, .ref (ma 10), .ref (ma 11), .ref (ma 12), .int 0, .int 0])), (ma 4, .inl (kc 0, 4, .inl tm0))]) [0, 1] (by decide) rfl
    exact W.iret (v := 2) hx hb hr (fun t9 ht hW => ⟨⟨2, (), rfl, by first | exact (if_pos h_t).symm | decide, ⟨by rw [ht]; exact hP9, hD9⟩⟩, hS.F ht⟩) hS.2.2 dX12_wrongPlace_44
  · refine lv_iload_n hx hb dX12_wrongPlace_0 rfl (lv_at hl 1 rfl) ?_
    have hPc := hP.sub (ws' := []) [] rfl
    have hDc := hD.sub (ws' := []) [] (by decide) rfl
    have hFc := va_free (wc := []) hD hS hA [] rfl
    refine va_calli (va_runS (As := [.int 3]) (rest := []) ⟨hx, hb, hml, hown, hts⟩ (m_isTray l D kc s.heap.size 3) (va_cwS 1 hts gm_wrongPlace_83_m_isTray rfl rfl rfl (by decide +kernel) ⟨Nat.le_of_ble_eq_true rfl, Nat.le_of_ble_eq_true rfl⟩) (preS_ok hPc hDc hE) rfl rfl hl.1 rfl (lv_room (Nat.le_of_ble_eq_true rfl)) dX12_wrongPlace_1 ⟨Nat.le_of_ble_eq_true rfl, Nat.le_of_ble_eq_true rfl⟩) hS (fun q _ h => hFc q h) hFc (fun r_1 u9 t9 H locs ht hvm hw hB hz1 hk1 hS => ?_)
    obtain ⟨hP1, hD1⟩ := hB
    rw [ht] at hP1
    obtain ⟨hP, hD⟩ := va_join (wr := [(ma 0, .inr (11, [.ref (ma 1), .ref (ma 2), .int 0, .long 0, .long 1, .ref (ma 3), .ref (ma 4), .ref (ma 5), .ref (ma 6), .ref (ma 7), .int 0, .int 0, .int 0, .int 0, .int 0, .int 0, .int (-1), .int (-1), .int 0, .int 0, .int 0, .ref (ma 8), .int 0, .int 0, .int (-1), .int 0, .int 0, .int 0, .ref (ma 9), .int 0, .int 0, .ref (ma 10), .ref (ma 11), .ref (ma 12), .int 0, .int 0])), (ma 4, .inl (kc 0, 4, .inl tm0))]) (w1 := []) hP hD [] [0, 1] rfl rfl (by decide) (by decide) hk1 hFc hP1 hD1
    have hP : va_P D vwCl [(ma 0, .inr (11, [.ref (ma 1), .ref (ma 2), .int 0, .long 0, .long 1, .ref (ma 3), .ref (ma 4), .ref (ma 5), .ref (ma 6), .ref (ma 7), .int 0, .int 0, .int 0, .int 0, .int 0, .int 0, .int (-1), .int (-1), .int 0, .int 0, .int 0, .ref (ma 8), .int 0, .int 0, .int (-1), .int 0, .int 0, .int 0, .ref (ma 9), .int 0, .int 0, .ref (ma 10), .ref (ma 11), .ref (ma 12), .int 0, .int 0])), (ma 4, .inl (kc 0, 4, .inl tm0))] H := hP
    have hD : va_D A [(ma 0, .inr (11, [.ref (ma 1), .ref (ma 2), .int 0, .long 0, .long 1, .ref (ma 3), .ref (ma 4), .ref (ma 5), .ref (ma 6), .ref (ma 7), .int 0, .int 0, .int 0, .int 0, .int 0, .int 0, .int (-1), .int (-1), .int 0, .int 0, .int 0, .ref (ma 8), .int 0, .int 0, .int (-1), .int 0, .int 0, .int 0, .ref (ma 9), .int 0, .int 0, .ref (ma 10), .ref (ma 11), .ref (ma 12), .int 0, .int 0])), (ma 4, .inl (kc 0, 4, .inl tm0))] := hD
    subst hw
    refine lv_ci (y := 1) (by decide) ?_
    refine lv_if_ne (tgt := 11) hx hb dX12_wrongPlace_4 (by decide) (fun _ => ?_) (fun h => absurd h (by decide))
    refine lv_aload_n hx hb dX12_wrongPlace_11 rfl (lv_at hl 0 rfl) ?_
    refine va_get (D := D) (ci := 11) (v := .ref (ma 4)) (C := RX12) (T := TX12) (N := 36) hx hb hts im_wrongPlace_X12 hown hK hP 0 rfl rfl 6 (by decide) (hts (.fieldLink RX12 24 "SaltStreetModel" "trayMany" "[I") (List.mem_of_getElem? (i := 5) rfl)) (fun _ h9 => h9) rfl dX12_wrongPlace_12 ?_
    refine lv_iload_n hx hb dX12_wrongPlace_15 rfl (lv_at hl 1 rfl) ?_
    refine va_iald hx hb hK hP 1 0 (f := tm0) rfl rfl (by unfold vp_in; decide) dX12_wrongPlace_16 ?_
    refine lv_ci (y := (-1)) (by decide) ?_
    refine lv_iconst (v := (-1)) hx hb dX12_wrongPlace_17 (by decide) ?_
    refine lv_icmp_ne (tgt := 25) hx hb dX12_wrongPlace_18 (by decide) (fun h => absurd (by decide) h) (fun _ => ?_)
    refine lv_iconst (v := 2) hx hb dX12_wrongPlace_21 (by decide) ?_
    refine lv_goto (tgt := 44) hx hb dX12_wrongPlace_22 (by decide) ?_
    have hP9 := hP.sub (ws' := [(ma 0, .inr (11, [.ref (ma 1), .ref (ma 2), .int 0, .long 0, .long 1, .ref (ma 3), .ref (ma 4), .ref (ma 5), .ref (ma 6), .ref (ma 7), .int 0, .int 0, .int 0, .int 0, .int 0, .int 0, .int (-1), .int (-1), .int 0, .int 0, .int 0, .ref (ma 8), .int 0, .int 0, .int (-1), .int 0, .int 0, .int 0, .ref (ma 9), .int 0, .int 0, .ref (ma 10), .ref (ma 11), .ref (ma 12), .int 0, .int 0])), (ma 4, .inl (kc 0, 4, .inl tm0))]) [0, 1] rfl
    have hD9 := hD.sub (ws' := [(ma 0, .inr (11, [.ref (ma 1), .ref (ma 2), .int 0, .long 0, .long 1, .ref (ma 3), .ref (ma 4), .ref (ma 5), .ref (ma 6), .ref (ma 7), .int 0, .int 0, .int 0, .int 0, .int 0, .int 0, .int (-1), .int (-1), .int 0, .int 0, .int 0, .ref (ma 8), .int 0, .int 0, .int (-1), .int 0, .int 0, .int 0, .ref (ma 9), .int 0, .int 0, .ref (ma 10), .ref (ma 11), .ref (ma 12), .int 0, .int 0])), (ma 4, .inl (kc 0, 4, .inl tm0))]) [0, 1] (by decide) rfl
    exact W.iret (v := 2) hx hb hr (fun t9 ht hW => ⟨⟨2, (), rfl, by first | exact (if_pos h_t).symm | decide, ⟨by rw [ht]; exact hP9, hD9⟩⟩, hS.F ht⟩) hS.2.2 dX12_wrongPlace_44
theorem dX12_isFrom_0 : decode cX12_isFrom 0 = .ok (.lload_n 0, 1) := by decide +kernel
theorem dX12_isFrom_1 : decode cX12_isFrom 1 = .ok (.lload_n 2, 1) := by decide +kernel
theorem dX12_isFrom_2 : decode cX12_isFrom 2 = .ok (.lcmp, 1) := by decide +kernel
theorem dX12_isFrom_3 : decode cX12_isFrom 3 = .ok (.ifCond .lt 14, 3) := by decide +kernel
theorem dX12_isFrom_17 : decode cX12_isFrom 17 = .ok (.iconst 0, 1) := by decide +kernel
theorem dX12_isFrom_18 : decode cX12_isFrom 18 = .ok (.ireturn, 1) := by decide +kernel
theorem dX12_isFrom_6 : decode cX12_isFrom 6 = .ok (.lload_n 0, 1) := by decide +kernel
theorem dX12_isFrom_7 : decode cX12_isFrom 7 = .ok (.lload 4, 2) := by decide +kernel
theorem dX12_isFrom_9 : decode cX12_isFrom 9 = .ok (.lcmp, 1) := by decide +kernel
theorem dX12_isFrom_10 : decode cX12_isFrom 10 = .ok (.ifCond .gt 7, 3) := by decide +kernel
theorem dX12_isFrom_13 : decode cX12_isFrom 13 = .ok (.iconst 1, 1) := by decide +kernel
theorem dX12_isFrom_14 : decode cX12_isFrom 14 = .ok (.goto 4, 3) := by decide +kernel
def vdm_isFrom : List Cond := [.code yX12_isFrom cX12_isFrom 6 (some .boolean)]
def vm_isFrom : List Cond := vdm_isFrom ++ ([] : List Cond)
set_option maxHeartbeats 4000000 in
set_option maxRecDepth 100000 in
theorem m_isFrom (l : Launch) (D : va_G) (kc : Nat → ClassId) (sz : Nat) (v : Int64) (a : Int64) (b : Int64) : Met l yX12_isFrom vm_isFrom ({ frames := 0, cells := 0, slots := 0, locals := 0 }) (va_Pc [.long v, .long a, .long b] (wPre D kc [] sz)) (va_Qi (fun (r : Int32) (_ : Unit) => r = (bL v a b)) (wPost D [] (va_A [] sz)) (va_A [] sz)) 0 0 (va_A [] sz) := by
  refine Met.ofW (cc := cX12_isFrom) (maxL := 6) (ret := (some .boolean)) (by decide) rfl ?_
  intro p e s m args below meth c s₁ B hml hv
  obtain ⟨rfl, hsz, hP, hE, hD0⟩ := hv
  have hx := B.exec
  have hb := B.bytes
  have hr := B.returns
  have hts := atoms_spec (ws := vm_isFrom) B.pre
  have hown : s.vm.findClass RX12 = some m.cls := findClass_of_methodNamed B.named
  have hlocks := B.notSynchronized
  subst hsz
  have hD := hD0.self (sz := s.heap.size)
  generalize hAe : va_A [] s.heap.size = A at hD ⊢
  have hA : ∀ q : Nat, s.heap.size ≤ q → A q := fun q h => by rw [← hAe]; exact Or.inr h
  have hS : va_S A s.heap s.heap [] := va_S.rf
  have hK := hE.1
  have hP : va_P D vwCl [] s.heap := hP
  have hl := lv_entry ([.long v, .long a, .long b]) (n := 6) (Nat.le_of_ble_eq_true rfl)
  rw [lg_entry_eq]
  generalize (lg_sl ([.long v, .long a, .long b]) ++ List.replicate (6 - (lg_sl ([.long v, .long a, .long b])).length) Slot.unset).toArray = ls at hl ⊢
  have hl : lv_has ls 6 [(0, .long v), (2, .long a), (4, .long b)] := hl
  refine lv_lload_n hx hb dX12_isFrom_0 rfl (lv_at hl 0 rfl) ?_
  refine lv_lload_n hx hb dX12_isFrom_1 rfl (lv_at hl 1 rfl) ?_
  refine W.lcmp hx hb dX12_isFrom_2 ?_
  refine lv_if_lt (tgt := 17) hx hb dX12_isFrom_3 (by decide) (fun c_3 => ?_) (fun c_3 => ?_)
  · refine lv_iconst (v := 0) hx hb dX12_isFrom_17 (by decide) ?_
    have hP9 := hP.sub (ws' := []) [] rfl
    have hD9 := hD.sub (ws' := []) [] (by decide) rfl
    exact W.zret (v := 0) hx hb hr rfl (fun t9 ht hW => ⟨⟨0, (), rfl, by first | exact (if_pos c_3).symm | exact (bL_2 c_3 c_10).symm | exact (bL_3 c_3 c_10).symm, ⟨by rw [ht]; exact hP9, hD9⟩⟩, hS.F ht⟩) hS.2.2 dX12_isFrom_18
  · refine lv_lload_n hx hb dX12_isFrom_6 rfl (lv_at hl 0 rfl) ?_
    refine lv_lload hx hb dX12_isFrom_7 (lv_at hl 2 rfl) ?_
    refine W.lcmp hx hb dX12_isFrom_9 ?_
    refine lv_if_gt (tgt := 17) hx hb dX12_isFrom_10 (by decide) (fun c_10 => ?_) (fun c_10 => ?_)
    · refine lv_iconst (v := 0) hx hb dX12_isFrom_17 (by decide) ?_
      have hP9 := hP.sub (ws' := []) [] rfl
      have hD9 := hD.sub (ws' := []) [] (by decide) rfl
      exact W.zret (v := 0) hx hb hr rfl (fun t9 ht hW => ⟨⟨0, (), rfl, by first | exact (if_pos c_3).symm | exact (bL_2 c_3 c_10).symm | exact (bL_3 c_3 c_10).symm, ⟨by rw [ht]; exact hP9, hD9⟩⟩, hS.F ht⟩) hS.2.2 dX12_isFrom_18
    · refine lv_iconst (v := 1) hx hb dX12_isFrom_13 (by decide) ?_
      refine lv_goto (tgt := 18) hx hb dX12_isFrom_14 (by decide) ?_
      have hP9 := hP.sub (ws' := []) [] rfl
      have hD9 := hD.sub (ws' := []) [] (by decide) rfl
      exact W.zret (v := 1) hx hb hr rfl (fun t9 ht hW => ⟨⟨1, (), rfl, by first | exact (if_pos c_3).symm | exact (bL_2 c_3 c_10).symm | exact (bL_3 c_3 c_10).symm, ⟨by rw [ht]; exact hP9, hD9⟩⟩, hS.F ht⟩) hS.2.2 dX12_isFrom_18
theorem dX12_isHouse_0 : decode cX12_isHouse 0 = .ok (.iload_n 1, 1) := by decide +kernel
theorem dX12_isHouse_1 : decode cX12_isHouse 1 = .ok (.ifCond .lt 17, 3) := by decide +kernel
theorem dX12_isHouse_18 : decode cX12_isHouse 18 = .ok (.iconst 0, 1) := by decide +kernel
theorem dX12_isHouse_19 : decode cX12_isHouse 19 = .ok (.ireturn, 1) := by decide +kernel
theorem dX12_isHouse_4 : decode cX12_isHouse 4 = .ok (.iload_n 1, 1) := by decide +kernel
theorem dX12_isHouse_5 : decode cX12_isHouse 5 = .ok (.aload_n 0, 1) := by decide +kernel
theorem dX12_isHouse_6 : decode cX12_isHouse 6 = .ok (.getfield 7, 3) := by decide +kernel
theorem dX12_isHouse_9 : decode cX12_isHouse 9 = .ok (.iconst 0, 1) := by decide +kernel
theorem dX12_isHouse_10 : decode cX12_isHouse 10 = .ok (.iaload, 1) := by decide +kernel
theorem dX12_isHouse_11 : decode cX12_isHouse 11 = .ok (.if_icmp .ge 7, 3) := by decide +kernel
def vdm_isHouse : List Cond := [.code yX12_isHouse cX12_isHouse 2 (some .boolean), .fieldLink RX12 7 "SaltStreetModel" "at" "[I"]
def vm_isHouse : List Cond := vdm_isHouse ++ (wsX120 ++ ([] : List Cond))
theorem im_isHouse_X12 : ∀ w ∈ wsX120, w ∈ vm_isHouse := fun _ h => List.mem_append_right _ (List.mem_append_left _ h)
set_option maxHeartbeats 4000000 in
set_option maxRecDepth 100000 in
theorem m_isHouse (l : Launch) (D : va_G) (kc : Nat → ClassId) (sz : Nat) (ma : Nat → Nat) (h : Int32) : Met l yX12_isHouse vm_isHouse ({ frames := 0, cells := 0, slots := 0, locals := 0 }) (va_Pc [.ref (ma 0), .int h] (wPre D kc [(ma 0, .inr (11, [.ref (ma 1), .ref (ma 2), .int 0, .long 0, .long 1, .ref (ma 3), .ref (ma 4), .ref (ma 5), .ref (ma 6), .ref (ma 7), .int 0, .int 0, .int 0, .int 0, .int 0, .int 0, .int (-1), .int (-1), .int 0, .int 0, .int 0, .ref (ma 8), .int 0, .int 0, .int (-1), .int 0, .int 0, .int 0, .ref (ma 9), .int 0, .int 0, .ref (ma 10), .ref (ma 11), .ref (ma 12), .int 0, .int 0])), (ma 1, .inl (kc 0, 2880, .inl at0))] sz)) (va_Qi (fun (r : Int32) (_ : Unit) => r = 0) (wPost D [(ma 0, .inr (11, [.ref (ma 1), .ref (ma 2), .int 0, .long 0, .long 1, .ref (ma 3), .ref (ma 4), .ref (ma 5), .ref (ma 6), .ref (ma 7), .int 0, .int 0, .int 0, .int 0, .int 0, .int 0, .int (-1), .int (-1), .int 0, .int 0, .int 0, .ref (ma 8), .int 0, .int 0, .int (-1), .int 0, .int 0, .int 0, .ref (ma 9), .int 0, .int 0, .ref (ma 10), .ref (ma 11), .ref (ma 12), .int 0, .int 0])), (ma 1, .inl (kc 0, 2880, .inl at0))] (va_A [(ma 0, .inr (11, [.ref (ma 1), .ref (ma 2), .int 0, .long 0, .long 1, .ref (ma 3), .ref (ma 4), .ref (ma 5), .ref (ma 6), .ref (ma 7), .int 0, .int 0, .int 0, .int 0, .int 0, .int 0, .int (-1), .int (-1), .int 0, .int 0, .int 0, .ref (ma 8), .int 0, .int 0, .int (-1), .int 0, .int 0, .int 0, .ref (ma 9), .int 0, .int 0, .ref (ma 10), .ref (ma 11), .ref (ma 12), .int 0, .int 0])), (ma 1, .inl (kc 0, 2880, .inl at0))] sz)) (va_A [(ma 0, .inr (11, [.ref (ma 1), .ref (ma 2), .int 0, .long 0, .long 1, .ref (ma 3), .ref (ma 4), .ref (ma 5), .ref (ma 6), .ref (ma 7), .int 0, .int 0, .int 0, .int 0, .int 0, .int 0, .int (-1), .int (-1), .int 0, .int 0, .int 0, .ref (ma 8), .int 0, .int 0, .int (-1), .int 0, .int 0, .int 0, .ref (ma 9), .int 0, .int 0, .ref (ma 10), .ref (ma 11), .ref (ma 12), .int 0, .int 0])), (ma 1, .inl (kc 0, 2880, .inl at0))] sz)) 0 0 (va_A [(ma 0, .inr (11, [.ref (ma 1), .ref (ma 2), .int 0, .long 0, .long 1, .ref (ma 3), .ref (ma 4), .ref (ma 5), .ref (ma 6), .ref (ma 7), .int 0, .int 0, .int 0, .int 0, .int 0, .int 0, .int (-1), .int (-1), .int 0, .int 0, .int 0, .ref (ma 8), .int 0, .int 0, .int (-1), .int 0, .int 0, .int 0, .ref (ma 9), .int 0, .int 0, .ref (ma 10), .ref (ma 11), .ref (ma 12), .int 0, .int 0])), (ma 1, .inl (kc 0, 2880, .inl at0))] sz) := by
  refine Met.ofW (cc := cX12_isHouse) (maxL := 2) (ret := (some .boolean)) (by decide) rfl ?_
  intro p e s m args below meth c s₁ B hml hv
  obtain ⟨rfl, hsz, hP, hE, hD0⟩ := hv
  have hx := B.exec
  have hb := B.bytes
  have hr := B.returns
  have hts := atoms_spec (ws := vm_isHouse) B.pre
  have hown : s.vm.findClass RX12 = some m.cls := findClass_of_methodNamed B.named
  have hlocks := B.notSynchronized
  subst hsz
  have hD := hD0.self (sz := s.heap.size)
  generalize hAe : va_A [(ma 0, .inr (11, [.ref (ma 1), .ref (ma 2), .int 0, .long 0, .long 1, .ref (ma 3), .ref (ma 4), .ref (ma 5), .ref (ma 6), .ref (ma 7), .int 0, .int 0, .int 0, .int 0, .int 0, .int 0, .int (-1), .int (-1), .int 0, .int 0, .int 0, .ref (ma 8), .int 0, .int 0, .int (-1), .int 0, .int 0, .int 0, .ref (ma 9), .int 0, .int 0, .ref (ma 10), .ref (ma 11), .ref (ma 12), .int 0, .int 0])), (ma 1, .inl (kc 0, 2880, .inl at0))] s.heap.size = A at hD ⊢
  have hA : ∀ q : Nat, s.heap.size ≤ q → A q := fun q h => by rw [← hAe]; exact Or.inr h
  have hS : va_S A s.heap s.heap [] := va_S.rf
  have hK := hE.1
  have hP : va_P D vwCl [(ma 0, .inr (11, [.ref (ma 1), .ref (ma 2), .int 0, .long 0, .long 1, .ref (ma 3), .ref (ma 4), .ref (ma 5), .ref (ma 6), .ref (ma 7), .int 0, .int 0, .int 0, .int 0, .int 0, .int 0, .int (-1), .int (-1), .int 0, .int 0, .int 0, .ref (ma 8), .int 0, .int 0, .int (-1), .int 0, .int 0, .int 0, .ref (ma 9), .int 0, .int 0, .ref (ma 10), .ref (ma 11), .ref (ma 12), .int 0, .int 0])), (ma 1, .inl (kc 0, 2880, .inl at0))] s.heap := hP
  have hl := lv_entry ([.ref (ma 0), .int h]) (n := 2) (Nat.le_of_ble_eq_true rfl)
  rw [lg_entry_eq]
  generalize (lg_sl ([.ref (ma 0), .int h]) ++ List.replicate (2 - (lg_sl ([.ref (ma 0), .int h])).length) Slot.unset).toArray = ls at hl ⊢
  have hl : lv_has ls 2 [(0, .ref (ma 0)), (1, .int h)] := hl
  refine lv_iload_n hx hb dX12_isHouse_0 rfl (lv_at hl 1 rfl) ?_
  refine lv_if_lt (tgt := 18) hx hb dX12_isHouse_1 (by decide) (fun c_1 => ?_) (fun c_1 => ?_)
  · refine lv_iconst (v := 0) hx hb dX12_isHouse_18 (by decide) ?_
    have hP9 := hP.sub (ws' := [(ma 0, .inr (11, [.ref (ma 1), .ref (ma 2), .int 0, .long 0, .long 1, .ref (ma 3), .ref (ma 4), .ref (ma 5), .ref (ma 6), .ref (ma 7), .int 0, .int 0, .int 0, .int 0, .int 0, .int 0, .int (-1), .int (-1), .int 0, .int 0, .int 0, .ref (ma 8), .int 0, .int 0, .int (-1), .int 0, .int 0, .int 0, .ref (ma 9), .int 0, .int 0, .ref (ma 10), .ref (ma 11), .ref (ma 12), .int 0, .int 0])), (ma 1, .inl (kc 0, 2880, .inl at0))]) [0, 1] rfl
    have hD9 := hD.sub (ws' := [(ma 0, .inr (11, [.ref (ma 1), .ref (ma 2), .int 0, .long 0, .long 1, .ref (ma 3), .ref (ma 4), .ref (ma 5), .ref (ma 6), .ref (ma 7), .int 0, .int 0, .int 0, .int 0, .int 0, .int 0, .int (-1), .int (-1), .int 0, .int 0, .int 0, .ref (ma 8), .int 0, .int 0, .int (-1), .int 0, .int 0, .int 0, .ref (ma 9), .int 0, .int 0, .ref (ma 10), .ref (ma 11), .ref (ma 12), .int 0, .int 0])), (ma 1, .inl (kc 0, 2880, .inl at0))]) [0, 1] (by decide) rfl
    exact W.zret (v := 0) hx hb hr rfl (fun t9 ht hW => ⟨⟨0, (), rfl, rfl, ⟨by rw [ht]; exact hP9, hD9⟩⟩, hS.F ht⟩) hS.2.2 dX12_isHouse_19
  · refine lv_iload_n hx hb dX12_isHouse_4 rfl (lv_at hl 1 rfl) ?_
    refine lv_aload_n hx hb dX12_isHouse_5 rfl (lv_at hl 0 rfl) ?_
    refine va_get (D := D) (ci := 11) (v := .ref (ma 1)) (C := RX12) (T := TX12) (N := 36) hx hb hts im_isHouse_X12 hown hK hP 0 rfl rfl 0 (by decide) (hts (.fieldLink RX12 7 "SaltStreetModel" "at" "[I") (List.mem_of_getElem? (i := 1) rfl)) (fun _ h9 => h9) rfl dX12_isHouse_6 ?_
    refine lv_iconst (v := 0) hx hb dX12_isHouse_9 (by decide) ?_
    refine va_iald hx hb hK hP 1 0 (f := at0) rfl rfl (by unfold vp_in; decide) dX12_isHouse_10 ?_
    refine lv_ci (y := 0) (by decide) ?_
    refine lv_icmp_ge (tgt := 18) hx hb dX12_isHouse_11 (by decide) (fun _ => ?_) (fun h => absurd (nlt_le c_1) h)
    refine lv_iconst (v := 0) hx hb dX12_isHouse_18 (by decide) ?_
    have hP9 := hP.sub (ws' := [(ma 0, .inr (11, [.ref (ma 1), .ref (ma 2), .int 0, .long 0, .long 1, .ref (ma 3), .ref (ma 4), .ref (ma 5), .ref (ma 6), .ref (ma 7), .int 0, .int 0, .int 0, .int 0, .int 0, .int 0, .int (-1), .int (-1), .int 0, .int 0, .int 0, .ref (ma 8), .int 0, .int 0, .int (-1), .int 0, .int 0, .int 0, .ref (ma 9), .int 0, .int 0, .ref (ma 10), .ref (ma 11), .ref (ma 12), .int 0, .int 0])), (ma 1, .inl (kc 0, 2880, .inl at0))]) [0, 1] rfl
    have hD9 := hD.sub (ws' := [(ma 0, .inr (11, [.ref (ma 1), .ref (ma 2), .int 0, .long 0, .long 1, .ref (ma 3), .ref (ma 4), .ref (ma 5), .ref (ma 6), .ref (ma 7), .int 0, .int 0, .int 0, .int 0, .int 0, .int 0, .int (-1), .int (-1), .int 0, .int 0, .int 0, .ref (ma 8), .int 0, .int 0, .int (-1), .int 0, .int 0, .int 0, .ref (ma 9), .int 0, .int 0, .ref (ma 10), .ref (ma 11), .ref (ma 12), .int 0, .int 0])), (ma 1, .inl (kc 0, 2880, .inl at0))]) [0, 1] (by decide) rfl
    exact W.zret (v := 0) hx hb hr rfl (fun t9 ht hW => ⟨⟨0, (), rfl, rfl, ⟨by rw [ht]; exact hP9, hD9⟩⟩, hS.F ht⟩) hS.2.2 dX12_isHouse_19
theorem dX12_isQuarrel_0 : decode cX12_isQuarrel 0 = .ok (.iload_n 1, 1) := by decide +kernel
theorem dX12_isQuarrel_1 : decode cX12_isQuarrel 1 = .ok (.ifCond .lt 17, 3) := by decide +kernel
theorem dX12_isQuarrel_18 : decode cX12_isQuarrel 18 = .ok (.iconst 0, 1) := by decide +kernel
theorem dX12_isQuarrel_19 : decode cX12_isQuarrel 19 = .ok (.ireturn, 1) := by decide +kernel
theorem dX12_isQuarrel_4 : decode cX12_isQuarrel 4 = .ok (.iload_n 1, 1) := by decide +kernel
theorem dX12_isQuarrel_5 : decode cX12_isQuarrel 5 = .ok (.aload_n 0, 1) := by decide +kernel
theorem dX12_isQuarrel_6 : decode cX12_isQuarrel 6 = .ok (.getfield 7, 3) := by decide +kernel
theorem dX12_isQuarrel_9 : decode cX12_isQuarrel 9 = .ok (.iconst 1, 1) := by decide +kernel
theorem dX12_isQuarrel_10 : decode cX12_isQuarrel 10 = .ok (.iaload, 1) := by decide +kernel
theorem dX12_isQuarrel_11 : decode cX12_isQuarrel 11 = .ok (.if_icmp .ge 7, 3) := by decide +kernel
def vdm_isQuarrel : List Cond := [.code yX12_isQuarrel cX12_isQuarrel 2 (some .boolean), .fieldLink RX12 7 "SaltStreetModel" "at" "[I"]
def vm_isQuarrel : List Cond := vdm_isQuarrel ++ (wsX120 ++ ([] : List Cond))
theorem im_isQuarrel_X12 : ∀ w ∈ wsX120, w ∈ vm_isQuarrel := fun _ h => List.mem_append_right _ (List.mem_append_left _ h)
set_option maxHeartbeats 4000000 in
set_option maxRecDepth 100000 in
theorem m_isQuarrel (l : Launch) (D : va_G) (kc : Nat → ClassId) (sz : Nat) (ma : Nat → Nat) (h : Int32) : Met l yX12_isQuarrel vm_isQuarrel ({ frames := 0, cells := 0, slots := 0, locals := 0 }) (va_Pc [.ref (ma 0), .int h] (wPre D kc [(ma 0, .inr (11, [.ref (ma 1), .ref (ma 2), .int 0, .long 0, .long 1, .ref (ma 3), .ref (ma 4), .ref (ma 5), .ref (ma 6), .ref (ma 7), .int 0, .int 0, .int 0, .int 0, .int 0, .int 0, .int (-1), .int (-1), .int 0, .int 0, .int 0, .ref (ma 8), .int 0, .int 0, .int (-1), .int 0, .int 0, .int 0, .ref (ma 9), .int 0, .int 0, .ref (ma 10), .ref (ma 11), .ref (ma 12), .int 0, .int 0])), (ma 1, .inl (kc 0, 2880, .inl at0))] sz)) (va_Qi (fun (r : Int32) (_ : Unit) => r = 0) (wPost D [(ma 0, .inr (11, [.ref (ma 1), .ref (ma 2), .int 0, .long 0, .long 1, .ref (ma 3), .ref (ma 4), .ref (ma 5), .ref (ma 6), .ref (ma 7), .int 0, .int 0, .int 0, .int 0, .int 0, .int 0, .int (-1), .int (-1), .int 0, .int 0, .int 0, .ref (ma 8), .int 0, .int 0, .int (-1), .int 0, .int 0, .int 0, .ref (ma 9), .int 0, .int 0, .ref (ma 10), .ref (ma 11), .ref (ma 12), .int 0, .int 0])), (ma 1, .inl (kc 0, 2880, .inl at0))] (va_A [(ma 0, .inr (11, [.ref (ma 1), .ref (ma 2), .int 0, .long 0, .long 1, .ref (ma 3), .ref (ma 4), .ref (ma 5), .ref (ma 6), .ref (ma 7), .int 0, .int 0, .int 0, .int 0, .int 0, .int 0, .int (-1), .int (-1), .int 0, .int 0, .int 0, .ref (ma 8), .int 0, .int 0, .int (-1), .int 0, .int 0, .int 0, .ref (ma 9), .int 0, .int 0, .ref (ma 10), .ref (ma 11), .ref (ma 12), .int 0, .int 0])), (ma 1, .inl (kc 0, 2880, .inl at0))] sz)) (va_A [(ma 0, .inr (11, [.ref (ma 1), .ref (ma 2), .int 0, .long 0, .long 1, .ref (ma 3), .ref (ma 4), .ref (ma 5), .ref (ma 6), .ref (ma 7), .int 0, .int 0, .int 0, .int 0, .int 0, .int 0, .int (-1), .int (-1), .int 0, .int 0, .int 0, .ref (ma 8), .int 0, .int 0, .int (-1), .int 0, .int 0, .int 0, .ref (ma 9), .int 0, .int 0, .ref (ma 10), .ref (ma 11), .ref (ma 12), .int 0, .int 0])), (ma 1, .inl (kc 0, 2880, .inl at0))] sz)) 0 0 (va_A [(ma 0, .inr (11, [.ref (ma 1), .ref (ma 2), .int 0, .long 0, .long 1, .ref (ma 3), .ref (ma 4), .ref (ma 5), .ref (ma 6), .ref (ma 7), .int 0, .int 0, .int 0, .int 0, .int 0, .int 0, .int (-1), .int (-1), .int 0, .int 0, .int 0, .ref (ma 8), .int 0, .int 0, .int (-1), .int 0, .int 0, .int 0, .ref (ma 9), .int 0, .int 0, .ref (ma 10), .ref (ma 11), .ref (ma 12), .int 0, .int 0])), (ma 1, .inl (kc 0, 2880, .inl at0))] sz) := by
  refine Met.ofW (cc := cX12_isQuarrel) (maxL := 2) (ret := (some .boolean)) (by decide) rfl ?_
  intro p e s m args below meth c s₁ B hml hv
  obtain ⟨rfl, hsz, hP, hE, hD0⟩ := hv
  have hx := B.exec
  have hb := B.bytes
  have hr := B.returns
  have hts := atoms_spec (ws := vm_isQuarrel) B.pre
  have hown : s.vm.findClass RX12 = some m.cls := findClass_of_methodNamed B.named
  have hlocks := B.notSynchronized
  subst hsz
  have hD := hD0.self (sz := s.heap.size)
  generalize hAe : va_A [(ma 0, .inr (11, [.ref (ma 1), .ref (ma 2), .int 0, .long 0, .long 1, .ref (ma 3), .ref (ma 4), .ref (ma 5), .ref (ma 6), .ref (ma 7), .int 0, .int 0, .int 0, .int 0, .int 0, .int 0, .int (-1), .int (-1), .int 0, .int 0, .int 0, .ref (ma 8), .int 0, .int 0, .int (-1), .int 0, .int 0, .int 0, .ref (ma 9), .int 0, .int 0, .ref (ma 10), .ref (ma 11), .ref (ma 12), .int 0, .int 0])), (ma 1, .inl (kc 0, 2880, .inl at0))] s.heap.size = A at hD ⊢
  have hA : ∀ q : Nat, s.heap.size ≤ q → A q := fun q h => by rw [← hAe]; exact Or.inr h
  have hS : va_S A s.heap s.heap [] := va_S.rf
  have hK := hE.1
  have hP : va_P D vwCl [(ma 0, .inr (11, [.ref (ma 1), .ref (ma 2), .int 0, .long 0, .long 1, .ref (ma 3), .ref (ma 4), .ref (ma 5), .ref (ma 6), .ref (ma 7), .int 0, .int 0, .int 0, .int 0, .int 0, .int 0, .int (-1), .int (-1), .int 0, .int 0, .int 0, .ref (ma 8), .int 0, .int 0, .int (-1), .int 0, .int 0, .int 0, .ref (ma 9), .int 0, .int 0, .ref (ma 10), .ref (ma 11), .ref (ma 12), .int 0, .int 0])), (ma 1, .inl (kc 0, 2880, .inl at0))] s.heap := hP
  have hl := lv_entry ([.ref (ma 0), .int h]) (n := 2) (Nat.le_of_ble_eq_true rfl)
  rw [lg_entry_eq]
  generalize (lg_sl ([.ref (ma 0), .int h]) ++ List.replicate (2 - (lg_sl ([.ref (ma 0), .int h])).length) Slot.unset).toArray = ls at hl ⊢
  have hl : lv_has ls 2 [(0, .ref (ma 0)), (1, .int h)] := hl
  refine lv_iload_n hx hb dX12_isQuarrel_0 rfl (lv_at hl 1 rfl) ?_
  refine lv_if_lt (tgt := 18) hx hb dX12_isQuarrel_1 (by decide) (fun c_1 => ?_) (fun c_1 => ?_)
  · refine lv_iconst (v := 0) hx hb dX12_isQuarrel_18 (by decide) ?_
    have hP9 := hP.sub (ws' := [(ma 0, .inr (11, [.ref (ma 1), .ref (ma 2), .int 0, .long 0, .long 1, .ref (ma 3), .ref (ma 4), .ref (ma 5), .ref (ma 6), .ref (ma 7), .int 0, .int 0, .int 0, .int 0, .int 0, .int 0, .int (-1), .int (-1), .int 0, .int 0, .int 0, .ref (ma 8), .int 0, .int 0, .int (-1), .int 0, .int 0, .int 0, .ref (ma 9), .int 0, .int 0, .ref (ma 10), .ref (ma 11), .ref (ma 12), .int 0, .int 0])), (ma 1, .inl (kc 0, 2880, .inl at0))]) [0, 1] rfl
    have hD9 := hD.sub (ws' := [(ma 0, .inr (11, [.ref (ma 1), .ref (ma 2), .int 0, .long 0, .long 1, .ref (ma 3), .ref (ma 4), .ref (ma 5), .ref (ma 6), .ref (ma 7), .int 0, .int 0, .int 0, .int 0, .int 0, .int 0, .int (-1), .int (-1), .int 0, .int 0, .int 0, .ref (ma 8), .int 0, .int 0, .int (-1), .int 0, .int 0, .int 0, .ref (ma 9), .int 0, .int 0, .ref (ma 10), .ref (ma 11), .ref (ma 12), .int 0, .int 0])), (ma 1, .inl (kc 0, 2880, .inl at0))]) [0, 1] (by decide) rfl
    exact W.zret (v := 0) hx hb hr rfl (fun t9 ht hW => ⟨⟨0, (), rfl, rfl, ⟨by rw [ht]; exact hP9, hD9⟩⟩, hS.F ht⟩) hS.2.2 dX12_isQuarrel_19
  · refine lv_iload_n hx hb dX12_isQuarrel_4 rfl (lv_at hl 1 rfl) ?_
    refine lv_aload_n hx hb dX12_isQuarrel_5 rfl (lv_at hl 0 rfl) ?_
    refine va_get (D := D) (ci := 11) (v := .ref (ma 1)) (C := RX12) (T := TX12) (N := 36) hx hb hts im_isQuarrel_X12 hown hK hP 0 rfl rfl 0 (by decide) (hts (.fieldLink RX12 7 "SaltStreetModel" "at" "[I") (List.mem_of_getElem? (i := 1) rfl)) (fun _ h9 => h9) rfl dX12_isQuarrel_6 ?_
    refine lv_iconst (v := 1) hx hb dX12_isQuarrel_9 (by decide) ?_
    refine va_iald hx hb hK hP 1 0 (f := at0) rfl rfl (by unfold vp_in; decide) dX12_isQuarrel_10 ?_
    refine lv_ci (y := 0) (by decide) ?_
    refine lv_icmp_ge (tgt := 18) hx hb dX12_isQuarrel_11 (by decide) (fun _ => ?_) (fun h => absurd (nlt_le c_1) h)
    refine lv_iconst (v := 0) hx hb dX12_isQuarrel_18 (by decide) ?_
    have hP9 := hP.sub (ws' := [(ma 0, .inr (11, [.ref (ma 1), .ref (ma 2), .int 0, .long 0, .long 1, .ref (ma 3), .ref (ma 4), .ref (ma 5), .ref (ma 6), .ref (ma 7), .int 0, .int 0, .int 0, .int 0, .int 0, .int 0, .int (-1), .int (-1), .int 0, .int 0, .int 0, .ref (ma 8), .int 0, .int 0, .int (-1), .int 0, .int 0, .int 0, .ref (ma 9), .int 0, .int 0, .ref (ma 10), .ref (ma 11), .ref (ma 12), .int 0, .int 0])), (ma 1, .inl (kc 0, 2880, .inl at0))]) [0, 1] rfl
    have hD9 := hD.sub (ws' := [(ma 0, .inr (11, [.ref (ma 1), .ref (ma 2), .int 0, .long 0, .long 1, .ref (ma 3), .ref (ma 4), .ref (ma 5), .ref (ma 6), .ref (ma 7), .int 0, .int 0, .int 0, .int 0, .int 0, .int 0, .int (-1), .int (-1), .int 0, .int 0, .int 0, .ref (ma 8), .int 0, .int 0, .int (-1), .int 0, .int 0, .int 0, .ref (ma 9), .int 0, .int 0, .ref (ma 10), .ref (ma 11), .ref (ma 12), .int 0, .int 0])), (ma 1, .inl (kc 0, 2880, .inl at0))]) [0, 1] (by decide) rfl
    exact W.zret (v := 0) hx hb hr rfl (fun t9 ht hW => ⟨⟨0, (), rfl, rfl, ⟨by rw [ht]; exact hP9, hD9⟩⟩, hS.F ht⟩) hS.2.2 dX12_isQuarrel_19
theorem dX12_wrongStep_0 : decode cX12_wrongStep 0 = .ok (.aload_n 0, 1) := by decide +kernel
theorem dX12_wrongStep_1 : decode cX12_wrongStep 1 = .ok (.iload_n 1, 1) := by decide +kernel
theorem dX12_wrongStep_2 : decode cX12_wrongStep 2 = .ok (.invokevirtual 251, 3) := by decide +kernel
theorem dX12_wrongStep_5 : decode cX12_wrongStep 5 = .ok (.ifCond .ne 7, 3) := by decide +kernel
theorem dX12_wrongStep_8 : decode cX12_wrongStep 8 = .ok (.iconst 1, 1) := by decide +kernel
theorem dX12_wrongStep_9 : decode cX12_wrongStep 9 = .ok (.goto 17, 3) := by decide +kernel
theorem dX12_wrongStep_26 : decode cX12_wrongStep 26 = .ok (.ireturn, 1) := by decide +kernel
def vdm_wrongStep : List Cond := [.code yX12_wrongStep cX12_wrongStep 2 (some .int), .methodLink RX12 251 yX12_isHouse, .code yX12_isHouse cX12_isHouse 2 (some .boolean), .fieldLink RX12 7 "SaltStreetModel" "at" "[I", .instanceMethod yX12_isHouse, .selects RX12 yX12_isHouse yX12_isHouse, .initialized RX12]
def vm_wrongStep : List Cond := vdm_wrongStep ++ (wsX120 ++ ([] : List Cond))
theorem im_wrongStep_X12 : ∀ w ∈ wsX120, w ∈ vm_wrongStep := fun _ h => List.mem_append_right _ (List.mem_append_left _ h)
set_option maxRecDepth 20000 in
theorem gm_wrongStep_251_m_isHouse : GoodIn vm_wrongStep (wsV RX12 251 RX12 yX12_isHouse vm_isHouse) := (goodIn_app (goodIn_r _ [1, 4, 5, 6] rfl (by decide +kernel)) (goodIn_app (goodIn_r vdm_isHouse [2, 3] rfl (by decide +kernel)) (goodIn_app (goodIn_sub im_wrongStep_X12 gdX12) goodIn_nil)))
set_option maxHeartbeats 4000000 in
set_option maxRecDepth 100000 in
theorem m_wrongStep (l : Launch) (D : va_G) (kc : Nat → ClassId) (sz : Nat) (ma : Nat → Nat) (h : Int32) : Met l yX12_wrongStep vm_wrongStep ({ frames := 1, cells := 0, slots := 0, locals := 21 }) (va_Pc [.ref (ma 0), .int h] (wPre D kc [(ma 0, .inr (11, [.ref (ma 1), .ref (ma 2), .int 0, .long 0, .long 1, .ref (ma 3), .ref (ma 4), .ref (ma 5), .ref (ma 6), .ref (ma 7), .int 0, .int 0, .int 0, .int 0, .int 0, .int 0, .int (-1), .int (-1), .int 0, .int 0, .int 0, .ref (ma 8), .int 0, .int 0, .int (-1), .int 0, .int 0, .int 0, .ref (ma 9), .int 0, .int 0, .ref (ma 10), .ref (ma 11), .ref (ma 12), .int 0, .int 0])), (ma 1, .inl (kc 0, 2880, .inl at0))] sz)) (va_Qi (fun (r : Int32) (_ : Unit) => r = 1) (wPost D [(ma 0, .inr (11, [.ref (ma 1), .ref (ma 2), .int 0, .long 0, .long 1, .ref (ma 3), .ref (ma 4), .ref (ma 5), .ref (ma 6), .ref (ma 7), .int 0, .int 0, .int 0, .int 0, .int 0, .int 0, .int (-1), .int (-1), .int 0, .int 0, .int 0, .ref (ma 8), .int 0, .int 0, .int (-1), .int 0, .int 0, .int 0, .ref (ma 9), .int 0, .int 0, .ref (ma 10), .ref (ma 11), .ref (ma 12), .int 0, .int 0])), (ma 1, .inl (kc 0, 2880, .inl at0))] (va_A [(ma 0, .inr (11, [.ref (ma 1), .ref (ma 2), .int 0, .long 0, .long 1, .ref (ma 3), .ref (ma 4), .ref (ma 5), .ref (ma 6), .ref (ma 7), .int 0, .int 0, .int 0, .int 0, .int 0, .int 0, .int (-1), .int (-1), .int 0, .int 0, .int 0, .ref (ma 8), .int 0, .int 0, .int (-1), .int 0, .int 0, .int 0, .ref (ma 9), .int 0, .int 0, .ref (ma 10), .ref (ma 11), .ref (ma 12), .int 0, .int 0])), (ma 1, .inl (kc 0, 2880, .inl at0))] sz)) (va_A [(ma 0, .inr (11, [.ref (ma 1), .ref (ma 2), .int 0, .long 0, .long 1, .ref (ma 3), .ref (ma 4), .ref (ma 5), .ref (ma 6), .ref (ma 7), .int 0, .int 0, .int 0, .int 0, .int 0, .int 0, .int (-1), .int (-1), .int 0, .int 0, .int 0, .ref (ma 8), .int 0, .int 0, .int (-1), .int 0, .int 0, .int 0, .ref (ma 9), .int 0, .int 0, .ref (ma 10), .ref (ma 11), .ref (ma 12), .int 0, .int 0])), (ma 1, .inl (kc 0, 2880, .inl at0))] sz)) 0 0 (va_A [(ma 0, .inr (11, [.ref (ma 1), .ref (ma 2), .int 0, .long 0, .long 1, .ref (ma 3), .ref (ma 4), .ref (ma 5), .ref (ma 6), .ref (ma 7), .int 0, .int 0, .int 0, .int 0, .int 0, .int 0, .int (-1), .int (-1), .int 0, .int 0, .int 0, .ref (ma 8), .int 0, .int 0, .int (-1), .int 0, .int 0, .int 0, .ref (ma 9), .int 0, .int 0, .ref (ma 10), .ref (ma 11), .ref (ma 12), .int 0, .int 0])), (ma 1, .inl (kc 0, 2880, .inl at0))] sz) := by
  refine Met.ofW (cc := cX12_wrongStep) (maxL := 2) (ret := (some .int)) (by decide) rfl ?_
  intro p e s m args below meth c s₁ B hml hv
  obtain ⟨rfl, hsz, hP, hE, hD0⟩ := hv
  have hx := B.exec
  have hb := B.bytes
  have hr := B.returns
  have hts := atoms_spec (ws := vm_wrongStep) B.pre
  have hown : s.vm.findClass RX12 = some m.cls := findClass_of_methodNamed B.named
  have hlocks := B.notSynchronized
  subst hsz
  have hD := hD0.self (sz := s.heap.size)
  generalize hAe : va_A [(ma 0, .inr (11, [.ref (ma 1), .ref (ma 2), .int 0, .long 0, .long 1, .ref (ma 3), .ref (ma 4), .ref (ma 5), .ref (ma 6), .ref (ma 7), .int 0, .int 0, .int 0, .int 0, .int 0, .int 0, .int (-1), .int (-1), .int 0, .int 0, .int 0, .ref (ma 8), .int 0, .int 0, .int (-1), .int 0, .int 0, .int 0, .ref (ma 9), .int 0, .int 0, .ref (ma 10), .ref (ma 11), .ref (ma 12), .int 0, .int 0])), (ma 1, .inl (kc 0, 2880, .inl at0))] s.heap.size = A at hD ⊢
  have hA : ∀ q : Nat, s.heap.size ≤ q → A q := fun q h => by rw [← hAe]; exact Or.inr h
  have hS : va_S A s.heap s.heap [] := va_S.rf
  have hK := hE.1
  have hP : va_P D vwCl [(ma 0, .inr (11, [.ref (ma 1), .ref (ma 2), .int 0, .long 0, .long 1, .ref (ma 3), .ref (ma 4), .ref (ma 5), .ref (ma 6), .ref (ma 7), .int 0, .int 0, .int 0, .int 0, .int 0, .int 0, .int (-1), .int (-1), .int 0, .int 0, .int 0, .ref (ma 8), .int 0, .int 0, .int (-1), .int 0, .int 0, .int 0, .ref (ma 9), .int 0, .int 0, .ref (ma 10), .ref (ma 11), .ref (ma 12), .int 0, .int 0])), (ma 1, .inl (kc 0, 2880, .inl at0))] s.heap := hP
  have hl := lv_entry ([.ref (ma 0), .int h]) (n := 2) (Nat.le_of_ble_eq_true rfl)
  rw [lg_entry_eq]
  generalize (lg_sl ([.ref (ma 0), .int h]) ++ List.replicate (2 - (lg_sl ([.ref (ma 0), .int h])).length) Slot.unset).toArray = ls at hl ⊢
  have hl : lv_has ls 2 [(0, .ref (ma 0)), (1, .int h)] := hl
  refine lv_aload_n hx hb dX12_wrongStep_0 rfl (lv_at hl 0 rfl) ?_
  refine lv_iload_n hx hb dX12_wrongStep_1 rfl (lv_at hl 1 rfl) ?_
  have hPc := hP.sub (ws' := [(ma 0, .inr (11, [.ref (ma 1), .ref (ma 2), .int 0, .long 0, .long 1, .ref (ma 3), .ref (ma 4), .ref (ma 5), .ref (ma 6), .ref (ma 7), .int 0, .int 0, .int 0, .int 0, .int 0, .int 0, .int (-1), .int (-1), .int 0, .int 0, .int 0, .ref (ma 8), .int 0, .int 0, .int (-1), .int 0, .int 0, .int 0, .ref (ma 9), .int 0, .int 0, .ref (ma 10), .ref (ma 11), .ref (ma 12), .int 0, .int 0])), (ma 1, .inl (kc 0, 2880, .inl at0))]) [0, 1] rfl
  have hDc := hD.sub (ws' := [(ma 0, .inr (11, [.ref (ma 1), .ref (ma 2), .int 0, .long 0, .long 1, .ref (ma 3), .ref (ma 4), .ref (ma 5), .ref (ma 6), .ref (ma 7), .int 0, .int 0, .int 0, .int 0, .int 0, .int 0, .int (-1), .int (-1), .int 0, .int 0, .int 0, .ref (ma 8), .int 0, .int 0, .int (-1), .int 0, .int 0, .int 0, .ref (ma 9), .int 0, .int 0, .ref (ma 10), .ref (ma 11), .ref (ma 12), .int 0, .int 0])), (ma 1, .inl (kc 0, 2880, .inl at0))]) [0, 1] (by decide) rfl
  have hFc := va_free (wc := [(ma 0, .inr (11, [.ref (ma 1), .ref (ma 2), .int 0, .long 0, .long 1, .ref (ma 3), .ref (ma 4), .ref (ma 5), .ref (ma 6), .ref (ma 7), .int 0, .int 0, .int 0, .int 0, .int 0, .int 0, .int (-1), .int (-1), .int 0, .int 0, .int 0, .ref (ma 8), .int 0, .int 0, .int (-1), .int 0, .int 0, .int 0, .ref (ma 9), .int 0, .int 0, .ref (ma 10), .ref (ma 11), .ref (ma 12), .int 0, .int 0])), (ma 1, .inl (kc 0, 2880, .inl at0))]) hD hS hA [0, 1] rfl
  refine va_calli (va_runV (As := [.int h]) (rest := []) ⟨hx, hb, hml, hown, hts⟩ (m_isHouse l D kc s.heap.size ma h) (cwV 1 hts gm_wrongStep_251_m_isHouse rfl rfl rfl (by decide +kernel) ⟨Nat.le_of_ble_eq_true rfl, Nat.le_of_ble_eq_true rfl⟩) (preV_ok hPc hDc hE (ci := 11) (q0 := 0) rfl rfl) rfl rfl hl.1 rfl (lv_room (Nat.le_of_ble_eq_true rfl)) dX12_wrongStep_2 ⟨Nat.le_of_ble_eq_true rfl, Nat.le_of_ble_eq_true rfl⟩) hS (fun q _ h => hFc q h) hFc (fun r_2 u9 t9 H locs ht hvm hw hB hz1 hk1 hS => ?_)
  obtain ⟨hP1, hD1⟩ := hB
  rw [ht] at hP1
  obtain ⟨hP, hD⟩ := va_join (wr := []) (w1 := [(ma 0, .inr (11, [.ref (ma 1), .ref (ma 2), .int 0, .long 0, .long 1, .ref (ma 3), .ref (ma 4), .ref (ma 5), .ref (ma 6), .ref (ma 7), .int 0, .int 0, .int 0, .int 0, .int 0, .int 0, .int (-1), .int (-1), .int 0, .int 0, .int 0, .ref (ma 8), .int 0, .int 0, .int (-1), .int 0, .int 0, .int 0, .ref (ma 9), .int 0, .int 0, .ref (ma 10), .ref (ma 11), .ref (ma 12), .int 0, .int 0])), (ma 1, .inl (kc 0, 2880, .inl at0))]) hP hD [0, 1] [] rfl rfl (by decide) (by decide) hk1 hFc hP1 hD1
  have hP : va_P D vwCl [(ma 0, .inr (11, [.ref (ma 1), .ref (ma 2), .int 0, .long 0, .long 1, .ref (ma 3), .ref (ma 4), .ref (ma 5), .ref (ma 6), .ref (ma 7), .int 0, .int 0, .int 0, .int 0, .int 0, .int 0, .int (-1), .int (-1), .int 0, .int 0, .int 0, .ref (ma 8), .int 0, .int 0, .int (-1), .int 0, .int 0, .int 0, .ref (ma 9), .int 0, .int 0, .ref (ma 10), .ref (ma 11), .ref (ma 12), .int 0, .int 0])), (ma 1, .inl (kc 0, 2880, .inl at0))] H := hP
  have hD : va_D A [(ma 0, .inr (11, [.ref (ma 1), .ref (ma 2), .int 0, .long 0, .long 1, .ref (ma 3), .ref (ma 4), .ref (ma 5), .ref (ma 6), .ref (ma 7), .int 0, .int 0, .int 0, .int 0, .int 0, .int 0, .int (-1), .int (-1), .int 0, .int 0, .int 0, .ref (ma 8), .int 0, .int 0, .int (-1), .int 0, .int 0, .int 0, .ref (ma 9), .int 0, .int 0, .ref (ma 10), .ref (ma 11), .ref (ma 12), .int 0, .int 0])), (ma 1, .inl (kc 0, 2880, .inl at0))] := hD
  subst hw
  refine lv_if_ne (tgt := 12) hx hb dX12_wrongStep_5 (by decide) (fun h => absurd (by decide) h) (fun _ => ?_)
  refine lv_iconst (v := 1) hx hb dX12_wrongStep_8 (by decide) ?_
  refine lv_goto (tgt := 26) hx hb dX12_wrongStep_9 (by decide) ?_
  have hP9 := hP.sub (ws' := [(ma 0, .inr (11, [.ref (ma 1), .ref (ma 2), .int 0, .long 0, .long 1, .ref (ma 3), .ref (ma 4), .ref (ma 5), .ref (ma 6), .ref (ma 7), .int 0, .int 0, .int 0, .int 0, .int 0, .int 0, .int (-1), .int (-1), .int 0, .int 0, .int 0, .ref (ma 8), .int 0, .int 0, .int (-1), .int 0, .int 0, .int 0, .ref (ma 9), .int 0, .int 0, .ref (ma 10), .ref (ma 11), .ref (ma 12), .int 0, .int 0])), (ma 1, .inl (kc 0, 2880, .inl at0))]) [0, 1] rfl
  have hD9 := hD.sub (ws' := [(ma 0, .inr (11, [.ref (ma 1), .ref (ma 2), .int 0, .long 0, .long 1, .ref (ma 3), .ref (ma 4), .ref (ma 5), .ref (ma 6), .ref (ma 7), .int 0, .int 0, .int 0, .int 0, .int 0, .int 0, .int (-1), .int (-1), .int 0, .int 0, .int 0, .ref (ma 8), .int 0, .int 0, .int (-1), .int 0, .int 0, .int 0, .ref (ma 9), .int 0, .int 0, .ref (ma 10), .ref (ma 11), .ref (ma 12), .int 0, .int 0])), (ma 1, .inl (kc 0, 2880, .inl at0))]) [0, 1] (by decide) rfl
  exact W.iret (v := 1) hx hb hr (fun t9 ht hW => ⟨⟨1, (), rfl, rfl, ⟨by rw [ht]; exact hP9, hD9⟩⟩, hS.F ht⟩) hS.2.2 dX12_wrongStep_26
theorem dX12_isSetOf_0 : decode cX12_isSetOf 0 = .ok (.iload_n 1, 1) := by decide +kernel
theorem dX12_isSetOf_1 : decode cX12_isSetOf 1 = .ok (.ifCond .lt 19, 3) := by decide +kernel
theorem dX12_isSetOf_20 : decode cX12_isSetOf 20 = .ok (.iconst 0, 1) := by decide +kernel
theorem dX12_isSetOf_21 : decode cX12_isSetOf 21 = .ok (.ireturn, 1) := by decide +kernel
theorem dX12_isSetOf_4 : decode cX12_isSetOf 4 = .ok (.iload_n 1, 1) := by decide +kernel
theorem dX12_isSetOf_5 : decode cX12_isSetOf 5 = .ok (.iconst 1, 1) := by decide +kernel
theorem dX12_isSetOf_6 : decode cX12_isSetOf 6 = .ok (.aload_n 0, 1) := by decide +kernel
theorem dX12_isSetOf_7 : decode cX12_isSetOf 7 = .ok (.getfield 7, 3) := by decide +kernel
theorem dX12_isSetOf_10 : decode cX12_isSetOf 10 = .ok (.iconst 1, 1) := by decide +kernel
theorem dX12_isSetOf_11 : decode cX12_isSetOf 11 = .ok (.iaload, 1) := by decide +kernel
theorem dX12_isSetOf_12 : decode cX12_isSetOf 12 = .ok (.ishl, 1) := by decide +kernel
theorem dX12_isSetOf_13 : decode cX12_isSetOf 13 = .ok (.if_icmp .ge 7, 3) := by decide +kernel
theorem dX12_isSetOf_16 : decode cX12_isSetOf 16 = .ok (.iconst 1, 1) := by decide +kernel
theorem dX12_isSetOf_17 : decode cX12_isSetOf 17 = .ok (.goto 4, 3) := by decide +kernel
def vdm_isSetOf : List Cond := [.code yX12_isSetOf cX12_isSetOf 2 (some .boolean), .fieldLink RX12 7 "SaltStreetModel" "at" "[I"]
def vm_isSetOf : List Cond := vdm_isSetOf ++ (wsX120 ++ ([] : List Cond))
theorem im_isSetOf_X12 : ∀ w ∈ wsX120, w ∈ vm_isSetOf := fun _ h => List.mem_append_right _ (List.mem_append_left _ h)
set_option maxHeartbeats 4000000 in
set_option maxRecDepth 100000 in
theorem m_isSetOf (l : Launch) (D : va_G) (kc : Nat → ClassId) (sz : Nat) (ma : Nat → Nat) (q : Int32) : Met l yX12_isSetOf vm_isSetOf ({ frames := 0, cells := 0, slots := 0, locals := 0 }) (va_Pc [.ref (ma 0), .int q] (wPre D kc [(ma 0, .inr (11, [.ref (ma 1), .ref (ma 2), .int 0, .long 0, .long 1, .ref (ma 3), .ref (ma 4), .ref (ma 5), .ref (ma 6), .ref (ma 7), .int 0, .int 0, .int 0, .int 0, .int 0, .int 0, .int (-1), .int (-1), .int 0, .int 0, .int 0, .ref (ma 8), .int 0, .int 0, .int (-1), .int 0, .int 0, .int 0, .ref (ma 9), .int 0, .int 0, .ref (ma 10), .ref (ma 11), .ref (ma 12), .int 0, .int 0])), (ma 1, .inl (kc 0, 2880, .inl at0))] sz)) (va_Qi (fun (r : Int32) (_ : Unit) => r = (bW q 0 0)) (wPost D [(ma 0, .inr (11, [.ref (ma 1), .ref (ma 2), .int 0, .long 0, .long 1, .ref (ma 3), .ref (ma 4), .ref (ma 5), .ref (ma 6), .ref (ma 7), .int 0, .int 0, .int 0, .int 0, .int 0, .int 0, .int (-1), .int (-1), .int 0, .int 0, .int 0, .ref (ma 8), .int 0, .int 0, .int (-1), .int 0, .int 0, .int 0, .ref (ma 9), .int 0, .int 0, .ref (ma 10), .ref (ma 11), .ref (ma 12), .int 0, .int 0])), (ma 1, .inl (kc 0, 2880, .inl at0))] (va_A [(ma 0, .inr (11, [.ref (ma 1), .ref (ma 2), .int 0, .long 0, .long 1, .ref (ma 3), .ref (ma 4), .ref (ma 5), .ref (ma 6), .ref (ma 7), .int 0, .int 0, .int 0, .int 0, .int 0, .int 0, .int (-1), .int (-1), .int 0, .int 0, .int 0, .ref (ma 8), .int 0, .int 0, .int (-1), .int 0, .int 0, .int 0, .ref (ma 9), .int 0, .int 0, .ref (ma 10), .ref (ma 11), .ref (ma 12), .int 0, .int 0])), (ma 1, .inl (kc 0, 2880, .inl at0))] sz)) (va_A [(ma 0, .inr (11, [.ref (ma 1), .ref (ma 2), .int 0, .long 0, .long 1, .ref (ma 3), .ref (ma 4), .ref (ma 5), .ref (ma 6), .ref (ma 7), .int 0, .int 0, .int 0, .int 0, .int 0, .int 0, .int (-1), .int (-1), .int 0, .int 0, .int 0, .ref (ma 8), .int 0, .int 0, .int (-1), .int 0, .int 0, .int 0, .ref (ma 9), .int 0, .int 0, .ref (ma 10), .ref (ma 11), .ref (ma 12), .int 0, .int 0])), (ma 1, .inl (kc 0, 2880, .inl at0))] sz)) 0 0 (va_A [(ma 0, .inr (11, [.ref (ma 1), .ref (ma 2), .int 0, .long 0, .long 1, .ref (ma 3), .ref (ma 4), .ref (ma 5), .ref (ma 6), .ref (ma 7), .int 0, .int 0, .int 0, .int 0, .int 0, .int 0, .int (-1), .int (-1), .int 0, .int 0, .int 0, .ref (ma 8), .int 0, .int 0, .int (-1), .int 0, .int 0, .int 0, .ref (ma 9), .int 0, .int 0, .ref (ma 10), .ref (ma 11), .ref (ma 12), .int 0, .int 0])), (ma 1, .inl (kc 0, 2880, .inl at0))] sz) := by
  refine Met.ofW (cc := cX12_isSetOf) (maxL := 2) (ret := (some .boolean)) (by decide) rfl ?_
  intro p e s m args below meth c s₁ B hml hv
  obtain ⟨rfl, hsz, hP, hE, hD0⟩ := hv
  have hx := B.exec
  have hb := B.bytes
  have hr := B.returns
  have hts := atoms_spec (ws := vm_isSetOf) B.pre
  have hown : s.vm.findClass RX12 = some m.cls := findClass_of_methodNamed B.named
  have hlocks := B.notSynchronized
  subst hsz
  have hD := hD0.self (sz := s.heap.size)
  generalize hAe : va_A [(ma 0, .inr (11, [.ref (ma 1), .ref (ma 2), .int 0, .long 0, .long 1, .ref (ma 3), .ref (ma 4), .ref (ma 5), .ref (ma 6), .ref (ma 7), .int 0, .int 0, .int 0, .int 0, .int 0, .int 0, .int (-1), .int (-1), .int 0, .int 0, .int 0, .ref (ma 8), .int 0, .int 0, .int (-1), .int 0, .int 0, .int 0, .ref (ma 9), .int 0, .int 0, .ref (ma 10), .ref (ma 11), .ref (ma 12), .int 0, .int 0])), (ma 1, .inl (kc 0, 2880, .inl at0))] s.heap.size = A at hD ⊢
  have hA : ∀ q : Nat, s.heap.size ≤ q → A q := fun q h => by rw [← hAe]; exact Or.inr h
  have hS : va_S A s.heap s.heap [] := va_S.rf
  have hK := hE.1
  have hP : va_P D vwCl [(ma 0, .inr (11, [.ref (ma 1), .ref (ma 2), .int 0, .long 0, .long 1, .ref (ma 3), .ref (ma 4), .ref (ma 5), .ref (ma 6), .ref (ma 7), .int 0, .int 0, .int 0, .int 0, .int 0, .int 0, .int (-1), .int (-1), .int 0, .int 0, .int 0, .ref (ma 8), .int 0, .int 0, .int (-1), .int 0, .int 0, .int 0, .ref (ma 9), .int 0, .int 0, .ref (ma 10), .ref (ma 11), .ref (ma 12), .int 0, .int 0])), (ma 1, .inl (kc 0, 2880, .inl at0))] s.heap := hP
  have hl := lv_entry ([.ref (ma 0), .int q]) (n := 2) (Nat.le_of_ble_eq_true rfl)
  rw [lg_entry_eq]
  generalize (lg_sl ([.ref (ma 0), .int q]) ++ List.replicate (2 - (lg_sl ([.ref (ma 0), .int q])).length) Slot.unset).toArray = ls at hl ⊢
  have hl : lv_has ls 2 [(0, .ref (ma 0)), (1, .int q)] := hl
  refine lv_iload_n hx hb dX12_isSetOf_0 rfl (lv_at hl 1 rfl) ?_
  refine lv_if_lt (tgt := 20) hx hb dX12_isSetOf_1 (by decide) (fun c_1 => ?_) (fun c_1 => ?_)
  · refine lv_iconst (v := 0) hx hb dX12_isSetOf_20 (by decide) ?_
    have hP9 := hP.sub (ws' := [(ma 0, .inr (11, [.ref (ma 1), .ref (ma 2), .int 0, .long 0, .long 1, .ref (ma 3), .ref (ma 4), .ref (ma 5), .ref (ma 6), .ref (ma 7), .int 0, .int 0, .int 0, .int 0, .int 0, .int 0, .int (-1), .int (-1), .int 0, .int 0, .int 0, .ref (ma 8), .int 0, .int 0, .int (-1), .int 0, .int 0, .int 0, .ref (ma 9), .int 0, .int 0, .ref (ma 10), .ref (ma 11), .ref (ma 12), .int 0, .int 0])), (ma 1, .inl (kc 0, 2880, .inl at0))]) [0, 1] rfl
    have hD9 := hD.sub (ws' := [(ma 0, .inr (11, [.ref (ma 1), .ref (ma 2), .int 0, .long 0, .long 1, .ref (ma 3), .ref (ma 4), .ref (ma 5), .ref (ma 6), .ref (ma 7), .int 0, .int 0, .int 0, .int 0, .int 0, .int 0, .int (-1), .int (-1), .int 0, .int 0, .int 0, .ref (ma 8), .int 0, .int 0, .int (-1), .int 0, .int 0, .int 0, .ref (ma 9), .int 0, .int 0, .ref (ma 10), .ref (ma 11), .ref (ma 12), .int 0, .int 0])), (ma 1, .inl (kc 0, 2880, .inl at0))]) [0, 1] (by decide) rfl
    exact W.zret (v := 0) hx hb hr rfl (fun t9 ht hW => ⟨⟨0, (), rfl, by first | exact (bW_0a (lt_nle c_1)).symm | exact (mo_s1 c_13).symm | exact (mo_s2 c_1 c_13).symm, ⟨by rw [ht]; exact hP9, hD9⟩⟩, hS.F ht⟩) hS.2.2 dX12_isSetOf_21
  · refine lv_iload_n hx hb dX12_isSetOf_4 rfl (lv_at hl 1 rfl) ?_
    refine lv_iconst (v := 1) hx hb dX12_isSetOf_5 (by decide) ?_
    refine lv_aload_n hx hb dX12_isSetOf_6 rfl (lv_at hl 0 rfl) ?_
    refine va_get (D := D) (ci := 11) (v := .ref (ma 1)) (C := RX12) (T := TX12) (N := 36) hx hb hts im_isSetOf_X12 hown hK hP 0 rfl rfl 0 (by decide) (hts (.fieldLink RX12 7 "SaltStreetModel" "at" "[I") (List.mem_of_getElem? (i := 1) rfl)) (fun _ h9 => h9) rfl dX12_isSetOf_7 ?_
    refine lv_iconst (v := 1) hx hb dX12_isSetOf_10 (by decide) ?_
    refine va_iald hx hb hK hP 1 0 (f := at0) rfl rfl (by unfold vp_in; decide) dX12_isSetOf_11 ?_
    refine lv_ci (y := 0) (by decide) ?_
    refine lv_ishl hx hb dX12_isSetOf_12 ?_
    refine lv_ci (y := 1) (by decide) ?_
    refine lv_icmp_ge (tgt := 20) hx hb dX12_isSetOf_13 (by decide) (fun c_13 => ?_) (fun c_13 => ?_)
    · refine lv_iconst (v := 0) hx hb dX12_isSetOf_20 (by decide) ?_
      have hP9 := hP.sub (ws' := [(ma 0, .inr (11, [.ref (ma 1), .ref (ma 2), .int 0, .long 0, .long 1, .ref (ma 3), .ref (ma 4), .ref (ma 5), .ref (ma 6), .ref (ma 7), .int 0, .int 0, .int 0, .int 0, .int 0, .int 0, .int (-1), .int (-1), .int 0, .int 0, .int 0, .ref (ma 8), .int 0, .int 0, .int (-1), .int 0, .int 0, .int 0, .ref (ma 9), .int 0, .int 0, .ref (ma 10), .ref (ma 11), .ref (ma 12), .int 0, .int 0])), (ma 1, .inl (kc 0, 2880, .inl at0))]) [0, 1] rfl
      have hD9 := hD.sub (ws' := [(ma 0, .inr (11, [.ref (ma 1), .ref (ma 2), .int 0, .long 0, .long 1, .ref (ma 3), .ref (ma 4), .ref (ma 5), .ref (ma 6), .ref (ma 7), .int 0, .int 0, .int 0, .int 0, .int 0, .int 0, .int (-1), .int (-1), .int 0, .int 0, .int 0, .ref (ma 8), .int 0, .int 0, .int (-1), .int 0, .int 0, .int 0, .ref (ma 9), .int 0, .int 0, .ref (ma 10), .ref (ma 11), .ref (ma 12), .int 0, .int 0])), (ma 1, .inl (kc 0, 2880, .inl at0))]) [0, 1] (by decide) rfl
      exact W.zret (v := 0) hx hb hr rfl (fun t9 ht hW => ⟨⟨0, (), rfl, by first | exact (bW_0a (lt_nle c_1)).symm | exact (mo_s1 c_13).symm | exact (mo_s2 c_1 c_13).symm, ⟨by rw [ht]; exact hP9, hD9⟩⟩, hS.F ht⟩) hS.2.2 dX12_isSetOf_21
    · refine lv_iconst (v := 1) hx hb dX12_isSetOf_16 (by decide) ?_
      refine lv_goto (tgt := 21) hx hb dX12_isSetOf_17 (by decide) ?_
      have hP9 := hP.sub (ws' := [(ma 0, .inr (11, [.ref (ma 1), .ref (ma 2), .int 0, .long 0, .long 1, .ref (ma 3), .ref (ma 4), .ref (ma 5), .ref (ma 6), .ref (ma 7), .int 0, .int 0, .int 0, .int 0, .int 0, .int 0, .int (-1), .int (-1), .int 0, .int 0, .int 0, .ref (ma 8), .int 0, .int 0, .int (-1), .int 0, .int 0, .int 0, .ref (ma 9), .int 0, .int 0, .ref (ma 10), .ref (ma 11), .ref (ma 12), .int 0, .int 0])), (ma 1, .inl (kc 0, 2880, .inl at0))]) [0, 1] rfl
      have hD9 := hD.sub (ws' := [(ma 0, .inr (11, [.ref (ma 1), .ref (ma 2), .int 0, .long 0, .long 1, .ref (ma 3), .ref (ma 4), .ref (ma 5), .ref (ma 6), .ref (ma 7), .int 0, .int 0, .int 0, .int 0, .int 0, .int 0, .int (-1), .int (-1), .int 0, .int 0, .int 0, .ref (ma 8), .int 0, .int 0, .int (-1), .int 0, .int 0, .int 0, .ref (ma 9), .int 0, .int 0, .ref (ma 10), .ref (ma 11), .ref (ma 12), .int 0, .int 0])), (ma 1, .inl (kc 0, 2880, .inl at0))]) [0, 1] (by decide) rfl
      exact W.zret (v := 1) hx hb hr rfl (fun t9 ht hW => ⟨⟨1, (), rfl, by first | exact (bW_0a (lt_nle c_1)).symm | exact (mo_s1 c_13).symm | exact (mo_s2 c_1 c_13).symm, ⟨by rw [ht]; exact hP9, hD9⟩⟩, hS.F ht⟩) hS.2.2 dX12_isSetOf_21
theorem dX12_setOf_0 : decode cX12_setOf 0 = .ok (.iconst 0, 1) := by decide +kernel
theorem dX12_setOf_1 : decode cX12_setOf 1 = .ok (.istore_n 2, 1) := by decide +kernel
theorem dX12_setOf_2 : decode cX12_setOf 2 = .ok (.iconst 0, 1) := by decide +kernel
theorem dX12_setOf_3 : decode cX12_setOf 3 = .ok (.istore_n 3, 1) := by decide +kernel
theorem dX12_setOf_4 : decode cX12_setOf 4 = .ok (.iload_n 3, 1) := by decide +kernel
theorem dX12_setOf_5 : decode cX12_setOf 5 = .ok (.aload_n 0, 1) := by decide +kernel
theorem dX12_setOf_6 : decode cX12_setOf 6 = .ok (.getfield 7, 3) := by decide +kernel
theorem dX12_setOf_9 : decode cX12_setOf 9 = .ok (.iconst 1, 1) := by decide +kernel
theorem dX12_setOf_10 : decode cX12_setOf 10 = .ok (.iaload, 1) := by decide +kernel
theorem dX12_setOf_11 : decode cX12_setOf 11 = .ok (.if_icmp .ge 102, 3) := by decide +kernel
theorem dX12_setOf_113 : decode cX12_setOf 113 = .ok (.iload_n 2, 1) := by decide +kernel
theorem dX12_setOf_114 : decode cX12_setOf 114 = .ok (.ireturn, 1) := by decide +kernel
def vdm_setOf : List Cond := [.code yX12_setOf cX12_setOf 5 (some .int), .fieldLink RX12 7 "SaltStreetModel" "at" "[I"]
def vm_setOf : List Cond := vdm_setOf ++ (wsX120 ++ ([] : List Cond))
theorem im_setOf_X12 : ∀ w ∈ wsX120, w ∈ vm_setOf := fun _ h => List.mem_append_right _ (List.mem_append_left _ h)
set_option maxHeartbeats 4000000 in
set_option maxRecDepth 100000 in
theorem m_setOf (l : Launch) (D : va_G) (kc : Nat → ClassId) (sz : Nat) (ma : Nat → Nat) (q : Int32) : Met l yX12_setOf vm_setOf ({ frames := 0, cells := 0, slots := 0, locals := 0 }) (va_Pc [.ref (ma 0), .int q] (wPre D kc [(ma 0, .inr (11, [.ref (ma 1), .ref (ma 2), .int 0, .long 0, .long 1, .ref (ma 3), .ref (ma 4), .ref (ma 5), .ref (ma 6), .ref (ma 7), .int 0, .int 0, .int 0, .int 0, .int 0, .int 0, .int (-1), .int (-1), .int 0, .int 0, .int 0, .ref (ma 8), .int 0, .int 0, .int (-1), .int 0, .int 0, .int 0, .ref (ma 9), .int 0, .int 0, .ref (ma 10), .ref (ma 11), .ref (ma 12), .int 0, .int 0])), (ma 1, .inl (kc 0, 2880, .inl at0))] sz)) (va_Qi (fun (r : Int32) (_ : Unit) => r = 0) (wPost D [(ma 0, .inr (11, [.ref (ma 1), .ref (ma 2), .int 0, .long 0, .long 1, .ref (ma 3), .ref (ma 4), .ref (ma 5), .ref (ma 6), .ref (ma 7), .int 0, .int 0, .int 0, .int 0, .int 0, .int 0, .int (-1), .int (-1), .int 0, .int 0, .int 0, .ref (ma 8), .int 0, .int 0, .int (-1), .int 0, .int 0, .int 0, .ref (ma 9), .int 0, .int 0, .ref (ma 10), .ref (ma 11), .ref (ma 12), .int 0, .int 0])), (ma 1, .inl (kc 0, 2880, .inl at0))] (va_A [(ma 0, .inr (11, [.ref (ma 1), .ref (ma 2), .int 0, .long 0, .long 1, .ref (ma 3), .ref (ma 4), .ref (ma 5), .ref (ma 6), .ref (ma 7), .int 0, .int 0, .int 0, .int 0, .int 0, .int 0, .int (-1), .int (-1), .int 0, .int 0, .int 0, .ref (ma 8), .int 0, .int 0, .int (-1), .int 0, .int 0, .int 0, .ref (ma 9), .int 0, .int 0, .ref (ma 10), .ref (ma 11), .ref (ma 12), .int 0, .int 0])), (ma 1, .inl (kc 0, 2880, .inl at0))] sz)) (va_A [(ma 0, .inr (11, [.ref (ma 1), .ref (ma 2), .int 0, .long 0, .long 1, .ref (ma 3), .ref (ma 4), .ref (ma 5), .ref (ma 6), .ref (ma 7), .int 0, .int 0, .int 0, .int 0, .int 0, .int 0, .int (-1), .int (-1), .int 0, .int 0, .int 0, .ref (ma 8), .int 0, .int 0, .int (-1), .int 0, .int 0, .int 0, .ref (ma 9), .int 0, .int 0, .ref (ma 10), .ref (ma 11), .ref (ma 12), .int 0, .int 0])), (ma 1, .inl (kc 0, 2880, .inl at0))] sz)) 0 0 (va_A [(ma 0, .inr (11, [.ref (ma 1), .ref (ma 2), .int 0, .long 0, .long 1, .ref (ma 3), .ref (ma 4), .ref (ma 5), .ref (ma 6), .ref (ma 7), .int 0, .int 0, .int 0, .int 0, .int 0, .int 0, .int (-1), .int (-1), .int 0, .int 0, .int 0, .ref (ma 8), .int 0, .int 0, .int (-1), .int 0, .int 0, .int 0, .ref (ma 9), .int 0, .int 0, .ref (ma 10), .ref (ma 11), .ref (ma 12), .int 0, .int 0])), (ma 1, .inl (kc 0, 2880, .inl at0))] sz) := by
  refine Met.ofW (cc := cX12_setOf) (maxL := 5) (ret := (some .int)) (by decide) rfl ?_
  intro p e s m args below meth c s₁ B hml hv
  obtain ⟨rfl, hsz, hP, hE, hD0⟩ := hv
  have hx := B.exec
  have hb := B.bytes
  have hr := B.returns
  have hts := atoms_spec (ws := vm_setOf) B.pre
  have hown : s.vm.findClass RX12 = some m.cls := findClass_of_methodNamed B.named
  have hlocks := B.notSynchronized
  subst hsz
  have hD := hD0.self (sz := s.heap.size)
  generalize hAe : va_A [(ma 0, .inr (11, [.ref (ma 1), .ref (ma 2), .int 0, .long 0, .long 1, .ref (ma 3), .ref (ma 4), .ref (ma 5), .ref (ma 6), .ref (ma 7), .int 0, .int 0, .int 0, .int 0, .int 0, .int 0, .int (-1), .int (-1), .int 0, .int 0, .int 0, .ref (ma 8), .int 0, .int 0, .int (-1), .int 0, .int 0, .int 0, .ref (ma 9), .int 0, .int 0, .ref (ma 10), .ref (ma 11), .ref (ma 12), .int 0, .int 0])), (ma 1, .inl (kc 0, 2880, .inl at0))] s.heap.size = A at hD ⊢
  have hA : ∀ q : Nat, s.heap.size ≤ q → A q := fun q h => by rw [← hAe]; exact Or.inr h
  have hS : va_S A s.heap s.heap [] := va_S.rf
  have hK := hE.1
  have hP : va_P D vwCl [(ma 0, .inr (11, [.ref (ma 1), .ref (ma 2), .int 0, .long 0, .long 1, .ref (ma 3), .ref (ma 4), .ref (ma 5), .ref (ma 6), .ref (ma 7), .int 0, .int 0, .int 0, .int 0, .int 0, .int 0, .int (-1), .int (-1), .int 0, .int 0, .int 0, .ref (ma 8), .int 0, .int 0, .int (-1), .int 0, .int 0, .int 0, .ref (ma 9), .int 0, .int 0, .ref (ma 10), .ref (ma 11), .ref (ma 12), .int 0, .int 0])), (ma 1, .inl (kc 0, 2880, .inl at0))] s.heap := hP
  have hl := lv_entry ([.ref (ma 0), .int q]) (n := 5) (Nat.le_of_ble_eq_true rfl)
  rw [lg_entry_eq]
  generalize (lg_sl ([.ref (ma 0), .int q]) ++ List.replicate (5 - (lg_sl ([.ref (ma 0), .int q])).length) Slot.unset).toArray = ls at hl ⊢
  have hl : lv_has ls 5 [(0, .ref (ma 0)), (1, .int q)] := hl
  refine lv_iconst (v := 0) hx hb dX12_setOf_0 (by decide) ?_
  refine lv_istore_n (lv' := [(2, .int 0), (0, .ref (ma 0)), (1, .int q)]) hx hb dX12_setOf_1 rfl hl (by decide) rfl (fun ls hl => ?_)
  refine lv_iconst (v := 0) hx hb dX12_setOf_2 (by decide) ?_
  refine lv_istore_n (lv' := [(3, .int 0), (2, .int 0), (0, .ref (ma 0)), (1, .int q)]) hx hb dX12_setOf_3 rfl hl (by decide) rfl (fun ls hl => ?_)
  refine lv_iload_n hx hb dX12_setOf_4 rfl (lv_at hl 0 rfl) ?_
  refine lv_aload_n hx hb dX12_setOf_5 rfl (lv_at hl 2 rfl) ?_
  refine va_get (D := D) (ci := 11) (v := .ref (ma 1)) (C := RX12) (T := TX12) (N := 36) hx hb hts im_setOf_X12 hown hK hP 0 rfl rfl 0 (by decide) (hts (.fieldLink RX12 7 "SaltStreetModel" "at" "[I") (List.mem_of_getElem? (i := 1) rfl)) (fun _ h9 => h9) rfl dX12_setOf_6 ?_
  refine lv_iconst (v := 1) hx hb dX12_setOf_9 (by decide) ?_
  refine va_iald hx hb hK hP 1 0 (f := at0) rfl rfl (by unfold vp_in; decide) dX12_setOf_10 ?_
  refine lv_ci (y := 0) (by decide) ?_
  refine lv_icmp_ge (tgt := 113) hx hb dX12_setOf_11 (by decide) (fun _ => ?_) (fun h => absurd (by decide) h)
  refine lv_iload_n hx hb dX12_setOf_113 rfl (lv_at hl 1 rfl) ?_
  have hP9 := hP.sub (ws' := [(ma 0, .inr (11, [.ref (ma 1), .ref (ma 2), .int 0, .long 0, .long 1, .ref (ma 3), .ref (ma 4), .ref (ma 5), .ref (ma 6), .ref (ma 7), .int 0, .int 0, .int 0, .int 0, .int 0, .int 0, .int (-1), .int (-1), .int 0, .int 0, .int 0, .ref (ma 8), .int 0, .int 0, .int (-1), .int 0, .int 0, .int 0, .ref (ma 9), .int 0, .int 0, .ref (ma 10), .ref (ma 11), .ref (ma 12), .int 0, .int 0])), (ma 1, .inl (kc 0, 2880, .inl at0))]) [0, 1] rfl
  have hD9 := hD.sub (ws' := [(ma 0, .inr (11, [.ref (ma 1), .ref (ma 2), .int 0, .long 0, .long 1, .ref (ma 3), .ref (ma 4), .ref (ma 5), .ref (ma 6), .ref (ma 7), .int 0, .int 0, .int 0, .int 0, .int 0, .int 0, .int (-1), .int (-1), .int 0, .int 0, .int 0, .ref (ma 8), .int 0, .int 0, .int (-1), .int 0, .int 0, .int 0, .ref (ma 9), .int 0, .int 0, .ref (ma 10), .ref (ma 11), .ref (ma 12), .int 0, .int 0])), (ma 1, .inl (kc 0, 2880, .inl at0))]) [0, 1] (by decide) rfl
  exact W.iret (v := 0) hx hb hr (fun t9 ht hW => ⟨⟨0, (), rfl, rfl, ⟨by rw [ht]; exact hP9, hD9⟩⟩, hS.F ht⟩) hS.2.2 dX12_setOf_114
