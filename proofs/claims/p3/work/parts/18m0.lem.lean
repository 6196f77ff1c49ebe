/-! the reference: ranges, codes, rows -/
def rS (p : Nat) : Int × Int := if p < 2 then (0, 8) else if p < 4 then (0, 4) else if p = 11 then (-1, 60) else if p < 40 then (-2147483648, 2147483647) else if p < 80 then (if (p - 40) % 5 ≤ 1 then (-1, 7) else (-2147483648, 2147483647)) else if p < 92 then (if (p - 80) % 3 ≤ 1 then (-1, 7) else (-2147483648, 2147483647)) else if p < 110 then (-2147483648, 2147483647) else if p < 470 then (if (p - 110) % 6 = 4 then (0, 59) else if (p - 110) % 6 = 1 then (-1, 99) else if (p - 110) % 6 = 3 then (-1, 3) else (-2147483648, 2147483647)) else (-2147483648, 2147483647)
def rM (c k : Nat) : Int × Int := if c = 0 then (match k with | 10 => (0, 900) | 11 => (0, 900) | 13 => (0, 900) | 14 => (0, 900) | 20 => (0, 3) | 22 => (0, 3) | 23 => (0, 30) | 30 => (0, 300) | 34 => (0, 1) | 35 => (0, 3) | _ => (-2147483648, 2147483647)) else if c = 1 then rS (k % 480) else if c = 4 then (-1, 60) else if c = 8 then (0, 59) else if c = 10 then (-2, 98) else (-2147483648, 2147483647)
def cdM (c k : Nat) : Nat := if c = 0 then 20 + k else if c = 1 then (if k < 13 then 60 + k else if k < 110 then 1 else if k < 480 then 100 else if k < 1920 then 101 else if k < 1933 then k - 1840 else if k < 2400 then 102 else 103) else c
abbrev JM (L : Nat) (s0 s : Sg) : Prop := Jg rM cdM L s0 s
theorem rS_end {q : Nat} (h : (40 ≤ q ∧ q < 80 ∧ (q - 40) % 5 ≤ 1) ∨ (80 ≤ q ∧ q < 92 ∧ (q - 80) % 3 ≤ 1)) : rS q = (-1, 7) := by
  unfold rS
  rcases h with h | h
  · rw [if_neg (by omega), if_neg (by omega), if_neg (by omega), if_neg (by omega), if_pos (by omega), if_pos (by omega)]
  · rw [if_neg (by omega), if_neg (by omega), if_neg (by omega), if_neg (by omega), if_neg (by omega), if_pos (by omega), if_pos (by omega)]
theorem rS_one {q : Nat} (h : 110 ≤ q ∧ q < 470 ∧ (q - 110) % 6 = 1) : rS q = (-1, 99) := by
  unfold rS
  rw [if_neg (by omega), if_neg (by omega), if_neg (by omega), if_neg (by omega), if_neg (by omega), if_neg (by omega), if_neg (by omega), if_pos (by omega), if_neg (by omega), if_pos (by omega)]
theorem rS_tri {q : Nat} (h : 110 ≤ q ∧ q < 470 ∧ (q - 110) % 6 = 3) : rS q = (-1, 3) := by
  unfold rS
  rw [if_neg (by omega), if_neg (by omega), if_neg (by omega), if_neg (by omega), if_neg (by omega), if_neg (by omega), if_neg (by omega), if_pos (by omega), if_neg (by omega), if_neg (by omega), if_pos (by omega)]
theorem rS_par {q : Nat} (h : 110 ≤ q ∧ q < 470 ∧ (q - 110) % 6 = 4) : rS q = (0, 59) := by
  unfold rS
  rw [if_neg (by omega), if_neg (by omega), if_neg (by omega), if_neg (by omega), if_neg (by omega), if_neg (by omega), if_neg (by omega), if_pos (by omega), if_pos (by omega)]
theorem rS_rows {q : Nat} (h : q = 11) : rS q = (-1, 60) := by
  subst h; rfl
theorem rS_free {q : Nat} (h : (4 ≤ q ∧ q ≤ 10) ∨ (12 ≤ q ∧ q < 40) ∨ (40 ≤ q ∧ q < 80 ∧ 2 ≤ (q - 40) % 5) ∨ (80 ≤ q ∧ q < 92 ∧ (q - 80) % 3 = 2) ∨ (92 ≤ q ∧ q < 110) ∨ (110 ≤ q ∧ q < 470 ∧ ((q - 110) % 6 = 0 ∨ (q - 110) % 6 = 2 ∨ (q - 110) % 6 = 5)) ∨ 470 ≤ q) : rS q = (-2147483648, 2147483647) := by
  unfold rS
  rcases h with h | h | h | h | h | h | h
  · rw [if_neg (by omega), if_neg (by omega), if_neg (by omega), if_pos (by omega)]
  · rw [if_neg (by omega), if_neg (by omega), if_neg (by omega), if_pos (by omega)]
  · rw [if_neg (by omega), if_neg (by omega), if_neg (by omega), if_neg (by omega), if_pos (by omega), if_neg (by omega)]
  · rw [if_neg (by omega), if_neg (by omega), if_neg (by omega), if_neg (by omega), if_neg (by omega), if_pos (by omega), if_neg (by omega)]
  · rw [if_neg (by omega), if_neg (by omega), if_neg (by omega), if_neg (by omega), if_neg (by omega), if_neg (by omega), if_pos (by omega)]
  · rw [if_neg (by omega), if_neg (by omega), if_neg (by omega), if_neg (by omega), if_neg (by omega), if_neg (by omega), if_neg (by omega), if_pos (by omega), if_neg (by omega), if_neg (by omega), if_neg (by omega)]
  · rw [if_neg (by omega), if_neg (by omega), if_neg (by omega), if_neg (by omega), if_neg (by omega), if_neg (by omega), if_neg (by omega), if_neg (by omega)]
theorem rd_end {L : Nat} {s0 s : Sg} (J : JM L s0 s) (p : Nat) (h : (40 ≤ p % 480 ∧ p % 480 < 80 ∧ (p % 480 - 40) % 5 ≤ 1) ∨ (80 ≤ p % 480 ∧ p % 480 < 92 ∧ (p % 480 - 80) % 3 ≤ 1)) : -1 ≤ (s.1 1 p).toInt ∧ (s.1 1 p).toInt ≤ 7 := j_rd J 1 p _ _ (rS_end h)
theorem rd_one {L : Nat} {s0 s : Sg} (J : JM L s0 s) (p : Nat) (h : 110 ≤ p % 480 ∧ p % 480 < 470 ∧ (p % 480 - 110) % 6 = 1) : -1 ≤ (s.1 1 p).toInt ∧ (s.1 1 p).toInt ≤ 99 := j_rd J 1 p _ _ (rS_one h)
theorem rd_tri {L : Nat} {s0 s : Sg} (J : JM L s0 s) (p : Nat) (h : 110 ≤ p % 480 ∧ p % 480 < 470 ∧ (p % 480 - 110) % 6 = 3) : -1 ≤ (s.1 1 p).toInt ∧ (s.1 1 p).toInt ≤ 3 := j_rd J 1 p _ _ (rS_tri h)
theorem rd_par {L : Nat} {s0 s : Sg} (J : JM L s0 s) (p : Nat) (h : 110 ≤ p % 480 ∧ p % 480 < 470 ∧ (p % 480 - 110) % 6 = 4) : 0 ≤ (s.1 1 p).toInt ∧ (s.1 1 p).toInt ≤ 59 := j_rd J 1 p _ _ (rS_par h)
theorem rd_rows {L : Nat} {s0 s : Sg} (J : JM L s0 s) (p : Nat) (h : p % 480 = 11) : -1 ≤ (s.1 1 p).toInt ∧ (s.1 1 p).toInt ≤ 60 := j_rd J 1 p _ _ (rS_rows h)
theorem rd_cnt {L : Nat} {s0 s : Sg} (J : JM L s0 s) (p : Nat) (h : p % 480 ≤ 3) : 0 ≤ (s.1 1 p).toInt ∧ (s.1 1 p).toInt ≤ 8 := by
  by_cases q : p % 480 < 2
  · exact j_rd J 1 p 0 8 (show rS (p % 480) = _ by unfold rS; rw [if_pos q])
  · have := j_rd J 1 p 0 4 (show rS (p % 480) = _ by unfold rS; rw [if_neg q, if_pos (by omega)])
    omega
theorem rz_x {p : Nat} {lo hi : Int} {v : Int32} (e : rS (p % 480) = (lo, hi)) (hv : lo ≤ v.toInt ∧ v.toInt ≤ hi) : (rM 1 p).1 ≤ v.toInt ∧ v.toInt ≤ (rM 1 p).2 := by
  have q : rM 1 p = (lo, hi) := e
  rw [q]; exact hv
theorem rz_f {p : Nat} (h : (4 ≤ p % 480 ∧ p % 480 ≤ 10) ∨ (12 ≤ p % 480 ∧ p % 480 < 40) ∨ (40 ≤ p % 480 ∧ p % 480 < 80 ∧ 2 ≤ (p % 480 - 40) % 5) ∨ (80 ≤ p % 480 ∧ p % 480 < 92 ∧ (p % 480 - 80) % 3 = 2) ∨ (92 ≤ p % 480 ∧ p % 480 < 110) ∨ (110 ≤ p % 480 ∧ p % 480 < 470 ∧ ((p % 480 - 110) % 6 = 0 ∨ (p % 480 - 110) % 6 = 2 ∨ (p % 480 - 110) % 6 = 5)) ∨ 470 ≤ p % 480) (v : Int32) : (rM 1 p).1 ≤ v.toInt ∧ v.toInt ≤ (rM 1 p).2 := rz_x (rS_free h) (i_rg v)
theorem rz_end {p : Nat} {v : Int32} (h : (40 ≤ p % 480 ∧ p % 480 < 80 ∧ (p % 480 - 40) % 5 ≤ 1) ∨ (80 ≤ p % 480 ∧ p % 480 < 92 ∧ (p % 480 - 80) % 3 ≤ 1)) (hv : -1 ≤ v.toInt ∧ v.toInt ≤ 7) : (rM 1 p).1 ≤ v.toInt ∧ v.toInt ≤ (rM 1 p).2 := rz_x (rS_end h) hv
theorem rz_one {p : Nat} {v : Int32} (h : 110 ≤ p % 480 ∧ p % 480 < 470 ∧ (p % 480 - 110) % 6 = 1) (hv : -1 ≤ v.toInt ∧ v.toInt ≤ 99) : (rM 1 p).1 ≤ v.toInt ∧ v.toInt ≤ (rM 1 p).2 := rz_x (rS_one h) hv
theorem rz_tri {p : Nat} {v : Int32} (h : 110 ≤ p % 480 ∧ p % 480 < 470 ∧ (p % 480 - 110) % 6 = 3) (hv : -1 ≤ v.toInt ∧ v.toInt ≤ 3) : (rM 1 p).1 ≤ v.toInt ∧ v.toInt ≤ (rM 1 p).2 := rz_x (rS_tri h) hv
theorem rz_par {p : Nat} {v : Int32} (h : 110 ≤ p % 480 ∧ p % 480 < 470 ∧ (p % 480 - 110) % 6 = 4) (hv : 0 ≤ v.toInt ∧ v.toInt ≤ 59) : (rM 1 p).1 ≤ v.toInt ∧ v.toInt ≤ (rM 1 p).2 := rz_x (rS_par h) hv
theorem rz_rows {p : Nat} {v : Int32} (h : p % 480 = 11) (hv : -1 ≤ v.toInt ∧ v.toInt ≤ 60) : (rM 1 p).1 ≤ v.toInt ∧ v.toInt ≤ (rM 1 p).2 := rz_x (rS_rows h) hv
theorem rz_0 (p : Nat) : (rM 1 p).1 ≤ (0 : Int32).toInt ∧ (0 : Int32).toInt ≤ (rM 1 p).2 := by
  show (rS (p % 480)).1 ≤ (0 : Int32).toInt ∧ (0 : Int32).toInt ≤ (rS (p % 480)).2
  unfold rS
  repeat' split
  all_goals decide
theorem rz_cp {L : Nat} {s0 s : Sg} (J : JM L s0 s) (p p' : Nat) (h : p' % 480 = p % 480) : (rM 1 p).1 ≤ (s.1 1 p').toInt ∧ (s.1 1 p').toInt ≤ (rM 1 p).2 := by
  have e : rM 1 p = rM 1 p' := (congrArg rS h).symm
  rw [e]; exact J.1 1 p'
theorem nv_use {a b v : Int32} {p : Nat} (h : (rM 1 p).1 ≤ a.toInt ∧ b.toInt ≤ (rM 1 p).2) (hv : a.toInt ≤ v.toInt ∧ v.toInt ≤ b.toInt) : (rM 1 p).1 ≤ v.toInt ∧ v.toInt ≤ (rM 1 p).2 := by omega
theorem ov_use {b v : Int32} {p : Nat} (h : (rM 1 p).1 ≤ -1 ∧ b.toInt ≤ (rM 1 p).2 + 1) (hv : -1 ≤ v.toInt ∧ v.toInt < b.toInt ∧ 0 ≤ b.toInt ∨ v.toInt = -1 ∧ 0 ≤ b.toInt) : (rM 1 p).1 ≤ v.toInt ∧ v.toInt ≤ (rM 1 p).2 := by omega
theorem nv_f {p : Nat} (h : (4 ≤ p % 480 ∧ p % 480 ≤ 10) ∨ (12 ≤ p % 480 ∧ p % 480 < 40) ∨ (40 ≤ p % 480 ∧ p % 480 < 80 ∧ 2 ≤ (p % 480 - 40) % 5) ∨ (80 ≤ p % 480 ∧ p % 480 < 92 ∧ (p % 480 - 80) % 3 = 2) ∨ (92 ≤ p % 480 ∧ p % 480 < 110) ∨ (110 ≤ p % 480 ∧ p % 480 < 470 ∧ ((p % 480 - 110) % 6 = 0 ∨ (p % 480 - 110) % 6 = 2 ∨ (p % 480 - 110) % 6 = 5)) ∨ 470 ≤ p % 480) (a b : Int32) : (rM 1 p).1 ≤ a.toInt ∧ b.toInt ≤ (rM 1 p).2 := ⟨(rz_f h a).1, (rz_f h b).2⟩
theorem nv_one {p : Nat} {a b : Int32} (h : 110 ≤ p % 480 ∧ p % 480 < 470 ∧ (p % 480 - 110) % 6 = 1) (hv : -1 ≤ a.toInt ∧ b.toInt ≤ 99) : (rM 1 p).1 ≤ a.toInt ∧ b.toInt ≤ (rM 1 p).2 := by
  have q : rM 1 p = (-1, 99) := rS_one h
  rw [q]; exact hv
theorem ov_end {p : Nat} {b : Int32} (h : (40 ≤ p % 480 ∧ p % 480 < 80 ∧ (p % 480 - 40) % 5 ≤ 1) ∨ (80 ≤ p % 480 ∧ p % 480 < 92 ∧ (p % 480 - 80) % 3 ≤ 1)) (hv : b.toInt ≤ 8) : (rM 1 p).1 ≤ -1 ∧ b.toInt ≤ (rM 1 p).2 + 1 := by
  have q : rM 1 p = (-1, 7) := rS_end h
  rw [q]; exact ⟨Int.le_refl _, hv⟩
theorem ov_one {p : Nat} {b : Int32} (h : 110 ≤ p % 480 ∧ p % 480 < 470 ∧ (p % 480 - 110) % 6 = 1) (hv : b.toInt ≤ 100) : (rM 1 p).1 ≤ -1 ∧ b.toInt ≤ (rM 1 p).2 + 1 := by
  have q : rM 1 p = (-1, 99) := rS_one h
  rw [q]; exact ⟨Int.le_refl _, hv⟩
theorem ov_tri {p : Nat} {b : Int32} (h : 110 ≤ p % 480 ∧ p % 480 < 470 ∧ (p % 480 - 110) % 6 = 3) (hv : b.toInt ≤ 4) : (rM 1 p).1 ≤ -1 ∧ b.toInt ≤ (rM 1 p).2 + 1 := by
  have q : rM 1 p = (-1, 3) := rS_tri h
  rw [q]; exact ⟨Int.le_refl _, hv⟩
theorem j_wm {L : Nat} {s0 s : Sg} {p : Nat} {v : Int32} (h : JM L s0 s) (hr : (rM 1 p).1 ≤ v.toInt ∧ v.toInt ≤ (rM 1 p).2) (hL : L.testBit (cdM 1 p) = true) : JM L s0 (pI s 1 p v) := j_wr (rM 1 p).1 (rM 1 p).2 h rfl (cdM 1 p) rfl hL hr
theorem cdM_x (p : Nat) : cdM 1 p = (if p < 13 then 60 + p else if p < 110 then 1 else if p < 480 then 100 else if p < 1920 then 101 else if p < 1933 then p - 1840 else if p < 2400 then 102 else 103) := rfl
theorem mk_1 {L p : Nat} (h : 13 ≤ p ∧ p < 110) (hb : L.testBit 1 = true) : L.testBit (cdM 1 p) = true := by
  rw [cdM_x, if_neg (by omega), if_pos (by omega)]; exact hb
theorem mk_100 {L p : Nat} (h : 110 ≤ p ∧ p < 480) (hb : L.testBit 100 = true) : L.testBit (cdM 1 p) = true := by
  rw [cdM_x, if_neg (by omega), if_neg (by omega), if_pos (by omega)]; exact hb
theorem mk_102 {L p : Nat} (h : 1933 ≤ p ∧ p < 2400) (hb : L.testBit 102 = true) : L.testBit (cdM 1 p) = true := by
  rw [cdM_x, if_neg (by omega), if_neg (by omega), if_neg (by omega), if_neg (by omega), if_neg (by omega), if_pos (by omega)]; exact hb
theorem mk_103 {L p : Nat} (h : 2400 ≤ p ∧ p < 2880) (hb : L.testBit 103 = true) : L.testBit (cdM 1 p) = true := by
  rw [cdM_x, if_neg (by omega), if_neg (by omega), if_neg (by omega), if_neg (by omega), if_neg (by omega), if_neg (by omega)]; exact hb
theorem tb_of {L M c : Nat} (hb : L &&& M = M) (hc : M.testBit c = true) : L.testBit c = true := by
  rw [← hb, Nat.testBit_and] at hc
  simp at hc
  exact hc.1
theorem mk_n {L p : Nat} (hb : L &&& 5080504712301381033556831109120 = 5080504712301381033556831109120) (h : 1920 ≤ p ∧ p < 2400) : L.testBit (cdM 1 p) = true := by
  have q : ∀ k, k < 480 → Nat.testBit 5080504712301381033556831109120 (cdM 1 (1920 + k)) = true := by decide +kernel
  have e : p = 1920 + (p - 1920) := by omega
  rw [e]
  exact tb_of hb (q (p - 1920) (by omega))
theorem mk_z {L p : Nat} (hb : L &&& 1267650609671809445731386785794 = 1267650609671809445731386785794) (h : p < 480) : L.testBit (cdM 1 p) = true := by
  have q : ∀ k, k < 480 → Nat.testBit 1267650609671809445731386785794 (cdM 1 k) = true := by decide +kernel
  exact tb_of hb (q p h)
theorem mk_t {L p : Nat} (hb : L &&& 9443580044234683580418 = 9443580044234683580418) (h : p < 110) : L.testBit (cdM 1 p) = true := by
  have q : ∀ k, k < 110 → Nat.testBit 9443580044234683580418 (cdM 1 k) = true := by decide +kernel
  exact tb_of hb (q p h)
theorem mk_c {L p : Nat} (hb : L &&& 3802951810128268248724793196546 = 3802951810128268248724793196546) (h : p < 1920) : L.testBit (cdM 1 p) = true := by
  have q : ∀ k, k < 1920 → Nat.testBit 3802951810128268248724793196546 (cdM 1 k) = true := by decide +kernel
  exact tb_of hb (q p h)
theorem at_all (p : Nat) : Nat.testBit 19024661324255484494255249948674 (cdM 1 p) = true := by
  rw [cdM_x]
  have q : ∀ k, k < 13 → Nat.testBit 19024661324255484494255249948674 (60 + k) = true := by decide +kernel
  have r : ∀ k, k < 13 → Nat.testBit 19024661324255484494255249948674 (80 + k) = true := by decide +kernel
  split
  · exact q p (by assumption)
  · split
    · decide +kernel
    · split
      · decide +kernel
      · split
        · decide +kernel
        · split
          · have e : p - 1840 = 80 + (p - 1920) := by omega
            rw [e]; exact r _ (by omega)
          · split <;> decide +kernel
theorem j_fa {L : Nat} {s0 s : Sg} (h : JM L s0 s) (p : Nat) (hb : L &&& 19024661324255484494255249948674 = 0) : (s.1 1 p).toInt = (s0.1 1 p).toInt := by
  have q : L.testBit (cdM 1 p) = false := by
    have e : (L &&& 19024661324255484494255249948674).testBit (cdM 1 p) = false := by rw [hb]; exact Nat.zero_testBit _
    rw [Nat.testBit_and, at_all, Bool.and_true] at e
    exact e
  exact congrArg Int32.toInt (h.2 1 p q).1
theorem u_ni {s : Sg} {c k k' : Nat} {v : Int32} (h : ¬ k' = k) : ((pI s c k v).1 c k').toInt = (s.1 c k').toInt := by
  rw [pI_1, if_neg]
  rintro ⟨e, f⟩
  exact h f
theorem i_and2 (a b : Int32) (h : 0 ≤ a.toInt) : 0 ≤ (a &&& b).toInt ∧ (a &&& b).toInt ≤ a.toInt := by
  have q := i_and b a h
  rw [Int32.and_comm] at q
  exact q
theorem i_or (a b : Int32) (ha : 0 ≤ a.toInt ∧ a.toInt ≤ 511) (hb : 0 ≤ b.toInt ∧ b.toInt ≤ 511) : 0 ≤ (a ||| b).toInt ∧ (a ||| b).toInt ≤ 511 := by
  have e0 : a.toInt = a.toBitVec.toInt := rfl
  have e1 : b.toInt = b.toBitVec.toInt := rfl
  have e2 : (a ||| b).toInt = (a.toBitVec ||| b.toBitVec).toInt := rfl
  have f0 := BitVec.toInt_eq_toNat_cond a.toBitVec
  have f1 := BitVec.toInt_eq_toNat_cond b.toBitVec
  have f2 := BitVec.toInt_eq_toNat_cond (a.toBitVec ||| b.toBitVec)
  have l0 := a.toBitVec.isLt
  have l1 := b.toBitVec.isLt
  have g0 : a.toBitVec.toNat < 2 ^ 9 := by split at f0 <;> omega
  have g1 : b.toBitVec.toNat < 2 ^ 9 := by split at f1 <;> omega
  have g2 : (a.toBitVec ||| b.toBitVec).toNat < 2 ^ 9 := by
    rw [BitVec.toNat_or]; exact Nat.or_lt_two_pow g0 g1
  split at f2 <;> omega
theorem l_32 (a : Int32) : a.toInt64.toInt = a.toInt := Int32.toInt_toInt64 a
theorem l_n0 {a : Int32} (h : ¬ a.toInt = 0) : ¬ a.toInt64 = 0 := fun e => h (by
  have q : a.toInt64.toInt = (0 : Int64).toInt := congrArg _ e
  rw [l_32] at q; exact q)
theorem kw_last {v : Int32} (h : ¬ ((strB.getD 1 []).getD v.toNatClampNeg 0) = 32) : ¬ v.toInt = 167 := fun e => h (by
  have q : v.toNatClampNeg = 167 := by have := cl_nat v; omega
  rw [q]; rfl)
theorem once_or {t a : Int32} (h : ¬ ((t >>> ((a - 17) &&& 31)) &&& 1) = 1) (ha : 17 ≤ a.toInt ∧ a.toInt ≤ 18) (ht : 0 ≤ t.toInt ∧ t.toInt ≤ 3) : 0 ≤ (t ||| ((1 : Int32) <<< ((a - 17) &&& 31))).toInt ∧ (t ||| ((1 : Int32) <<< ((a - 17) &&& 31))).toInt ≤ 3 ∧ t.toInt + 1 ≤ (t ||| ((1 : Int32) <<< ((a - 17) &&& 31))).toInt := by
  have hA : a = 17 ∨ a = 18 := by
    by_cases q : a.toInt = 17
    · exact Or.inl (Int32.toInt_inj.mp (show a.toInt = (17 : Int32).toInt from q))
    · exact Or.inr (Int32.toInt_inj.mp (show a.toInt = (18 : Int32).toInt by have e : (18 : Int32).toInt = 18 := rfl; omega))
  have hT : t = 0 ∨ t = 1 ∨ t = 2 ∨ t = 3 := by
    have e0 : (0 : Int32).toInt = 0 := rfl
    have e1 : (1 : Int32).toInt = 1 := rfl
    have e2 : (2 : Int32).toInt = 2 := rfl
    have e3 : (3 : Int32).toInt = 3 := rfl
    by_cases q0 : t.toInt = 0
    · exact Or.inl (Int32.toInt_inj.mp (by omega))
    · by_cases q1 : t.toInt = 1
      · exact Or.inr (Or.inl (Int32.toInt_inj.mp (by omega)))
      · by_cases q2 : t.toInt = 2
        · exact Or.inr (Or.inr (Or.inl (Int32.toInt_inj.mp (by omega))))
        · exact Or.inr (Or.inr (Or.inr (Int32.toInt_inj.mp (by omega))))
  rcases hA with e | e <;> subst e <;> rcases hT with f | f | f | f <;> subst f <;> revert h <;> decide
/-! rows of days -/
def RowM (s : Sg) : Prop := ∀ p : Nat, 110 ≤ p → (p - 110) % 6 = 0 → (p : Int) < 110 + 6 * (s.1 1 11).toInt → ((s.1 1 p).toInt = 19 ∨ (s.1 1 p).toInt = 20 ∨ (s.1 1 p).toInt = 21 ∨ (s.1 1 p).toInt = 2428 ∨ (s.1 1 p).toInt = 2429 → 0 ≤ (s.1 1 (p + 1)).toInt ∧ (s.1 1 (p + 1)).toInt ≤ 7) ∧ ((s.1 1 p).toInt = 20 → 0 ≤ (s.1 1 (p + 3)).toInt)
theorem row_at {s : Sg} (hB : RowM s) (hR : Rg rM s) (a : Int32) (x : 110 ≤ a.toInt ∧ (a.toInt - 110) % 6 = 0 ∧ a.toInt < 110 + 6 * (s.1 1 11).toInt) : ((s.1 1 a.toNatClampNeg).toInt = 19 ∨ (s.1 1 a.toNatClampNeg).toInt = 20 ∨ (s.1 1 a.toNatClampNeg).toInt = 21 ∨ (s.1 1 a.toNatClampNeg).toInt = 2428 ∨ (s.1 1 a.toNatClampNeg).toInt = 2429 → 0 ≤ (s.1 1 ((a + 1).toNatClampNeg)).toInt ∧ (s.1 1 ((a + 1).toNatClampNeg)).toInt ≤ 7) ∧ ((s.1 1 a.toNatClampNeg).toInt = 20 → 0 ≤ (s.1 1 ((a + 3).toNatClampNeg)).toInt) := by
  have r11 : -1 ≤ (s.1 1 11).toInt ∧ (s.1 1 11).toInt ≤ 60 := hR 1 11
  have c0 := cl_nat a
  have c1 := cl_nat (a + 1)
  have c3 := cl_nat (a + 3)
  have a1 := i_add a 1
  have a3 := i_add a 3
  have e1 : (1 : Int32).toInt = 1 := rfl
  have e3 : (3 : Int32).toInt = 3 := rfl
  rw [e1] at a1
  rw [e3] at a3
  have b1 : (a + 1).toInt = a.toInt + 1 := by omega
  have b3 : (a + 3).toInt = a.toInt + 3 := by omega
  have q1 : (a + 1).toNatClampNeg = a.toNatClampNeg + 1 := by omega
  have q3 : (a + 3).toNatClampNeg = a.toNatClampNeg + 3 := by omega
  rw [q1, q3]
  exact hB a.toNatClampNeg (by omega) (by omega) (by omega)
theorem row_j2 {L : Nat} {s0 s : Sg} (hB : RowM s0) (J : JM L s0 s) (h2 : L.testBit 100 = false) (h1 : (s.1 1 11).toInt = (s0.1 1 11).toInt) : RowM s := by
  intro p h110 h6 hk
  have r11 : -1 ≤ (s.1 1 11).toInt ∧ (s.1 1 11).toInt ≤ 60 := J.1 1 11
  have f : ∀ q, 110 ≤ q → q < 480 → s.1 1 q = s0.1 1 q := fun q g1 g2 => (J.2 1 q (by rw [cdM_x, if_neg (by omega), if_neg (by omega), if_pos g2]; exact h2)).1
  rw [f p h110 (by omega), f (p + 1) (by omega) (by omega), f (p + 3) (by omega) (by omega)]
  exact hB p h110 h6 (by omega)
theorem row_j {L : Nat} {s0 s : Sg} (hB : RowM s0) (J : JM L s0 s) (h1 : L.testBit 71 = false) (h2 : L.testBit 100 = false) : RowM s := row_j2 hB J h2 (congrArg Int32.toInt (J.2 1 11 h1).1)
def gsum (s : Sg) (a : Int32) : Int32 := (s.1 1 ((16 + (3 * a)).toNatClampNeg)) + (s.1 1 (((16 + (3 * a)) + 1).toNatClampNeg))
theorem gs_fr {s s' : Sg} {L : Nat} (J : JM L s s') (hb : L &&& 19024661324255484494255249948674 = 0) (a : Int32) : gsum s' a = gsum s a := by
  unfold gsum
  rw [Int32.toInt_inj.mp (j_fa J _ hb), Int32.toInt_inj.mp (j_fa J _ hb)]
theorem gs_of {s s2 s5 : Sg} {L1 L2 : Nat} {a r1 r4 : Int32} (ha : -1 ≤ a.toInt ∧ a.toInt ≤ 99) (h1 : r1.toInt = 16 + 3 * a.toInt) (h4 : r4.toInt = 16 + 3 * a.toInt) (j1 : JM L1 s s2) (j2 : JM L2 s2 s5) (b1 : L1 &&& 19024661324255484494255249948674 = 0) (b2 : L2 &&& 19024661324255484494255249948674 = 0) : (s2.1 1 r1.toNatClampNeg) + (s5.1 1 ((r4 + 1).toNatClampNeg)) = gsum s a := by
  have m := i_mul 3 a
  have p := i_add 16 (3 * a)
  have e3 : (3 : Int32).toInt = 3 := rfl
  have e16 : (16 : Int32).toInt = 16 := rfl
  have q1 : r1 = 16 + (3 * a) := Int32.toInt_inj.mp (by rw [e3] at m; omega)
  have q4 : r4 = 16 + (3 * a) := Int32.toInt_inj.mp (by rw [e3] at m; omega)
  unfold gsum
  rw [q1, q4, Int32.toInt_inj.mp (j_fa j2 _ b2), Int32.toInt_inj.mp (j_fa j1 _ b1), Int32.toInt_inj.mp (j_fa j1 _ b1)]
theorem lg_nlt {x y : Int64} (h : ¬ lg_cmp x y < 0) : y.toInt ≤ x.toInt := by
  by_cases q : y < x
  · have := Int64.lt_iff_toInt_lt.mp q
    omega
  · by_cases r : x = y
    · rw [r]; exact Int.le_refl _
    · exact absurd (by unfold lg_cmp; rw [if_neg (show ¬ x > y from q), if_neg r]; decide) h
theorem lg_e0 {v : Int64} (h : lg_cmp v 0 = 0) : v = 0 := by
  by_cases q : v > 0
  · unfold lg_cmp at h; rw [if_pos q] at h; exact absurd h (by decide)
  · by_cases r : v = 0
    · exact r
    · unfold lg_cmp at h; rw [if_neg q, if_neg r] at h; exact absurd h (by decide)
theorem l_rem (x y : Int64) : (x - x / y * y).toInt = x.toInt.tmod y.toInt := by
  have q : (x % y).toInt = x.toInt.tmod y.toInt := Int64.toInt_mod x y
  have a := (x % y).toInt_lt
  have b := (x % y).le_toInt
  have e1 : (x - x / y * y).toInt = Int.bmod (x.toInt - (x / y * y).toInt) 18446744073709551616 := Int64.toInt_sub _ _
  have e2 : (x / y * y).toInt = Int.bmod ((x / y).toInt * y.toInt) 18446744073709551616 := Int64.toInt_mul _ _
  have e3 : (x / y).toInt = Int.bmod (x.toInt.tdiv y.toInt) 18446744073709551616 := Int64.toInt_div _ _
  have t := Int.tmod_def x.toInt y.toInt
  rw [e1, e2, e3, Int.bmod_mul_bmod, Int.sub_bmod_bmod, Int.mul_comm, ← t, bm64]
  rw [q] at a b
  omega
/-! Euclid -/
theorem na_tm (a b : Int) : (a.tmod b).natAbs = a.natAbs % b.natAbs := Int.natAbs_tmod a b
theorem half_mod {b r : Nat} (hr : 0 < r) (h : r < b) : 2 * (b % r) < b := by
  by_cases q : 2 * r ≤ b
  · have := Nat.mod_lt b hr
    omega
  · have e : b % r = b - r := by
      rw [Nat.mod_eq_sub_mod (by omega)]
      exact Nat.mod_eq_of_lt (by omega)
    omega
theorem l_ne {v : Int64} (h : ¬ v = 0) : 0 < v.toInt.natAbs := by
  have q : ¬ v.toInt = 0 := fun e => h (Int64.toInt_inj.mp (show v.toInt = (0 : Int64).toInt from e))
  omega
/-! sums of rounds -/
def sumR (s : Sg) : Nat → Int
  | 0 => 0
  | n + 1 => sumR s n + ((s.1 10 n).toInt + 2)
theorem sumR_b {s : Sg} (h : Rg rM s) (n : Nat) : 0 ≤ sumR s n ∧ sumR s n ≤ 100 * (n : Int) := by
  induction n with
  | zero => exact ⟨Int.le_refl _, by show (0 : Int) ≤ 100 * ((0 : Nat) : Int); decide⟩
  | succ n ih =>
    have q : -2 ≤ (s.1 10 n).toInt ∧ (s.1 10 n).toInt ≤ 98 := h 10 n
    have e : sumR s (n + 1) = sumR s n + ((s.1 10 n).toInt + 2) := rfl
    rw [e]
    omega
theorem sumR_o {s : Sg} {i : Nat} {v : Int32} (n : Nat) (h : n ≤ i) : sumR (pI s 10 i v) n = sumR s n := by
  induction n with
  | zero => rfl
  | succ n ih =>
    have e : sumR s (n + 1) = sumR s n + ((s.1 10 n).toInt + 2) := rfl
    have e' : sumR (pI s 10 i v) (n + 1) = sumR (pI s 10 i v) n + (((pI s 10 i v).1 10 n).toInt + 2) := rfl
    rw [e, e', ih (by omega), u_ni (by omega)]
theorem sumR_u {s : Sg} {i : Nat} {v : Int32} (n : Nat) (h : i < n) : sumR (pI s 10 i v) n = sumR s n + v.toInt - (s.1 10 i).toInt := by
  induction n with
  | zero => omega
  | succ n ih =>
    have e : sumR s (n + 1) = sumR s n + ((s.1 10 n).toInt + 2) := rfl
    have e' : sumR (pI s 10 i v) (n + 1) = sumR (pI s 10 i v) n + (((pI s 10 i v).1 10 n).toInt + 2) := rfl
    by_cases q : i = n
    · subst q
      rw [e, e', sumR_o i (Nat.le_refl _), u_eq]
      omega
    · rw [e, e', ih (by omega), u_ni (by omega)]
      omega
theorem mul_lo {a b A B : Int} (ha : A ≤ a) (hb : B ≤ b) (hA : 0 ≤ A) (hB : 0 ≤ B) : A * B ≤ a * b := Int.mul_le_mul ha hb hB (by omega)
theorem w_step {v3 v0 c d : Int64} {i j : Int} (hc : c.toInt = i) (hd : d.toInt = j) (hi : 0 ≤ i ∧ i ≤ 3) (hj : 1 ≤ j) (h0 : 0 ≤ v0.toInt ∧ v0.toInt ≤ 9999) (hp : 0 ≤ v3.toInt * (v0.toInt - i)) (hq : v3.toInt * (v0.toInt - i) < 9223372036854775808) : ((v3 * (v0 - c)) / d).toInt = (v3.toInt * (v0.toInt - i)) / j := by
  have e1 : (v0 - c).toInt = v0.toInt - i := by
    have q : (v0 - c).toInt = Int.bmod (v0.toInt - c.toInt) 18446744073709551616 := Int64.toInt_sub _ _
    rw [q, bm64]; omega
  have e2 : (v3 * (v0 - c)).toInt = v3.toInt * (v0.toInt - i) := by
    have q : (v3 * (v0 - c)).toInt = Int.bmod (v3.toInt * (v0 - c).toInt) 18446744073709551616 := Int64.toInt_mul _ _
    rw [q, e1, bm64]; omega
  have e3 : ((v3 * (v0 - c)) / d).toInt = Int.bmod ((v3 * (v0 - c)).toInt.tdiv d.toInt) 18446744073709551616 := Int64.toInt_div _ _
  rw [e3, e2, hd, Int.tdiv_eq_ediv_of_nonneg hp, bm64]
  have l1 : 0 ≤ v3.toInt * (v0.toInt - i) / j := Int.ediv_nonneg hp (by omega)
  have l2 : v3.toInt * (v0.toInt - i) / j ≤ v3.toInt * (v0.toInt - i) := Int.ediv_le_self _ hp
  omega
def WI (N x i : Int) : Prop := (i = 0 ∧ x = 1) ∨ (i = 1 ∧ x = N) ∨ (i = 2 ∧ 1 ≤ x ∧ x ≤ 100000000 ∧ (3 ≤ N → 3 ≤ x) ∧ (4 ≤ N → 6 ≤ x)) ∨ (i = 3 ∧ 1 ≤ x ∧ x ≤ 1000000000000 ∧ (4 ≤ N → 4 ≤ x)) ∨ (i = 4 ∧ 1 ≤ x)
theorem wi_step {N x i : Int} (hN : i + 1 ≤ N ∧ N ≤ 9999) (hi : 0 ≤ i ∧ i ≤ 3) (h : WI N x i) : 0 ≤ x * (N - i) ∧ x * (N - i) < 9223372036854775808 ∧ WI N (x * (N - i) / (i + 1)) (i + 1) := by
  unfold WI at h
  rcases h with ⟨e, f⟩ | ⟨e, f⟩ | ⟨e, f⟩ | ⟨e, f⟩ | ⟨e, f⟩
  · subst e; subst f
    refine ⟨by omega, by omega, Or.inr (Or.inl ⟨by omega, by omega⟩)⟩
  · subst e; subst f
    have u := mul_lo (show x ≤ 9999 by omega) (show x - 1 ≤ 9998 by omega) (by omega) (by omega)
    have l := mul_lo (show (2 : Int) ≤ x by omega) (show (1 : Int) ≤ x - 1 by omega) (by omega) (by omega)
    have l3 : 3 ≤ x → 3 * 2 ≤ x * (x - 1) := fun g => mul_lo g (show (2 : Int) ≤ x - 1 by omega) (by omega) (by omega)
    have l4 : 4 ≤ x → 4 * 3 ≤ x * (x - 1) := fun g => mul_lo g (show (3 : Int) ≤ x - 1 by omega) (by omega) (by omega)
    exact ⟨by omega, by omega, Or.inr (Or.inr (Or.inl ⟨by omega, by omega, by omega, by intro g; have := l3 g; omega, by intro g; have := l4 g; omega⟩))⟩
  · subst e
    obtain ⟨f1, f2, f3, f4⟩ := f
    have f3' := f3 (by omega)
    have u := mul_lo (show x ≤ 100000000 by omega) (show N - 2 ≤ 9997 by omega) (by omega) (by omega)
    have l := mul_lo f3' (show (1 : Int) ≤ N - 2 by omega) (by omega) (by omega)
    have l4 : 4 ≤ N → 6 * 2 ≤ x * (N - 2) := fun g => mul_lo (f4 g) (show (2 : Int) ≤ N - 2 by omega) (by omega) (by omega)
    exact ⟨by omega, by omega, Or.inr (Or.inr (Or.inr (Or.inl ⟨by omega, by omega, by omega, by intro g; have := l4 g; omega⟩)))⟩
  · subst e
    obtain ⟨f1, f2, f3⟩ := f
    have f3' := f3 (by omega)
    have u := mul_lo (show x ≤ 1000000000000 by omega) (show N - 3 ≤ 9996 by omega) (by omega) (by omega)
    have l := mul_lo f3' (show (1 : Int) ≤ N - 3 by omega) (by omega) (by omega)
    exact ⟨by omega, by omega, Or.inr (Or.inr (Or.inr (Or.inr ⟨by omega, by omega⟩)))⟩
  · omega
theorem oq_w {α : Type} {o : Option (α × Sg)} {P Q : α → Sg → Prop} (h : OQ o P) (g : ∀ r s, P r s → Q r s) : OQ o Q := by
  cases o with
  | none => exact h.elim
  | some q => exact g _ _ h
theorem i_mulx (a b : Int32) (h : -2147483648 ≤ a.toInt * b.toInt ∧ a.toInt * b.toInt ≤ 2147483647) : (a * b).toInt = a.toInt * b.toInt := by
  rw [i_mul]; omega
theorem i_addx (a b : Int32) (h : -2147483648 ≤ a.toInt + b.toInt ∧ a.toInt + b.toInt ≤ 2147483647) : (a + b).toInt = a.toInt + b.toInt := by
  rw [i_add]; omega
theorem i_subx (a b : Int32) (h : -2147483648 ≤ a.toInt - b.toInt ∧ a.toInt - b.toInt ≤ 2147483647) : (a - b).toInt = a.toInt - b.toInt := by
  rw [i_sub]; omega
