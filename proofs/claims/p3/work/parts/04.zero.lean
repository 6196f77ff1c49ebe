def z0 : Nat → Int32 := fun _ => 0
def z1 : Nat → Int64 := fun _ => 0
theorem upd_z0 (k : Nat) : upd z0 k 0 = z0 := by
  funext j; unfold upd z0; split <;> rfl
theorem updl_z1 (k : Nat) : vp_updL z1 k 0 = z1 := by
  funext j; unfold vp_updL z1; split <;> rfl
theorem cpy_z0 (a b n : Nat) : va_cpy z0 z0 a b n = z0 := by
  funext j; unfold va_cpy z0; split <;> rfl
theorem cpy_z1 (a b n : Nat) : va_cpy z1 z1 a b n = z1 := by
  funext j; unfold va_cpy z1; split <;> rfl
theorem tyl_I {D : va_G} {kc : Nat → ClassId} {s : State} {cA : ClassId} (h : va_K D vwCl (tyl kc ++ [(cA, .int)]) s) : cA = kc 0 := Option.some.inj ((h.2 5 _ rfl).2.symm.trans (h.2 0 _ rfl).2)
theorem tyl_J {D : va_G} {kc : Nat → ClassId} {s : State} {cA : ClassId} (h : va_K D vwCl (tyl kc ++ [(cA, .long)]) s) : cA = kc 1 := Option.some.inj ((h.2 5 _ rfl).2.symm.trans (h.2 1 _ rfl).2)
theorem tyl_B {D : va_G} {kc : Nat → ClassId} {s : State} {cA : ClassId} (h : va_K D vwCl (tyl kc ++ [(cA, .byte)]) s) : cA = kc 2 := Option.some.inj ((h.2 5 _ rfl).2.symm.trans (h.2 2 _ rfl).2)
theorem tyl_T {D : va_G} {kc : Nat → ClassId} {s : State} {cA : ClassId} (h : va_K D vwCl (tyl kc ++ [(cA, .object RX8)]) s) : cA = kc 3 := by
  obtain ⟨_, _, -, -, -, h1⟩ := (h.2 5 _ rfl).2
  obtain ⟨_, _, -, -, -, h2⟩ := (h.2 3 _ rfl).2
  exact Option.some.inj (h1.symm.trans h2)
theorem tyl_W {D : va_G} {kc : Nat → ClassId} {s : State} {cA : ClassId} (h : va_K D vwCl (tyl kc ++ [(cA, .object RX10)]) s) : cA = kc 4 := by
  obtain ⟨_, _, -, -, -, h1⟩ := (h.2 5 _ rfl).2
  obtain ⟨_, _, -, -, -, h2⟩ := (h.2 4 _ rfl).2
  exact Option.some.inj (h1.symm.trans h2)
theorem goodIn_nil {big : List Cond} : GoodIn big [] := fun _ h => absurd h List.not_mem_nil
theorem gdX0 : wsX00.all goodWord = true := by decide +kernel
theorem gdX1 : wsX10.all goodWord = true := by decide +kernel
theorem gdX2 : wsX20.all goodWord = true := by decide +kernel
theorem gdX3 : wsX30.all goodWord = true := by decide +kernel
theorem gdX4 : wsX40.all goodWord = true := by decide +kernel
theorem gdX5 : wsX50.all goodWord = true := by decide +kernel
theorem gdX6 : wsX60.all goodWord = true := by decide +kernel
theorem gdX7 : wsX70.all goodWord = true := by decide +kernel
theorem gdX8 : wsX80.all goodWord = true := by decide +kernel
theorem gdX10 : wsX100.all goodWord = true := by decide +kernel
theorem gdX11 : wsX110.all goodWord = true := by decide +kernel
theorem gdX12 : wsX120.all goodWord = true := by decide +kernel
/-- why a place can't be: 1 no tray's number, 2 a tray that is not there -/
def wNP (t : Int32) : Int32 := if bW t 0 3 = 0 then 1 else 2
theorem wNP_ne (t : Int32) : ¬ wNP t = 0 := by
  unfold wNP; split <;> decide
theorem bW_ne {v a b : Int32} (h : ¬ bW v a b = 0) : bW v a b = 1 := (bW_01 v a b).resolve_left h
theorem tr_cases (t : Int32) : bW t 0 3 = 0 ∨ t = 0 ∨ t = 1 ∨ t = 2 ∨ t = 3 := by
  by_cases h : 0 ≤ t ∧ t ≤ 3
  · right
    have h1 := Int32.le_iff_toInt_le.mp h.1
    have h2 := Int32.le_iff_toInt_le.mp h.2
    have e0 : (0 : Int32).toInt = 0 := rfl
    have e3 : (3 : Int32).toInt = 3 := rfl
    have e1 : (1 : Int32).toInt = 1 := rfl
    have e2 : (2 : Int32).toInt = 2 := rfl
    rw [e0] at h1; rw [e3] at h2
    have : t.toInt = 0 ∨ t.toInt = 1 ∨ t.toInt = 2 ∨ t.toInt = 3 := by omega
    rcases this with q | q | q | q
    · exact Or.inl (Int32.toInt_inj.mp (q.trans e0.symm))
    · exact Or.inr (Or.inl (Int32.toInt_inj.mp (q.trans e1.symm)))
    · exact Or.inr (Or.inr (Or.inl (Int32.toInt_inj.mp (q.trans e2.symm))))
    · exact Or.inr (Or.inr (Or.inr (Int32.toInt_inj.mp (q.trans e3.symm))))
  · left; exact if_neg h
