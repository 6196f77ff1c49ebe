def nmx {α β : Type} (e : α) (k : α → β) : β := k e
theorem nmx_e {α β : Type} {x : α} {k : α → Option (β × Sg)} {Q : β → Sg → Prop} (h : OQ (nmx x k) Q) : OQ (k x) Q := h
abbrev inr (i : Int32) (n : Nat) : Prop := ¬ (i < 0 ∨ n ≤ i.toNatClampNeg)
theorem rm8_ {st : List Value} (h : Nat.ble ((st.map fun v => v.category).sum) 8 = true) : room8 st := Nat.le_of_ble_eq_true h
def sel4 {α : Type} (i : Int32) (a b c d : Option (α × Sg)) : Option (α × Sg) := if i = nI 0 then a else if i = nI 1 then b else if i = nI 2 then c else d
def sel3 {α : Type} (i : Int32) (a b c : Option (α × Sg)) : Option (α × Sg) := if i = nI 0 then a else if i = nI 1 then b else c
theorem oq_sel4_0 {α : Type} {i : Int32} {a b c d : Option (α × Sg)} {Q : α → Sg → Prop} (e : i = nI 0) (h : OQ (sel4 i a b c d) Q) : OQ a Q := by subst e; exact h
theorem oq_sel4_1 {α : Type} {i : Int32} {a b c d : Option (α × Sg)} {Q : α → Sg → Prop} (e : i = nI 1) (h : OQ (sel4 i a b c d) Q) : OQ b Q := by subst e; exact h
theorem oq_sel4_2 {α : Type} {i : Int32} {a b c d : Option (α × Sg)} {Q : α → Sg → Prop} (e : i = nI 2) (h : OQ (sel4 i a b c d) Q) : OQ c Q := by subst e; exact h
theorem oq_sel4_3 {α : Type} {i : Int32} {a b c d : Option (α × Sg)} {Q : α → Sg → Prop} (e : i = nI 3) (h : OQ (sel4 i a b c d) Q) : OQ d Q := by subst e; exact h
theorem oq_sel3_0 {α : Type} {i : Int32} {a b c : Option (α × Sg)} {Q : α → Sg → Prop} (e : i = nI 0) (h : OQ (sel3 i a b c) Q) : OQ a Q := by subst e; exact h
theorem oq_sel3_1 {α : Type} {i : Int32} {a b c : Option (α × Sg)} {Q : α → Sg → Prop} (e : i = nI 1) (h : OQ (sel3 i a b c) Q) : OQ b Q := by subst e; exact h
theorem oq_sel3_2 {α : Type} {i : Int32} {a b c : Option (α × Sg)} {Q : α → Sg → Prop} (e : i = nI 2) (h : OQ (sel3 i a b c) Q) : OQ c Q := by subst e; exact h
theorem sw_c {v : Int32} {t : Nat} {r : List (Int32 × Nat)} {d : Nat} {x : Int32} {f : Nat → Prop} (h : x = v → f t) (g : ¬ x = v → sw r d x f) : sw ((v, t) :: r) d x f := ⟨h, g⟩
theorem Wp.tsw {SH : List Shp} {MT : List ME} {dd : Nat} {cd : List Ent} {rt : Option FieldType} {Q : Qt} {pc : Nat} {lv : Lv} {x : Int32} {r : List Value} {s : Sg} {d lo hi : Int} {offs : Array Int} {w : Nat} {ax : List Nat} {z : Int32} {zl : Int64} (he : lk cd pc = some (.tableswitch d lo hi offs, w, ax, z, zl)) {l : List (Int32 × Nat)} (hl : offs.toList.mapIdx (fun (k : Nat) (o : Int) => (Int32.ofInt (lo + (k : Int)), ((pc : Int) + o).toNat)) = l) (h : sw l ((pc : Int) + d).toNat x (fun t => Wp SH (WpM SH MT dd) cd rt Q t lv r s)) : Wp SH (WpM SH MT dd) cd rt Q pc lv (.int x :: r) s := by
  refine Wp.step (WpM_mono SH MT dd) ?_
  unfold stp
  rw [he]
  show sw (offs.toList.mapIdx (fun (k : Nat) (o : Int) => (Int32.ofInt (lo + (k : Int)), ((pc : Int) + o).toNat))) ((pc : Int) + d).toNat x (fun t => Wp SH (WpM SH MT dd) cd rt Q t lv r s)
  rw [hl]
  exact h
theorem Wp.tsw2 {SH : List Shp} {MT : List ME} {dd : Nat} {cq : Cq} {rt : Option FieldType} {Q : Qt} {pc : Nat} {lv : Lv} {x : Int32} {r : List Value} {s : Sg} {d lo hi : Int} {offs : Array Int} {w : Nat} {ax : List Nat} {z : Int32} {zl : Int64} {l : List (Int32 × Nat)} (ho : okc cq = true) (he : lk2 cq pc = some (.tableswitch d lo hi offs, w, ax, z, zl)) (hl : offs.toList.mapIdx (fun (k : Nat) (o : Int) => (Int32.ofInt (lo + (k : Int)), ((pc : Int) + o).toNat)) = l) (h : sw l ((pc : Int) + d).toNat x (fun t => Wp SH (WpM SH MT dd) (flat2 cq) rt Q t lv r s)) : Wp SH (WpM SH MT dd) (flat2 cq) rt Q pc lv (.int x :: r) s := Wp.tsw (lk2_ok cq ho he) hl h
theorem Wp.lsw2 {SH : List Shp} {MT : List ME} {dd : Nat} {cq : Cq} {rt : Option FieldType} {Q : Qt} {pc : Nat} {lv : Lv} {x : Int32} {r : List Value} {s : Sg} {d : Int} {ps : Array (Int × Int)} {w : Nat} {ax : List Nat} {z : Int32} {zl : Int64} {l : List (Int32 × Nat)} (ho : okc cq = true) (he : lk2 cq pc = some (.lookupswitch d ps, w, ax, z, zl)) (hl : ps.toList.map (fun q => (Int32.ofInt q.1, ((pc : Int) + q.2).toNat)) = l) (h : sw l ((pc : Int) + d).toNat x (fun t => Wp SH (WpM SH MT dd) (flat2 cq) rt Q t lv r s)) : Wp SH (WpM SH MT dd) (flat2 cq) rt Q pc lv (.int x :: r) s := by
  refine Wp.r_lsw ho he ?_
  rw [hl]
  exact h
theorem ak_C_1 : ArK SHC 1 0 900 := fun _ => rfl
theorem ak_C_14 : ArK SHC 14 1 60 := fun _ => rfl
theorem ak_C_15 : ArK SHC 15 1 60 := fun _ => rfl
theorem ak_C_16 : ArK SHC 16 1 60 := fun _ => rfl
theorem ak_C_17 : ArK SHC 17 1 60 := fun _ => rfl
theorem ak_C_18 : ArK SHC 18 0 60 := fun _ => rfl
theorem ak_C_19 : ArK SHC 19 0 60 := fun _ => rfl
theorem ak_C_20 : ArK SHC 20 0 8 := fun _ => rfl
theorem ak_C_21 : ArK SHC 21 0 8 := fun _ => rfl
theorem ak_C_22 : ArK SHC 22 0 8 := fun _ => rfl
theorem ak_C_23 : ArK SHC 23 0 3 := fun _ => rfl
theorem ak_C_28 : ArK SHC 28 1 24 := fun _ => rfl
theorem ak_C_29 : ArK SHC 29 0 24 := fun _ => rfl
theorem ak_C_30 : ArK SHC 30 0 24 := fun _ => rfl
theorem ak_C_31 : ArK SHC 31 0 8 := fun _ => rfl
theorem ak_C_32 : ArK SHC 32 0 8 := fun _ => rfl
theorem ak_C_33 : ArK SHC 33 0 8 := fun _ => rfl
theorem ak_C_34 : ArK SHC 34 0 8 := fun _ => rfl
theorem ak_C_35 : ArK SHC 35 0 4 := fun _ => rfl
theorem ak_C_36 : ArK SHC 36 0 4 := fun _ => rfl
theorem ak_C_37 : ArK SHC 37 0 4 := fun _ => rfl
theorem ak_C_38 : ArK SHC 38 0 4 := fun _ => rfl
theorem ak_C_39 : ArK SHC 39 0 4 := fun _ => rfl
theorem ak_C_40 : ArK SHC 40 0 8 := fun _ => rfl
theorem ak_C_41 : ArK SHC 41 0 8 := fun _ => rfl
theorem ak_C_42 : ArK SHC 42 0 8 := fun _ => rfl
theorem ak_C_43 : ArK SHC 43 0 8 := fun _ => rfl
theorem ak_C_44 : ArK SHC 44 0 4 := fun _ => rfl
theorem ak_C_45 : ArK SHC 45 0 60 := fun _ => rfl
theorem ak_C_46 : ArK SHC 46 0 60 := fun _ => rfl
theorem ak_C_47 : ArK SHC 47 0 60 := fun _ => rfl
theorem ak_C_48 : ArK SHC 48 0 60 := fun _ => rfl
theorem ak_C_49 : ArK SHC 49 0 60 := fun _ => rfl
theorem ak_C_50 : ArK SHC 50 0 60 := fun _ => rfl
theorem ak_C_55 : ArK SHC 55 1 24 := fun _ => rfl
theorem ak_C_56 : ArK SHC 56 0 24 := fun _ => rfl
theorem ak_C_57 : ArK SHC 57 0 24 := fun _ => rfl
theorem ak_C_58 : ArK SHC 58 0 8 := fun _ => rfl
theorem ak_C_59 : ArK SHC 59 0 8 := fun _ => rfl
theorem ak_C_60 : ArK SHC 60 0 8 := fun _ => rfl
theorem ak_C_61 : ArK SHC 61 0 8 := fun _ => rfl
theorem ak_C_62 : ArK SHC 62 0 4 := fun _ => rfl
theorem ak_C_63 : ArK SHC 63 0 4 := fun _ => rfl
theorem ak_C_64 : ArK SHC 64 0 4 := fun _ => rfl
theorem ak_C_65 : ArK SHC 65 0 4 := fun _ => rfl
theorem ak_C_66 : ArK SHC 66 0 4 := fun _ => rfl
theorem ak_C_67 : ArK SHC 67 0 8 := fun _ => rfl
theorem ak_C_68 : ArK SHC 68 0 8 := fun _ => rfl
theorem ak_C_69 : ArK SHC 69 0 8 := fun _ => rfl
theorem ak_C_70 : ArK SHC 70 0 8 := fun _ => rfl
theorem ak_C_71 : ArK SHC 71 0 4 := fun _ => rfl
theorem ak_C_72 : ArK SHC 72 0 60 := fun _ => rfl
theorem ak_C_73 : ArK SHC 73 0 60 := fun _ => rfl
theorem ak_C_74 : ArK SHC 74 0 60 := fun _ => rfl
theorem ak_C_75 : ArK SHC 75 0 60 := fun _ => rfl
theorem ak_C_76 : ArK SHC 76 0 60 := fun _ => rfl
theorem ak_C_77 : ArK SHC 77 0 60 := fun _ => rfl
theorem ak_M_1 : ArK SHM 1 0 2880 := fun _ => rfl
theorem ak_M_10 : ArK SHM 10 0 80 := fun _ => rfl
theorem ak_M_11 : ArK SHM 11 0 5 := fun _ => rfl
theorem ak_M_12 : ArK SHM 12 0 5 := fun _ => rfl
theorem ak_M_2 : ArK SHM 2 1 130 := fun _ => rfl
theorem ak_M_3 : ArK SHM 3 0 4 := fun _ => rfl
theorem ak_M_4 : ArK SHM 4 0 4 := fun _ => rfl
theorem ak_M_5 : ArK SHM 5 1 240 := fun _ => rfl
theorem ak_M_6 : ArK SHM 6 2 900 := fun _ => rfl
theorem ak_M_7 : ArK SHM 7 2 900 := fun _ => rfl
theorem ak_M_8 : ArK SHM 8 0 3 := fun _ => rfl
theorem ak_M_9 : ArK SHM 9 0 8 := fun _ => rfl
theorem fk_C_0_0 : FdK SHC 0 10 0 (0, 1) := fun _ => rfl
theorem fk_C_0_1 : FdK SHC 0 10 1 (0, 2) := fun _ => rfl
theorem fk_C_0_10 : FdK SHC 0 10 10 (0, 7) := fun _ => rfl
theorem fk_C_0_11 : FdK SHC 0 10 11 (0, 8) := fun _ => rfl
theorem fk_C_0_12 : FdK SHC 0 10 12 (0, 9) := fun _ => rfl
theorem fk_C_0_13 : FdK SHC 0 10 13 (2, 0) := fun _ => rfl
theorem fk_C_0_14 : FdK SHC 0 10 14 (2, 0) := fun _ => rfl
theorem fk_C_0_15 : FdK SHC 0 10 15 (2, 0) := fun _ => rfl
theorem fk_C_0_16 : FdK SHC 0 10 16 (1, 0) := fun _ => rfl
theorem fk_C_0_17 : FdK SHC 0 10 17 (1, 0) := fun _ => rfl
theorem fk_C_0_18 : FdK SHC 0 10 18 (2, 0) := fun _ => rfl
theorem fk_C_0_19 : FdK SHC 0 10 19 (2, 0) := fun _ => rfl
theorem fk_C_0_2 : FdK SHC 0 10 2 (0, 24) := fun _ => rfl
theorem fk_C_0_3 : FdK SHC 0 10 3 (0, 51) := fun _ => rfl
theorem fk_C_0_4 : FdK SHC 0 10 4 (0, 3) := fun _ => rfl
theorem fk_C_0_5 : FdK SHC 0 10 5 (0, 25) := fun _ => rfl
theorem fk_C_0_6 : FdK SHC 0 10 6 (0, 26) := fun _ => rfl
theorem fk_C_0_7 : FdK SHC 0 10 7 (0, 4) := fun _ => rfl
theorem fk_C_0_8 : FdK SHC 0 10 8 (0, 5) := fun _ => rfl
theorem fk_C_0_9 : FdK SHC 0 10 9 (0, 6) := fun _ => rfl
theorem fk_C_105_0 : FdK SHC 105 9 0 (0, 106) := fun _ => rfl
theorem fk_C_105_1 : FdK SHC 105 9 1 (0, 107) := fun _ => rfl
theorem fk_C_105_2 : FdK SHC 105 9 2 (0, 108) := fun _ => rfl
theorem fk_C_106_0 : FdK SHC 106 4 0 (0, 109) := fun _ => rfl
theorem fk_C_106_1 : FdK SHC 106 4 1 (0, 110) := fun _ => rfl
theorem fk_C_106_10 : FdK SHC 106 4 10 (0, 119) := fun _ => rfl
theorem fk_C_106_11 : FdK SHC 106 4 11 (0, 120) := fun _ => rfl
theorem fk_C_106_12 : FdK SHC 106 4 12 (2, 0) := fun _ => rfl
theorem fk_C_106_13 : FdK SHC 106 4 13 (2, 0) := fun _ => rfl
theorem fk_C_106_14 : FdK SHC 106 4 14 (2, 0) := fun _ => rfl
theorem fk_C_106_15 : FdK SHC 106 4 15 (2, 0) := fun _ => rfl
theorem fk_C_106_16 : FdK SHC 106 4 16 (2, 0) := fun _ => rfl
theorem fk_C_106_17 : FdK SHC 106 4 17 (2, 0) := fun _ => rfl
theorem fk_C_106_18 : FdK SHC 106 4 18 (2, 0) := fun _ => rfl
theorem fk_C_106_19 : FdK SHC 106 4 19 (3, 0) := fun _ => rfl
theorem fk_C_106_2 : FdK SHC 106 4 2 (0, 111) := fun _ => rfl
theorem fk_C_106_3 : FdK SHC 106 4 3 (0, 112) := fun _ => rfl
theorem fk_C_106_4 : FdK SHC 106 4 4 (0, 113) := fun _ => rfl
theorem fk_C_106_5 : FdK SHC 106 4 5 (0, 114) := fun _ => rfl
theorem fk_C_106_6 : FdK SHC 106 4 6 (0, 115) := fun _ => rfl
theorem fk_C_106_7 : FdK SHC 106 4 7 (0, 116) := fun _ => rfl
theorem fk_C_106_8 : FdK SHC 106 4 8 (0, 117) := fun _ => rfl
theorem fk_C_106_9 : FdK SHC 106 4 9 (0, 118) := fun _ => rfl
theorem fk_C_107_0 : FdK SHC 107 2 0 (0, 121) := fun _ => rfl
theorem fk_C_107_1 : FdK SHC 107 2 1 (0, 122) := fun _ => rfl
theorem fk_C_107_10 : FdK SHC 107 2 10 (2, 0) := fun _ => rfl
theorem fk_C_107_11 : FdK SHC 107 2 11 (2, 0) := fun _ => rfl
theorem fk_C_107_12 : FdK SHC 107 2 12 (2, 0) := fun _ => rfl
theorem fk_C_107_2 : FdK SHC 107 2 2 (0, 123) := fun _ => rfl
theorem fk_C_107_3 : FdK SHC 107 2 3 (0, 124) := fun _ => rfl
theorem fk_C_107_4 : FdK SHC 107 2 4 (0, 125) := fun _ => rfl
theorem fk_C_107_5 : FdK SHC 107 2 5 (2, 0) := fun _ => rfl
theorem fk_C_107_6 : FdK SHC 107 2 6 (2, 0) := fun _ => rfl
theorem fk_C_107_7 : FdK SHC 107 2 7 (3, 0) := fun _ => rfl
theorem fk_C_107_8 : FdK SHC 107 2 8 (2, 0) := fun _ => rfl
theorem fk_C_107_9 : FdK SHC 107 2 9 (2, 0) := fun _ => rfl
theorem fk_C_108_0 : FdK SHC 108 5 0 (0, 126) := fun _ => rfl
theorem fk_C_108_1 : FdK SHC 108 5 1 (0, 127) := fun _ => rfl
theorem fk_C_108_2 : FdK SHC 108 5 2 (0, 128) := fun _ => rfl
theorem fk_C_108_3 : FdK SHC 108 5 3 (0, 129) := fun _ => rfl
theorem fk_C_108_4 : FdK SHC 108 5 4 (0, 130) := fun _ => rfl
theorem fk_C_108_5 : FdK SHC 108 5 5 (0, 131) := fun _ => rfl
theorem fk_C_108_6 : FdK SHC 108 5 6 (3, 0) := fun _ => rfl
theorem fk_C_108_7 : FdK SHC 108 5 7 (2, 0) := fun _ => rfl
theorem fk_C_108_8 : FdK SHC 108 5 8 (2, 0) := fun _ => rfl
theorem fk_C_10_0 : FdK SHC 10 8 0 (0, 14) := fun _ => rfl
theorem fk_C_10_1 : FdK SHC 10 8 1 (3, 0) := fun _ => rfl
theorem fk_C_10_2 : FdK SHC 10 8 2 (2, 0) := fun _ => rfl
theorem fk_C_10_3 : FdK SHC 10 8 3 (2, 0) := fun _ => rfl
theorem fk_C_11_0 : FdK SHC 11 8 0 (0, 15) := fun _ => rfl
theorem fk_C_11_1 : FdK SHC 11 8 1 (3, 0) := fun _ => rfl
theorem fk_C_11_2 : FdK SHC 11 8 2 (2, 0) := fun _ => rfl
theorem fk_C_11_3 : FdK SHC 11 8 3 (2, 0) := fun _ => rfl
theorem fk_C_12_0 : FdK SHC 12 8 0 (0, 16) := fun _ => rfl
theorem fk_C_12_1 : FdK SHC 12 8 1 (3, 0) := fun _ => rfl
theorem fk_C_12_2 : FdK SHC 12 8 2 (2, 0) := fun _ => rfl
theorem fk_C_12_3 : FdK SHC 12 8 3 (2, 0) := fun _ => rfl
theorem fk_C_132_0 : FdK SHC 132 9 0 (0, 133) := fun _ => rfl
theorem fk_C_132_1 : FdK SHC 132 9 1 (0, 134) := fun _ => rfl
theorem fk_C_132_2 : FdK SHC 132 9 2 (0, 135) := fun _ => rfl
theorem fk_C_133_0 : FdK SHC 133 4 0 (0, 136) := fun _ => rfl
theorem fk_C_133_1 : FdK SHC 133 4 1 (0, 137) := fun _ => rfl
theorem fk_C_133_10 : FdK SHC 133 4 10 (0, 146) := fun _ => rfl
theorem fk_C_133_11 : FdK SHC 133 4 11 (0, 147) := fun _ => rfl
theorem fk_C_133_12 : FdK SHC 133 4 12 (2, 0) := fun _ => rfl
theorem fk_C_133_13 : FdK SHC 133 4 13 (2, 0) := fun _ => rfl
theorem fk_C_133_14 : FdK SHC 133 4 14 (2, 0) := fun _ => rfl
theorem fk_C_133_15 : FdK SHC 133 4 15 (2, 0) := fun _ => rfl
theorem fk_C_133_16 : FdK SHC 133 4 16 (2, 0) := fun _ => rfl
theorem fk_C_133_17 : FdK SHC 133 4 17 (2, 0) := fun _ => rfl
theorem fk_C_133_18 : FdK SHC 133 4 18 (2, 0) := fun _ => rfl
theorem fk_C_133_19 : FdK SHC 133 4 19 (3, 0) := fun _ => rfl
theorem fk_C_133_2 : FdK SHC 133 4 2 (0, 138) := fun _ => rfl
theorem fk_C_133_3 : FdK SHC 133 4 3 (0, 139) := fun _ => rfl
theorem fk_C_133_4 : FdK SHC 133 4 4 (0, 140) := fun _ => rfl
theorem fk_C_133_5 : FdK SHC 133 4 5 (0, 141) := fun _ => rfl
theorem fk_C_133_6 : FdK SHC 133 4 6 (0, 142) := fun _ => rfl
theorem fk_C_133_7 : FdK SHC 133 4 7 (0, 143) := fun _ => rfl
theorem fk_C_133_8 : FdK SHC 133 4 8 (0, 144) := fun _ => rfl
theorem fk_C_133_9 : FdK SHC 133 4 9 (0, 145) := fun _ => rfl
theorem fk_C_134_0 : FdK SHC 134 2 0 (0, 148) := fun _ => rfl
theorem fk_C_134_1 : FdK SHC 134 2 1 (0, 149) := fun _ => rfl
theorem fk_C_134_10 : FdK SHC 134 2 10 (2, 0) := fun _ => rfl
theorem fk_C_134_11 : FdK SHC 134 2 11 (2, 0) := fun _ => rfl
theorem fk_C_134_12 : FdK SHC 134 2 12 (2, 0) := fun _ => rfl
theorem fk_C_134_2 : FdK SHC 134 2 2 (0, 150) := fun _ => rfl
theorem fk_C_134_3 : FdK SHC 134 2 3 (0, 151) := fun _ => rfl
theorem fk_C_134_4 : FdK SHC 134 2 4 (0, 152) := fun _ => rfl
theorem fk_C_134_5 : FdK SHC 134 2 5 (2, 0) := fun _ => rfl
theorem fk_C_134_6 : FdK SHC 134 2 6 (2, 0) := fun _ => rfl
theorem fk_C_134_7 : FdK SHC 134 2 7 (3, 0) := fun _ => rfl
theorem fk_C_134_8 : FdK SHC 134 2 8 (2, 0) := fun _ => rfl
theorem fk_C_134_9 : FdK SHC 134 2 9 (2, 0) := fun _ => rfl
theorem fk_C_135_0 : FdK SHC 135 5 0 (0, 153) := fun _ => rfl
theorem fk_C_135_1 : FdK SHC 135 5 1 (0, 154) := fun _ => rfl
theorem fk_C_135_2 : FdK SHC 135 5 2 (0, 155) := fun _ => rfl
theorem fk_C_135_3 : FdK SHC 135 5 3 (0, 156) := fun _ => rfl
theorem fk_C_135_4 : FdK SHC 135 5 4 (0, 157) := fun _ => rfl
theorem fk_C_135_5 : FdK SHC 135 5 5 (0, 158) := fun _ => rfl
theorem fk_C_135_6 : FdK SHC 135 5 6 (3, 0) := fun _ => rfl
theorem fk_C_135_7 : FdK SHC 135 5 7 (2, 0) := fun _ => rfl
theorem fk_C_135_8 : FdK SHC 135 5 8 (2, 0) := fun _ => rfl
theorem fk_C_13_0 : FdK SHC 13 8 0 (0, 17) := fun _ => rfl
theorem fk_C_13_1 : FdK SHC 13 8 1 (3, 0) := fun _ => rfl
theorem fk_C_13_2 : FdK SHC 13 8 2 (2, 0) := fun _ => rfl
theorem fk_C_13_3 : FdK SHC 13 8 3 (2, 0) := fun _ => rfl
theorem fk_C_24_0 : FdK SHC 24 9 0 (0, 25) := fun _ => rfl
theorem fk_C_24_1 : FdK SHC 24 9 1 (0, 26) := fun _ => rfl
theorem fk_C_24_2 : FdK SHC 24 9 2 (0, 27) := fun _ => rfl
theorem fk_C_25_0 : FdK SHC 25 4 0 (0, 28) := fun _ => rfl
theorem fk_C_25_1 : FdK SHC 25 4 1 (0, 29) := fun _ => rfl
theorem fk_C_25_10 : FdK SHC 25 4 10 (0, 38) := fun _ => rfl
theorem fk_C_25_11 : FdK SHC 25 4 11 (0, 39) := fun _ => rfl
theorem fk_C_25_12 : FdK SHC 25 4 12 (2, 0) := fun _ => rfl
theorem fk_C_25_13 : FdK SHC 25 4 13 (2, 0) := fun _ => rfl
theorem fk_C_25_14 : FdK SHC 25 4 14 (2, 0) := fun _ => rfl
theorem fk_C_25_15 : FdK SHC 25 4 15 (2, 0) := fun _ => rfl
theorem fk_C_25_16 : FdK SHC 25 4 16 (2, 0) := fun _ => rfl
theorem fk_C_25_17 : FdK SHC 25 4 17 (2, 0) := fun _ => rfl
theorem fk_C_25_18 : FdK SHC 25 4 18 (2, 0) := fun _ => rfl
theorem fk_C_25_19 : FdK SHC 25 4 19 (3, 0) := fun _ => rfl
theorem fk_C_25_2 : FdK SHC 25 4 2 (0, 30) := fun _ => rfl
theorem fk_C_25_3 : FdK SHC 25 4 3 (0, 31) := fun _ => rfl
theorem fk_C_25_4 : FdK SHC 25 4 4 (0, 32) := fun _ => rfl
theorem fk_C_25_5 : FdK SHC 25 4 5 (0, 33) := fun _ => rfl
theorem fk_C_25_6 : FdK SHC 25 4 6 (0, 34) := fun _ => rfl
theorem fk_C_25_7 : FdK SHC 25 4 7 (0, 35) := fun _ => rfl
theorem fk_C_25_8 : FdK SHC 25 4 8 (0, 36) := fun _ => rfl
theorem fk_C_25_9 : FdK SHC 25 4 9 (0, 37) := fun _ => rfl
theorem fk_C_26_0 : FdK SHC 26 2 0 (0, 40) := fun _ => rfl
theorem fk_C_26_1 : FdK SHC 26 2 1 (0, 41) := fun _ => rfl
theorem fk_C_26_10 : FdK SHC 26 2 10 (2, 0) := fun _ => rfl
theorem fk_C_26_11 : FdK SHC 26 2 11 (2, 0) := fun _ => rfl
theorem fk_C_26_12 : FdK SHC 26 2 12 (2, 0) := fun _ => rfl
theorem fk_C_26_2 : FdK SHC 26 2 2 (0, 42) := fun _ => rfl
theorem fk_C_26_3 : FdK SHC 26 2 3 (0, 43) := fun _ => rfl
theorem fk_C_26_4 : FdK SHC 26 2 4 (0, 44) := fun _ => rfl
theorem fk_C_26_5 : FdK SHC 26 2 5 (2, 0) := fun _ => rfl
theorem fk_C_26_6 : FdK SHC 26 2 6 (2, 0) := fun _ => rfl
theorem fk_C_26_7 : FdK SHC 26 2 7 (3, 0) := fun _ => rfl
theorem fk_C_26_8 : FdK SHC 26 2 8 (2, 0) := fun _ => rfl
theorem fk_C_26_9 : FdK SHC 26 2 9 (2, 0) := fun _ => rfl
theorem fk_C_27_0 : FdK SHC 27 5 0 (0, 45) := fun _ => rfl
theorem fk_C_27_1 : FdK SHC 27 5 1 (0, 46) := fun _ => rfl
theorem fk_C_27_2 : FdK SHC 27 5 2 (0, 47) := fun _ => rfl
theorem fk_C_27_3 : FdK SHC 27 5 3 (0, 48) := fun _ => rfl
theorem fk_C_27_4 : FdK SHC 27 5 4 (0, 49) := fun _ => rfl
theorem fk_C_27_5 : FdK SHC 27 5 5 (0, 50) := fun _ => rfl
theorem fk_C_27_6 : FdK SHC 27 5 6 (3, 0) := fun _ => rfl
theorem fk_C_27_7 : FdK SHC 27 5 7 (2, 0) := fun _ => rfl
theorem fk_C_27_8 : FdK SHC 27 5 8 (2, 0) := fun _ => rfl
theorem fk_C_4_0 : FdK SHC 4 3 0 (0, 18) := fun _ => rfl
theorem fk_C_4_1 : FdK SHC 4 3 1 (3, 0) := fun _ => rfl
theorem fk_C_4_2 : FdK SHC 4 3 2 (2, 0) := fun _ => rfl
theorem fk_C_4_3 : FdK SHC 4 3 3 (2, 0) := fun _ => rfl
theorem fk_C_4_4 : FdK SHC 4 3 4 (2, 0) := fun _ => rfl
theorem fk_C_4_5 : FdK SHC 4 3 5 (2, 0) := fun _ => rfl
theorem fk_C_4_6 : FdK SHC 4 3 6 (2, 0) := fun _ => rfl
theorem fk_C_4_7 : FdK SHC 4 3 7 (2, 0) := fun _ => rfl
theorem fk_C_4_8 : FdK SHC 4 3 8 (3, 0) := fun _ => rfl
theorem fk_C_51_0 : FdK SHC 51 9 0 (0, 52) := fun _ => rfl
theorem fk_C_51_1 : FdK SHC 51 9 1 (0, 53) := fun _ => rfl
theorem fk_C_51_2 : FdK SHC 51 9 2 (0, 54) := fun _ => rfl
theorem fk_C_52_0 : FdK SHC 52 4 0 (0, 55) := fun _ => rfl
theorem fk_C_52_1 : FdK SHC 52 4 1 (0, 56) := fun _ => rfl
theorem fk_C_52_10 : FdK SHC 52 4 10 (0, 65) := fun _ => rfl
theorem fk_C_52_11 : FdK SHC 52 4 11 (0, 66) := fun _ => rfl
theorem fk_C_52_12 : FdK SHC 52 4 12 (2, 0) := fun _ => rfl
theorem fk_C_52_13 : FdK SHC 52 4 13 (2, 0) := fun _ => rfl
theorem fk_C_52_14 : FdK SHC 52 4 14 (2, 0) := fun _ => rfl
theorem fk_C_52_15 : FdK SHC 52 4 15 (2, 0) := fun _ => rfl
theorem fk_C_52_16 : FdK SHC 52 4 16 (2, 0) := fun _ => rfl
theorem fk_C_52_17 : FdK SHC 52 4 17 (2, 0) := fun _ => rfl
theorem fk_C_52_18 : FdK SHC 52 4 18 (2, 0) := fun _ => rfl
theorem fk_C_52_19 : FdK SHC 52 4 19 (3, 0) := fun _ => rfl
theorem fk_C_52_2 : FdK SHC 52 4 2 (0, 57) := fun _ => rfl
theorem fk_C_52_3 : FdK SHC 52 4 3 (0, 58) := fun _ => rfl
theorem fk_C_52_4 : FdK SHC 52 4 4 (0, 59) := fun _ => rfl
theorem fk_C_52_5 : FdK SHC 52 4 5 (0, 60) := fun _ => rfl
theorem fk_C_52_6 : FdK SHC 52 4 6 (0, 61) := fun _ => rfl
theorem fk_C_52_7 : FdK SHC 52 4 7 (0, 62) := fun _ => rfl
theorem fk_C_52_8 : FdK SHC 52 4 8 (0, 63) := fun _ => rfl
theorem fk_C_52_9 : FdK SHC 52 4 9 (0, 64) := fun _ => rfl
theorem fk_C_53_0 : FdK SHC 53 2 0 (0, 67) := fun _ => rfl
theorem fk_C_53_1 : FdK SHC 53 2 1 (0, 68) := fun _ => rfl
theorem fk_C_53_10 : FdK SHC 53 2 10 (2, 0) := fun _ => rfl
theorem fk_C_53_11 : FdK SHC 53 2 11 (2, 0) := fun _ => rfl
theorem fk_C_53_12 : FdK SHC 53 2 12 (2, 0) := fun _ => rfl
theorem fk_C_53_2 : FdK SHC 53 2 2 (0, 69) := fun _ => rfl
theorem fk_C_53_3 : FdK SHC 53 2 3 (0, 70) := fun _ => rfl
theorem fk_C_53_4 : FdK SHC 53 2 4 (0, 71) := fun _ => rfl
theorem fk_C_53_5 : FdK SHC 53 2 5 (2, 0) := fun _ => rfl
theorem fk_C_53_6 : FdK SHC 53 2 6 (2, 0) := fun _ => rfl
theorem fk_C_53_7 : FdK SHC 53 2 7 (3, 0) := fun _ => rfl
theorem fk_C_53_8 : FdK SHC 53 2 8 (2, 0) := fun _ => rfl
theorem fk_C_53_9 : FdK SHC 53 2 9 (2, 0) := fun _ => rfl
theorem fk_C_54_0 : FdK SHC 54 5 0 (0, 72) := fun _ => rfl
theorem fk_C_54_1 : FdK SHC 54 5 1 (0, 73) := fun _ => rfl
theorem fk_C_54_2 : FdK SHC 54 5 2 (0, 74) := fun _ => rfl
theorem fk_C_54_3 : FdK SHC 54 5 3 (0, 75) := fun _ => rfl
theorem fk_C_54_4 : FdK SHC 54 5 4 (0, 76) := fun _ => rfl
theorem fk_C_54_5 : FdK SHC 54 5 5 (0, 77) := fun _ => rfl
theorem fk_C_54_6 : FdK SHC 54 5 6 (3, 0) := fun _ => rfl
theorem fk_C_54_7 : FdK SHC 54 5 7 (2, 0) := fun _ => rfl
theorem fk_C_54_8 : FdK SHC 54 5 8 (2, 0) := fun _ => rfl
theorem fk_C_5_0 : FdK SHC 5 3 0 (0, 19) := fun _ => rfl
theorem fk_C_5_1 : FdK SHC 5 3 1 (3, 0) := fun _ => rfl
theorem fk_C_5_2 : FdK SHC 5 3 2 (2, 0) := fun _ => rfl
theorem fk_C_5_3 : FdK SHC 5 3 3 (2, 0) := fun _ => rfl
theorem fk_C_5_4 : FdK SHC 5 3 4 (2, 0) := fun _ => rfl
theorem fk_C_5_5 : FdK SHC 5 3 5 (2, 0) := fun _ => rfl
theorem fk_C_5_6 : FdK SHC 5 3 6 (2, 0) := fun _ => rfl
theorem fk_C_5_7 : FdK SHC 5 3 7 (2, 0) := fun _ => rfl
theorem fk_C_5_8 : FdK SHC 5 3 8 (3, 0) := fun _ => rfl
theorem fk_C_6_0 : FdK SHC 6 0 0 (0, 20) := fun _ => rfl
theorem fk_C_6_1 : FdK SHC 6 0 1 (0, 21) := fun _ => rfl
theorem fk_C_6_2 : FdK SHC 6 0 2 (0, 22) := fun _ => rfl
theorem fk_C_6_3 : FdK SHC 6 0 3 (2, 0) := fun _ => rfl
theorem fk_C_6_4 : FdK SHC 6 0 4 (2, 0) := fun _ => rfl
theorem fk_C_78_0 : FdK SHC 78 9 0 (0, 79) := fun _ => rfl
theorem fk_C_78_1 : FdK SHC 78 9 1 (0, 80) := fun _ => rfl
theorem fk_C_78_2 : FdK SHC 78 9 2 (0, 81) := fun _ => rfl
theorem fk_C_79_0 : FdK SHC 79 4 0 (0, 82) := fun _ => rfl
theorem fk_C_79_1 : FdK SHC 79 4 1 (0, 83) := fun _ => rfl
theorem fk_C_79_10 : FdK SHC 79 4 10 (0, 92) := fun _ => rfl
theorem fk_C_79_11 : FdK SHC 79 4 11 (0, 93) := fun _ => rfl
theorem fk_C_79_12 : FdK SHC 79 4 12 (2, 0) := fun _ => rfl
theorem fk_C_79_13 : FdK SHC 79 4 13 (2, 0) := fun _ => rfl
theorem fk_C_79_14 : FdK SHC 79 4 14 (2, 0) := fun _ => rfl
theorem fk_C_79_15 : FdK SHC 79 4 15 (2, 0) := fun _ => rfl
theorem fk_C_79_16 : FdK SHC 79 4 16 (2, 0) := fun _ => rfl
theorem fk_C_79_17 : FdK SHC 79 4 17 (2, 0) := fun _ => rfl
theorem fk_C_79_18 : FdK SHC 79 4 18 (2, 0) := fun _ => rfl
theorem fk_C_79_19 : FdK SHC 79 4 19 (3, 0) := fun _ => rfl
theorem fk_C_79_2 : FdK SHC 79 4 2 (0, 84) := fun _ => rfl
theorem fk_C_79_3 : FdK SHC 79 4 3 (0, 85) := fun _ => rfl
theorem fk_C_79_4 : FdK SHC 79 4 4 (0, 86) := fun _ => rfl
theorem fk_C_79_5 : FdK SHC 79 4 5 (0, 87) := fun _ => rfl
theorem fk_C_79_6 : FdK SHC 79 4 6 (0, 88) := fun _ => rfl
theorem fk_C_79_7 : FdK SHC 79 4 7 (0, 89) := fun _ => rfl
theorem fk_C_79_8 : FdK SHC 79 4 8 (0, 90) := fun _ => rfl
theorem fk_C_79_9 : FdK SHC 79 4 9 (0, 91) := fun _ => rfl
theorem fk_C_7_0 : FdK SHC 7 7 0 (0, 1) := fun _ => rfl
theorem fk_C_7_1 : FdK SHC 7 7 1 (2, 0) := fun _ => rfl
theorem fk_C_7_2 : FdK SHC 7 7 2 (2, 0) := fun _ => rfl
theorem fk_C_7_3 : FdK SHC 7 7 3 (2, 0) := fun _ => rfl
theorem fk_C_7_4 : FdK SHC 7 7 4 (2, 0) := fun _ => rfl
theorem fk_C_7_5 : FdK SHC 7 7 5 (2, 0) := fun _ => rfl
theorem fk_C_7_6 : FdK SHC 7 7 6 (1, 0) := fun _ => rfl
theorem fk_C_7_7 : FdK SHC 7 7 7 (2, 0) := fun _ => rfl
theorem fk_C_7_8 : FdK SHC 7 7 8 (2, 0) := fun _ => rfl
theorem fk_C_7_9 : FdK SHC 7 7 9 (2, 0) := fun _ => rfl
theorem fk_C_80_0 : FdK SHC 80 2 0 (0, 94) := fun _ => rfl
theorem fk_C_80_1 : FdK SHC 80 2 1 (0, 95) := fun _ => rfl
theorem fk_C_80_10 : FdK SHC 80 2 10 (2, 0) := fun _ => rfl
theorem fk_C_80_11 : FdK SHC 80 2 11 (2, 0) := fun _ => rfl
theorem fk_C_80_12 : FdK SHC 80 2 12 (2, 0) := fun _ => rfl
theorem fk_C_80_2 : FdK SHC 80 2 2 (0, 96) := fun _ => rfl
theorem fk_C_80_3 : FdK SHC 80 2 3 (0, 97) := fun _ => rfl
theorem fk_C_80_4 : FdK SHC 80 2 4 (0, 98) := fun _ => rfl
theorem fk_C_80_5 : FdK SHC 80 2 5 (2, 0) := fun _ => rfl
theorem fk_C_80_6 : FdK SHC 80 2 6 (2, 0) := fun _ => rfl
theorem fk_C_80_7 : FdK SHC 80 2 7 (3, 0) := fun _ => rfl
theorem fk_C_80_8 : FdK SHC 80 2 8 (2, 0) := fun _ => rfl
theorem fk_C_80_9 : FdK SHC 80 2 9 (2, 0) := fun _ => rfl
theorem fk_C_81_0 : FdK SHC 81 5 0 (0, 99) := fun _ => rfl
theorem fk_C_81_1 : FdK SHC 81 5 1 (0, 100) := fun _ => rfl
theorem fk_C_81_2 : FdK SHC 81 5 2 (0, 101) := fun _ => rfl
theorem fk_C_81_3 : FdK SHC 81 5 3 (0, 102) := fun _ => rfl
theorem fk_C_81_4 : FdK SHC 81 5 4 (0, 103) := fun _ => rfl
theorem fk_C_81_5 : FdK SHC 81 5 5 (0, 104) := fun _ => rfl
theorem fk_C_81_6 : FdK SHC 81 5 6 (3, 0) := fun _ => rfl
theorem fk_C_81_7 : FdK SHC 81 5 7 (2, 0) := fun _ => rfl
theorem fk_C_81_8 : FdK SHC 81 5 8 (2, 0) := fun _ => rfl
theorem fk_C_8_0 : FdK SHC 8 6 0 (0, 7) := fun _ => rfl
theorem fk_C_8_1 : FdK SHC 8 6 1 (0, 51) := fun _ => rfl
theorem fk_C_8_2 : FdK SHC 8 6 2 (0, 52) := fun _ => rfl
theorem fk_C_8_3 : FdK SHC 8 6 3 (3, 0) := fun _ => rfl
theorem fk_C_8_4 : FdK SHC 8 6 4 (3, 0) := fun _ => rfl
theorem fk_C_9_0 : FdK SHC 9 1 0 (0, 7) := fun _ => rfl
theorem fk_C_9_1 : FdK SHC 9 1 1 (0, 25) := fun _ => rfl
theorem fk_C_9_2 : FdK SHC 9 1 2 (0, 54) := fun _ => rfl
theorem fk_C_9_3 : FdK SHC 9 1 3 (0, 23) := fun _ => rfl
theorem fk_C_9_4 : FdK SHC 9 1 4 (2, 0) := fun _ => rfl
theorem fk_M_0_0 : FdK SHM 0 11 0 (0, 1) := fun _ => rfl
theorem fk_M_0_1 : FdK SHM 0 11 1 (0, 2) := fun _ => rfl
theorem fk_M_0_10 : FdK SHM 0 11 10 (2, 0) := fun _ => rfl
theorem fk_M_0_11 : FdK SHM 0 11 11 (2, 0) := fun _ => rfl
theorem fk_M_0_12 : FdK SHM 0 11 12 (2, 0) := fun _ => rfl
theorem fk_M_0_13 : FdK SHM 0 11 13 (2, 0) := fun _ => rfl
theorem fk_M_0_14 : FdK SHM 0 11 14 (2, 0) := fun _ => rfl
theorem fk_M_0_15 : FdK SHM 0 11 15 (2, 0) := fun _ => rfl
theorem fk_M_0_16 : FdK SHM 0 11 16 (2, 0) := fun _ => rfl
theorem fk_M_0_17 : FdK SHM 0 11 17 (2, 0) := fun _ => rfl
theorem fk_M_0_18 : FdK SHM 0 11 18 (2, 0) := fun _ => rfl
theorem fk_M_0_19 : FdK SHM 0 11 19 (2, 0) := fun _ => rfl
theorem fk_M_0_2 : FdK SHM 0 11 2 (2, 0) := fun _ => rfl
theorem fk_M_0_20 : FdK SHM 0 11 20 (2, 0) := fun _ => rfl
theorem fk_M_0_21 : FdK SHM 0 11 21 (0, 8) := fun _ => rfl
theorem fk_M_0_22 : FdK SHM 0 11 22 (2, 0) := fun _ => rfl
theorem fk_M_0_23 : FdK SHM 0 11 23 (2, 0) := fun _ => rfl
theorem fk_M_0_24 : FdK SHM 0 11 24 (2, 0) := fun _ => rfl
theorem fk_M_0_25 : FdK SHM 0 11 25 (2, 0) := fun _ => rfl
theorem fk_M_0_26 : FdK SHM 0 11 26 (2, 0) := fun _ => rfl
theorem fk_M_0_27 : FdK SHM 0 11 27 (2, 0) := fun _ => rfl
theorem fk_M_0_28 : FdK SHM 0 11 28 (0, 9) := fun _ => rfl
theorem fk_M_0_29 : FdK SHM 0 11 29 (2, 0) := fun _ => rfl
theorem fk_M_0_3 : FdK SHM 0 11 3 (1, 0) := fun _ => rfl
theorem fk_M_0_30 : FdK SHM 0 11 30 (2, 0) := fun _ => rfl
theorem fk_M_0_31 : FdK SHM 0 11 31 (0, 10) := fun _ => rfl
theorem fk_M_0_32 : FdK SHM 0 11 32 (0, 11) := fun _ => rfl
theorem fk_M_0_33 : FdK SHM 0 11 33 (0, 12) := fun _ => rfl
theorem fk_M_0_34 : FdK SHM 0 11 34 (3, 0) := fun _ => rfl
theorem fk_M_0_35 : FdK SHM 0 11 35 (2, 0) := fun _ => rfl
theorem fk_M_0_4 : FdK SHM 0 11 4 (1, 0) := fun _ => rfl
theorem fk_M_0_5 : FdK SHM 0 11 5 (0, 3) := fun _ => rfl
theorem fk_M_0_6 : FdK SHM 0 11 6 (0, 4) := fun _ => rfl
theorem fk_M_0_7 : FdK SHM 0 11 7 (0, 5) := fun _ => rfl
theorem fk_M_0_8 : FdK SHM 0 11 8 (0, 6) := fun _ => rfl
theorem fk_M_0_9 : FdK SHM 0 11 9 (0, 7) := fun _ => rfl
theorem lk_C_1 : AlK SHC 1 900 := fun _ => rfl
theorem lk_C_100 : AlK SHC 100 60 := fun _ => rfl
theorem lk_C_101 : AlK SHC 101 60 := fun _ => rfl
theorem lk_C_102 : AlK SHC 102 60 := fun _ => rfl
theorem lk_C_103 : AlK SHC 103 60 := fun _ => rfl
theorem lk_C_104 : AlK SHC 104 60 := fun _ => rfl
theorem lk_C_110 : AlK SHC 110 24 := fun _ => rfl
theorem lk_C_111 : AlK SHC 111 24 := fun _ => rfl
theorem lk_C_112 : AlK SHC 112 8 := fun _ => rfl
theorem lk_C_113 : AlK SHC 113 8 := fun _ => rfl
theorem lk_C_114 : AlK SHC 114 8 := fun _ => rfl
theorem lk_C_115 : AlK SHC 115 8 := fun _ => rfl
theorem lk_C_116 : AlK SHC 116 4 := fun _ => rfl
theorem lk_C_117 : AlK SHC 117 4 := fun _ => rfl
theorem lk_C_118 : AlK SHC 118 4 := fun _ => rfl
theorem lk_C_119 : AlK SHC 119 4 := fun _ => rfl
theorem lk_C_120 : AlK SHC 120 4 := fun _ => rfl
theorem lk_C_121 : AlK SHC 121 8 := fun _ => rfl
theorem lk_C_122 : AlK SHC 122 8 := fun _ => rfl
theorem lk_C_123 : AlK SHC 123 8 := fun _ => rfl
theorem lk_C_124 : AlK SHC 124 8 := fun _ => rfl
theorem lk_C_125 : AlK SHC 125 4 := fun _ => rfl
theorem lk_C_126 : AlK SHC 126 60 := fun _ => rfl
theorem lk_C_127 : AlK SHC 127 60 := fun _ => rfl
theorem lk_C_128 : AlK SHC 128 60 := fun _ => rfl
theorem lk_C_129 : AlK SHC 129 60 := fun _ => rfl
theorem lk_C_130 : AlK SHC 130 60 := fun _ => rfl
theorem lk_C_131 : AlK SHC 131 60 := fun _ => rfl
theorem lk_C_137 : AlK SHC 137 24 := fun _ => rfl
theorem lk_C_138 : AlK SHC 138 24 := fun _ => rfl
theorem lk_C_139 : AlK SHC 139 8 := fun _ => rfl
theorem lk_C_140 : AlK SHC 140 8 := fun _ => rfl
theorem lk_C_141 : AlK SHC 141 8 := fun _ => rfl
theorem lk_C_142 : AlK SHC 142 8 := fun _ => rfl
theorem lk_C_143 : AlK SHC 143 4 := fun _ => rfl
theorem lk_C_144 : AlK SHC 144 4 := fun _ => rfl
theorem lk_C_145 : AlK SHC 145 4 := fun _ => rfl
theorem lk_C_146 : AlK SHC 146 4 := fun _ => rfl
theorem lk_C_147 : AlK SHC 147 4 := fun _ => rfl
theorem lk_C_148 : AlK SHC 148 8 := fun _ => rfl
theorem lk_C_149 : AlK SHC 149 8 := fun _ => rfl
theorem lk_C_150 : AlK SHC 150 8 := fun _ => rfl
theorem lk_C_151 : AlK SHC 151 8 := fun _ => rfl
theorem lk_C_152 : AlK SHC 152 4 := fun _ => rfl
theorem lk_C_153 : AlK SHC 153 60 := fun _ => rfl
theorem lk_C_154 : AlK SHC 154 60 := fun _ => rfl
theorem lk_C_155 : AlK SHC 155 60 := fun _ => rfl
theorem lk_C_156 : AlK SHC 156 60 := fun _ => rfl
theorem lk_C_157 : AlK SHC 157 60 := fun _ => rfl
theorem lk_C_158 : AlK SHC 158 60 := fun _ => rfl
theorem lk_C_20 : AlK SHC 20 8 := fun _ => rfl
theorem lk_C_29 : AlK SHC 29 24 := fun _ => rfl
theorem lk_C_30 : AlK SHC 30 24 := fun _ => rfl
theorem lk_C_31 : AlK SHC 31 8 := fun _ => rfl
theorem lk_C_32 : AlK SHC 32 8 := fun _ => rfl
theorem lk_C_33 : AlK SHC 33 8 := fun _ => rfl
theorem lk_C_34 : AlK SHC 34 8 := fun _ => rfl
theorem lk_C_35 : AlK SHC 35 4 := fun _ => rfl
theorem lk_C_36 : AlK SHC 36 4 := fun _ => rfl
theorem lk_C_37 : AlK SHC 37 4 := fun _ => rfl
theorem lk_C_38 : AlK SHC 38 4 := fun _ => rfl
theorem lk_C_39 : AlK SHC 39 4 := fun _ => rfl
theorem lk_C_40 : AlK SHC 40 8 := fun _ => rfl
theorem lk_C_41 : AlK SHC 41 8 := fun _ => rfl
theorem lk_C_42 : AlK SHC 42 8 := fun _ => rfl
theorem lk_C_43 : AlK SHC 43 8 := fun _ => rfl
theorem lk_C_44 : AlK SHC 44 4 := fun _ => rfl
theorem lk_C_45 : AlK SHC 45 60 := fun _ => rfl
theorem lk_C_46 : AlK SHC 46 60 := fun _ => rfl
theorem lk_C_47 : AlK SHC 47 60 := fun _ => rfl
theorem lk_C_48 : AlK SHC 48 60 := fun _ => rfl
theorem lk_C_49 : AlK SHC 49 60 := fun _ => rfl
theorem lk_C_50 : AlK SHC 50 60 := fun _ => rfl
theorem lk_C_56 : AlK SHC 56 24 := fun _ => rfl
theorem lk_C_57 : AlK SHC 57 24 := fun _ => rfl
theorem lk_C_58 : AlK SHC 58 8 := fun _ => rfl
theorem lk_C_59 : AlK SHC 59 8 := fun _ => rfl
theorem lk_C_60 : AlK SHC 60 8 := fun _ => rfl
theorem lk_C_61 : AlK SHC 61 8 := fun _ => rfl
theorem lk_C_62 : AlK SHC 62 4 := fun _ => rfl
theorem lk_C_63 : AlK SHC 63 4 := fun _ => rfl
theorem lk_C_64 : AlK SHC 64 4 := fun _ => rfl
theorem lk_C_65 : AlK SHC 65 4 := fun _ => rfl
theorem lk_C_66 : AlK SHC 66 4 := fun _ => rfl
theorem lk_C_67 : AlK SHC 67 8 := fun _ => rfl
theorem lk_C_68 : AlK SHC 68 8 := fun _ => rfl
theorem lk_C_69 : AlK SHC 69 8 := fun _ => rfl
theorem lk_C_70 : AlK SHC 70 8 := fun _ => rfl
theorem lk_C_71 : AlK SHC 71 4 := fun _ => rfl
theorem lk_C_72 : AlK SHC 72 60 := fun _ => rfl
theorem lk_C_73 : AlK SHC 73 60 := fun _ => rfl
theorem lk_C_74 : AlK SHC 74 60 := fun _ => rfl
theorem lk_C_75 : AlK SHC 75 60 := fun _ => rfl
theorem lk_C_76 : AlK SHC 76 60 := fun _ => rfl
theorem lk_C_77 : AlK SHC 77 60 := fun _ => rfl
theorem lk_C_83 : AlK SHC 83 24 := fun _ => rfl
theorem lk_C_84 : AlK SHC 84 24 := fun _ => rfl
theorem lk_C_85 : AlK SHC 85 8 := fun _ => rfl
theorem lk_C_86 : AlK SHC 86 8 := fun _ => rfl
theorem lk_C_87 : AlK SHC 87 8 := fun _ => rfl
theorem lk_C_88 : AlK SHC 88 8 := fun _ => rfl
theorem lk_C_89 : AlK SHC 89 4 := fun _ => rfl
theorem lk_C_90 : AlK SHC 90 4 := fun _ => rfl
theorem lk_C_91 : AlK SHC 91 4 := fun _ => rfl
theorem lk_C_92 : AlK SHC 92 4 := fun _ => rfl
theorem lk_C_93 : AlK SHC 93 4 := fun _ => rfl
theorem lk_C_94 : AlK SHC 94 8 := fun _ => rfl
theorem lk_C_95 : AlK SHC 95 8 := fun _ => rfl
theorem lk_C_96 : AlK SHC 96 8 := fun _ => rfl
theorem lk_C_97 : AlK SHC 97 8 := fun _ => rfl
theorem lk_C_98 : AlK SHC 98 4 := fun _ => rfl
theorem lk_C_99 : AlK SHC 99 60 := fun _ => rfl
