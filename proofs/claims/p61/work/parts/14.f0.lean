def nmx {α β : Type} (e : α) (k : α → β) : β := k e
theorem nmx_e {α β : Type} {x : α} {k : α → Option (β × Sg)} {Q : β → Sg → Prop} (h : OQ (nmx x k) Q) : OQ (k x) Q := h
abbrev inr (i : Int32) (n : Nat) : Prop := ¬ (i < 0 ∨ n ≤ i.toNatClampNeg)
theorem rm8_ {st : List Value} (h : Nat.ble ((st.map fun v => v.category).sum) 8 = true) : room8 st := Nat.le_of_ble_eq_true h
def sel4 {α : Type} (i : Int32) (a b c d : Option (α × Sg)) : Option (α × Sg) := if i = nI 0 then a else if i = nI 1 then b else if i = nI 2 then c else d
def sel3 {α : Type} (i : Int32) (a b c : Option (α × Sg)) : Option (α × Sg) := if i = nI 0 then a else if i = nI 1 then b else c
theorem oq_sel4_0 {α : Type} {i : Int32} {a b c d : Option (α × Sg)} {Q : α → Sg → Prop} (e : i = nI 0) (h : OQ (sel4 i a b c d) Q) : OQ a Q := by subst e; exact h
theorem oq_sel4_1 {α : Type} {i : Int32} {a b c d : Option (α × Sg)} {Q : α → Sg → Prop} (e : i = nI 1) (h : OQ (sel4 i a b c d) Q) : OQ b Q := by subst e; exact h
theorem oq_sel4_2 {α : Type} {i : Int32} {a b c d : Option (α × Sg)} {Q : α → Sg → Prop} (e : i = nI 2) (h : OQ (sel4 i a b c d) Q) : OQ c Q := by subst e; exact h
theorem oq_sel4_3 {α : Type} {i : Int32} {a b c d : Option (α × Sg)} {Q : α → Sg → Prop} (e : i = nI 3) (h : OQ (sel4 i a b c d) Q) : OQ d Q := by subst e; exact h
theorem oq_sel3_0 {α : Type} {i : Int32} {a b c : Option (α × Sg)} {Q : α → Sg → Prop} (e : i = nI 0) (h : OQ (sel3 i a b c) Q) : OQ a Q := by subst e; exact h
theorem oq_sel3_1 {α : Type} {i : Int32} {a b c : Option (α × Sg)} {Q : α → Sg → Prop} (e : i = nI 1) (h : OQ (sel3 i a b c) Q) : OQ b Q := by subst e; exact h
theorem oq_sel3_2 {α : Type} {i : Int32} {a b c : Option (α × Sg)} {Q : α → Sg → Prop} (e : i = nI 2) (h : OQ (sel3 i a b c) Q) : OQ c Q := by subst e; exact h
