/-! names on both sides -/
def offN (q : Nat) : Nat := if q = 0 then 0 else if q = 1 then 8 else if q = 2 then 16 else 20
def codN (q : Nat) : Int32 := if q = 0 then 100 else if q = 1 then 104 else if q = 2 then 108 else 112
theorem cod_i {q q' : Nat} (h : q < 4) (h' : q' < 4) (e : codN q = codN q') : q = q' := by
  have a : q = 0 ∨ q = 1 ∨ q = 2 ∨ q = 3 := by omega
  have b : q' = 0 ∨ q' = 1 ∨ q' = 2 ∨ q' = 3 := by omega
  rcases a with a | a | a | a <;> rcases b with b | b | b | b <;> subst a <;> subst b <;> first
    | rfl
    | exact absurd e (by decide)
/-- names (N of them), their sorts and numbers in the class, the same in the reference from a place on -/
def NmR (nm : Nat → Int64) (so nu : Nat → Int32) (N : Nat) (mm : Nat → Int64) (cnt : Nat → Nat) : Prop := N = cnt 0 + cnt 1 + cnt 2 + cnt 3 ∧ (∀ i, i < N → ∃ q j, q < 4 ∧ j < cnt q ∧ so i = codN q ∧ (nu i).toInt = (j : Int) ∧ NameR (nm i) (mm (offN q + j))) ∧ (∀ q j, q < 4 → j < cnt q → ∃ i, i < N ∧ so i = codN q ∧ (nu i).toInt = (j : Int)) ∧ (∀ i i', i < N → i' < N → nm i = nm i' → i = i')
theorem nm_cell {nm : Nat → Int64} {so nu : Nat → Int32} {N : Nat} {mm : Nat → Int64} {cnt : Nat → Nat} (h : NmR nm so nu N mm cnt) {i q j : Nat} (hi : i < N) (hq : q < 4) (hs : so i = codN q) (hn : (nu i).toInt = (j : Int)) : j < cnt q ∧ NameR (nm i) (mm (offN q + j)) := by
  obtain ⟨q', j', h1, h2, h3, h4, h5⟩ := h.2.1 i hi
  have e := cod_i hq h1 (hs.symm.trans h3)
  subst e
  have e2 : j = j' := by omega
  subst e2
  exact ⟨h2, h5⟩
def FndC (nm : Nat → Int64) (so nu : Nat → Int32) (N : Nat) (a : Int64) (c r : Int32) : Prop := (∃ i, i < N ∧ nm i = a ∧ so i = c ∧ r = nu i) ∨ ((∀ i, i < N → ¬ (nm i = a ∧ so i = c)) ∧ r = -1)
def FndM (mm : Nat → Int64) (off many : Nat) (b : Int64) (r : Int32) : Prop := (∃ k, k < many ∧ mm (off + k) = b ∧ r.toInt = (k : Int)) ∨ ((∀ k, k < many → ¬ mm (off + k) = b) ∧ r = -1)
theorem fnd_e {nm : Nat → Int64} {so nu : Nat → Int32} {N : Nat} {mm : Nat → Int64} {cnt : Nat → Nat} (h : NmR nm so nu N mm cnt) {a b : Int64} (hab : NameR a b) {q : Nat} (hq : q < 4) {r r' : Int32} (c : FndC nm so nu N a (codN q) r) (m : FndM mm (offN q) (cnt q) b r') : r = r' := by
  rcases m with ⟨k, m1, m2, m3⟩ | ⟨m1, m2⟩
  · obtain ⟨i, i1, i2, i3⟩ := h.2.2.1 q k hq m1
    have cl := nm_cell h i1 hq i2 i3
    have ea : nm i = a := (name_iff cl.2 hab).mpr m2
    rcases c with ⟨i', c1, c2, c3, c4⟩ | ⟨c1, c2⟩
    · have e := h.2.2.2 i i' i1 c1 (ea.trans c2.symm)
      subst e
      rw [c4]
      exact Int32.toInt_inj.mp (i3.trans m3.symm)
    · exact absurd ⟨ea, i2⟩ (c1 i i1)
  · rcases c with ⟨i, c1, c2, c3, c4⟩ | ⟨c1, c2⟩
    · exfalso
      obtain ⟨q', j, h1, h2, h3, h4, h5⟩ := h.2.1 i c1
      have e := cod_i hq h1 (c3.symm.trans h3)
      subst e
      exact m1 j h2 ((name_iff h5 hab).mp c2)
    · exact c2.trans m2.symm
/-- no name at all like this one: what the class asks of the list, the reference of its four rows -/
theorem none_e {nm : Nat → Int64} {so nu : Nat → Int32} {N : Nat} {mm : Nat → Int64} {cnt : Nat → Nat} (h : NmR nm so nu N mm cnt) {a b : Int64} (hab : NameR a b) : (∀ i, i < N → ¬ nm i = a) ↔ (∀ q, q < 4 → ∀ k, k < cnt q → ¬ mm (offN q + k) = b) := by
  constructor
  · intro w q hq k hk e
    obtain ⟨i, i1, i2, i3⟩ := h.2.2.1 q k hq hk
    have cl := nm_cell h i1 hq i2 i3
    exact w i i1 ((name_iff cl.2 hab).mpr e)
  · intro w i hi e
    obtain ⟨q, j, h1, h2, h3, h4, h5⟩ := h.2.1 i hi
    exact w q h1 j h2 ((name_iff h5 hab).mp e)
theorem off_d {q q' j j' : Nat} (hq : q < 4) (hq' : q' < 4) (h : j < 8 ∧ (2 ≤ q → j < 4)) (h' : j' < 8 ∧ (2 ≤ q' → j' < 4)) (e : offN q + j = offN q' + j') : q = q' ∧ j = j' := by
  have a : q = 0 ∨ q = 1 ∨ q = 2 ∨ q = 3 := by omega
  have b : q' = 0 ∨ q' = 1 ∨ q' = 2 ∨ q' = 3 := by omega
  rcases a with a | a | a | a <;> rcases b with b | b | b | b <;> subst a <;> subst b <;> simp [offN] at e <;> omega
/-- one name more -/
theorem nm_add {nm : Nat → Int64} {so nu : Nat → Int32} {N : Nat} {mm : Nat → Int64} {cnt : Nat → Nat} (h : NmR nm so nu N mm cnt) {a b : Int64} (hab : NameR a b) {q : Nat} (hq : q < 4) (hc : ∀ q, q < 4 → cnt q ≤ 8 ∧ (2 ≤ q → cnt q ≤ 4)) (hm : cnt q < 8 ∧ (2 ≤ q → cnt q < 4)) (nw : ∀ i, i < N → ¬ nm i = a) {nm' : Nat → Int64} {so' nu' : Nat → Int32} {mm' : Nat → Int64} {cnt' : Nat → Nat} (e1 : nm' N = a ∧ ∀ i, i < N → nm' i = nm i) (e2 : so' N = codN q ∧ ∀ i, i < N → so' i = so i) (e3 : (nu' N).toInt = (cnt q : Int) ∧ ∀ i, i < N → nu' i = nu i) (e4 : mm' (offN q + cnt q) = b ∧ ∀ p, p < 24 → ¬ p = offN q + cnt q → mm' p = mm p) (e5 : cnt' q = cnt q + 1 ∧ ∀ x, ¬ x = q → cnt' x = cnt x) : NmR nm' so' nu' (N + 1) mm' cnt' := by
  have lt24 : ∀ x j, x < 4 → j < 8 → (2 ≤ x → j < 4) → offN x + j < 24 := by
    intro x j hx h1 h2
    have b : x = 0 ∨ x = 1 ∨ x = 2 ∨ x = 3 := by omega
    rcases b with b | b | b | b <;> subst b <;> simp [offN] <;> omega
  refine ⟨?_, fun i hi => ?_, fun x j hx hj => ?_, fun i i' hi hi' e => ?_⟩
  · have b : q = 0 ∨ q = 1 ∨ q = 2 ∨ q = 3 := by omega
    have h0 := h.1
    have f := e5.2
    rcases b with b | b | b | b <;> subst b
    · have := f 1 (by decide)
      have := f 2 (by decide)
      have := f 3 (by decide)
      have := e5.1
      omega
    · have := f 0 (by decide)
      have := f 2 (by decide)
      have := f 3 (by decide)
      have := e5.1
      omega
    · have := f 0 (by decide)
      have := f 1 (by decide)
      have := f 3 (by decide)
      have := e5.1
      omega
    · have := f 0 (by decide)
      have := f 1 (by decide)
      have := f 2 (by decide)
      have := e5.1
      omega
  · by_cases w : i = N
    · subst w
      refine ⟨q, cnt q, hq, by rw [e5.1]; omega, e2.1, e3.1, ?_⟩
      rw [e1.1, e4.1]
      exact hab
    · have hi' : i < N := by omega
      obtain ⟨x, j, h1, h2, h3, h4, h5⟩ := h.2.1 i hi'
      have c := hc x h1
      have lx : j < cnt' x := by
        by_cases z : x = q
        · subst z; rw [e5.1]; omega
        · rw [e5.2 x z]; exact h2
      refine ⟨x, j, h1, lx, by rw [e2.2 i hi']; exact h3, by rw [e3.2 i hi']; exact h4, ?_⟩
      rw [e1.2 i hi', e4.2 _ (lt24 x j h1 (by omega) (by omega)) (fun z => ?_)]
      · exact h5
      · have d := off_d h1 hq (j := j) (j' := cnt q) ⟨by omega, by omega⟩ hm z
        have d1 := d.1
        subst d1
        omega
  · by_cases z : x = q
    · subst z
      rw [e5.1] at hj
      by_cases w : j = cnt x
      · subst w
        exact ⟨N, by omega, e2.1, e3.1⟩
      · obtain ⟨i, i1, i2, i3⟩ := h.2.2.1 x j hx (by omega)
        exact ⟨i, by omega, by rw [e2.2 i i1]; exact i2, by rw [e3.2 i i1]; exact i3⟩
    · rw [e5.2 x z] at hj
      obtain ⟨i, i1, i2, i3⟩ := h.2.2.1 x j hx hj
      exact ⟨i, by omega, by rw [e2.2 i i1]; exact i2, by rw [e3.2 i i1]; exact i3⟩
  · by_cases w : i = N <;> by_cases w' : i' = N
    · omega
    · subst w
      rw [e1.1, e1.2 i' (by omega)] at e
      exact absurd e.symm (nw i' (by omega))
    · subst w'
      rw [e1.1, e1.2 i (by omega)] at e
      exact absurd e (nw i (by omega))
    · rw [e1.2 i (by omega), e1.2 i' (by omega)] at e
      exact h.2.2.2 i i' (by omega) (by omega) e
