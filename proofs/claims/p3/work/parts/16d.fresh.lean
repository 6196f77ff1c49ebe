/-! a made world, its cells in another order, as a world of a fixed shape -/
def adX (pi : List Nat) (ad adK : Nat → Nat) : Nat → Nat := fun i => if i < 1000 then ad (pi.getD i 0) else adK (i - 1000)
def stOf (pi : List Nat) (w : List CC) : Sg :=
  (fun i k => match w[pi.getD i 0]? with
    | some (.inr (_, _, f, _)) => fOf f k
    | some (.inl (_, fs)) => (match fs[k]? with
      | some (.int x) => x
      | _ => 0)
    | none => 0,
   fun i k => match w[pi.getD i 0]? with
    | some (.inr _) => 0
    | some (.inl (_, fs)) => (match fs[k]? with
      | some (.long x) => x
      | _ => 0)
    | none => 0)
def fOk (pi : List Nat) (f : Nat × Nat) (v : Value) : Bool := match v with
  | .ref j => Nat.beq f.1 0 && Nat.blt f.2 1000 && Nat.beq (pi.getD f.2 0) j
  | .long _ => Nat.beq f.1 1
  | .int _ => Nat.ble 2 f.1
  | _ => false
def fsOk (pi : List Nat) : List (Nat × Nat) → List Value → Bool
  | [], [] => true
  | f :: r, v :: q => fOk pi f v && fsOk pi r q
  | _, _ => false
def idOk (pi : List Nat) : List Nat → List (Option Nat) → Bool
  | [], [] => true
  | i :: r, some j :: q => Nat.blt i 1000 && Nat.beq (pi.getD i 0) j && idOk pi r q
  | _, _ => false
def cOk (pi : List Nat) (sh : Shp) (c : Option CC) : Bool := match sh, c with
  | .inl (ci, fs), some (.inl (c2, vs)) => Nat.beq ci c2 && fsOk pi fs vs
  | .inr (t, n, ids), some (.inr (t2, n2, _, js)) => Nat.beq t t2 && Nat.beq n n2 && (Nat.ble t 2 || idOk pi ids js)
  | _, _ => false
def shOk (pi : List Nat) (w : List CC) (SH : List Shp) : Bool := Nat.beq pi.length SH.length && Nat.ble SH.length 999 && va_nd pi && (List.range SH.length).all (fun i => match SH[i]? with
  | some sh => cOk pi sh w[pi.getD i 0]?
  | none => false)
theorem fsOk_get {pi : List Nat} : ∀ {fs : List (Nat × Nat)} {vs : List Value}, fsOk pi fs vs = true → fs.length = vs.length ∧ ∀ (k : Nat) (f : Nat × Nat), fs[k]? = some f → ∃ v, vs[k]? = some v ∧ fOk pi f v = true
  | [], [], _ => ⟨rfl, fun k f h => by simp at h⟩
  | [], _ :: _, h => by cases h
  | _ :: _, [], h => by cases h
  | f :: r, v :: q, h => by
    unfold fsOk at h
    rw [Bool.and_eq_true] at h
    obtain ⟨h1, h2⟩ := fsOk_get h.2
    refine ⟨by simp [h1], fun k g hg => ?_⟩
    cases k with
    | zero => simp at hg; subst hg; exact ⟨v, rfl, h.1⟩
    | succ k => exact h2 k g (by simpa using hg)
theorem idOk_get {pi : List Nat} {ad adK : Nat → Nat} : ∀ {ids : List Nat} {js : List (Option Nat)}, idOk pi ids js = true → ∀ k : Nat, (ids[k]?).map (adX pi ad adK) = (js.getD k none).map ad
  | [], [], _ => fun k => by simp
  | [], _ :: _, h => by cases h
  | _ :: _, [], h => by cases h
  | i :: r, none :: q, h => by cases h
  | i :: r, some j :: q, h => by
    unfold idOk at h
    simp only [Bool.and_eq_true] at h
    obtain ⟨⟨h1, h2⟩, h3⟩ := h
    intro k
    cases k with
    | zero =>
      have h1 : i < 1000 := Nat.le_of_ble_eq_true h1
      have h2 := Nat.eq_of_beq_eq_true h2
      show some (adX pi ad adK i) = some (ad j)
      unfold adX
      rw [if_pos h1, h2]
    | succ k =>
      have := idOk_get (ad := ad) (adK := adK) h3 k
      simpa using this
theorem fresh_cell {pi : List Nat} {kc : Nat → ClassId} {ad adK : Nat → Nat} {w : List CC} {i : Nat} {sh : Shp} {c : CC} (hc : w[pi.getD i 0]? = some c) (h : cOk pi sh (some c) = true) : cellOf kc (adX pi ad adK) (stOf pi w) i sh = cellC kc ad c := by
  cases sh with
  | inl o =>
    obtain ⟨ci, fs⟩ := o
    cases c with
    | inr a => cases h
    | inl o2 =>
      obtain ⟨c2, vs⟩ := o2
      unfold cOk at h
      rw [Bool.and_eq_true] at h
      have h1 := Nat.eq_of_beq_eq_true h.1
      subst h1
      obtain ⟨hl, hf⟩ := fsOk_get h.2
      show Sum.inr (ci, fs.mapIdx (fun k f => cv (adX pi ad adK) (fvA (stOf pi w) i k f))) = Sum.inr (ci, vs.map (cv ad))
      congr 2
      apply List.ext_getElem?
      intro k
      rw [List.getElem?_mapIdx, List.getElem?_map]
      cases hk : fs[k]? with
      | none =>
        have : vs[k]? = none := by
          rw [List.getElem?_eq_none_iff] at hk ⊢; omega
        rw [this]; rfl
      | some f =>
        obtain ⟨v, hv, ho⟩ := hf k f hk
        rw [hv]
        show some (cv (adX pi ad adK) (fvA (stOf pi w) i k f)) = some (cv ad v)
        congr 1
        obtain ⟨f1, f2⟩ := f
        cases v with
        | ref j =>
          unfold fOk at ho
          simp only [Bool.and_eq_true] at ho
          have e1 := Nat.eq_of_beq_eq_true ho.1.1
          have e2 : f2 < 1000 := Nat.le_of_ble_eq_true ho.1.2
          have e3 := Nat.eq_of_beq_eq_true ho.2
          have e1 : f1 = 0 := e1
          subst e1
          show Value.ref (adX pi ad adK f2) = Value.ref (ad j)
          unfold adX
          rw [if_pos e2, e3]
        | long x =>
          have e1 : f1 = 1 := Nat.eq_of_beq_eq_true ho
          subst e1
          show Value.long ((stOf pi w).2 i k) = Value.long x
          unfold stOf
          simp only [hc, hv]
        | int x =>
          have e1 : 2 ≤ f1 := Nat.le_of_ble_eq_true ho
          have e2 : fvA (stOf pi w) i k (f1, f2) = .int ((stOf pi w).1 i k) := by
            unfold fvA
            match f1, e1 with
            | n + 2, _ => rfl
          rw [e2]
          show Value.int ((stOf pi w).1 i k) = Value.int x
          unfold stOf
          simp only [hc, hv]
        | _ => cases ho
  | inr a =>
    obtain ⟨t, n, ids⟩ := a
    cases c with
    | inl o => cases h
    | inr a2 =>
      obtain ⟨t2, n2, f, js⟩ := a2
      unfold cOk at h
      simp only [Bool.and_eq_true] at h
      have h1 := Nat.eq_of_beq_eq_true h.1.1
      have h2 := Nat.eq_of_beq_eq_true h.1.2
      subst h1; subst h2
      show Sum.inl (kc t, n, arrOf (adX pi ad adK) (stOf pi w) i t ids) = Sum.inl (kc t, n, arrC ad t f js)
      congr 3
      have e1 : (stOf pi w).1 i = fOf f := by
        funext k; unfold stOf; simp only [hc]
      have e2 : (stOf pi w).2 i = z1 := by
        funext k; unfold stOf; simp only [hc]; rfl
      have h3 := h.2
      rw [Bool.or_eq_true] at h3
      match t, h3 with
      | 0, _ => show Sum.inl ((stOf pi w).1 i) = Sum.inl (fOf f); rw [e1]
      | 1, _ => show Sum.inr (Sum.inl ((stOf pi w).2 i)) = Sum.inr (Sum.inl z1); rw [e2]
      | 2, _ => show Sum.inl ((stOf pi w).1 i) = Sum.inl (fOf f); rw [e1]
      | k + 3, h3 =>
        rcases h3 with h3 | h3
        · exact absurd (Nat.le_of_ble_eq_true h3) (by omega)
        · show Sum.inr (Sum.inr (Sum.inr (Sum.inr (fun k => (ids[k]?).map (adX pi ad adK))))) = Sum.inr (Sum.inr (Sum.inr (Sum.inr (fun k => (js.getD k none).map ad))))
          congr 4
          funext k
          exact idOk_get h3 k
theorem wsl_addr0 {kc : Nat → ClassId} {ad : Nat → Nat} {SH : List Shp} {s : Sg} {k a : Nat} {e : va_E} (h : (wsl kc ad SH s)[k]? = some (a, e)) : k < SH.length ∧ a = ad k := by
  unfold wsl at h
  rw [List.getElem?_mapIdx] at h
  cases hs : SH[k]? with
  | none => rw [hs] at h; cases h
  | some sh =>
    rw [hs] at h
    have h : some (ad k, cellOf kc ad s k sh) = some (a, e) := h
    cases h
    exact ⟨(List.getElem?_eq_some_iff.mp hs).1, rfl⟩
theorem fresh_get {pi : List Nat} {kc : Nat → ClassId} {ad adK : Nat → Nat} {w : List CC} {SH : List Shp} (h : shOk pi w SH = true) {i : Nat} {q : Nat × va_E} (hq : (wsl kc (adX pi ad adK) SH (stOf pi w))[i]? = some q) : i < pi.length ∧ (cwl kc ad w)[pi.getD i 0]? = some q := by
  unfold shOk at h
  simp only [Bool.and_eq_true] at h
  obtain ⟨⟨⟨h1, h2⟩, h3⟩, h4⟩ := h
  have h1 := Nat.eq_of_beq_eq_true h1
  have h2 := Nat.le_of_ble_eq_true h2
  obtain ⟨g1, g2⟩ := wsl_addr0 (a := q.1) (e := q.2) hq
  have h5 := List.all_eq_true.mp h4 i (List.mem_range.mpr g1)
  have hs : SH[i]? = some SH[i] := List.getElem?_eq_getElem g1
  rw [hs] at h5
  have hw := wsl_get (kc := kc) (ad := adX pi ad adK) (s := stOf pi w) hs
  rw [hw] at hq
  cases hq
  refine ⟨by omega, ?_⟩
  cases hc : w[pi.getD i 0]? with
  | none =>
    exfalso
    have h5 : cOk pi SH[i] w[pi.getD i 0]? = true := h5
    rw [hc] at h5
    generalize SH[i] = sh at h5
    cases sh <;> cases h5
  | some c =>
    have h5 : cOk pi SH[i] w[pi.getD i 0]? = true := h5
    rw [hc] at h5
    rw [cwl_get hc, fresh_cell hc h5]
    unfold adX
    rw [if_pos (by omega)]
theorem fresh_P {pi : List Nat} {D : va_G} {kc : Nat → ClassId} {ad adK : Nat → Nat} {w : List CC} {SH : List Shp} {H : Heap} (h : shOk pi w SH = true) (hP : va_P D vwCl (cwl kc ad w) H) : va_P D vwCl (wsl kc (adX pi ad adK) SH (stOf pi w)) H := by
  intro k q hq
  exact hP _ q (fresh_get h hq).2
theorem nd_inj : ∀ {l : List Nat}, va_nd l = true → ∀ i j, i < l.length → j < l.length → l.getD i 0 = l.getD j 0 → i = j := by
  intro l h i j hi hj e
  exact va_nd_inj l h i j l[i] (List.getElem?_eq_getElem hi) (by
    rw [List.getD_eq_getElem?_getD, List.getD_eq_getElem?_getD, List.getElem?_eq_getElem hi, List.getElem?_eq_getElem hj] at e
    rw [List.getElem?_eq_getElem hj]; exact congrArg some e.symm)
theorem fresh_D {pi : List Nat} {A : Nat → Prop} {kc : Nat → ClassId} {ad adK : Nat → Nat} {w : List CC} {SH : List Shp} (h : shOk pi w SH = true) (hD : va_D A (cwl kc ad w)) : va_D A (wsl kc (adX pi ad adK) SH (stOf pi w)) := by
  refine ⟨fun i j p q hi hj e => ?_, fun k q hq => hD.2 _ q (fresh_get h hq).2⟩
  obtain ⟨a1, a2⟩ := fresh_get h hi
  obtain ⟨b1, b2⟩ := fresh_get h hj
  have e2 := hD.1 _ _ p q a2 b2 e
  have hnd : va_nd pi = true := by
    unfold shOk at h
    simp only [Bool.and_eq_true] at h
    exact h.1.2
  exact nd_inj hnd i j a1 b1 e2
