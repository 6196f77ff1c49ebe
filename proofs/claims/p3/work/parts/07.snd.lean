/-! the evaluator's walks are the machine's -/
def cv (ad : Nat → Nat) : Value → Value
  | .ref i => .ref (ad i)
  | v => v
theorem cv_cat (ad : Nat → Nat) (v : Value) : (cv ad v).category = v.category := by cases v <;> rfl
def cq (ad : Nat → Nat) (q : Nat × Value) : Nat × Value := (q.1, cv ad q.2)
def arrOf (ad : Nat → Nat) (s : Sg) (i t : Nat) (ids : List Nat) : (Nat → Int32) ⊕ (Nat → Int64) ⊕ (Nat → UInt32) ⊕ (Nat → UInt64) ⊕ (Nat → Option Nat) := match t with
  | 0 => .inl (s.1 i)
  | 1 => .inr (.inl (s.2 i))
  | 2 => .inl (s.1 i)
  | _ => .inr (.inr (.inr (.inr (fun k => (ids[k]?).map ad))))
def cellOf (kc : Nat → ClassId) (ad : Nat → Nat) (s : Sg) (i : Nat) : Shp → va_E
  | .inl o => .inr (o.1, o.2.mapIdx (fun k f => cv ad (fvA s i k f)))
  | .inr a => .inl (kc a.1, a.2.1, arrOf ad s i a.1 a.2.2)
def wsl (kc : Nat → ClassId) (ad : Nat → Nat) (SH : List Shp) (s : Sg) : va_W := SH.mapIdx (fun i sh => (ad i, cellOf kc ad s i sh))
theorem wsl_get {kc : Nat → ClassId} {ad : Nat → Nat} {SH : List Shp} {s : Sg} {i : Nat} {sh : Shp} (h : SH[i]? = some sh) : (wsl kc ad SH s)[i]? = some (ad i, cellOf kc ad s i sh) := by
  unfold wsl; rw [List.getElem?_mapIdx, h]; rfl
theorem fvA_congr {s s' : Sg} {i k : Nat} {f : Nat × Nat} (h1 : s'.1 i = s.1 i) (h2 : s'.2 i = s.2 i) : fvA s' i k f = fvA s i k f := by
  unfold fvA; rw [h1, h2]
theorem cell_congr {kc : Nat → ClassId} {ad : Nat → Nat} {s s' : Sg} {i : Nat} {sh : Shp} (h1 : s'.1 i = s.1 i) (h2 : s'.2 i = s.2 i) : cellOf kc ad s' i sh = cellOf kc ad s i sh := by
  cases sh with
  | inl o =>
    have e : (fun (k : Nat) (f : Nat × Nat) => cv ad (fvA s' i k f)) = (fun k f => cv ad (fvA s i k f)) := by
      funext k f; rw [fvA_congr h1 h2]
    show Sum.inr (o.1, o.2.mapIdx (fun k f => cv ad (fvA s' i k f))) = _
    rw [e]; rfl
  | inr a =>
    show Sum.inl (kc a.1, a.2.1, arrOf ad s' i a.1 a.2.2) = Sum.inl (kc a.1, a.2.1, arrOf ad s i a.1 a.2.2)
    unfold arrOf; rw [h1, h2]
theorem wsl_set {kc : Nat → ClassId} {ad : Nat → Nat} {SH : List Shp} {s s' : Sg} {i : Nat} {sh : Shp} {e : va_E} (h : SH[i]? = some sh) (he : e = cellOf kc ad s' i sh) (hs : ∀ j, j ≠ i → s'.1 j = s.1 j ∧ s'.2 j = s.2 j) : (wsl kc ad SH s).set i (ad i, e) = wsl kc ad SH s' := by
  subst he
  apply List.ext_getElem?
  intro j
  by_cases hj : i = j
  · subst hj
    have hl : i < (wsl kc ad SH s).length := by
      unfold wsl; rw [List.length_mapIdx]
      exact (List.getElem?_eq_some_iff.mp h).1
    rw [List.getElem?_set_self hl, wsl_get h]
  · rw [List.getElem?_set_ne hj]
    unfold wsl
    rw [List.getElem?_mapIdx, List.getElem?_mapIdx]
    cases SH[j]? with
    | none => rfl
    | some sh2 =>
      obtain ⟨h1, h2⟩ := hs j (fun q => hj q.symm)
      show some (ad j, cellOf kc ad s j sh2) = some (ad j, cellOf kc ad s' j sh2)
      rw [cell_congr h1 h2]
theorem va_up_at {α : Type} (f : Nat → α) (k : Nat) (v : α) : va_up f k v k = v := by unfold va_up; rw [if_pos rfl]
theorem va_up_off {α : Type} (f : Nat → α) (k : Nat) (v : α) {j : Nat} (h : j ≠ k) : va_up f k v j = f j := by unfold va_up; rw [if_neg h]
theorem pI_off {s : Sg} {i k : Nat} {v : Int32} : ∀ j, j ≠ i → (pI s i k v).1 j = s.1 j ∧ (pI s i k v).2 j = s.2 j := fun _ h => ⟨va_up_off _ _ _ h, rfl⟩
theorem pL_off {s : Sg} {i k : Nat} {v : Int64} : ∀ j, j ≠ i → (pL s i k v).1 j = s.1 j ∧ (pL s i k v).2 j = s.2 j := fun _ h => ⟨rfl, va_up_off _ _ _ h⟩
theorem pA_off {s : Sg} {i : Nat} {f : Nat → Int32} : ∀ j, j ≠ i → (pA s i f).1 j = s.1 j ∧ (pA s i f).2 j = s.2 j := fun _ h => ⟨va_up_off _ _ _ h, rfl⟩
theorem pB_off {s : Sg} {i : Nat} {f : Nat → Int64} : ∀ j, j ≠ i → (pB s i f).1 j = s.1 j ∧ (pB s i f).2 j = s.2 j := fun _ h => ⟨rfl, va_up_off _ _ _ h⟩
theorem mapIdx_set {α β : Type} {l : List α} {f g : Nat → α → β} {k : Nat} {v : β} (hk : ∀ a, l[k]? = some a → g k a = v) (hj : ∀ j a, j ≠ k → f j a = g j a) : (l.mapIdx f).set k v = l.mapIdx g := by
  apply List.ext_getElem?
  intro j
  by_cases e : k = j
  · subst e
    by_cases hl : k < (l.mapIdx f).length
    · rw [List.getElem?_set_self hl, List.getElem?_mapIdx]
      rw [List.length_mapIdx] at hl
      have := hk _ (List.getElem?_eq_getElem hl)
      rw [List.getElem?_eq_getElem hl]
      show some v = some (g k l[k])
      rw [this]
    · rw [List.set_eq_of_length_le (by omega), List.getElem?_mapIdx, List.getElem?_mapIdx]
      rw [List.length_mapIdx] at hl
      rw [List.getElem?_eq_none (by omega)]; rfl
  · rw [List.getElem?_set_ne e, List.getElem?_mapIdx, List.getElem?_mapIdx]
    cases l[j]? with
    | none => rfl
    | some a => show some (f j a) = some (g j a); rw [hj j a (fun q => e q.symm)]
theorem cell_pI {kc : Nat → ClassId} {ad : Nat → Nat} {s : Sg} {o k ci : Nat} {fs : List (Nat × Nat)} {q : Nat × Nat} {x : Int32} (hq : fs[k]? = some q) (h : q.1 = 2 ∨ q.1 = 3) : Sum.inr (ci, (fs.mapIdx (fun k f => cv ad (fvA s o k f))).set k (.int x)) = cellOf kc ad (pI s o k x) o (.inl (ci, fs)) := by
  show _ = Sum.inr (ci, fs.mapIdx (fun j f => cv ad (fvA (pI s o k x) o j f)))
  congr 2
  have e1 : (pI s o k x).1 o = upd (s.1 o) k x := va_up_at _ _ _
  refine mapIdx_set ?_ ?_
  · intro a ha
    rw [hq] at ha; cases ha
    unfold fvA
    rcases h with h | h <;> rw [h, e1] <;> (show Value.int (upd (s.1 o) k x k) = _; rw [pk_us])
  · intro j a hj
    unfold fvA
    rw [e1]
    have e2 : (pI s o k x).2 o = s.2 o := rfl
    rw [e2, pk_un hj]
theorem cell_pL {kc : Nat → ClassId} {ad : Nat → Nat} {s : Sg} {o k ci : Nat} {fs : List (Nat × Nat)} {q : Nat × Nat} {x : Int64} (hq : fs[k]? = some q) (h : q.1 = 1) : Sum.inr (ci, (fs.mapIdx (fun k f => cv ad (fvA s o k f))).set k (.long x)) = cellOf kc ad (pL s o k x) o (.inl (ci, fs)) := by
  show _ = Sum.inr (ci, fs.mapIdx (fun j f => cv ad (fvA (pL s o k x) o j f)))
  congr 2
  have e1 : (pL s o k x).2 o = vp_updL (s.2 o) k x := va_up_at _ _ _
  refine mapIdx_set ?_ ?_
  · intro a ha
    rw [hq] at ha; cases ha
    unfold fvA
    rw [h, e1]; show Value.long (vp_updL (s.2 o) k x k) = _; rw [pk_uLs]
  · intro j a hj
    unfold fvA
    rw [e1]
    have e2 : (pL s o k x).1 o = s.1 o := rfl
    rw [e2, pk_uLn hj]
/-! taking the stack apart -/
theorem k1_e {st : List Value} {f : Int32 → List Value → Prop} (k : k1 st f) : ∃ x r, st = .int x :: r ∧ f x r := by
  unfold k1 at k; split at k
  · exact ⟨_, _, rfl, k⟩
  · exact k.elim
theorem k2_e {st : List Value} {f : Int32 → Int32 → List Value → Prop} (k : k2 st f) : ∃ x y r, st = .int y :: .int x :: r ∧ f x y r := by
  unfold k2 at k; split at k
  · exact ⟨_, _, _, rfl, k⟩
  · exact k.elim
theorem kl1_e {st : List Value} {f : Int64 → List Value → Prop} (k : kl1 st f) : ∃ x r, st = .long x :: r ∧ f x r := by
  unfold kl1 at k; split at k
  · exact ⟨_, _, rfl, k⟩
  · exact k.elim
theorem kl2_e {st : List Value} {f : Int64 → Int64 → List Value → Prop} (k : kl2 st f) : ∃ x y r, st = .long y :: .long x :: r ∧ f x y r := by
  unfold kl2 at k; split at k
  · exact ⟨_, _, _, rfl, k⟩
  · exact k.elim
theorem kil_e {st : List Value} {f : Int64 → Int32 → List Value → Prop} (k : kil st f) : ∃ x y r, st = .int y :: .long x :: r ∧ f x y r := by
  unfold kil at k; split at k
  · exact ⟨_, _, _, rfl, k⟩
  · exact k.elim
theorem kr_e {st : List Value} {f : Nat → List Value → Prop} (k : kr st f) : ∃ x r, st = .ref x :: r ∧ f x r := by
  unfold kr at k; split at k
  · exact ⟨_, _, rfl, k⟩
  · exact k.elim
theorem kri_e {st : List Value} {f : Nat → Int32 → List Value → Prop} (k : kri st f) : ∃ o i r, st = .int i :: .ref o :: r ∧ f o i r := by
  unfold kri at k; split at k
  · exact ⟨_, _, _, rfl, k⟩
  · exact k.elim
theorem kir_e {st : List Value} {f : Nat → Int32 → List Value → Prop} (k : kir st f) : ∃ o i r, st = .int i :: .ref o :: r ∧ f o i r := by
  unfold kir at k; split at k
  · exact ⟨_, _, _, rfl, k⟩
  · exact k.elim
theorem klr_e {st : List Value} {f : Nat → Int64 → List Value → Prop} (k : klr st f) : ∃ o i r, st = .long i :: .ref o :: r ∧ f o i r := by
  unfold klr at k; split at k
  · exact ⟨_, _, _, rfl, k⟩
  · exact k.elim
theorem krii_e {st : List Value} {f : Nat → Int32 → Int32 → List Value → Prop} (k : krii st f) : ∃ o i x r, st = .int x :: .int i :: .ref o :: r ∧ f o i x r := by
  unfold krii at k; split at k
  · exact ⟨_, _, _, _, rfl, k⟩
  · exact k.elim
theorem kril_e {st : List Value} {f : Nat → Int32 → Int64 → List Value → Prop} (k : kril st f) : ∃ o i x r, st = .long x :: .int i :: .ref o :: r ∧ f o i x r := by
  unfold kril at k; split at k
  · exact ⟨_, _, _, _, rfl, k⟩
  · exact k.elim
theorem kc1_e {st : List Value} {f : Value → List Value → Prop} (k : kc1 st f) : ∃ v r, st = v :: r ∧ v.category = 1 ∧ f v r := by
  unfold kc1 at k; split at k
  · exact ⟨_, _, rfl, rfl, k⟩
  · exact ⟨_, _, rfl, rfl, k⟩
  · exact k.elim
theorem kcp_e {st : List Value} {f : Int32 → Int32 → Nat → Int32 → Nat → List Value → Prop} (k : kcp st f) : ∃ n dp d sp o r, st = .int n :: .int dp :: .ref d :: .int sp :: .ref o :: r ∧ f n dp d sp o r := by
  unfold kcp at k; split at k
  · exact ⟨_, _, _, _, _, _, rfl, k⟩
  · exact k.elim
theorem ki_e {o : Option Value} {f : Int32 → Prop} (k : ki o f) : ∃ x, o = some (.int x) ∧ f x := by
  unfold ki at k; split at k
  · exact ⟨_, rfl, k⟩
  · exact k.elim
theorem kl_e {o : Option Value} {f : Int64 → Prop} (k : kl o f) : ∃ x, o = some (.long x) ∧ f x := by
  unfold kl at k; split at k
  · exact ⟨_, rfl, k⟩
  · exact k.elim
theorem ka_e {o : Option Value} {f : Nat → Prop} (k : ka o f) : ∃ x, o = some (.ref x) ∧ f x := by
  unfold ka at k; split at k
  · exact ⟨_, rfl, k⟩
  · exact k.elim
theorem kon_e {b : Bool} {a : Prop} (k : kon b a) : b = true ∧ a := by
  cases b
  · exact k.elim
  · exact ⟨rfl, k⟩
theorem kf_e {SH : List Shp} {o ci k : Nat} {f : Nat × Nat → Prop} (w : kf SH o ci k f) : ∃ fs q, SH[o]? = some (.inl (ci, fs)) ∧ fs[k]? = some q ∧ f q := by
  unfold kf at w
  split at w
  · obtain ⟨h1, w2⟩ := kon_e w
    have h3 := Nat.eq_of_beq_eq_true h1
    clear h1 w
    subst h3
    split at w2
    · exact ⟨_, _, by assumption, by assumption, w2⟩
    · exact w2.elim
  · exact w.elim
theorem kar_e {SH : List Shp} {o t : Nat} {f : Nat → Prop} (w : kar SH o t f) : ∃ n ids, SH[o]? = some (.inr (t, n, ids)) ∧ f n := by
  unfold kar at w
  split at w
  · obtain ⟨h1, w2⟩ := kon_e w
    have h3 := Nat.eq_of_beq_eq_true h1
    clear h1 w
    subst h3
    exact ⟨_, _, by assumption, w2⟩
  · exact w.elim
theorem karr_e {SH : List Shp} {o : Nat} {f : Nat → List Nat → Prop} (w : karr SH o f) : ∃ t n ids, SH[o]? = some (.inr (t, n, ids)) ∧ 3 ≤ t ∧ n ≤ ids.length ∧ f n ids := by
  unfold karr at w
  split at w
  · obtain ⟨h1, w⟩ := kon_e w
    rw [Bool.and_eq_true] at h1
    exact ⟨_, _, _, by assumption, Nat.le_of_ble_eq_true h1.1, Nat.le_of_ble_eq_true h1.2, w⟩
  · exact w.elim
theorem kal_e {SH : List Shp} {o : Nat} {f : Nat → Prop} (w : kal SH o f) : ∃ t n ids, SH[o]? = some (.inr (t, n, ids)) ∧ t ≤ 4 ∧ f n := by
  unfold kal at w
  split at w
  · obtain ⟨h1, w⟩ := kon_e w
    exact ⟨_, _, _, by assumption, Nat.le_of_ble_eq_true h1, w⟩
  · exact w.elim
theorem alls_e {f : Nat → Prop} {i : Int32} : ∀ (ids : List Nat) (k j id : Nat), alls ids k i f → ids[j]? = some id → i = nI (k + j) → f id
  | [], _, _, _, _, h, _ => by simp at h
  | a :: r, k, 0, id, w, h, e => by
    simp at h; subst h; exact w.1 e
  | a :: r, k, j + 1, id, w, h, e => alls_e r (k + 1) j id w.2 (by simpa using h) (by rw [e]; congr 1; omega)
theorem gl_mem : ∀ {lv : Lv} {i : Nat} {v : Value}, gl lv i = some v → (i, v) ∈ lv
  | [], _, _, h => by cases h
  | q :: r, i, v, h => by
    unfold gl at h
    split at h
    · rename_i hb
      have hb := Nat.eq_of_beq_eq_true hb
      cases h; subst hb
      exact List.mem_cons_self
    · exact List.mem_cons_of_mem _ (gl_mem h)
theorem gl_has {ad : Nat → Nat} {lv : Lv} {i nL : Nat} {v : Value} {ls : Array Slot} (hl : lv_has ls nL (lv.map (cq ad))) (h : gl lv i = some v) : ls[i]? = some (.val (cv ad v)) := hl.2.2 (i, cv ad v) (List.mem_map.mpr ⟨(i, v), gl_mem h, rfl⟩)
theorem gl_idx {ad : Nat → Nat} {lv : Lv} {i : Nat} {v : Value} (h : gl lv i = some v) : ∃ k : Nat, (lv.map (cq ad))[k]? = some (i, cv ad v) := List.mem_iff_getElem?.mp (List.mem_map.mpr ⟨(i, v), gl_mem h, rfl⟩)
theorem sl1_map {ad : Nat → Nat} {lv : Lv} {i : Nat} {v : Value} : (i, cv ad v) :: (lv.map (cq ad)).filter (fun q => !(q.1 == i) && !(q.1 + 1 == i && q.2.category == 2)) = (sl1 lv i v).map (cq ad) := by
  unfold sl1
  rw [List.map_cons, List.filter_map]
  congr 2
  apply List.filter_congr
  intro q _
  show (!(q.1 == i) && !(q.1 + 1 == i && (cv ad q.2).category == 2)) = _
  rw [cv_cat]
theorem sl2_map {ad : Nat → Nat} {lv : Lv} {i : Nat} {v : Value} : (i, cv ad v) :: (lv.map (cq ad)).filter (fun q => !(q.1 == i) && (!(q.1 == i + 1) && !(q.1 + 1 == i && q.2.category == 2))) = (sl2 lv i v).map (cq ad) := by
  unfold sl2
  rw [List.map_cons, List.filter_map]
  congr 2
  apply List.filter_congr
  intro q _
  show (!(q.1 == i) && (!(q.1 == i + 1) && !(q.1 + 1 == i && (cv ad q.2).category == 2))) = _
  rw [cv_cat]
theorem pick_map {ad : Nat → Nat} {lv : Lv} {ks : List Nat} : lv_pick (lv.map (cq ad)) ks = (lv_pick lv ks).map (cq ad) := by
  unfold lv_pick
  induction ks with
  | nil => rfl
  | cons k r ih =>
    rw [List.filterMap_cons, List.filterMap_cons, List.getElem?_map]
    cases lv[k]? with
    | none => exact ih
    | some q => show cq ad q :: _ = cq ad q :: _; rw [ih]
theorem args_map {ad : Nat → Nat} : ∀ (as : List Value) (i : Nat), lv_args i (as.map (cv ad)) = (lv_args i as).map (cq ad)
  | [], _ => rfl
  | v :: r, i => by
    show (i, cv ad v) :: lv_args (if (cv ad v).category = 2 then i + 2 else i + 1) (r.map (cv ad)) = (i, cv ad v) :: (lv_args (if v.category = 2 then i + 2 else i + 1) r).map (cq ad)
    rw [cv_cat, args_map r]
theorem lgsl_map {ad : Nat → Nat} : ∀ (as : List Value), (lg_sl (as.map (cv ad))).length = (lg_sl as).length
  | [] => rfl
  | v :: r => by
    have ih := lgsl_map (ad := ad) r
    unfold lg_sl at ih ⊢
    rw [List.map_cons, List.flatMap_cons, List.flatMap_cons, List.length_append, List.length_append, ih, cv_cat]
    split <;> rfl
theorem room_map {ad : Nat → Nat} {st : List Value} (h : room8 st) : ((st.map (cv ad)).map fun v => v.category).sum ≤ 8 := by
  have e : (st.map (cv ad)).map (fun v => v.category) = st.map (fun v => v.category) := by
    rw [List.map_map]; apply List.map_congr_left; intro v _; exact cv_cat ad v
  rw [e]; exact h
theorem i32_key {a : Int} {x : Int32} (h1 : -2 ^ 31 ≤ a) (h2 : a < 2 ^ 31) : x = Int32.ofInt a ↔ x.toInt = a := by
  constructor
  · intro h; rw [h, Int32.toInt_ofInt_of_le h1 h2]
  · intro h; apply Int32.toInt_inj.mp; rw [h, Int32.toInt_ofInt_of_le h1 h2]
theorem sw_look {pc : Nat} {d : Int} {x : Int32} {f : Nat → Prop} : ∀ (ps : List (Int × Int)), (∀ q ∈ ps, -2 ^ 31 ≤ q.1 ∧ q.1 < 2 ^ 31) → sw (ps.map (fun q => (Int32.ofInt q.1, ((pc : Int) + q.2).toNat))) ((pc : Int) + d).toNat x f → f ((pc : Int) + Op.lookupswitch.offset ps d x.toInt).toNat
  | [], _, w => w
  | q :: r, hr, w => by
    obtain ⟨a, o⟩ := q
    rw [Op.lookupswitch.offset_cons]
    obtain ⟨h1, h2⟩ := hr (a, o) List.mem_cons_self
    by_cases e : x = Int32.ofInt a
    · rw [if_pos ((i32_key h1 h2).mp e).symm]; exact w.1 e
    · rw [if_neg (fun q => e ((i32_key h1 h2).mpr q.symm))]
      exact sw_look r (fun q hq => hr q (List.mem_cons_of_mem _ hq)) (w.2 e)
theorem sw_e {d : Nat} {x : Int32} {f : Nat → Prop} : ∀ (l : List (Int32 × Nat)), sw l d x f → (∃ q ∈ l, x = q.1 ∧ f q.2) ∨ ((∀ q ∈ l, ¬ x = q.1) ∧ f d)
  | [], w => Or.inr ⟨fun _ h => absurd h List.not_mem_nil, w⟩
  | q :: r, w => by
    by_cases e : x = q.1
    · exact Or.inl ⟨q, List.mem_cons_self, e, w.1 e⟩
    · rcases sw_e r (w.2 e) with ⟨q2, h, h2⟩ | ⟨h, h2⟩
      · exact Or.inl ⟨q2, List.mem_cons_of_mem _ h, h2⟩
      · refine Or.inr ⟨fun q2 hq => ?_, h2⟩
        rcases List.mem_cons.mp hq with rfl | hq
        · exact e
        · exact h q2 hq
theorem sw_tab {pc : Nat} {d lo hi : Int} {offs : Array Int} {x : Int32} {f : Nat → Prop} (h1 : -2 ^ 31 ≤ lo) (h2 : hi < 2 ^ 31) (h3 : hi = lo + offs.size - 1)
    (w : sw (offs.toList.mapIdx (fun k o => (Int32.ofInt (lo + k), ((pc : Int) + o).toNat))) ((pc : Int) + d).toNat x f) :
    (∃ off, ¬ x.toInt < lo ∧ ¬ hi < x.toInt ∧ offs[(x.toInt - lo).toNat]? = some off ∧ f ((pc : Int) + off).toNat) ∨ ((x.toInt < lo ∨ hi < x.toInt) ∧ f ((pc : Int) + d).toNat) := by
  rcases sw_e _ w with ⟨q, hq, e, hf⟩ | ⟨hq, hf⟩
  · obtain ⟨k, hk⟩ := List.mem_iff_getElem?.mp hq
    rw [List.getElem?_mapIdx] at hk
    cases ho : offs.toList[k]? with
    | none => rw [ho] at hk; cases hk
    | some o =>
      rw [ho] at hk
      have hk : some (Int32.ofInt (lo + k), ((pc : Int) + o).toNat) = some q := hk
      cases hk
      have hlt : k < offs.size := by
        have := (List.getElem?_eq_some_iff.mp ho).1
        simpa using this
      have e := (i32_key (by omega) (by omega)).mp e
      refine Or.inl ⟨o, by omega, by omega, ?_, hf⟩
      rw [show (x.toInt - lo).toNat = k by omega]
      rw [← Array.getElem?_toList]; exact ho
  · refine Or.inr ⟨?_, hf⟩
    by_cases a : x.toInt < lo
    · exact Or.inl a
    · refine Or.inr ?_
      by_cases b : hi < x.toInt
      · exact b
      · exfalso
        have hk : (x.toInt - lo).toNat < offs.toList.length := by
          rw [Array.length_toList]; omega
        have hm : (Int32.ofInt (lo + ((x.toInt - lo).toNat : Nat)), ((pc : Int) + offs.toList[(x.toInt - lo).toNat]).toNat) ∈ offs.toList.mapIdx (fun k o => (Int32.ofInt (lo + k), ((pc : Int) + o).toNat)) := by
          apply List.mem_of_getElem? (i := (x.toInt - lo).toNat)
          rw [List.getElem?_mapIdx, List.getElem?_eq_getElem hk]; rfl
        refine hq _ hm ?_
        show x = Int32.ofInt _
        rw [show lo + (((x.toInt - lo).toNat : Nat) : Int) = x.toInt by omega]
        exact (Int32.ofInt_toInt x).symm
theorem lk_mem : ∀ {cd : List Ent} {pc : Nat} {e : Instr × Nat × List Nat × Int32 × Int64}, lk cd pc = some e → (pc, e) ∈ cd
  | [], _, _, h => by cases h
  | q :: r, pc, e, h => by
    unfold lk at h
    split at h
    · rename_i hb
      have hb := Nat.eq_of_beq_eq_true hb
      cases h; subst hb
      exact List.mem_cons_self
    · exact List.mem_cons_of_mem _ (lk_mem h)
