def tycOk (tyc : Nat → List FieldType) : Prop := ∀ (ci : Nat) (q : vw_C), vwCl[ci]? = some q → (tyc ci).length = q.2.2 ∧ ∀ k, k < q.2.2 → parseFieldDescriptor (q.2.1 k).2.2.1 = (tyc ci)[k]?
def adN (ad : Nat → Nat) (n q : Nat) : Nat → Nat := fun i => if i = n then q else ad i
theorem adN_at {ad : Nat → Nat} {n q : Nat} : adN ad n q n = q := if_pos rfl
theorem adN_lt {ad : Nat → Nat} {n q i : Nat} (h : i < n) : adN ad n q i = ad i := if_neg (by omega)
theorem cv_congr {ad1 ad : Nat → Nat} {n : Nat} {v : Value} (h : ∀ i, i < n → ad1 i = ad i) (hs : scV n v = true) : cv ad1 v = cv ad v := by
  cases v with
  | ref i => show Value.ref (ad1 i) = Value.ref (ad i); rw [h i (Nat.le_of_ble_eq_true hs)]
  | _ => rfl
theorem cvl_congr {ad1 ad : Nat → Nat} {n : Nat} {l : List Value} (h : ∀ i, i < n → ad1 i = ad i) (hs : l.all (scV n) = true) : l.map (cv ad1) = l.map (cv ad) := by
  apply List.map_congr_left
  intro v hv
  exact cv_congr h (List.all_eq_true.mp hs v hv)
theorem cql_congr {ad1 ad : Nat → Nat} {n : Nat} {l : Lv} (h : ∀ i, i < n → ad1 i = ad i) (hs : l.all (fun q => scV n q.2) = true) : l.map (cq ad1) = l.map (cq ad) := by
  apply List.map_congr_left
  intro q hq
  show (q.1, cv ad1 q.2) = (q.1, cv ad q.2)
  rw [cv_congr h (List.all_eq_true.mp hs q hq)]
theorem cellC_congr {kc : Nat → ClassId} {ad1 ad : Nat → Nat} {n : Nat} {c : CC} (h : ∀ i, i < n → ad1 i = ad i) (hs : scC n c = true) : cellC kc ad1 c = cellC kc ad c := by
  cases c with
  | inl o => show Sum.inr (o.1, o.2.map (cv ad1)) = Sum.inr (o.1, o.2.map (cv ad)); rw [cvl_congr h hs]
  | inr a =>
    show Sum.inl (kc a.1, a.2.1, arrC ad1 a.1 a.2.2.1 a.2.2.2) = Sum.inl (kc a.1, a.2.1, arrC ad a.1 a.2.2.1 a.2.2.2)
    have e : (fun k : Nat => (a.2.2.2.getD k none).map ad1) = (fun k : Nat => (a.2.2.2.getD k none).map ad) := by
      funext k
      rw [List.getD_eq_getElem?_getD]
      cases hk : a.2.2.2[k]? with
      | none => rfl
      | some x =>
        cases x with
        | none => rfl
        | some i =>
          have := List.all_eq_true.mp hs (some i) (List.mem_of_getElem? hk)
          show some (ad1 i) = some (ad i)
          rw [h i (Nat.le_of_ble_eq_true this)]
    unfold arrC
    rw [e]
theorem cwl_get {kc : Nat → ClassId} {ad : Nat → Nat} {w : List CC} {i : Nat} {c : CC} (h : w[i]? = some c) : (cwl kc ad w)[i]? = some (ad i, cellC kc ad c) := by
  unfold cwl; rw [List.getElem?_mapIdx, h]; rfl
theorem cwl_set {kc : Nat → ClassId} {ad : Nat → Nat} {w : List CC} {i : Nat} {c : CC} {e : va_E} (he : e = cellC kc ad c) : (cwl kc ad w).set i (ad i, e) = cwl kc ad (w.set i c) := by
  subst he
  apply List.ext_getElem?
  intro j
  unfold cwl
  rw [List.getElem?_mapIdx]
  by_cases hj : i = j
  · subst hj
    by_cases hl : i < w.length
    · rw [List.getElem?_set_self (by rw [List.length_mapIdx]; exact hl), List.getElem?_set_self hl]; rfl
    · rw [List.getElem?_eq_none (by rw [List.length_set, List.length_mapIdx]; omega), List.getElem?_eq_none (by rw [List.length_set]; omega)]; rfl
  · rw [List.getElem?_set_ne hj, List.getElem?_set_ne hj, List.getElem?_mapIdx]
theorem cwl_app {kc : Nat → ClassId} {ad1 ad : Nat → Nat} {w : List CC} {c : CC} (h : ∀ i, i < w.length → ad1 i = ad i) (hs : w.all (scC w.length) = true) : cwl kc ad1 (w ++ [c]) = cwl kc ad w ++ [(ad1 w.length, cellC kc ad1 c)] := by
  unfold cwl
  rw [List.mapIdx_append]
  congr 1
  · apply List.ext_getElem?
    intro j
    rw [List.getElem?_mapIdx, List.getElem?_mapIdx]
    cases hj : w[j]? with
    | none => rfl
    | some c2 =>
      have hl := (List.getElem?_eq_some_iff.mp hj).1
      show some (ad1 j, cellC kc ad1 c2) = some (ad j, cellC kc ad c2)
      rw [h j hl, cellC_congr h (List.all_eq_true.mp hs c2 (List.mem_of_getElem? hj))]
  · simp
theorem sl_set {w : List CC} {i : Nat} {c c2 : CC} (h : w[i]? = some c) (hs : slC c2 = slC c) : slW (w.set i c2) = slW w := by
  unfold slW
  rw [List.map_set, hs]
  congr 1
  apply List.ext_getElem?
  intro j
  by_cases hj : i = j
  · subst hj
    have hl := (List.getElem?_eq_some_iff.mp h).1
    rw [List.getElem?_set_self (by simpa using hl), List.getElem?_map, h]; rfl
  · rw [List.getElem?_set_ne hj]
theorem sl_app {w : List CC} {c : CC} : slW (w ++ [c]) = slW w + slC c := by
  unfold slW; simp
theorem len_app {w : List CC} {c : CC} : (w ++ [c]).length = w.length + 1 := by simp
def okSI (MT : List ME) (LK : List Cond) (own : String) (idx np j nest p1 p2 p3 : Nat) : Bool := match MT[j]? with
  | some q => Nat.beq np (q.2.2.2.2.1 + 1) && decide (q.1.name = "<init>") && decide (LK[p2]? = some (.initialized q.1.cls)) && decide (LK[p3]? = some (.instanceMethod q.1)) && (if nest = 0 then decide (LK[p1]? = some (.methodLink own idx q.1)) else decide (NWs[p1]? = some (.methodLinkNest own idx q.1 "SaltStreet")))
  | none => false
def okVI (MT : List ME) (LK : List Cond) (own : String) (idx np j ci nest p1 p2 p3 p4 : Nat) : Bool := match MT[j]? with
  | some q => Nat.beq np (q.2.2.2.2.1 + 1) && decide (vwCl[ci]?.map (fun q => q.1) = some q.1.cls) && Nat.beq nest 0 && decide (LK[p1]? = some (.methodLink own idx q.1)) && decide (LK[p2]? = some (.instanceMethod q.1)) && decide (LK[p3]? = some (.selects q.1.cls q.1 q.1)) && decide (LK[p4]? = some (.initialized q.1.cls))
  | none => false
def okC (MT : List ME) (LK : List Cond) (own : String) (nL pc : Nat) (ins : Instr) (len : Nat) (ax : List Nat) (z : Int32) (zl : Int64) : Bool := match ins with
  | .putfield idx => Nat.beq len 3 && (match ax with
    | [ci, k, _, p, kd] => (match vwCl[ci]? with
      | some (_, T, N) => decide (k < N) && decide (LK[p]? = some (.fieldLink own idx (T k).1 (T k).2.1 (T k).2.2.1)) && (if kd = 11 then (T k).2.2.2 && decide ((T k).1 = own) else !(T k).2.2.2)
      | none => false)
    | _ => false)
  | .newarray ty => Nat.beq len 2 && (match ax with
    | [p] => decide (LK[p]? = some (.arrayClass (newarray.typeOf ty)))
    | _ => false)
  | .anewarray idx => Nat.beq len 3 && (match ax with
    | [p, t] => decide (LK[p]? = some (.classLink own idx (if t = 3 then "SaltStreet$Tray" else "SaltStreet$World")))
    | _ => false)
  | .new idx => Nat.beq len 3 && (match ax with
    | [ci, p1, p2, p3] => (match vwCl[ci]? with
      | some (C, _, N) => decide (LK[p1]? = some (.classLink own idx C)) && decide (LK[p2]? = some (.instantiable C N)) && decide (LK[p3]? = some (.initialized C))
      | none => false)
    | _ => false)
  | .invokespecial idx => Nat.beq len 3 && (match ax with
    | [9, p] => decide (LK[p]? = some (.methodLink own idx Lib.objectInit))
    | [0, np, j, nest, p1, p2, p3] => okSI MT LK own idx np j nest p1 p2 p3
    | _ => false)
  | .invokevirtual idx => Nat.beq len 3 && (match ax with
    | [0, np, j, ci, nest, p1, p2, p3, p4] => okVI MT LK own idx np j ci nest p1 p2 p3 p4
    | _ => false)
  | _ => okI MT LK own nL pc ins len ax z zl
def MCok (MT : List ME) (LK : List Cond) (q : ME) : Prop := (plainFor q.1 = true) ∧ (q.1.cls ≠ "java/lang/invoke/MethodHandle" ∧ q.1.cls ≠ "java/lang/invoke/VarHandle") ∧ (parseMethodDescriptor q.1.desc).map (fun d => d.parameters.length) = some q.2.2.2.2.1 ∧ q.2.2.1 ≤ 12 ∧ goodWord (codeW q) = true ∧ q.2.2.2.1 = none ∧ (∀ e ∈ q.2.2.2.2.2, (∃ i, e.2.1 = Instr.putfield i) → q.1.name = "<init>") ∧ ∀ e ∈ q.2.2.2.2.2, decode q.2.1 e.1 = .ok (e.2.1, e.2.2.1) ∧ okC MT LK q.1.cls q.2.2.1 e.1 e.2.1 e.2.2.1 e.2.2.2.1 e.2.2.2.2.1 e.2.2.2.2.2 = true
def LKokC (LK : List Cond) : Prop := LK.all goodWord = true ∧ (∀ q ∈ vwCl, ∀ w ∈ u_ws q.1 q.2.1 q.2.2, w ∈ LK) ∧ (Cond.instanceMethod Lib.objectInit) ∈ LK ∧ (Cond.code Lib.objectInit ⟨#[0xb1]⟩ 1 none) ∈ LK
def rmc (d nc ns : Nat) : Room := { frames := d + 4, cells := nc, slots := ns, locals := 120 + 31 * d }
def QC (D : va_G) (kc : Nat → ClassId) (ad0 : Nat → Nat) (A : Nat → Prop) (n0 : Nat) (w : List CC) : Array Value → State → Outcome → State → Prop := fun _ st oc t => (∃ ad : Nat → Nat, (∀ i, i < n0 → ad i = ad0 i) ∧ oc = .returned none ∧ va_P D vwCl (cwl kc ad w) t.heap ∧ va_D A (cwl kc ad w)) ∧ va_F A st t
def wPc (D : va_G) (kc : Nat → ClassId) (ad : Nat → Nat) (w : List CC) (sz : Nat) : State → Prop := fun U => U.heap.size = sz ∧ va_P D vwCl (cwl kc ad w) U.heap ∧ EK D kc U ∧ va_D (fun _ => True) (cwl kc ad w)
theorem wPc_blind {av : List Value} {D : va_G} {kc : Nat → ClassId} {ad : Nat → Nat} {w : List CC} {sz : Nat} : FrameBlind (va_Pc av (wPc D kc ad w sz)) := fun a U g mk q => by
  obtain ⟨q0, q1, qP, qK, qD⟩ := q
  exact ⟨q0, q1, qP, qK.call, qD⟩
theorem wPc_ok {s0 U : State} {H : Heap} {D : va_G} {kc : Nat → ClassId} {ad : Nat → Nat} {w : List CC} {A : Nat → Prop} {av : List Value} (hP : va_P D vwCl (cwl kc ad w) H) (hD : va_D A (cwl kc ad w)) (hE : EK D kc s0) (hU : U.heap = H) (hW : s0.WarmedH U.vm) : va_Pc av (wPc D kc ad w H.size) av.toArray U :=
  ⟨rfl, by rw [hU], by rw [hU]; exact hP, hE.warm hW, hD.weaken (fun _ _ _ _ => trivial)⟩
theorem freeC {kc : Nat → ClassId} {ad : Nat → Nat} {w : List CC} {A : Nat → Prop} {s0 : State} {H : Heap} {locs : List Loc} (hD : va_D A (cwl kc ad w)) (hS : va_S A s0.heap H locs) (hA : ∀ q, s0.heap.size ≤ q → A q) : ∀ q, va_A (cwl kc ad w) H.size q → A q := by
  intro q h
  rcases h with ⟨k, e, h⟩ | h
  · exact hD.2 k _ h
  · exact hA q (Nat.le_trans hS.1 h)
theorem call_C {p : Program} {l : Launch} {e : Env} {R : Room} {s0 : State} {m : MethodId} {args : Array Value} {below : List Frame} {meth : Method} {c : Code} {H : Heap} {locs : List Loc} {D : va_G} {kc : Nat → ClassId} {ad : Nat → Nat} {A : Nat → Prop} {cells slots mc ms : Nat} {Qf : State → Prop} {pc n0 : Nat} {ls : Array Slot} {st0 rest : List Value} {a : Array Value} {w w2 : List CC} {free : Addr → Prop} (hr : va_Run p l e R s0 m args below meth c H locs cells slots mc ms (F0 m pc ls st0) rest (QC D kc ad (va_A (cwl kc ad w) H.size) n0 w2 a) free) (hf : ∀ q, free q → A q)
    (hS : va_S A s0.heap H locs) (hF : ∀ q, va_A (cwl kc ad w) H.size q → A q)
    (kk : ∀ (ad2 : Nat → Nat) (H1 : Heap) (locs1 : List Loc), (∀ i, i < n0 → ad2 i = ad i) → va_P D vwCl (cwl kc ad2 w2) H1 → va_D A (cwl kc ad2 w2) → (∀ q, q < H.size → ¬ va_A (cwl kc ad w) H.size q → H1[q]? = H[q]?) → va_D (va_A (cwl kc ad w) H.size) (cwl kc ad2 w2) → va_S A s0.heap H1 locs1 → W p l e R s0 m args below meth c H1 locs1 (cells + mc) (slots + ms) Qf (F0 m (pc + 3) ls rest)) : W p l e R s0 m args below meth c H locs cells slots Qf (F0 m pc ls st0) := by
  intro T hT X
  obtain ⟨v, st₀, t, T', L, h0, X', hL, e1, e2, ⟨⟨ad2, ha, hv, hP1, hD1⟩, hz, hk⟩, st⟩ := hr T hT X
  cases hv
  rw [h0] at hz hk
  obtain ⟨t2, a1, b1⟩ := kk ad2 T'.heap (locs ++ L) ha (by rw [e1]; exact hP1) (hD1.weaken (fun _ _ _ h => hF _ h)) (fun q h1 h2 => by rw [e1]; exact hk q h1 h2) hD1
    ⟨Nat.le_trans hS.1 (by rw [e1]; exact hz), fun q h1 h2 => by rw [e1, hk q (Nat.lt_of_lt_of_le h1 hS.1) (fun z => h2 (hF q z))]; exact hS.2.1 q h1 h2, fun q hq => by
      rcases List.mem_append.mp hq with h | h
      · exact hS.2.2 q h
      · exact hf _ (hL q h)⟩ T' rfl X'
  exact ⟨t2, st t2 a1, b1⟩
def CWc (p : Program) (l : Launch) (e : Env) (R : Room) (s0 : State) (m : MethodId) (args : Array Value) (below : List Frame) (meth : Method) (c : Code) (D : va_G) (kc : Nat → ClassId) (ad0 : Nat → Nat) (A : Nat → Prop) (nL n0 sl0 : Nat) (w' : List CC) (pc : Nat) (lv : Lv) (st : List Value) (w : List CC) : Prop :=
  ∀ (ad : Nat → Nat) (ls : Array Slot) (H : Heap) (locs : List Loc), (∀ i, i < n0 → ad i = ad0 i) → lv_has ls nL (lv.map (cq ad)) → va_P D vwCl (cwl kc ad w) H → va_D A (cwl kc ad w) → va_S A s0.heap H locs → n0 ≤ w.length → sl0 ≤ slW w → W p l e R s0 m args below meth c H locs (w.length - n0) (slW w - sl0) (MQ below (QC D kc ad0 A n0 w') args s0 (w'.length - n0) (slW w' - sl0) A) (F0 m pc ls (st.map (cv ad)))
theorem W_eqn {p : Program} {l : Launch} {e : Env} {R : Room} {s : State} {m : MethodId} {args : Array Value} {below : List Frame} {meth : Method} {c : Code} {H : Heap} {locs : List Loc} {c1 c2 s1 s2 : Nat} {Q : State → Prop} {g : JFrame} (h1 : c1 = c2) (h2 : s1 = s2) (k : W p l e R s m args below meth c H locs c2 s2 Q g) : W p l e R s m args below meth c H locs c1 s1 Q g := by subst h1; subst h2; exact k
theorem dflt_ok {tys : List FieldType} {j : Nat} (h : j < tys.length) (hv : ∀ t ∈ tys, t ≠ .float ∧ t ≠ .double) : defaultValue (tys[j]) = vp_V (tys.map dflt) j := by
  have e : vp_V (tys.map dflt) j = dflt tys[j] := by
    unfold vp_V
    simp [h]
  rw [e]
  have := hv tys[j] (List.getElem_mem h)
  generalize tys[j] = t at this
  cases t <;> first | rfl | exact absurd rfl this.1 | exact absurd rfl this.2
theorem nar_cv {ty : FieldType} {v : Value} {ad : Nat → Nat} (h : narrow ty v = v) : narrow ty (cv ad v) = cv ad v := by
  cases v with
  | ref i => cases ty <;> rfl
  | _ => exact h
theorem fit_cv {ty : FieldType} {v : Value} {ad : Nat → Nat} (h : fits ty v = true) : fits ty (cv ad v) = true := by
  cases v with
  | ref i => cases ty <;> first | rfl | exact h
  | _ => exact h
theorem dflt_cv {ad : Nat → Nat} (l : List FieldType) : (l.map dflt).map (cv ad) = l.map dflt := by
  rw [List.map_map]
  apply List.map_congr_left
  intro t _
  cases t <;> rfl
theorem rep_none {α : Type} (n : Nat) (f : Nat → α) : (fun k => ((List.replicate n (none : Option Nat)).getD k none).map f) = (fun _ => none) := by
  funext k
  rw [List.getD_eq_getElem?_getD, List.getElem?_replicate]
  split <;> rfl
theorem aast_cell {ad : Nat → Nat} {kc : Nat → ClassId} {t mm v : Nat} {ids : List (Option Nat)} {i : Int32} {f : List (Nat × Int32)} (hm : mm = ids.length) (hin : ¬ (i < 0 ∨ mm ≤ i.toNatClampNeg)) : (Sum.inl (kc (t + 3), mm, Sum.inr (Sum.inr (Sum.inr (Sum.inr (va_up (fun k => (ids.getD k none).map ad) i.toNatClampNeg (some (ad v))))))) : va_E) = cellC kc ad (.inr (t + 3, mm, f, ids.set i.toNatClampNeg (some v))) := by
  show _ = Sum.inl (kc (t + 3), mm, Sum.inr (Sum.inr (Sum.inr (Sum.inr (fun k => ((ids.set i.toNatClampNeg (some v)).getD k none).map ad)))))
  congr 7
  funext k
  show (if k = i.toNatClampNeg then some (ad v) else (ids.getD k none).map ad) = ((ids.set i.toNatClampNeg (some v)).getD k none).map ad
  rw [List.getD_eq_getElem?_getD, List.getD_eq_getElem?_getD]
  have hl : i.toNatClampNeg < ids.length := by
    rw [← hm]; exact Nat.lt_of_not_le (fun z => hin (Or.inr z))
  split
  · rename_i e; subst e; rw [List.getElem?_set_self hl]; rfl
  · rename_i e; rw [List.getElem?_set_ne (fun z => e z.symm)]
set_option maxHeartbeats 8000000 in
theorem snd_ce {p : Program} {l : Launch} {e : Env} {R : Room} {s0 : State} {m : MethodId} {args : Array Value} {below : List Frame} {meth : Method} {c : Code} {D : va_G} {kc : Nat → ClassId} {ad0 : Nat → Nat} {A : Nat → Prop} {MT : List ME} {LK : List Cond} {tyc : Nat → List FieldType} {call : Cct} {q : ME} {d n0 sl0 : Nat} {w' : List CC}
    (hx : p.tables.exec = Jvm.exec) (hb : c.code = q.2.1) (hml : c.maxLocals = q.2.2.1) (hr : meth.sig.returnType = none) (hlocks : meth.locks = false) (hnm : meth.name = q.1.name) (hown : s0.vm.findClass q.1.cls = some m.cls) (hts : ∀ w ∈ wsj MT LK q, w.before args s0 = true)
    (hE : EK D kc s0) (hA : ∀ q, s0.heap.size ≤ q → A q) (hLK : LKokC LK) (hcl : clsOk) (hty : tycOk tyc) (htf : ∀ ci, ∀ t ∈ tyc ci, t ≠ .float ∧ t ≠ .double) (hMT : ∀ q ∈ MT, MCok MT LK q) (hqM : q ∈ MT) (hR : R = rmc (d + 1) (w'.length - n0) (slW w' - sl0))
    (hcall : ∀ j as w w2, call j as w = some w2 → (w.length ≤ w2.length ∧ slW w ≤ slW w2) ∧ ∃ q2, MT[j]? = some q2 ∧ ∀ ad sz, Met l q2.1 (wsj MT LK q2) (rmc d (w2.length - w.length) (slW w2 - slW w)) (va_Pc (as.map (cv ad)) (wPc D kc ad w sz)) (QC D kc ad (va_A (cwl kc ad w) sz) w.length w2) (w2.length - w.length) (slW w2 - slW w) (va_A (cwl kc ad w) sz)) :
    ∀ (n pc : Nat) (lv : Lv) (st : List Value) (w : List CC), ce tyc call q.2.2.2.2.2 n pc lv st w = some w' → (w.length ≤ w'.length ∧ slW w ≤ slW w') ∧ CWc p l e R s0 m args below meth c D kc ad0 A q.2.2.1 n0 sl0 w' pc lv st w := by
  have hK := hE.1
  have hq1 := hMT q hqM
  have hfr : 1 ≤ R.frames := by rw [hR]; show 1 ≤ d + 1 + 4; omega
  have hlo : 101 ≤ R.locals := by rw [hR]; show 101 ≤ 120 + 31 * (d + 1); omega
  have hRc : R.cells = w'.length - n0 := by rw [hR]; rfl
  have hRs : R.slots = slW w' - sl0 := by rw [hR]; rfl
  intro n
  induction n with
  | zero => intro pc lv st w h; cases h
  | succ n ih =>
    intro pc lv st w h
    unfold ce at h
    cases hlk : lk q.2.2.2.2.2 pc with
    | none => rw [hlk] at h; cases h
    | some en =>
    obtain ⟨ins, len, ax, z, zl⟩ := en
    rw [hlk] at h
    have hmem := lk_mem hlk
    obtain ⟨hdec, hok⟩ := hq1.2.2.2.2.2.2.2 _ hmem
    have hdec : decode q.2.1 pc = .ok (ins, len) := hdec
    have hok : okC MT LK q.1.cls q.2.2.1 pc ins len ax z zl = true := hok
    have wl : ∀ {w : Cond}, w ∈ LK → w ∈ wsj MT LK q := fun h => List.mem_cons_of_mem _ (List.mem_append_right _ h)
    cases ins with
    | iconst v =>
      simp only [okC, okI, Bool.and_eq_true, decide_eq_true_eq] at hok
      obtain ⟨h1, h2⟩ := hok
      have h2 := Nat.eq_of_beq_eq_true h2; subst h2
      obtain ⟨hm, K⟩ := ih _ _ _ _ h
      exact ⟨hm, fun ad ls H locs h0 hl hP hD hS hn hsl => lv_iconst hx hb hdec h1 (K ad ls H locs h0 hl hP hD hS hn hsl)⟩
    | bipush v =>
      simp only [okC, okI, Bool.and_eq_true, decide_eq_true_eq] at hok
      obtain ⟨h1, h2⟩ := hok
      have h2 := Nat.eq_of_beq_eq_true h2; subst h2
      obtain ⟨hm, K⟩ := ih _ _ _ _ h
      exact ⟨hm, fun ad ls H locs h0 hl hP hD hS hn hsl => lv_bipush hx hb hdec h1 (K ad ls H locs h0 hl hP hD hS hn hsl)⟩
    | sipush v =>
      simp only [okC, okI, Bool.and_eq_true, decide_eq_true_eq] at hok
      obtain ⟨h1, h2⟩ := hok
      have h2 := Nat.eq_of_beq_eq_true h2; subst h2
      obtain ⟨hm, K⟩ := ih _ _ _ _ h
      exact ⟨hm, fun ad ls H locs h0 hl hP hD hS hn hsl => lv_sipush hx hb hdec h1 (K ad ls H locs h0 hl hP hD hS hn hsl)⟩
    | lconst v =>
      simp only [okC, okI, Bool.and_eq_true, decide_eq_true_eq] at hok
      obtain ⟨h1, h2⟩ := hok
      have h2 := Nat.eq_of_beq_eq_true h2; subst h2
      obtain ⟨hm, K⟩ := ih _ _ _ _ h
      exact ⟨hm, fun ad ls H locs h0 hl hP hD hS hn hsl => lv_lconst hx hb hdec h1 (K ad ls H locs h0 hl hP hD hS hn hsl)⟩
    | iload_n k =>
      have hlen := Nat.eq_of_beq_eq_true hok; subst hlen
      replace h := o_gi_e h
      obtain ⟨x, hg, h⟩ := h
      obtain ⟨hm, K⟩ := ih _ _ _ _ h
      exact ⟨hm, fun ad ls H locs h0 hl hP hD hS hn hsl => lv_iload_n hx hb hdec rfl (gl_has hl hg) (K ad ls H locs h0 hl hP hD hS hn hsl)⟩
    | aload_n k =>
      have hlen := Nat.eq_of_beq_eq_true hok; subst hlen
      replace h := o_gr_e h
      obtain ⟨x, hg, h⟩ := h
      obtain ⟨hm, K⟩ := ih _ _ _ _ h
      exact ⟨hm, fun ad ls H locs h0 hl hP hD hS hn hsl => lv_aload_n hx hb hdec rfl (gl_has hl hg) (K ad ls H locs h0 hl hP hD hS hn hsl)⟩
    | istore_n k =>
      simp only [okC, okI, Bool.and_eq_true] at hok
      obtain ⟨h2, h1⟩ := hok
      have h2 := Nat.eq_of_beq_eq_true h2; subst h2
      have h1 := Nat.le_of_ble_eq_true h1
      replace h := o_i_e h
      obtain ⟨x, r, rfl, h⟩ := h
      obtain ⟨hm, K⟩ := ih _ _ _ _ h
      exact ⟨hm, fun ad ls H locs h0 hl hP hD hS hn hsl => lv_istore_n hx hb hdec rfl hl h1 (sl1_map (ad := ad) (v := .int x)) (fun ls hl => K ad ls H locs h0 hl hP hD hS hn hsl)⟩
    | iinc k v =>
      simp only [okC, okI, Bool.and_eq_true, decide_eq_true_eq] at hok
      obtain ⟨⟨h2, h1⟩, h3⟩ := hok
      have h2 := Nat.eq_of_beq_eq_true h2; subst h2
      have h1 := Nat.le_of_ble_eq_true h1
      replace h := o_gi_e h
      obtain ⟨x, hg, h⟩ := h
      obtain ⟨hm, K⟩ := ih _ _ _ _ h
      refine ⟨hm, fun ad ls H locs h0 hl hP hD hS hn hsl => ?_⟩
      obtain ⟨i, hi⟩ := gl_idx (ad := ad) hg
      exact lv_iinc hx hb hdec hl hi (by rw [h3]) h1 (sl1_map (ad := ad) (v := .int (x + z))) (fun ls hl => K ad ls H locs h0 hl hP hD hS hn hsl)
    | iadd =>
      have hlen := Nat.eq_of_beq_eq_true hok; subst hlen
      replace h := o_ii_e h
      obtain ⟨x, y, r, rfl, h⟩ := h
      obtain ⟨hm, K⟩ := ih _ _ _ _ h
      exact ⟨hm, fun ad ls H locs h0 hl hP hD hS hn hsl => lv_iadd hx hb hdec (K ad ls H locs h0 hl hP hD hS hn hsl)⟩
    | dup =>
      have hlen := Nat.eq_of_beq_eq_true hok; subst hlen
      replace h := o_r_e h
      obtain ⟨x, r, rfl, h⟩ := h
      obtain ⟨hm, K⟩ := ih _ _ _ _ h
      exact ⟨hm, fun ad ls H locs h0 hl hP hD hS hn hsl => lv_dup hx hb hdec rfl (K ad ls H locs h0 hl hP hD hS hn hsl)⟩
    | goto off =>
      replace h := o_x1_e h
      obtain ⟨t, rfl, h⟩ := h
      simp only [okC, okI, Bool.and_eq_true, decide_eq_true_eq] at hok
      obtain ⟨h2, h1⟩ := hok
      have h2 := Nat.eq_of_beq_eq_true h2; subst h2
      obtain ⟨hm, K⟩ := ih _ _ _ _ h
      exact ⟨hm, fun ad ls H locs h0 hl hP hD hS hn hsl => lv_goto hx hb hdec h1 (K ad ls H locs h0 hl hP hD hS hn hsl)⟩
    | if_icmp cnd off =>
      replace h := o_if_e h
      obtain ⟨rfl, h⟩ := h
      replace h := o_x1_e h
      obtain ⟨t, rfl, h⟩ := h
      replace h := o_ii_e h
      obtain ⟨x, y, r, rfl, h⟩ := h
      simp only [okC, okI, Bool.and_eq_true, decide_eq_true_eq] at hok
      obtain ⟨h2, h1⟩ := hok
      have h2 := Nat.eq_of_beq_eq_true h2; subst h2
      by_cases hc : y ≤ x
      · rw [if_pos hc] at h
        obtain ⟨hm, K⟩ := ih _ _ _ _ h
        exact ⟨hm, fun ad ls H locs h0 hl hP hD hS hn hsl => lv_icmp_ge hx hb hdec h1 (fun _ => K ad ls H locs h0 hl hP hD hS hn hsl) (fun z => absurd hc z)⟩
      · rw [if_neg hc] at h
        obtain ⟨hm, K⟩ := ih _ _ _ _ h
        exact ⟨hm, fun ad ls H locs h0 hl hP hD hS hn hsl => lv_icmp_ge hx hb hdec h1 (fun z => absurd z hc) (fun _ => K ad ls H locs h0 hl hP hD hS hn hsl)⟩
    | getfield idx =>
      replace h := o_x4_e h
      obtain ⟨ci, k, nest, p0, rfl, h⟩ := h
      replace h := o_r_e h
      obtain ⟨o, r, rfl, h⟩ := h
      replace h := o_obj_e h
      obtain ⟨c2, fs, e1, h⟩ := h
      replace h := o_if_e h
      obtain ⟨rfl, h⟩ := h
      replace h := o_some_e h
      obtain ⟨v, e2, h⟩ := h
      simp only [okC, okI, Bool.and_eq_true] at hok
      obtain ⟨h2, h1⟩ := hok
      have h2 := Nat.eq_of_beq_eq_true h2; subst h2
      obtain ⟨hm, K⟩ := ih _ _ _ _ h
      refine ⟨hm, fun ad ls H locs h0 hl hP hD hS hn hsl => ?_⟩
      have he := cwl_get (kc := kc) (ad := ad) e1
      have hv : (fs.map (cv ad))[k]? = some (cv ad v) := by rw [List.getElem?_map, e2]; rfl
      simp only [okF] at h1
      split at h1
      · rename_i C T N hc
        simp only [Bool.and_eq_true, decide_eq_true_eq] at h1
        obtain ⟨hk, h1⟩ := h1
        have hin : ∀ w ∈ u_ws C T N, w ∈ wsj MT LK q := fun w hw => wl (hLK.2.1 (C, T, N) (List.mem_of_getElem? hc) w hw)
        split at h1
        · simp only [decide_eq_true_eq] at h1
          exact va_get (D := D) (ci := c2) (C := C) (T := T) (N := N) hx hb hts hin hown hK hP o he hc k hk (hts _ (lk_in h1)) (fun _ z => z) hv hdec (K ad ls H locs h0 hl hP hD hS hn hsl)
        · simp only [decide_eq_true_eq] at h1
          exact va_getN (D := D) (ci := c2) (C := C) (T := T) (N := N) hx hb hts hin hown hK hP o he hc k hk (hE.nw p0 h1) (fun _ z => z) hv hdec (K ad ls H locs h0 hl hP hD hS hn hsl)
      · cases h1
    | putfield idx =>
      replace h := o_x5_e h
      obtain ⟨ci, k, nest, p0, kd, rfl, h⟩ := h
      replace h := o_vr_e h
      obtain ⟨v, o, r, rfl, h⟩ := h
      replace h := o_obj_e h
      obtain ⟨c2, fs, e1, h⟩ := h
      replace h := o_if_e h
      obtain ⟨⟨rfl, hk9, hn9, hf9⟩, h⟩ := h
      simp only [okC, Bool.and_eq_true] at hok
      obtain ⟨h2, h1⟩ := hok
      have h2 := Nat.eq_of_beq_eq_true h2; subst h2
      have hini : meth.name = "<init>" ∨ True := Or.inr trivial
      obtain ⟨hm, K⟩ := ih _ _ _ _ h
      have hsl9 : slW (w.set o (.inl (c2, fs.set k v))) = slW w := sl_set e1 (by show (fs.set k v).length = fs.length; rw [List.length_set])
      rw [List.length_set, hsl9] at hm
      refine ⟨hm, fun ad ls H locs h0 hl hP hD hS hn hsl => ?_⟩
      have he := cwl_get (kc := kc) (ad := ad) e1
      have hset : (cwl kc ad w).set o (ad o, .inr (c2, (fs.map (cv ad)).set k (cv ad v))) = cwl kc ad (w.set o (.inl (c2, fs.set k v))) := cwl_set (by show _ = Sum.inr (c2, (fs.set k v).map (cv ad)); rw [List.map_set])
      have hlen : k < (fs.map (cv ad)).length := by rw [List.length_map]; exact hk9
      split at h1
      case h_2 => cases h1
      rename_i C T N hc
      simp only [Bool.and_eq_true, decide_eq_true_eq] at h1
      obtain ⟨⟨hk, h1⟩, h3⟩ := h1
      obtain ⟨⟨ty0, hty0⟩, hnm0⟩ := hcl (C, T, N) (List.mem_of_getElem? hc)
      have hin : ∀ w ∈ u_ws C T N, w ∈ wsj MT LK q := fun w hw => wl (hLK.2.1 (C, T, N) (List.mem_of_getElem? hc) w hw)
      obtain ⟨g1, g2⟩ := hty _ _ hc
      have g1 : (tyc c2).length = N := g1
      have g3 : parseFieldDescriptor (T k).2.2.1 = (tyc c2)[k]? := g2 k hk
      obtain ⟨tyk9, g4⟩ : ∃ t, (tyc c2)[k]? = some t := ⟨_, List.getElem?_eq_getElem (by omega)⟩
      rw [g4] at g3 hn9 hf9
      have hn8 : narrow tyk9 (cv ad v) = cv ad v := nar_cv hn9
      have hf8 : fits tyk9 (cv ad v) = true := fit_cv hf9
      have fin : ∀ (H1 : Heap) (locs1 : List Loc), va_P D vwCl ((cwl kc ad w).set o (ad o, .inr (c2, (fs.map (cv ad)).set k (cv ad v)))) H1 → va_D A ((cwl kc ad w).set o (ad o, .inr (c2, (fs.map (cv ad)).set k (cv ad v)))) → va_S A s0.heap H1 locs1 → W p l e R s0 m args below meth c H1 locs1 (w.length - n0) (slW w - sl0) (MQ below (QC D kc ad0 A n0 w') args s0 (w'.length - n0) (slW w' - sl0) A) (F0 m (pc + 3) ls (r.map (cv ad))) := by
        intro H1 locs1 a1 a2 a3
        rw [hset] at a1 a2
        have := K ad ls H1 locs1 h0 hl a1 a2 a3 (by rw [List.length_set]; exact hn) (by rw [hsl9]; exact hsl)
        rw [List.length_set, hsl9] at this
        exact this
      split at h3
      · simp only [Bool.and_eq_true, decide_eq_true_eq] at h3
        have hini : meth.name = "<init>" := hnm.trans (hq1.2.2.2.2.2.2.1 _ hmem ⟨idx, rfl⟩)
        exact va_putF (D := D) (ci := c2) (C := C) (T := T) (N := N) hx hb hts hin ty0 hty0 hnm0 hown hK hP hD hS o he hc k hk (hts _ (lk_in h1)) (fun _ z => z) h3.1 hini h3.2 g3 hn8 hf8 hlen hdec fin
      · simp only [Bool.not_eq_true'] at h3
        exact va_put (D := D) (ci := c2) (C := C) (T := T) (N := N) hx hb hts hin ty0 hty0 hnm0 hown hK hP hD hS o he hc k hk (hts _ (lk_in h1)) (fun _ z => z) h3 g3 hn8 hf8 hlen hdec fin
    | iastore =>
      have hlen := Nat.eq_of_beq_eq_true hok; subst hlen
      replace h := o_iir_e h
      obtain ⟨x, i, o, r, rfl, h⟩ := h
      replace h := o_arr_e h
      obtain ⟨t, mm, f, ids, e1, h⟩ := h
      replace h := o_if_e h
      obtain ⟨⟨rfl, hin⟩, h⟩ := h
      obtain ⟨hm, K⟩ := ih _ _ _ _ h
      have hsl9 : slW (w.set o (.inr (0, mm, stI f i.toNatClampNeg x, ids))) = slW w := sl_set e1 rfl
      rw [List.length_set, hsl9] at hm
      refine ⟨hm, fun ad ls H locs h0 hl hP hD hS hn hsl => ?_⟩
      refine va_iast hx hb hK hP hD hS o 0 (cwl_get e1) rfl hin hdec (fun H1 locs1 a1 a2 a3 => ?_)
      rw [cwl_set (c := .inr (0, mm, stI f i.toNatClampNeg x, ids)) (by show _ = Sum.inl (kc 0, mm, Sum.inl (fOf (stI f i.toNatClampNeg x))); rw [fOf_st])] at a1 a2
      have := K ad ls H1 locs1 h0 hl a1 a2 a3 (by rw [List.length_set]; exact hn) (by rw [hsl9]; exact hsl)
      rw [List.length_set, hsl9] at this
      exact this
    | aastore =>
      have hlen := Nat.eq_of_beq_eq_true hok; subst hlen
      replace h := o_rir_e h
      obtain ⟨v, i, o, r, rfl, h⟩ := h
      replace h := o_arr_e h
      obtain ⟨t, mm, f, ids, e1, h⟩ := h
      replace h := o_obj_e h
      obtain ⟨c2, fs, e2, h⟩ := h
      replace h := o_if_e h
      obtain ⟨⟨htc, hml9, hin⟩, h⟩ := h
      obtain ⟨hm, K⟩ := ih _ _ _ _ h
      have hsl9 : slW (w.set o (.inr (t, mm, f, ids.set i.toNatClampNeg (some v)))) = slW w := sl_set e1 rfl
      rw [List.length_set, hsl9] at hm
      refine ⟨hm, fun ad ls H locs h0 hl hP hD hS hn hsl => ?_⟩
      rcases htc with ⟨rfl, rfl⟩ | ⟨rfl, rfl⟩
      · exact va_astq hx hb hK hP hD hS o 3 v 8 (cwl_get e1) rfl (cwl_get e2) rfl hin hdec (fun H1 locs1 a1 a2 a3 => by
          rw [cwl_set (c := .inr (3, mm, f, ids.set i.toNatClampNeg (some v))) (aast_cell (t := 0) hml9 hin)] at a1 a2
          have := K ad ls H1 locs1 h0 hl a1 a2 a3 (by rw [List.length_set]; exact hn) (by rw [hsl9]; exact hsl)
          rw [List.length_set, hsl9] at this
          exact this)
      · exact va_astq hx hb hK hP hD hS o 4 v 9 (cwl_get e1) rfl (cwl_get e2) rfl hin hdec (fun H1 locs1 a1 a2 a3 => by
          rw [cwl_set (c := .inr (4, mm, f, ids.set i.toNatClampNeg (some v))) (aast_cell (t := 1) hml9 hin)] at a1 a2
          have := K ad ls H1 locs1 h0 hl a1 a2 a3 (by rw [List.length_set]; exact hn) (by rw [hsl9]; exact hsl)
          rw [List.length_set, hsl9] at this
          exact this)
    | newarray ty =>
      replace h := o_i_e h
      obtain ⟨x, r, rfl, h⟩ := h
      replace h := o_if_e h
      obtain ⟨⟨hty9, hx0, hx1, hsc⟩, h⟩ := h
      simp only [okC, Bool.and_eq_true] at hok
      obtain ⟨h2, h1⟩ := hok
      have h2 := Nat.eq_of_beq_eq_true h2; subst h2
      split at h1
      case h_2 => cases h1
      simp only [decide_eq_true_eq] at h1
      rcases hty9 with rfl | rfl | rfl
      · obtain ⟨hm, K⟩ := ih _ _ _ _ h
        have hs9 : slC (.inr (0, x.toNatClampNeg, [], [])) = x.toNatClampNeg := rfl
        have hm : (w ++ [(.inr (0, x.toNatClampNeg, [], []) : CC)]).length ≤ w'.length ∧ slW (w ++ [(.inr (0, x.toNatClampNeg, [], []) : CC)]) ≤ slW w' := hm
        have K : CWc p l e R s0 m args below meth c D kc ad0 A q.2.2.1 n0 sl0 w' (pc + 2) lv (.ref w.length :: r) (w ++ [.inr (0, x.toNatClampNeg, [], [])]) := K
        rw [len_app, sl_app, hs9] at hm
        refine ⟨⟨by omega, by omega⟩, fun ad ls H locs h0 hl hP hD hS hn hsl => ?_⟩
        refine va_newa (atype := .int) (N' := x.toNatClampNeg) (a0 := (x.toNatClampNeg, .inl (fOf []))) hx hb (hts _ (lk_in h1)) rfl hK hP hD hS hA (fun _ => rfl) hx0 rfl (by show x.toNatClampNeg * 4 ≤ 536870912; omega) (by rw [hRc]; omega) (by rw [hRs]; omega) hdec (fun qn cA H1 hK1 a1 a2 a3 => ?_)
        obtain rfl := tyl_I hK1
        have ha1 : ∀ i, i < w.length → (adN ad w.length qn) i = ad i := fun i hi => adN_lt hi
        unfold scB at hsc
        simp only [Bool.and_eq_true] at hsc
        obtain ⟨⟨hs1, hs2⟩, hs3⟩ := hsc
        have e1 : (adN ad w.length qn) w.length = qn := adN_at
        have ew : cwl kc (adN ad w.length qn) (w ++ [.inr (0, x.toNatClampNeg, [], [])]) = cwl kc ad w ++ [(qn, .inl (kc 0, (x.toNatClampNeg, .inl (fOf []))))] := by
          rw [cwl_app ha1 hs1, e1]; rfl
        rw [← ew] at a1 a2
        have hl2 := hl
        rw [← cql_congr ha1 hs2] at hl2
        have KK := K (adN ad w.length qn) ls H1 locs (fun i hi => (ha1 i (by omega)).trans (h0 i hi)) hl2 a1 a2 a3 (by rw [len_app]; omega) (by rw [sl_app]; omega)
        rw [len_app, sl_app, List.map_cons, cvl_congr ha1 hs3] at KK
        have KK2 : W p l e R s0 m args below meth c H1 locs (w.length + 1 - n0) (slW w + slC (.inr (0, x.toNatClampNeg, [], [])) - sl0) (MQ below (QC D kc ad0 A n0 w') args s0 (w'.length - n0) (slW w' - sl0) A) (F0 m (pc + 2) ls (.ref ((adN ad w.length qn) w.length) :: r.map (cv ad))) := KK
        rw [e1] at KK2
        exact W_eqn (by omega) (by rw [hs9]; omega) KK2
      · obtain ⟨hm, K⟩ := ih _ _ _ _ h
        have hs9 : slC (.inr (1, x.toNatClampNeg, [], [])) = x.toNatClampNeg := rfl
        have hm : (w ++ [(.inr (1, x.toNatClampNeg, [], []) : CC)]).length ≤ w'.length ∧ slW (w ++ [(.inr (1, x.toNatClampNeg, [], []) : CC)]) ≤ slW w' := hm
        have K : CWc p l e R s0 m args below meth c D kc ad0 A q.2.2.1 n0 sl0 w' (pc + 2) lv (.ref w.length :: r) (w ++ [.inr (1, x.toNatClampNeg, [], [])]) := K
        rw [len_app, sl_app, hs9] at hm
        refine ⟨⟨by omega, by omega⟩, fun ad ls H locs h0 hl hP hD hS hn hsl => ?_⟩
        refine va_newa (atype := .long) (N' := x.toNatClampNeg) (a0 := (x.toNatClampNeg, .inr (.inl z1))) hx hb (hts _ (lk_in h1)) rfl hK hP hD hS hA (fun _ => rfl) hx0 rfl (by show x.toNatClampNeg * 8 ≤ 536870912; omega) (by rw [hRc]; omega) (by rw [hRs]; omega) hdec (fun qn cA H1 hK1 a1 a2 a3 => ?_)
        obtain rfl := tyl_J hK1
        have ha1 : ∀ i, i < w.length → (adN ad w.length qn) i = ad i := fun i hi => adN_lt hi
        unfold scB at hsc
        simp only [Bool.and_eq_true] at hsc
        obtain ⟨⟨hs1, hs2⟩, hs3⟩ := hsc
        have e1 : (adN ad w.length qn) w.length = qn := adN_at
        have ew : cwl kc (adN ad w.length qn) (w ++ [.inr (1, x.toNatClampNeg, [], [])]) = cwl kc ad w ++ [(qn, .inl (kc 1, (x.toNatClampNeg, .inr (.inl z1))))] := by
          rw [cwl_app ha1 hs1, e1]; rfl
        rw [← ew] at a1 a2
        have hl2 := hl
        rw [← cql_congr ha1 hs2] at hl2
        have KK := K (adN ad w.length qn) ls H1 locs (fun i hi => (ha1 i (by omega)).trans (h0 i hi)) hl2 a1 a2 a3 (by rw [len_app]; omega) (by rw [sl_app]; omega)
        rw [len_app, sl_app, List.map_cons, cvl_congr ha1 hs3] at KK
        have KK2 : W p l e R s0 m args below meth c H1 locs (w.length + 1 - n0) (slW w + slC (.inr (1, x.toNatClampNeg, [], [])) - sl0) (MQ below (QC D kc ad0 A n0 w') args s0 (w'.length - n0) (slW w' - sl0) A) (F0 m (pc + 2) ls (.ref ((adN ad w.length qn) w.length) :: r.map (cv ad))) := KK
        rw [e1] at KK2
        exact W_eqn (by omega) (by rw [hs9]; omega) KK2
      · obtain ⟨hm, K⟩ := ih _ _ _ _ h
        have hs9 : slC (.inr (2, x.toNatClampNeg, [], [])) = x.toNatClampNeg := rfl
        have hm : (w ++ [(.inr (2, x.toNatClampNeg, [], []) : CC)]).length ≤ w'.length ∧ slW (w ++ [(.inr (2, x.toNatClampNeg, [], []) : CC)]) ≤ slW w' := hm
        have K : CWc p l e R s0 m args below meth c D kc ad0 A q.2.2.1 n0 sl0 w' (pc + 2) lv (.ref w.length :: r) (w ++ [.inr (2, x.toNatClampNeg, [], [])]) := K
        rw [len_app, sl_app, hs9] at hm
        refine ⟨⟨by omega, by omega⟩, fun ad ls H locs h0 hl hP hD hS hn hsl => ?_⟩
        refine va_newa (atype := .byte) (N' := x.toNatClampNeg) (a0 := (x.toNatClampNeg, .inl (fOf []))) hx hb (hts _ (lk_in h1)) rfl hK hP hD hS hA (fun _ => rfl) hx0 rfl (by show x.toNatClampNeg * 1 ≤ 536870912; omega) (by rw [hRc]; omega) (by rw [hRs]; omega) hdec (fun qn cA H1 hK1 a1 a2 a3 => ?_)
        obtain rfl := tyl_B hK1
        have ha1 : ∀ i, i < w.length → (adN ad w.length qn) i = ad i := fun i hi => adN_lt hi
        unfold scB at hsc
        simp only [Bool.and_eq_true] at hsc
        obtain ⟨⟨hs1, hs2⟩, hs3⟩ := hsc
        have e1 : (adN ad w.length qn) w.length = qn := adN_at
        have ew : cwl kc (adN ad w.length qn) (w ++ [.inr (2, x.toNatClampNeg, [], [])]) = cwl kc ad w ++ [(qn, .inl (kc 2, (x.toNatClampNeg, .inl (fOf []))))] := by
          rw [cwl_app ha1 hs1, e1]; rfl
        rw [← ew] at a1 a2
        have hl2 := hl
        rw [← cql_congr ha1 hs2] at hl2
        have KK := K (adN ad w.length qn) ls H1 locs (fun i hi => (ha1 i (by omega)).trans (h0 i hi)) hl2 a1 a2 a3 (by rw [len_app]; omega) (by rw [sl_app]; omega)
        rw [len_app, sl_app, List.map_cons, cvl_congr ha1 hs3] at KK
        have KK2 : W p l e R s0 m args below meth c H1 locs (w.length + 1 - n0) (slW w + slC (.inr (2, x.toNatClampNeg, [], [])) - sl0) (MQ below (QC D kc ad0 A n0 w') args s0 (w'.length - n0) (slW w' - sl0) A) (F0 m (pc + 2) ls (.ref ((adN ad w.length qn) w.length) :: r.map (cv ad))) := KK
        rw [e1] at KK2
        exact W_eqn (by omega) (by rw [hs9]; omega) KK2
    | anewarray idx =>
      replace h := o_x2_e h
      obtain ⟨p0, t, rfl, h⟩ := h
      replace h := o_i_e h
      obtain ⟨x, r, rfl, h⟩ := h
      replace h := o_if_e h
      obtain ⟨⟨hty9, hx0, hx1, hsc⟩, h⟩ := h
      simp only [okC, Bool.and_eq_true, decide_eq_true_eq] at hok
      obtain ⟨h2, h1⟩ := hok
      have h2 := Nat.eq_of_beq_eq_true h2; subst h2
      rcases hty9 with rfl | rfl
      · obtain ⟨hm, K⟩ := ih _ _ _ _ h
        have hs9 : slC (.inr (3, x.toNatClampNeg, [], List.replicate x.toNatClampNeg none)) = x.toNatClampNeg := rfl
        rw [len_app, sl_app, hs9] at hm
        refine ⟨⟨by omega, by omega⟩, fun ad ls H locs h0 hl hP hD hS hn hsl => ?_⟩
        refine va_newq (C := "SaltStreet$Tray") (N' := x.toNatClampNeg) hx hb hown (hts _ (lk_in h1)) hE.2.2.1 hK hP hD hS hA hx0 rfl (by omega) (by rw [hRc]; omega) (by rw [hRs]; omega) hdec (fun qn cA H1 hK1 a1 a2 a3 => ?_)
        obtain rfl := tyl_T hK1
        have ha1 : ∀ i, i < w.length → (adN ad w.length qn) i = ad i := fun i hi => adN_lt hi
        unfold scB at hsc
        simp only [Bool.and_eq_true] at hsc
        obtain ⟨⟨hs1, hs2⟩, hs3⟩ := hsc
        have e1 : (adN ad w.length qn) w.length = qn := adN_at
        have ew : cwl kc (adN ad w.length qn) (w ++ [.inr (3, x.toNatClampNeg, [], List.replicate x.toNatClampNeg none)]) = cwl kc ad w ++ [(qn, .inl (kc 3, x.toNatClampNeg, .inr (.inr (.inr (.inr (fun _ => none))))))] := by
          rw [cwl_app ha1 hs1, e1]
          congr 4
          show Sum.inl (kc 3, x.toNatClampNeg, Sum.inr (Sum.inr (Sum.inr (Sum.inr (fun k => ((List.replicate x.toNatClampNeg (none : Option Nat)).getD k none).map (adN ad w.length qn)))))) = _
          rw [rep_none]
        rw [← ew] at a1 a2
        have hl2 := hl
        rw [← cql_congr ha1 hs2] at hl2
        have KK := K (adN ad w.length qn) ls H1 locs (fun i hi => (ha1 i (by omega)).trans (h0 i hi)) hl2 a1 a2 a3 (by rw [len_app]; omega) (by rw [sl_app]; omega)
        rw [len_app, sl_app, List.map_cons, cvl_congr ha1 hs3] at KK
        have KK2 : W p l e R s0 m args below meth c H1 locs (w.length + 1 - n0) (slW w + slC (.inr (3, x.toNatClampNeg, [], List.replicate x.toNatClampNeg none)) - sl0) (MQ below (QC D kc ad0 A n0 w') args s0 (w'.length - n0) (slW w' - sl0) A) (F0 m (pc + 3) ls (.ref ((adN ad w.length qn) w.length) :: r.map (cv ad))) := KK
        rw [e1] at KK2
        exact W_eqn (by omega) (by rw [hs9]; omega) KK2
      · obtain ⟨hm, K⟩ := ih _ _ _ _ h
        have hs9 : slC (.inr (4, x.toNatClampNeg, [], List.replicate x.toNatClampNeg none)) = x.toNatClampNeg := rfl
        rw [len_app, sl_app, hs9] at hm
        refine ⟨⟨by omega, by omega⟩, fun ad ls H locs h0 hl hP hD hS hn hsl => ?_⟩
        refine va_newq (C := "SaltStreet$World") (N' := x.toNatClampNeg) hx hb hown (hts _ (lk_in h1)) hE.2.2.2 hK hP hD hS hA hx0 rfl (by omega) (by rw [hRc]; omega) (by rw [hRs]; omega) hdec (fun qn cA H1 hK1 a1 a2 a3 => ?_)
        obtain rfl := tyl_W hK1
        have ha1 : ∀ i, i < w.length → (adN ad w.length qn) i = ad i := fun i hi => adN_lt hi
        unfold scB at hsc
        simp only [Bool.and_eq_true] at hsc
        obtain ⟨⟨hs1, hs2⟩, hs3⟩ := hsc
        have e1 : (adN ad w.length qn) w.length = qn := adN_at
        have ew : cwl kc (adN ad w.length qn) (w ++ [.inr (4, x.toNatClampNeg, [], List.replicate x.toNatClampNeg none)]) = cwl kc ad w ++ [(qn, .inl (kc 4, x.toNatClampNeg, .inr (.inr (.inr (.inr (fun _ => none))))))] := by
          rw [cwl_app ha1 hs1, e1]
          congr 4
          show Sum.inl (kc 4, x.toNatClampNeg, Sum.inr (Sum.inr (Sum.inr (Sum.inr (fun k => ((List.replicate x.toNatClampNeg (none : Option Nat)).getD k none).map (adN ad w.length qn)))))) = _
          rw [rep_none]
        rw [← ew] at a1 a2
        have hl2 := hl
        rw [← cql_congr ha1 hs2] at hl2
        have KK := K (adN ad w.length qn) ls H1 locs (fun i hi => (ha1 i (by omega)).trans (h0 i hi)) hl2 a1 a2 a3 (by rw [len_app]; omega) (by rw [sl_app]; omega)
        rw [len_app, sl_app, List.map_cons, cvl_congr ha1 hs3] at KK
        have KK2 : W p l e R s0 m args below meth c H1 locs (w.length + 1 - n0) (slW w + slC (.inr (4, x.toNatClampNeg, [], List.replicate x.toNatClampNeg none)) - sl0) (MQ below (QC D kc ad0 A n0 w') args s0 (w'.length - n0) (slW w' - sl0) A) (F0 m (pc + 3) ls (.ref ((adN ad w.length qn) w.length) :: r.map (cv ad))) := KK
        rw [e1] at KK2
        exact W_eqn (by omega) (by rw [hs9]; omega) KK2
    | new idx =>
      replace h := o_x4_e h
      obtain ⟨ci, p1, p2, p3, rfl, h⟩ := h
      replace h := o_if_e h
      obtain ⟨hsc, h⟩ := h
      simp only [okC, Bool.and_eq_true] at hok
      obtain ⟨h2, h1⟩ := hok
      have h2 := Nat.eq_of_beq_eq_true h2; subst h2
      split at h1
      case h_2 => cases h1
      rename_i C T N hc
      simp only [Bool.and_eq_true, decide_eq_true_eq] at h1
      obtain ⟨⟨h11, h12⟩, h13⟩ := h1
      obtain ⟨hm, K⟩ := ih _ _ _ _ h
      obtain ⟨g1, g2⟩ := hty _ _ hc
      have g1 : (tyc ci).length = N := g1
      have hs9 : slC (newO ci (tyc ci)) = N := by show ((tyc ci).map dflt).length = N; rw [List.length_map, g1]
      rw [len_app, sl_app, hs9] at hm
      refine ⟨⟨by omega, by omega⟩, fun ad ls H locs h0 hl hP hD hS hn hsl => ?_⟩
      have hin : ∀ w ∈ u_ws C T N, w ∈ wsj MT LK q := fun w hw => wl (hLK.2.1 (C, T, N) (List.mem_of_getElem? hc) w hw)
      refine va_new (ci := ci) (fs := (tyc ci).map dflt) (C := C) (T := T) (N := N) hx hb hts hin (fun k => ((tyc ci)[k]?).getD .int) (fun k hk => by
        have g3 : parseFieldDescriptor (T k).2.2.1 = (tyc ci)[k]? := g2 k hk
        rw [g3, List.getElem?_eq_getElem (by omega)]; rfl) hown (hts _ (lk_in h11)) (hts _ (lk_in h12)) (hts _ (lk_in h13)) hK hP hD hS hA hc (fun j hj => by
        rw [List.getElem?_eq_getElem (by omega)]
        exact dflt_ok (by omega) (htf ci)) (by rw [hRc]; omega) (by rw [hRs]; omega) hdec (fun qn H1 a1 a2 a3 => ?_)
      have ha1 : ∀ i, i < w.length → (adN ad w.length qn) i = ad i := fun i hi => adN_lt hi
      unfold scB at hsc
      simp only [Bool.and_eq_true] at hsc
      obtain ⟨⟨hs1, hs2⟩, hs3⟩ := hsc
      have e1 : (adN ad w.length qn) w.length = qn := adN_at
      have ew : cwl kc (adN ad w.length qn) (w ++ [newO ci (tyc ci)]) = cwl kc ad w ++ [(qn, .inr (ci, (tyc ci).map dflt))] := by
        rw [cwl_app ha1 hs1, e1]
        congr 4
        show Sum.inr (ci, ((tyc ci).map dflt).map (cv (adN ad w.length qn))) = Sum.inr (ci, (tyc ci).map dflt)
        rw [dflt_cv]
      rw [← ew] at a1 a2
      have hl2 := hl
      rw [← cql_congr ha1 hs2] at hl2
      have KK := K (adN ad w.length qn) ls H1 locs (fun i hi => (ha1 i (by omega)).trans (h0 i hi)) hl2 a1 a2 a3 (by rw [len_app]; omega) (by rw [sl_app]; omega)
      rw [len_app, sl_app, List.map_cons, cvl_congr ha1 hs3] at KK
      have KK2 : W p l e R s0 m args below meth c H1 locs (w.length + 1 - n0) (slW w + slC (newO ci (tyc ci)) - sl0) (MQ below (QC D kc ad0 A n0 w') args s0 (w'.length - n0) (slW w' - sl0) A) (F0 m (pc + 3) ls (.ref ((adN ad w.length qn) w.length) :: st.map (cv ad))) := KK
      rw [e1] at KK2
      exact W_eqn (by omega) (by rw [hs9]; omega) KK2
    | invokespecial idx =>
      simp only [okC, Bool.and_eq_true] at hok
      obtain ⟨h2, h1⟩ := hok
      have h2 := Nat.eq_of_beq_eq_true h2; subst h2
      dsimp only at h
      by_cases hO : isO ax = true
      · rw [if_pos hO] at h
        replace h := o_r_e h
        obtain ⟨o, r, rfl, h⟩ := h
        replace h := o_if_e h
        obtain ⟨hro, h⟩ := h
        obtain ⟨p0, rfl⟩ : ∃ p0, ax = [9, p0] := by
          unfold isO at hO
          split at hO
          · exact ⟨_, rfl⟩
          · cases hO
        simp only [decide_eq_true_eq] at h1
        obtain ⟨hm, K⟩ := ih _ _ _ _ h
        refine ⟨hm, fun ad ls H locs h0 hl hP hD hS hn hsl => ?_⟩
        have hr8 := room_map (ad := ad) hro
        have hr9 := lv_room (m := m) (pc := pc) (ls := ls) (rest := (.ref (ad o) :: r.map (cv ad))) hr8
        exact W.objInit (g := F0 m pc ls (.ref (ad o) :: r.map (cv ad))) hx hb hown (hts _ (lk_in h1)) (hts _ (wl hLK.2.2.1)) (hts _ (wl hLK.2.2.2)) rfl (by rw [hml]; exact hl.1) rfl hdec hfr (by omega) (K ad ls H locs h0 hl hP hD hS hn hsl)
      · rw [if_neg hO] at h
        replace h := o_x7_e h
        obtain ⟨np, j, nest, p1, p2, p3, rfl, h⟩ := h
        replace h := o_if_e h
        obtain ⟨⟨hsc, hnp, hro⟩, h⟩ := h
        replace h := o_r_e h
        obtain ⟨o, as, has, h⟩ := h
        replace h := o_w_e h
        obtain ⟨w2, hcl2, h⟩ := h
        have h1 : okSI MT LK q.1.cls idx np j nest p1 p2 p3 = true := h1
        obtain ⟨⟨hg1, hg2⟩, q2, hq2, hM⟩ := hcall _ _ _ _ hcl2
        have hq2m := List.mem_of_getElem? hq2
        obtain ⟨hpl, hmh, hpd, hmx, -, hrt, -, -⟩ := hMT q2 hq2m
        have hgd := wsj_good (MT := MT) (LK := LK) hLK.1 (fun q hq => (hMT q hq).2.2.2.2.1) (q := q) hq2m
        obtain ⟨hm, K⟩ := ih _ _ _ _ h
        refine ⟨⟨by omega, by omega⟩, fun ad ls H locs h0 hl hP hD hS hn hsl => ?_⟩
        have hF := freeC hD hS hA
        unfold scB at hsc
        simp only [Bool.and_eq_true] at hsc
        obtain ⟨⟨hs1, hs2⟩, hs3⟩ := hsc
        have hs4 : (st.drop np).all (scV w.length) = true := List.all_eq_true.mpr (fun v hv => List.all_eq_true.mp hs3 v (List.mem_of_mem_drop hv))
        have hrm : (rmc d (w2.length - w.length) (slW w2 - slW w)).frames + 1 ≤ R.frames ∧ 8 + (q2.2.2.1 + 11) + (rmc d (w2.length - w.length) (slW w2 - slW w)).locals ≤ R.locals := by
          rw [hR]; exact ⟨Nat.le_refl _, by show 8 + (q2.2.2.1 + 11) + (120 + 31 * d) ≤ 120 + 31 * (d + 1); omega⟩
        have hroom : (w.length - n0) + (w2.length - w.length) ≤ R.cells ∧ (slW w - sl0) + (slW w2 - slW w) ≤ R.slots := by
          rw [hRc, hRs]; omega
        have fin : ∀ (ad2 : Nat → Nat) (H1 : Heap) (locs1 : List Loc), (∀ i, i < w.length → ad2 i = ad i) → va_P D vwCl (cwl kc ad2 w2) H1 → va_D A (cwl kc ad2 w2) → va_S A s0.heap H1 locs1 → W p l e R s0 m args below meth c H1 locs1 ((w.length - n0) + (w2.length - w.length)) ((slW w - sl0) + (slW w2 - slW w)) (MQ below (QC D kc ad0 A n0 w') args s0 (w'.length - n0) (slW w' - sl0) A) (F0 m (pc + 3) ls ((st.drop np).map (cv ad))) := by
          intro ad2 H1 locs1 a0 a1 a2 a3
          have hl2 := hl
          rw [← cql_congr a0 hs2] at hl2
          have KK := K ad2 ls H1 locs1 (fun i hi => (a0 i (by omega)).trans (h0 i hi)) hl2 a1 a2 a3 (by omega) (by omega)
          rw [cvl_congr a0 hs4] at KK
          exact W_eqn (by omega) (by omega) KK
        have hstk : (st.map (cv ad)) = ((as.map (cv ad)).reverse) ++ .ref (ad o) :: (st.drop np).map (cv ad) := by
          have e7 : st.take np = (Value.ref o :: as).reverse := by rw [← has, List.reverse_reverse]
          have e8 : st = st.take np ++ st.drop np := (List.take_append_drop np st).symm
          rw [e7, List.reverse_cons] at e8
          calc st.map (cv ad) = (as.reverse ++ [Value.ref o] ++ st.drop np).map (cv ad) := by rw [← e8]
            _ = _ := by rw [List.map_append, List.map_append, List.append_assoc, List.map_reverse]; rfl
        have hln : as.length + 1 = np := by
          have := congrArg List.length has
          simp at this; omega
        unfold okSI at h1
        rw [hq2] at h1
        simp only [Bool.and_eq_true, decide_eq_true_eq] at h1
        obtain ⟨⟨⟨⟨hn1, hn2⟩, hn3⟩, hn4⟩, h1⟩ := h1
        have hn1 := Nat.eq_of_beq_eq_true hn1
        have hpd2 : (parseMethodDescriptor q2.1.desc).map (fun d => d.parameters.length) = some as.length := by rw [hpd]; congr 1; omega
        have hpre : PreS s0 H (va_Pc ((Value.ref o :: as).map (cv ad)) (wPc D kc ad w H.size)) (.ref (ad o) :: as.map (cv ad)) := ⟨wPc_blind, fun U hU hW => wPc_ok (av := (Value.ref o :: as).map (cv ad)) hP hD hE hU hW⟩
        have hM2 := hM ad H.size
        have hM2 : Met l q2.1 (.code q2.1 q2.2.1 q2.2.2.1 none :: LA MT LK) (rmc d (w2.length - w.length) (slW w2 - slW w)) (va_Pc ((Value.ref o :: as).map (cv ad)) (wPc D kc ad w H.size)) (QC D kc ad (va_A (cwl kc ad w) H.size) w.length w2) (w2.length - w.length) (slW w2 - slW w) (va_A (cwl kc ad w) H.size) := by
          have e5 : wsj MT LK q2 = .code q2.1 q2.2.1 q2.2.2.1 none :: LA MT LK := by unfold wsj codeW; rw [hrt]
          rw [← e5]; exact hM2
        have hgd2 : GoodIn (wsj MT LK q) (.code q2.1 q2.2.1 q2.2.2.1 none :: LA MT LK) := by
          have e5 : wsj MT LK q2 = .code q2.1 q2.2.1 q2.2.2.1 none :: LA MT LK := by unfold wsj codeW; rw [hrt]
          rw [← e5]; exact hgd
        split at h1
        · simp only [decide_eq_true_eq] at h1
          exact call_C (va_runI (n := as.length) (As := as.map (cv ad)) ⟨hx, hb, hml, hown, hts⟩ hM2 ⟨callB_of as.length hts hgd2 rfl rfl rfl (hts _ (lk_in hn3)) (hts _ (lk_in h1)) ⟨hmh.1, hmh.2, hpd2⟩ hrm, hn2, hts _ (lk_in hn4)⟩ hpre rfl (by simp) hl.1 hstk (lv_room (room_map hro)) hdec hroom) hF hS hF (fun ad2 H1 locs1 a0 a1 a2 _ _ a3 => fin ad2 H1 locs1 a0 a1 a2 a3)
        · simp only [decide_eq_true_eq] at h1
          exact call_C (va_runIN (n := as.length) (As := as.map (cv ad)) ⟨hx, hb, hml, hown, hts⟩ hM2 ⟨va_cnB as.length hts hgd2 rfl rfl rfl (hE.nn _ h1) (hts _ (lk_in hn3)) ⟨hmh.1, hmh.2, hpd2⟩ hrm, hn2, hts _ (lk_in hn4)⟩ hpre rfl (by simp) hl.1 hstk (lv_room (room_map hro)) hdec hroom) hF hS hF (fun ad2 H1 locs1 a0 a1 a2 _ _ a3 => fin ad2 H1 locs1 a0 a1 a2 a3)
    | invokevirtual idx =>
      simp only [okC, Bool.and_eq_true] at hok
      obtain ⟨h2, h1⟩ := hok
      have h2 := Nat.eq_of_beq_eq_true h2; subst h2
      replace h := o_x9_e h
      obtain ⟨np, j, ci, nest, p1, p2, p3, p4, rfl, h⟩ := h
      replace h := o_if_e h
      obtain ⟨⟨hsc, hnp, hro⟩, h⟩ := h
      replace h := o_r_e h
      obtain ⟨o, as, has, h⟩ := h
      replace h := o_obj_e h
      obtain ⟨c2, fs, e1, h⟩ := h
      replace h := o_if_e h
      obtain ⟨rfl, h⟩ := h
      replace h := o_w_e h
      obtain ⟨w2, hcl2, h⟩ := h
      have h1 : okVI MT LK q.1.cls idx np j c2 nest p1 p2 p3 p4 = true := h1
      obtain ⟨⟨hg1, hg2⟩, q2, hq2, hM⟩ := hcall _ _ _ _ hcl2
      have hq2m := List.mem_of_getElem? hq2
      obtain ⟨hpl, hmh, hpd, hmx, -, hrt, -, -⟩ := hMT q2 hq2m
      have hgd := wsj_good (MT := MT) (LK := LK) hLK.1 (fun q hq => (hMT q hq).2.2.2.2.1) (q := q) hq2m
      obtain ⟨hm, K⟩ := ih _ _ _ _ h
      refine ⟨⟨by omega, by omega⟩, fun ad ls H locs h0 hl hP hD hS hn hsl => ?_⟩
      have hF := freeC hD hS hA
      unfold scB at hsc
      simp only [Bool.and_eq_true] at hsc
      obtain ⟨⟨hs1, hs2⟩, hs3⟩ := hsc
      have hs4 : (st.drop np).all (scV w.length) = true := List.all_eq_true.mpr (fun v hv => List.all_eq_true.mp hs3 v (List.mem_of_mem_drop hv))
      have hrm : (rmc d (w2.length - w.length) (slW w2 - slW w)).frames + 1 ≤ R.frames ∧ 8 + (q2.2.2.1 + 11) + (rmc d (w2.length - w.length) (slW w2 - slW w)).locals ≤ R.locals := by
        rw [hR]; exact ⟨Nat.le_refl _, by show 8 + (q2.2.2.1 + 11) + (120 + 31 * d) ≤ 120 + 31 * (d + 1); omega⟩
      have hroom : (w.length - n0) + (w2.length - w.length) ≤ R.cells ∧ (slW w - sl0) + (slW w2 - slW w) ≤ R.slots := by
        rw [hRc, hRs]; omega
      have fin : ∀ (ad2 : Nat → Nat) (H1 : Heap) (locs1 : List Loc), (∀ i, i < w.length → ad2 i = ad i) → va_P D vwCl (cwl kc ad2 w2) H1 → va_D A (cwl kc ad2 w2) → va_S A s0.heap H1 locs1 → W p l e R s0 m args below meth c H1 locs1 ((w.length - n0) + (w2.length - w.length)) ((slW w - sl0) + (slW w2 - slW w)) (MQ below (QC D kc ad0 A n0 w') args s0 (w'.length - n0) (slW w' - sl0) A) (F0 m (pc + 3) ls ((st.drop np).map (cv ad))) := by
        intro ad2 H1 locs1 a0 a1 a2 a3
        have hl2 := hl
        rw [← cql_congr a0 hs2] at hl2
        have KK := K ad2 ls H1 locs1 (fun i hi => (a0 i (by omega)).trans (h0 i hi)) hl2 a1 a2 a3 (by omega) (by omega)
        rw [cvl_congr a0 hs4] at KK
        exact W_eqn (by omega) (by omega) KK
      have hstk : (st.map (cv ad)) = ((as.map (cv ad)).reverse) ++ .ref (ad o) :: (st.drop np).map (cv ad) := by
        have e7 : st.take np = (Value.ref o :: as).reverse := by rw [← has, List.reverse_reverse]
        have e8 : st = st.take np ++ st.drop np := (List.take_append_drop np st).symm
        rw [e7, List.reverse_cons] at e8
        calc st.map (cv ad) = (as.reverse ++ [Value.ref o] ++ st.drop np).map (cv ad) := by rw [← e8]
          _ = _ := by rw [List.map_append, List.map_append, List.append_assoc, List.map_reverse]; rfl
      have hln : as.length + 1 = np := by
        have := congrArg List.length has
        simp at this; omega
      unfold okVI at h1
      rw [hq2] at h1
      simp only [Bool.and_eq_true, decide_eq_true_eq] at h1
      obtain ⟨⟨⟨⟨⟨⟨hn1, hvc⟩, hn9⟩, h11⟩, h12⟩, h13⟩, h14⟩ := h1
      have hn1 := Nat.eq_of_beq_eq_true hn1
      have hpd2 : (parseMethodDescriptor q2.1.desc).map (fun d => d.parameters.length) = some as.length := by rw [hpd]; congr 1; omega
      cases hc : vwCl[c2]? with
      | none => rw [hc] at hvc; cases hvc
      | some qc =>
        rw [hc] at hvc
        have hvc : qc.1 = q2.1.cls := Option.some.inj hvc
        have hpre : PreV s0 H q2.1.cls (ad o) (va_Pc ((Value.ref o :: as).map (cv ad)) (wPc D kc ad w H.size)) (as.map (cv ad)) := ⟨wPc_blind, by rw [← hvc]; exact va_recv hK hP hc (cwl_get e1), fun U hU hW => wPc_ok (av := (Value.ref o :: as).map (cv ad)) hP hD hE hU hW⟩
        exact call_C (va_runV (n := as.length) (As := as.map (cv ad)) ⟨hx, hb, hml, hown, hts⟩ (hM ad H.size) ⟨callB_of as.length hts hgd rfl rfl rfl (hts _ (lk_in h14)) (hts _ (lk_in h11)) ⟨hmh.1, hmh.2, hpd2⟩ hrm, hts _ (lk_in h12), hts _ (lk_in h13)⟩ hpre rfl (by simp) hl.1 hstk (lv_room (room_map hro)) hdec hroom) hF hS hF (fun ad2 H1 locs1 a0 a1 a2 _ _ a3 => fin ad2 H1 locs1 a0 a1 a2 a3)
    | return_ =>
      have hlen := Nat.eq_of_beq_eq_true hok; subst hlen
      replace h := o_nil_e h
      obtain ⟨rfl, h⟩ := h
      cases h
      refine ⟨⟨Nat.le_refl _, Nat.le_refl _⟩, fun ad ls H locs h0 hl hP hD hS hn hsl => ?_⟩
      exact W.vret (free := A) hx hb hr (fun t ht hW => ⟨⟨ad, h0, rfl, by rw [ht]; exact hP, hD⟩, hS.F ht⟩) hS.2.2 hdec hlocks
    | _ => cases h
