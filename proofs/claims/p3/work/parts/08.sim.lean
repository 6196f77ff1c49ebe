theorem b01_n {x : Int32} (h : x = 0 ∨ x = 1) : narrow .boolean (.int x) = .int x := by rcases h with rfl | rfl <;> rfl
theorem b01_f {x : Int32} (h : x = 0 ∨ x = 1) : fits .boolean (.int x) = true := by rcases h with rfl | rfl <;> rfl
theorem toList_map {v : Option Value} {ad : Nat → Nat} : v.toList.map (cv ad) = (v.map (cv ad)).toList := by cases v <;> rfl
theorem cellI_pI {kc : Nat → ClassId} {ad : Nat → Nat} {s : Sg} {o k n t : Nat} {ids : List Nat} {x : Int32} (ht : t = 0 ∨ t = 2) : (Sum.inl (kc t, n, .inl (upd (s.1 o) k x)) : va_E) = cellOf kc ad (pI s o k x) o (.inr (t, n, ids)) := by
  have e1 : (pI s o k x).1 o = upd (s.1 o) k x := va_up_at _ _ _
  show _ = Sum.inl (kc t, n, arrOf ad (pI s o k x) o t ids)
  unfold arrOf
  rcases ht with rfl | rfl <;> rw [e1] <;> rfl
theorem cellI_pL {kc : Nat → ClassId} {ad : Nat → Nat} {s : Sg} {o k n : Nat} {ids : List Nat} {x : Int64} : (Sum.inl (kc 1, n, .inr (.inl (vp_updL (s.2 o) k x))) : va_E) = cellOf kc ad (pL s o k x) o (.inr (1, n, ids)) := by
  have e1 : (pL s o k x).2 o = vp_updL (s.2 o) k x := va_up_at _ _ _
  show _ = Sum.inl (kc 1, n, arrOf ad (pL s o k x) o 1 ids)
  unfold arrOf
  rw [e1]
  rfl
theorem cellA_pA {kc : Nat → ClassId} {ad : Nat → Nat} {s : Sg} {o n : Nat} {ids : List Nat} {f : Nat → Int32} : (Sum.inl (kc 0, n, .inl f) : va_E) = cellOf kc ad (pA s o f) o (.inr (0, n, ids)) := by
  have e1 : (pA s o f).1 o = f := va_up_at _ _ _
  show _ = Sum.inl (kc 0, n, arrOf ad (pA s o f) o 0 ids)
  unfold arrOf
  rw [e1]
  rfl
theorem cellB_pB {kc : Nat → ClassId} {ad : Nat → Nat} {s : Sg} {o n : Nat} {ids : List Nat} {f : Nat → Int64} : (Sum.inl (kc 1, n, .inr (.inl f)) : va_E) = cellOf kc ad (pB s o f) o (.inr (1, n, ids)) := by
  have e1 : (pB s o f).2 o = f := va_up_at _ _ _
  show _ = Sum.inl (kc 1, n, arrOf ad (pB s o f) o 1 ids)
  unfold arrOf
  rw [e1]
  rfl
def codeW (q : ME) : Cond := .code q.1 q.2.1 q.2.2.1 q.2.2.2.1
def LA (MT : List ME) (LK : List Cond) : List Cond := MT.map codeW ++ LK
def wsj (MT : List ME) (LK : List Cond) (q : ME) : List Cond := codeW q :: LA MT LK
def rmd (d : Nat) : Room := { frames := d + 4, cells := 0, slots := 0, locals := 120 + 31 * d }
def strR : List (String × Nat) := [("SaltStreet$Tokens", 71), ("SaltStreetModel", 165)]
def tyk : Nat → FieldType
  | 1 => .long
  | 2 => .int
  | _ => .boolean
def okF (LK : List Cond) (own : String) (idx ci k nest p : Nat) : Bool := match vwCl[ci]? with
  | some (_, T, N) => decide (k < N) && (match nest with
    | 0 => decide (LK[p]? = some (.fieldLink own idx (T k).1 (T k).2.1 (T k).2.2.1))
    | _ => decide (NWs[p]? = some (.fieldLinkNest own idx (T k).1 (T k).2.1 (T k).2.2.1 "SaltStreet")))
  | none => false
def okPF (ci k kd : Nat) : Bool := match vwCl[ci]? with
  | some (_, T, _) => !(T k).2.2.2 && decide (parseFieldDescriptor (T k).2.2.1 = some (tyk kd))
  | none => false
def okCS (MT : List ME) (LK : List Cond) (own : String) (idx n j : Nat) (r : List Nat) : Bool := match MT[j]? with
  | some q => Nat.beq n q.2.2.2.2.1 && (match r with
    | [0, p1, p2, p3] => decide (LK[p1]? = some (.methodLink own idx q.1)) && decide (LK[p2]? = some (.static q.1)) && decide (LK[p3]? = some (.initialized q.1.cls))
    | [1, p1, p2, p3] => decide (NWs[p1]? = some (.methodLinkNest own idx q.1 "SaltStreet")) && decide (LK[p2]? = some (.static q.1)) && decide (LK[p3]? = some (.initialized q.1.cls))
    | _ => false)
  | none => false
def okCV (MT : List ME) (LK : List Cond) (own : String) (idx n j ci : Nat) (r : List Nat) : Bool := match MT[j]? with
  | some q => Nat.beq n (q.2.2.2.2.1 + 1) && decide (vwCl[ci]?.map (fun q => q.1) = some q.1.cls) && (match r with
    | [0, p1, p2, p3, p4] => decide (LK[p1]? = some (.methodLink own idx q.1)) && decide (LK[p2]? = some (.instanceMethod q.1)) && decide (LK[p3]? = some (.selects q.1.cls q.1 q.1)) && decide (LK[p4]? = some (.initialized q.1.cls))
    | [1, p1, p2, p3, p4] => decide (NWs[p1]? = some (.methodLinkNest own idx q.1 "SaltStreet")) && decide (LK[p2]? = some (.instanceMethod q.1)) && decide (LK[p3]? = some (.selects q.1.cls q.1 q.1)) && decide (LK[p4]? = some (.initialized q.1.cls))
    | _ => false)
  | none => false
def okI (MT : List ME) (LK : List Cond) (own : String) (nL pc : Nat) (ins : Instr) (len : Nat) (ax : List Nat) (z : Int32) (zl : Int64) : Bool := match ins with
  | .iconst n => decide (Int32.ofInt n = z) && Nat.beq len 1
  | .bipush n => decide ((Int8.ofInt n).toInt32 = z) && Nat.beq len 2
  | .sipush n => decide ((Int16.ofInt n).toInt32 = z) && Nat.beq len 3
  | .lconst n => decide (Int64.ofNat (n : Nat) = zl) && Nat.beq len 1
  | .ldc idx => Nat.beq len 2 && (match ax with
    | [0, p] => decide (LK[p]? = some (.constant own idx z))
    | [1, k] => decide (strR[k]? = some (own, idx))
    | _ => false)
  | .ldc_w idx => Nat.beq len 3 && (match ax with
    | [p] => decide (LK[p]? = some (.constant own idx z))
    | _ => false)
  | .ldc2_w idx => Nat.beq len 3 && (match ax with
    | [p] => decide (LK[p]? = some (.constantLong own idx zl))
    | _ => false)
  | .iload_n _ | .lload_n _ | .aload_n _ => Nat.beq len 1
  | .iload _ | .lload _ | .aload _ => Nat.beq len 2
  | .istore_n k | .astore_n k => Nat.beq len 1 && Nat.blt k nL
  | .istore k | .astore k => Nat.beq len 2 && Nat.blt k nL
  | .lstore_n k => Nat.beq len 1 && Nat.blt (k + 1) nL
  | .lstore k => Nat.beq len 2 && Nat.blt (k + 1) nL
  | .iinc k n => Nat.beq len 3 && Nat.blt k nL && decide (Int32.ofInt n = z)
  | .goto off => Nat.beq len 3 && (match ax with
    | [t] => decide ((pc : Int) + off = (t : Int))
    | _ => false)
  | .ifCond _ off => Nat.beq len 3 && (match ax with
    | [t] => decide ((pc : Int) + off = (t : Int))
    | _ => false)
  | .if_icmp _ off => Nat.beq len 3 && (match ax with
    | [t] => decide ((pc : Int) + off = (t : Int))
    | _ => false)
  | .tableswitch d lo hi offs => decide (-2 ^ 31 ≤ lo) && decide (hi < 2 ^ 31) && decide (hi = lo + offs.size - 1) && decide (0 ≤ (pc : Int) + d) && offs.toList.all (fun o => decide (0 ≤ (pc : Int) + o))
  | .lookupswitch d ps => ps.toList.all (fun q => decide (-2 ^ 31 ≤ q.1) && decide (q.1 < 2 ^ 31)) && (ps.toList.zip (ps.toList.drop 1)).all (fun (a, next) => a.1 < next.1) && decide (0 ≤ (pc : Int) + d) && ps.toList.all (fun q => decide (0 ≤ (pc : Int) + q.2))
  | .getfield idx => Nat.beq len 3 && (match ax with
    | [ci, k, nest, p] => okF LK own idx ci k nest p
    | _ => false)
  | .putfield idx => Nat.beq len 3 && (match ax with
    | [ci, k, nest, p, kd] => okF LK own idx ci k nest p && okPF ci k kd
    | _ => false)
  | .invokestatic idx => Nat.beq len 3 && (match ax with
    | 0 :: n :: j :: r => okCS MT LK own idx n j r
    | [1, p] => decide (LK[p]? = some (.methodLink own idx Lib.Math.max.name))
    | [2, p] => decide (LK[p]? = some (.methodLink own idx Lib.Math.min.name))
    | [3, p] => decide (LK[p]? = some (.methodLink own idx Lib.Math.abs.name))
    | [4, p] => decide (LK[p]? = some (.methodLink own idx arraycopyName))
    | [5, p] => decide (LK[p]? = some (.methodLink own idx arraycopyName))
    | _ => false)
  | .invokevirtual idx => Nat.beq len 3 && (match ax with
    | 0 :: n :: j :: ci :: r => okCV MT LK own idx n j ci r
    | [6, k, p] => decide (k < 2) && decide (LK[p]? = some (.methodLink own idx yJ0_length_8abf5))
    | [7, k, p] => decide (k < 2) && decide (LK[p]? = some (.methodLink own idx yJ0_charAt_5068e))
    | _ => false)
  | _ => Nat.beq len 1
/-- what the words must hold beside the links -/
def LKok (LK : List Cond) : Prop := LK.all goodWord = true ∧ (∀ q ∈ vwCl, ∀ w ∈ u_ws q.1 q.2.1 q.2.2, w ∈ LK) ∧ (∀ w ∈ ([.static Lib.Math.max.name, .static Lib.Math.min.name, .static Lib.Math.abs.name, .initialized "java/lang/Math", .code Lib.Math.max.name Lib.Math.max.code 2 (some .int), .code Lib.Math.min.name Lib.Math.min.code 2 (some .int), .code Lib.Math.abs.name Lib.Math.abs.code 1 (some .int), .native arraycopyName, .static arraycopyName, .initialized "java/lang/System"] : List Cond), w ∈ LK) ∧ (∀ w ∈ SJ, w ∈ LK)
def clsOk : Prop := ∀ q ∈ vwCl, (∃ ty0 : Nat → FieldType, ∀ k, k < q.2.2 → parseFieldDescriptor (q.2.1 k).2.2.1 = some (ty0 k)) ∧ ∀ a, a < q.2.2 → ∀ b, b < q.2.2 → a ≠ b → (q.2.1 a).2.1 ≠ (q.2.1 b).2.1
def SHok (SH : List Shp) : Prop := ∀ (i t n : Nat) (ids : List Nat), SH[i]? = some (Sum.inr (t, n, ids)) → t ≤ 4 ∧ n < 2 ^ 31
def MEok (MT : List ME) (LK : List Cond) (q : ME) : Prop := (plainFor q.1 = true) ∧ (q.1.cls ≠ "java/lang/invoke/MethodHandle" ∧ q.1.cls ≠ "java/lang/invoke/VarHandle") ∧ (parseMethodDescriptor q.1.desc).map (fun d => d.parameters.length) = some q.2.2.2.2.1 ∧ q.2.2.1 ≤ 12 ∧ goodWord (codeW q) = true ∧ ∀ e ∈ q.2.2.2.2.2, decode q.2.1 e.1 = .ok (e.2.1, e.2.2.1) ∧ okI MT LK q.1.cls q.2.2.1 e.1 e.2.1 e.2.2.1 e.2.2.2.1 e.2.2.2.2.1 e.2.2.2.2.2 = true
def QF (D : va_G) (kc : Nat → ClassId) (ad : Nat → Nat) (SH : List Shp) (A : Nat → Prop) (Q : Qt) : Array Value → State → Outcome → State → Prop := fun _ st oc t => (∃ (v : Option Value) (s' : Sg), oc = .returned (v.map (cv ad)) ∧ Q v s' ∧ va_P D vwCl (wsl kc ad SH s') t.heap ∧ va_D A (wsl kc ad SH s')) ∧ va_F A st t
def wPr (D : va_G) (kc : Nat → ClassId) (ad adV : Nat → Nat) (SH : List Shp) (s : Sg) (sz : Nat) : State → Prop := fun U => U.heap.size = sz ∧ va_P D vwCl (wsl kc ad SH s) U.heap ∧ EK D kc U ∧ va_D (fun _ => True) (wsl kc ad SH s) ∧ SE ad adV (va_A (wsl kc ad SH s) sz) U U.heap
theorem wPr_blind {av : List Value} {D : va_G} {kc : Nat → ClassId} {ad adV : Nat → Nat} {SH : List Shp} {s : Sg} {sz : Nat} : FrameBlind (va_Pc av (wPr D kc ad adV SH s sz)) := fun a U g mk q => by
  obtain ⟨q0, q1, qP, qK, qD, qS⟩ := q
  exact ⟨q0, q1, qP, qK.call, qD, qS.call⟩
theorem wPr_ok {s0 U : State} {H : Heap} {D : va_G} {kc : Nat → ClassId} {ad adV : Nat → Nat} {SH : List Shp} {s : Sg} {A : Nat → Prop} {av : List Value} (hP : va_P D vwCl (wsl kc ad SH s) H) (hD : va_D A (wsl kc ad SH s)) (hE : EK D kc s0) (hs : SE ad adV A s0 H) (hF : ∀ q, va_A (wsl kc ad SH s) H.size q → A q) (hU : U.heap = H) (hW : s0.WarmedH U.vm) : va_Pc av (wPr D kc ad adV SH s H.size) av.toArray U :=
  ⟨rfl, by rw [hU], by rw [hU]; exact hP, hE.warm hW, hD.weaken (fun _ _ _ _ => trivial), by rw [hU]; exact hs.to hW hF⟩
def CW (p : Program) (l : Launch) (e : Env) (R : Room) (s0 : State) (m : MethodId) (args : Array Value) (below : List Frame) (meth : Method) (c : Code) (Qf : State → Prop) (D : va_G) (kc : Nat → ClassId) (ad : Nat → Nat) (SH : List Shp) (A : Nat → Prop) (nL : Nat) : Xt := fun pc lv st s =>
  ∀ (ls : Array Slot) (H : Heap) (locs : List Loc), lv_has ls nL (lv.map (cq ad)) → va_P D vwCl (wsl kc ad SH s) H → va_D A (wsl kc ad SH s) → va_S A s0.heap H locs → W p l e R s0 m args below meth c H locs 0 0 Qf (F0 m pc ls (st.map (cv ad)))
section SIM
variable {p : Program} {l : Launch} {e : Env} {R : Room} {s0 : State} {m : MethodId} {args : Array Value} {below : List Frame} {meth : Method} {c : Code} {H : Heap} {locs : List Loc} {D : va_G} {kc : Nat → ClassId} {ad adV : Nat → Nat} {SH : List Shp} {A A1 : Nat → Prop} {MT : List ME} {LK : List Cond}
theorem free_of {s : Sg} (hD : va_D A (wsl kc ad SH s)) (hS : va_S A s0.heap H locs) (hA : ∀ q, s0.heap.size ≤ q → A q) : ∀ q, va_A (wsl kc ad SH s) H.size q → A q := by
  intro q h
  rcases h with ⟨k, e, h⟩ | h
  · exact hD.2 k _ h
  · exact hA q (Nat.le_trans hS.1 h)
theorem call_g {Qf : State → Prop} {pc : Nat} {ls : Array Slot} {st0 rest : List Value} {a : Array Value} {Q : Qt} {s : Sg} {free : Addr → Prop} (hr : va_Run p l e R s0 m args below meth c H locs 0 0 0 0 (F0 m pc ls st0) rest (QF D kc ad SH (va_A (wsl kc ad SH s) H.size) Q a) free) (hf : ∀ q, free q → A q)
    (hS : va_S A s0.heap H locs) (hF : ∀ q, va_A (wsl kc ad SH s) H.size q → A q)
    (kk : ∀ (v : Option Value) (s' : Sg) (H1 : Heap) (locs1 : List Loc), Q v s' → va_P D vwCl (wsl kc ad SH s') H1 → va_D A (wsl kc ad SH s') → va_S A s0.heap H1 locs1 → W p l e R s0 m args below meth c H1 locs1 0 0 Qf (F0 m (pc + 3) ls ((v.map (cv ad)).toList ++ rest))) : W p l e R s0 m args below meth c H locs 0 0 Qf (F0 m pc ls st0) := by
  intro T hT X
  obtain ⟨v, st₀, t, T', L, h0, X', hL, e1, e2, ⟨⟨r, s', hv, hp, hP1, hD1⟩, hz, hk⟩, st⟩ := hr T hT X
  cases hv
  rw [h0] at hz hk
  obtain ⟨t2, a1, b1⟩ := kk r s' T'.heap (locs ++ L) hp (by rw [e1]; exact hP1) (hD1.weaken (fun _ _ _ h => hF _ h))
    ⟨Nat.le_trans hS.1 (by rw [e1]; exact hz), fun q h1 h2 => by rw [e1, hk q (Nat.lt_of_lt_of_le h1 hS.1) (fun z => h2 (hF q z))]; exact hS.2.1 q h1 h2, fun q hq => by
      rcases List.mem_append.mp hq with h | h
      · exact hS.2.2 q h
      · exact hf _ (hL q h)⟩ T' rfl X'
  exact ⟨t2, st t2 a1, b1⟩
theorem LA_good (hg : LK.all goodWord = true) (hm : ∀ q ∈ MT, goodWord (codeW q) = true) {q : ME} : GoodIn (wsj MT LK q) (LA MT LK) := by
  intro w hw
  refine ⟨List.mem_cons_of_mem _ hw, ?_⟩
  rcases List.mem_append.mp hw with h | h
  · obtain ⟨q2, hq2, rfl⟩ := List.mem_map.mp h
    exact good_of_word (hm q2 hq2)
  · exact good_of_word (List.all_eq_true.mp hg w h)
theorem wsj_good (hg : LK.all goodWord = true) (hm : ∀ q ∈ MT, goodWord (codeW q) = true) {q q2 : ME} (h2 : q2 ∈ MT) : GoodIn (wsj MT LK q) (wsj MT LK q2) := by
  intro w hw
  rcases List.mem_cons.mp hw with rfl | h
  · exact LA_good hg hm _ (List.mem_append_left _ (List.mem_map.mpr ⟨q2, h2, rfl⟩))
  · exact LA_good hg hm _ h
theorem sj_in (hLK : LKok LK) {q : ME} {w0 : Cond} (h0 : w0 ∈ SJ) : GoodIn (wsj MT LK q) (w0 :: SJ) := by
  have g : ∀ w ∈ SJ, w ∈ wsj MT LK q ∧ ((w.onTables && w.keeps) = true ∨ ∃ ty, w = .arrayClass ty) := fun w hw => ⟨List.mem_cons_of_mem _ (List.mem_append_right _ (hLK.2.2.2 w hw)), good_of_word (List.all_eq_true.mp SJ_good w hw)⟩
  intro w hw
  rcases List.mem_cons.mp hw with rfl | h
  · exact g _ h0
  · exact g _ h
theorem sj_w (hLK : LKok LK) {q : ME} {w : Cond} (i : Nat) (h : SJ[i]? = some w) : w ∈ wsj MT LK q := List.mem_cons_of_mem _ (List.mem_append_right _ (hLK.2.2.2 w (List.mem_of_getElem? h)))
theorem lk_in {p0 : Nat} {w : Cond} {q : ME} (h : LK[p0]? = some w) : w ∈ wsj MT LK q := List.mem_cons_of_mem _ (List.mem_append_right _ (List.mem_of_getElem? h))

set_option maxHeartbeats 4000000 in
theorem snd_sti {cl : Ct} {rt : Option FieldType} {Q : Qt} {q : ME} {d pc : Nat} {lv : Lv} {st : List Value} {s : Sg} {ins : Instr} {len : Nat} {ax : List Nat} {z : Int32} {zl : Int64}
    (hx : p.tables.exec = Jvm.exec) (hb : c.code = q.2.1) (hml : c.maxLocals = q.2.2.1) (hr : meth.sig.returnType = rt) (hlocks : meth.locks = false) (hown : s0.vm.findClass q.1.cls = some m.cls) (hts : ∀ w ∈ wsj MT LK q, w.before args s0 = true)
    (hE : EK D kc s0) (hA : ∀ q, s0.heap.size ≤ q → A q) (hs : SE ad adV A s0 s0.heap) (hLK : LKok LK) (hcl : clsOk) (hSH : SHok SH) (hMT : ∀ q ∈ MT, MEok MT LK q) (hR : R = rmd (d + 1))
    (hcall : ∀ j as s Q, cl j as s Q → ∃ q2, MT[j]? = some q2 ∧ ∀ sz, Met l q2.1 (wsj MT LK q2) (rmd d) (va_Pc (as.map (cv ad)) (wPr D kc ad adV SH s sz)) (QF D kc ad SH (va_A (wsl kc ad SH s) sz) Q) 0 0 (va_A (wsl kc ad SH s) sz))
    (hdec : decode q.2.1 pc = .ok (ins, len)) (hok : okI MT LK q.1.cls q.2.2.1 pc ins len ax z zl = true)
    (h : sti SH cl rt Q (CW p l e R s0 m args below meth c (MQ below (QF D kc ad SH A Q) args s0 0 0 A) D kc ad SH A q.2.2.1) pc lv st s ins ax z zl) :
    CW p l e R s0 m args below meth c (MQ below (QF D kc ad SH A Q) args s0 0 0 A) D kc ad SH A q.2.2.1 pc lv st s := by
  intro ls H locs hl hP hD hS
  have hK := hE.1
  have go : ∀ {pc lv st s}, CW p l e R s0 m args below meth c (MQ below (QF D kc ad SH A Q) args s0 0 0 A) D kc ad SH A q.2.2.1 pc lv st s → ∀ {ls H locs}, lv_has ls q.2.2.1 (lv.map (cq ad)) → va_P D vwCl (wsl kc ad SH s) H → va_D A (wsl kc ad SH s) → va_S A s0.heap H locs → W p l e R s0 m args below meth c H locs 0 0 (MQ below (QF D kc ad SH A Q) args s0 0 0 A) (F0 m pc ls (st.map (cv ad))) := fun w _ _ _ a b c d => w _ _ _ a b c d
  have hfr : 1 ≤ R.frames := by rw [hR]; show 1 ≤ d + 1 + 4; omega
  have hlo : 101 ≤ R.locals := by rw [hR]; show 101 ≤ 120 + 31 * (d + 1); omega
  have hce : R.cells = 0 := by rw [hR]; rfl
  have hsl : R.slots = 0 := by rw [hR]; rfl
  cases ins with
  | iconst n =>
    simp only [okI, Bool.and_eq_true, decide_eq_true_eq] at hok
    obtain ⟨h1, h2⟩ := hok
    have h2 := Nat.eq_of_beq_eq_true h2; subst h2
    exact lv_iconst hx hb hdec h1 (go h hl hP hD hS)
  | bipush n =>
    simp only [okI, Bool.and_eq_true, decide_eq_true_eq] at hok
    obtain ⟨h1, h2⟩ := hok
    have h2 := Nat.eq_of_beq_eq_true h2; subst h2
    exact lv_bipush hx hb hdec h1 (go h hl hP hD hS)
  | sipush n =>
    simp only [okI, Bool.and_eq_true, decide_eq_true_eq] at hok
    obtain ⟨h1, h2⟩ := hok
    have h2 := Nat.eq_of_beq_eq_true h2; subst h2
    exact lv_sipush hx hb hdec h1 (go h hl hP hD hS)
  | lconst n =>
    simp only [okI, Bool.and_eq_true, decide_eq_true_eq] at hok
    obtain ⟨h1, h2⟩ := hok
    have h2 := Nat.eq_of_beq_eq_true h2; subst h2
    exact lv_lconst hx hb hdec h1 (go h hl hP hD hS)
  | ldc idx =>
    simp only [okI, Bool.and_eq_true] at hok
    obtain ⟨h2, h1⟩ := hok
    have h2 := Nat.eq_of_beq_eq_true h2; subst h2
    simp only [sti] at h
    split at h
    · simp only [decide_eq_true_eq] at h1
      exact lv_ldc hx hb hown (hts _ (lk_in h1)) hdec (go h hl hP hD hS)
    · rename_i k
      simp only [decide_eq_true_eq] at h1
      rcases k with _ | _ | k
      · have e1 : q.1.cls = "SaltStreet$Tokens" ∧ idx = 71 := by
          have := Option.some.inj h1
          exact ⟨(Prod.mk.inj this).1.symm, (Prod.mk.inj this).2.symm⟩
        obtain ⟨e1, rfl⟩ := e1
        rw [e1] at hown
        exact va_ldcS hx hb hown hs.2.1 hdec (go h hl hP hD hS)
      · have e1 : q.1.cls = "SaltStreetModel" ∧ idx = 165 := by
          have := Option.some.inj h1
          exact ⟨(Prod.mk.inj this).1.symm, (Prod.mk.inj this).2.symm⟩
        obtain ⟨e1, rfl⟩ := e1
        rw [e1] at hown
        exact va_ldcS hx hb hown hs.2.2.1 hdec (go h hl hP hD hS)
      · cases h1
    · exact h.elim
  | ldc_w idx =>
    simp only [okI, Bool.and_eq_true] at hok
    obtain ⟨h2, h1⟩ := hok
    have h2 := Nat.eq_of_beq_eq_true h2; subst h2
    split at h1
    · simp only [decide_eq_true_eq] at h1
      exact lv_ldcw hx hb hown (hts _ (lk_in h1)) hdec (go h hl hP hD hS)
    · cases h1
  | ldc2_w idx =>
    simp only [okI, Bool.and_eq_true] at hok
    obtain ⟨h2, h1⟩ := hok
    have h2 := Nat.eq_of_beq_eq_true h2; subst h2
    split at h1
    · simp only [decide_eq_true_eq] at h1
      exact lv_ldc2 hx hb hown (hts _ (lk_in h1)) hdec (go h hl hP hD hS)
    · cases h1
  | iload_n k =>
    have hlen := Nat.eq_of_beq_eq_true hok; subst hlen
    obtain ⟨x, hg, h⟩ := ki_e h
    exact lv_iload_n hx hb hdec rfl (gl_has hl hg) (go h hl hP hD hS)
  | iload k =>
    have hlen := Nat.eq_of_beq_eq_true hok; subst hlen
    obtain ⟨x, hg, h⟩ := ki_e h
    exact lv_iload hx hb hdec (gl_has hl hg) (go h hl hP hD hS)
  | lload_n k =>
    have hlen := Nat.eq_of_beq_eq_true hok; subst hlen
    obtain ⟨x, hg, h⟩ := kl_e h
    exact lv_lload_n hx hb hdec rfl (gl_has hl hg) (go h hl hP hD hS)
  | lload k =>
    have hlen := Nat.eq_of_beq_eq_true hok; subst hlen
    obtain ⟨x, hg, h⟩ := kl_e h
    exact lv_lload hx hb hdec (gl_has hl hg) (go h hl hP hD hS)
  | aload_n k =>
    have hlen := Nat.eq_of_beq_eq_true hok; subst hlen
    obtain ⟨x, hg, h⟩ := ka_e h
    exact lv_aload_n hx hb hdec rfl (gl_has hl hg) (go h hl hP hD hS)
  | aload k =>
    have hlen := Nat.eq_of_beq_eq_true hok; subst hlen
    obtain ⟨x, hg, h⟩ := ka_e h
    exact lv_aload hx hb hdec (gl_has hl hg) (go h hl hP hD hS)
  | istore_n k =>
    simp only [okI, Bool.and_eq_true] at hok
    obtain ⟨h2, h1⟩ := hok
    have h2 := Nat.eq_of_beq_eq_true h2; subst h2
    have h1 := Nat.le_of_ble_eq_true h1
    obtain ⟨x, r, rfl, h⟩ := k1_e h
    exact lv_istore_n hx hb hdec rfl hl h1 (sl1_map (ad := ad) (v := .int x)) (fun ls hl => go h hl hP hD hS)
  | istore k =>
    simp only [okI, Bool.and_eq_true] at hok
    obtain ⟨h2, h1⟩ := hok
    have h2 := Nat.eq_of_beq_eq_true h2; subst h2
    have h1 := Nat.le_of_ble_eq_true h1
    obtain ⟨x, r, rfl, h⟩ := k1_e h
    exact lv_istore hx hb hdec hl h1 (sl1_map (ad := ad) (v := .int x)) (fun ls hl => go h hl hP hD hS)
  | lstore_n k =>
    simp only [okI, Bool.and_eq_true] at hok
    obtain ⟨h2, h1⟩ := hok
    have h2 := Nat.eq_of_beq_eq_true h2; subst h2
    have h1 := Nat.le_of_ble_eq_true h1
    obtain ⟨x, r, rfl, h⟩ := kl1_e h
    exact lv_lstore_n hx hb hdec rfl hl h1 (sl2_map (ad := ad) (v := .long x)) (fun ls hl => go h hl hP hD hS)
  | lstore k =>
    simp only [okI, Bool.and_eq_true] at hok
    obtain ⟨h2, h1⟩ := hok
    have h2 := Nat.eq_of_beq_eq_true h2; subst h2
    have h1 := Nat.le_of_ble_eq_true h1
    obtain ⟨x, r, rfl, h⟩ := kl1_e h
    exact lv_lstore hx hb hdec hl h1 (sl2_map (ad := ad) (v := .long x)) (fun ls hl => go h hl hP hD hS)
  | astore_n k =>
    simp only [okI, Bool.and_eq_true] at hok
    obtain ⟨h2, h1⟩ := hok
    have h2 := Nat.eq_of_beq_eq_true h2; subst h2
    have h1 := Nat.le_of_ble_eq_true h1
    obtain ⟨x, r, rfl, h⟩ := kr_e h
    exact lv_astore_n hx hb hdec rfl hl h1 (sl1_map (ad := ad) (v := .ref x)) (fun ls hl => go h hl hP hD hS)
  | astore k =>
    simp only [okI, Bool.and_eq_true] at hok
    obtain ⟨h2, h1⟩ := hok
    have h2 := Nat.eq_of_beq_eq_true h2; subst h2
    have h1 := Nat.le_of_ble_eq_true h1
    obtain ⟨x, r, rfl, h⟩ := kr_e h
    exact lv_astore hx hb hdec hl h1 (sl1_map (ad := ad) (v := .ref x)) (fun ls hl => go h hl hP hD hS)
  | iinc k n =>
    simp only [okI, Bool.and_eq_true, decide_eq_true_eq] at hok
    obtain ⟨⟨h2, h1⟩, h3⟩ := hok
    have h2 := Nat.eq_of_beq_eq_true h2; subst h2
    have h1 := Nat.le_of_ble_eq_true h1
    obtain ⟨x, hg, h⟩ := ki_e h
    obtain ⟨i, hi⟩ := gl_idx (ad := ad) hg
    exact lv_iinc hx hb hdec hl hi (by rw [h3]) h1 (sl1_map (ad := ad) (v := .int (x + z))) (fun ls hl => go h hl hP hD hS)
  | iadd =>
    have hlen := Nat.eq_of_beq_eq_true hok; subst hlen
    obtain ⟨x, y, r, rfl, h⟩ := k2_e h
    exact lv_iadd hx hb hdec (go h hl hP hD hS)
  | isub =>
    have hlen := Nat.eq_of_beq_eq_true hok; subst hlen
    obtain ⟨x, y, r, rfl, h⟩ := k2_e h
    exact lv_isub hx hb hdec (go h hl hP hD hS)
  | imul =>
    have hlen := Nat.eq_of_beq_eq_true hok; subst hlen
    obtain ⟨x, y, r, rfl, h⟩ := k2_e h
    exact lv_imul hx hb hdec (go h hl hP hD hS)
  | iand =>
    have hlen := Nat.eq_of_beq_eq_true hok; subst hlen
    obtain ⟨x, y, r, rfl, h⟩ := k2_e h
    exact lv_iand hx hb hdec (go h hl hP hD hS)
  | ior =>
    have hlen := Nat.eq_of_beq_eq_true hok; subst hlen
    obtain ⟨x, y, r, rfl, h⟩ := k2_e h
    exact lv_ior hx hb hdec (go h hl hP hD hS)
  | ixor =>
    have hlen := Nat.eq_of_beq_eq_true hok; subst hlen
    obtain ⟨x, y, r, rfl, h⟩ := k2_e h
    exact lv_ixor hx hb hdec (go h hl hP hD hS)
  | ishl =>
    have hlen := Nat.eq_of_beq_eq_true hok; subst hlen
    obtain ⟨x, y, r, rfl, h⟩ := k2_e h
    exact lv_ishl hx hb hdec (go h hl hP hD hS)
  | ishr =>
    have hlen := Nat.eq_of_beq_eq_true hok; subst hlen
    obtain ⟨x, y, r, rfl, h⟩ := k2_e h
    exact lv_ishr hx hb hdec (go h hl hP hD hS)
  | iushr =>
    have hlen := Nat.eq_of_beq_eq_true hok; subst hlen
    obtain ⟨x, y, r, rfl, h⟩ := k2_e h
    exact lv_iushr hx hb hdec rfl (go h hl hP hD hS)
  | idiv =>
    have hlen := Nat.eq_of_beq_eq_true hok; subst hlen
    obtain ⟨x, y, r, rfl, h0, h⟩ := k2_e h
    exact lv_idiv hx hb hdec h0 (go h hl hP hD hS)
  | irem =>
    have hlen := Nat.eq_of_beq_eq_true hok; subst hlen
    obtain ⟨x, y, r, rfl, h0, h⟩ := k2_e h
    exact lv_irem hx hb hdec h0 (go h hl hP hD hS)
  | ladd =>
    have hlen := Nat.eq_of_beq_eq_true hok; subst hlen
    obtain ⟨x, y, r, rfl, h⟩ := kl2_e h
    exact lv_ladd hx hb hdec (go h hl hP hD hS)
  | lsub =>
    have hlen := Nat.eq_of_beq_eq_true hok; subst hlen
    obtain ⟨x, y, r, rfl, h⟩ := kl2_e h
    exact lv_lsub hx hb hdec (go h hl hP hD hS)
  | lmul =>
    have hlen := Nat.eq_of_beq_eq_true hok; subst hlen
    obtain ⟨x, y, r, rfl, h⟩ := kl2_e h
    exact lv_lmul hx hb hdec (go h hl hP hD hS)
  | land =>
    have hlen := Nat.eq_of_beq_eq_true hok; subst hlen
    obtain ⟨x, y, r, rfl, h⟩ := kl2_e h
    exact lv_land hx hb hdec (go h hl hP hD hS)
  | lor =>
    have hlen := Nat.eq_of_beq_eq_true hok; subst hlen
    obtain ⟨x, y, r, rfl, h⟩ := kl2_e h
    exact lv_lor hx hb hdec (go h hl hP hD hS)
  | ldiv =>
    have hlen := Nat.eq_of_beq_eq_true hok; subst hlen
    obtain ⟨x, y, r, rfl, h0, h⟩ := kl2_e h
    exact lv_ldiv hx hb hdec h0 (go h hl hP hD hS)
  | lrem =>
    have hlen := Nat.eq_of_beq_eq_true hok; subst hlen
    obtain ⟨x, y, r, rfl, h0, h⟩ := kl2_e h
    exact lv_lrem hx hb hdec h0 (go h hl hP hD hS)
  | lshl =>
    have hlen := Nat.eq_of_beq_eq_true hok; subst hlen
    obtain ⟨x, y, r, rfl, h⟩ := kil_e h
    exact lv_lshl hx hb hdec rfl (go h hl hP hD hS)
  | lcmp =>
    have hlen := Nat.eq_of_beq_eq_true hok; subst hlen
    obtain ⟨x, y, r, rfl, h⟩ := kl2_e h
    exact W.lcmp hx hb hdec (go h hl hP hD hS)
  | i2l =>
    have hlen := Nat.eq_of_beq_eq_true hok; subst hlen
    obtain ⟨x, r, rfl, h⟩ := k1_e h
    exact lv_i2l hx hb hdec rfl (go h hl hP hD hS)
  | l2i =>
    have hlen := Nat.eq_of_beq_eq_true hok; subst hlen
    obtain ⟨x, r, rfl, h⟩ := kl1_e h
    exact lv_l2i hx hb hdec rfl (go h hl hP hD hS)
  | i2b =>
    have hlen := Nat.eq_of_beq_eq_true hok; subst hlen
    obtain ⟨x, r, rfl, h⟩ := k1_e h
    exact lv_i2b hx hb hdec rfl (go h hl hP hD hS)
  | i2s =>
    have hlen := Nat.eq_of_beq_eq_true hok; subst hlen
    obtain ⟨x, r, rfl, h⟩ := k1_e h
    exact lv_i2s hx hb hdec rfl (go h hl hP hD hS)
  | dup =>
    have hlen := Nat.eq_of_beq_eq_true hok; subst hlen
    simp only [sti] at h
    obtain ⟨v, r, rfl, hv, h⟩ := kc1_e h
    exact lv_dup hx hb hdec (by rw [cv_cat]; exact hv) (go h hl hP hD hS)
  | pop =>
    have hlen := Nat.eq_of_beq_eq_true hok; subst hlen
    simp only [sti] at h
    obtain ⟨v, r, rfl, hv, h⟩ := kc1_e h
    exact lv_pop hx hb hdec (by rw [cv_cat]; exact hv) (go h hl hP hD hS)
  | dup2 =>
    have hlen := Nat.eq_of_beq_eq_true hok; subst hlen
    obtain ⟨o, i, r, rfl, h⟩ := kri_e h
    exact lv_dup2_11 hx hb hdec rfl rfl (go h hl hP hD hS)
  | pop2 =>
    have hlen := Nat.eq_of_beq_eq_true hok; subst hlen
    obtain ⟨x, r, rfl, h⟩ := kl1_e h
    exact lv_pop2_2 hx hb hdec rfl (go h hl hP hD hS)
  | goto off =>
    simp only [okI, Bool.and_eq_true] at hok
    obtain ⟨h2, h1⟩ := hok
    have h2 := Nat.eq_of_beq_eq_true h2; subst h2
    simp only [sti] at h
    split at h
    · simp only [decide_eq_true_eq] at h1
      exact lv_goto hx hb hdec h1 (go h hl hP hD hS)
    · exact h.elim
  | ifCond cnd off =>
    simp only [okI, Bool.and_eq_true] at hok
    obtain ⟨h2, h1⟩ := hok
    have h2 := Nat.eq_of_beq_eq_true h2; subst h2
    simp only [sti] at h
    split at h
    · simp only [decide_eq_true_eq] at h1
      obtain ⟨x, r, rfl, h⟩ := k1_e h
      cases cnd with
      | eq =>
        exact lv_if_eq hx hb hdec h1 (fun q => go (h.1 q) hl hP hD hS) (fun q => go (h.2 q) hl hP hD hS)
      | ne =>
        exact lv_if_ne hx hb hdec h1 (fun q => go (h.2 q) hl hP hD hS) (fun q => go (h.1 q) hl hP hD hS)
      | lt =>
        exact lv_if_lt hx hb hdec h1 (fun q => go (h.1 q) hl hP hD hS) (fun q => go (h.2 q) hl hP hD hS)
      | ge =>
        exact lv_if_ge hx hb hdec h1 (fun q => go (h.1 q) hl hP hD hS) (fun q => go (h.2 q) hl hP hD hS)
      | gt =>
        exact lv_if_gt hx hb hdec h1 (fun q => go (h.1 q) hl hP hD hS) (fun q => go (h.2 q) hl hP hD hS)
      | le =>
        exact lv_if_le hx hb hdec h1 (fun q => go (h.1 q) hl hP hD hS) (fun q => go (h.2 q) hl hP hD hS)
    · exact h.elim
  | if_icmp cnd off =>
    simp only [okI, Bool.and_eq_true] at hok
    obtain ⟨h2, h1⟩ := hok
    have h2 := Nat.eq_of_beq_eq_true h2; subst h2
    simp only [sti] at h
    split at h
    · simp only [decide_eq_true_eq] at h1
      obtain ⟨x, y, r, rfl, h⟩ := k2_e h
      cases cnd with
      | eq =>
        exact lv_icmp_eq hx hb hdec h1 (fun q => go (h.1 q) hl hP hD hS) (fun q => go (h.2 q) hl hP hD hS)
      | ne =>
        exact lv_icmp_ne hx hb hdec h1 (fun q => go (h.2 q) hl hP hD hS) (fun q => go (h.1 q) hl hP hD hS)
      | lt =>
        exact lv_icmp_lt hx hb hdec h1 (fun q => go (h.1 q) hl hP hD hS) (fun q => go (h.2 q) hl hP hD hS)
      | ge =>
        exact lv_icmp_ge hx hb hdec h1 (fun q => go (h.1 q) hl hP hD hS) (fun q => go (h.2 q) hl hP hD hS)
      | gt =>
        exact lv_icmp_gt hx hb hdec h1 (fun q => go (h.1 q) hl hP hD hS) (fun q => go (h.2 q) hl hP hD hS)
      | le =>
        exact lv_icmp_le hx hb hdec h1 (fun q => go (h.1 q) hl hP hD hS) (fun q => go (h.2 q) hl hP hD hS)
    · exact h.elim
  | tableswitch dd lo hi offs =>
    simp only [okI, Bool.and_eq_true, decide_eq_true_eq, List.all_eq_true] at hok
    obtain ⟨⟨⟨⟨h1, h2⟩, h3⟩, h4⟩, h5⟩ := hok
    obtain ⟨x, r, rfl, h⟩ := k1_e h
    rcases sw_tab h1 h2 h3 h with ⟨off, g1, g2, g3, g4⟩ | ⟨g1, g4⟩
    · have g5 := h5 off (by rw [← Array.getElem?_toList] at g3; exact List.mem_of_getElem? g3)
      exact lv_tableIn (tgt := ((pc : Int) + off).toNat) hx hb hdec g1 g2 g3 (by omega) (go g4 hl hP hD hS)
    · exact lv_tableOut (tgt := ((pc : Int) + dd).toNat) hx hb hdec g1 (by omega) (go g4 hl hP hD hS)
  | lookupswitch dd ps =>
    simp only [okI, Bool.and_eq_true, decide_eq_true_eq] at hok
    obtain ⟨⟨⟨h1, h2⟩, h3⟩, h4⟩ := hok
    obtain ⟨x, r, rfl, h⟩ := k1_e h
    have h1 : ∀ q ∈ ps.toList, -2 ^ 31 ≤ q.1 ∧ q.1 < 2 ^ 31 := fun q hq => by
      have := List.all_eq_true.mp h1 q hq
      simpa using this
    have h4 : ∀ q ∈ ps.toList, 0 ≤ (pc : Int) + q.2 := fun q hq => by
      have := List.all_eq_true.mp h4 q hq
      simpa using this
    have g := sw_look ps.toList h1 h
    have nn : ∀ (l : List (Int × Int)) (x : Int), (∀ q ∈ l, 0 ≤ (pc : Int) + q.2) → 0 ≤ (pc : Int) + Op.lookupswitch.offset l dd x := by
      intro l
      induction l with
      | nil => intro x _; rw [Op.lookupswitch.offset_nil]; exact h3
      | cons a r ih =>
        intro x hh
        obtain ⟨a, o⟩ := a
        rw [Op.lookupswitch.offset_cons]
        split
        · exact hh (a, o) List.mem_cons_self
        · exact ih x (fun q hq => hh q (List.mem_cons_of_mem _ hq))
    exact lv_lookup (tgt := ((pc : Int) + Op.lookupswitch.offset ps.toList dd x.toInt).toNat) hx hb hdec h2 rfl (by have := nn ps.toList x.toInt h4; omega) (go g hl hP hD hS)
  | getfield idx =>
    simp only [okI, Bool.and_eq_true] at hok
    obtain ⟨h2, h1⟩ := hok
    have h2 := Nat.eq_of_beq_eq_true h2; subst h2
    simp only [sti] at h
    split at h
    · rename_i ci k nest p0
      obtain ⟨o, r, rfl, h⟩ := kr_e h
      obtain ⟨fs, f, e1, e2, h⟩ := kf_e h
      have he := wsl_get (kc := kc) (ad := ad) (s := s) e1
      have hv : (fs.mapIdx (fun k f => cv ad (fvA s o k f)))[k]? = some (cv ad (fvA s o k f)) := by rw [List.getElem?_mapIdx, e2]; rfl
      simp only [okF] at h1
      split at h1
      · rename_i C T N hc
        simp only [Bool.and_eq_true, decide_eq_true_eq] at h1
        obtain ⟨hk, h1⟩ := h1
        have hin : ∀ w ∈ u_ws C T N, w ∈ wsj MT LK q := fun w hw => List.mem_cons_of_mem _ (List.mem_append_right _ (hLK.2.1 (C, T, N) (List.mem_of_getElem? hc) w hw))
        split at h1
        · simp only [decide_eq_true_eq] at h1
          exact va_get (D := D) (ci := ci) (C := C) (T := T) (N := N) hx hb hts hin hown hK hP o he hc k hk (hts _ (lk_in h1)) (fun _ z => z) hv hdec (go h hl hP hD hS)
        · simp only [decide_eq_true_eq] at h1
          exact va_getN (D := D) (ci := ci) (C := C) (T := T) (N := N) hx hb hts hin hown hK hP o he hc k hk (hE.nw p0 h1) (fun _ z => z) hv hdec (go h hl hP hD hS)
      · cases h1
    · exact h.elim
  | putfield idx =>
    simp only [okI, Bool.and_eq_true] at hok
    obtain ⟨h2, h1⟩ := hok
    have h2 := Nat.eq_of_beq_eq_true h2; subst h2
    simp only [sti] at h
    split at h
    · rename_i ci k nest p0
      obtain ⟨o, x, r, rfl, h⟩ := klr_e h
      obtain ⟨fs, f, e1, e2, h⟩ := kf_e h
      obtain ⟨e3, h⟩ := kon_e h
      have e3 := Nat.eq_of_beq_eq_true e3
      have he := wsl_get (kc := kc) (ad := ad) (s := s) e1
      have hlen : k < (fs.mapIdx (fun k f => cv ad (fvA s o k f))).length := by rw [List.length_mapIdx]; exact (List.getElem?_eq_some_iff.mp e2).1
      have hset : (wsl kc ad SH s).set o (ad o, .inr (ci, (fs.mapIdx (fun k f => cv ad (fvA s o k f))).set k (.long x))) = wsl kc ad SH (pL s o k x) := wsl_set e1 (cell_pL e2 e3) pL_off
      simp only [okF, okPF] at h1
      split at h1
      · rename_i C T N hc
        simp only [Bool.and_eq_true, decide_eq_true_eq, Bool.not_eq_true'] at h1
        obtain ⟨⟨hk, h1⟩, hfin, hd⟩ := h1
        obtain ⟨⟨ty0, hty⟩, hnm⟩ := hcl (C, T, N) (List.mem_of_getElem? hc)
        have hin : ∀ w ∈ u_ws C T N, w ∈ wsj MT LK q := fun w hw => List.mem_cons_of_mem _ (List.mem_append_right _ (hLK.2.1 (C, T, N) (List.mem_of_getElem? hc) w hw))
        split at h1
        · simp only [decide_eq_true_eq] at h1
          exact va_put (D := D) (ci := ci) (C := C) (T := T) (N := N) hx hb hts hin ty0 hty hnm hown hK hP hD hS o he hc k hk (hts _ (lk_in h1)) (fun _ z => z) hfin hd rfl rfl hlen hdec (fun H1 locs1 a1 a2 a3 => go h hl (by rw [← hset]; exact a1) (by rw [← hset]; exact a2) a3)
        · simp only [decide_eq_true_eq] at h1
          exact va_putN (D := D) (ci := ci) (C := C) (T := T) (N := N) hx hb hts hin ty0 hty hnm hown hK hP hD hS o he hc k hk (hE.nw p0 h1) (fun _ z => z) hfin hd rfl rfl hlen hdec (fun H1 locs1 a1 a2 a3 => go h hl (by rw [← hset]; exact a1) (by rw [← hset]; exact a2) a3)
      · exact absurd h1 (by simp)
    · rename_i ci k nest p0
      obtain ⟨o, x, r, rfl, h⟩ := kir_e h
      obtain ⟨fs, f, e1, e2, h⟩ := kf_e h
      obtain ⟨e3, h⟩ := kon_e h
      have e3 := Nat.eq_of_beq_eq_true e3
      have he := wsl_get (kc := kc) (ad := ad) (s := s) e1
      have hlen : k < (fs.mapIdx (fun k f => cv ad (fvA s o k f))).length := by rw [List.length_mapIdx]; exact (List.getElem?_eq_some_iff.mp e2).1
      have hset : (wsl kc ad SH s).set o (ad o, .inr (ci, (fs.mapIdx (fun k f => cv ad (fvA s o k f))).set k (.int x))) = wsl kc ad SH (pI s o k x) := wsl_set e1 (cell_pI e2 (Or.inl e3)) pI_off
      simp only [okF, okPF] at h1
      split at h1
      · rename_i C T N hc
        simp only [Bool.and_eq_true, decide_eq_true_eq, Bool.not_eq_true'] at h1
        obtain ⟨⟨hk, h1⟩, hfin, hd⟩ := h1
        obtain ⟨⟨ty0, hty⟩, hnm⟩ := hcl (C, T, N) (List.mem_of_getElem? hc)
        have hin : ∀ w ∈ u_ws C T N, w ∈ wsj MT LK q := fun w hw => List.mem_cons_of_mem _ (List.mem_append_right _ (hLK.2.1 (C, T, N) (List.mem_of_getElem? hc) w hw))
        split at h1
        · simp only [decide_eq_true_eq] at h1
          exact va_put (D := D) (ci := ci) (C := C) (T := T) (N := N) hx hb hts hin ty0 hty hnm hown hK hP hD hS o he hc k hk (hts _ (lk_in h1)) (fun _ z => z) hfin hd rfl rfl hlen hdec (fun H1 locs1 a1 a2 a3 => go h hl (by rw [← hset]; exact a1) (by rw [← hset]; exact a2) a3)
        · simp only [decide_eq_true_eq] at h1
          exact va_putN (D := D) (ci := ci) (C := C) (T := T) (N := N) hx hb hts hin ty0 hty hnm hown hK hP hD hS o he hc k hk (hE.nw p0 h1) (fun _ z => z) hfin hd rfl rfl hlen hdec (fun H1 locs1 a1 a2 a3 => go h hl (by rw [← hset]; exact a1) (by rw [← hset]; exact a2) a3)
      · exact absurd h1 (by simp)
    · rename_i ci k nest p0
      obtain ⟨o, x, r, rfl, h⟩ := kir_e h
      obtain ⟨fs, f, e1, e2, h⟩ := kf_e h
      obtain ⟨e3, h⟩ := kon_e h
      have e3 := Nat.eq_of_beq_eq_true e3
      obtain ⟨hb1, h⟩ := h
      have he := wsl_get (kc := kc) (ad := ad) (s := s) e1
      have hlen : k < (fs.mapIdx (fun k f => cv ad (fvA s o k f))).length := by rw [List.length_mapIdx]; exact (List.getElem?_eq_some_iff.mp e2).1
      have hset : (wsl kc ad SH s).set o (ad o, .inr (ci, (fs.mapIdx (fun k f => cv ad (fvA s o k f))).set k (.int x))) = wsl kc ad SH (pI s o k x) := wsl_set e1 (cell_pI e2 (Or.inr e3)) pI_off
      simp only [okF, okPF] at h1
      split at h1
      · rename_i C T N hc
        simp only [Bool.and_eq_true, decide_eq_true_eq, Bool.not_eq_true'] at h1
        obtain ⟨⟨hk, h1⟩, hfin, hd⟩ := h1
        obtain ⟨⟨ty0, hty⟩, hnm⟩ := hcl (C, T, N) (List.mem_of_getElem? hc)
        have hin : ∀ w ∈ u_ws C T N, w ∈ wsj MT LK q := fun w hw => List.mem_cons_of_mem _ (List.mem_append_right _ (hLK.2.1 (C, T, N) (List.mem_of_getElem? hc) w hw))
        split at h1
        · simp only [decide_eq_true_eq] at h1
          exact va_put (D := D) (ci := ci) (C := C) (T := T) (N := N) hx hb hts hin ty0 hty hnm hown hK hP hD hS o he hc k hk (hts _ (lk_in h1)) (fun _ z => z) hfin hd (b01_n hb1) (b01_f hb1) hlen hdec (fun H1 locs1 a1 a2 a3 => go h hl (by rw [← hset]; exact a1) (by rw [← hset]; exact a2) a3)
        · simp only [decide_eq_true_eq] at h1
          exact va_putN (D := D) (ci := ci) (C := C) (T := T) (N := N) hx hb hts hin ty0 hty hnm hown hK hP hD hS o he hc k hk (hE.nw p0 h1) (fun _ z => z) hfin hd (b01_n hb1) (b01_f hb1) hlen hdec (fun H1 locs1 a1 a2 a3 => go h hl (by rw [← hset]; exact a1) (by rw [← hset]; exact a2) a3)
      · exact absurd h1 (by simp)
    · exact h.elim
  | iaload =>
    have hlen := Nat.eq_of_beq_eq_true hok; subst hlen
    obtain ⟨o, i, r, rfl, h⟩ := kri_e h
    obtain ⟨n, ids, e1, hin, h⟩ := kar_e h
    exact va_iald hx hb hK hP o 0 (wsl_get e1) rfl hin hdec (go h hl hP hD hS)
  | baload =>
    have hlen := Nat.eq_of_beq_eq_true hok; subst hlen
    obtain ⟨o, i, r, rfl, h⟩ := kri_e h
    obtain ⟨n, ids, e1, hin, h⟩ := kar_e h
    exact va_bald hx hb hK hP o 2 (wsl_get e1) rfl hin hdec (go h hl hP hD hS)
  | laload =>
    have hlen := Nat.eq_of_beq_eq_true hok; subst hlen
    obtain ⟨o, i, r, rfl, h⟩ := kri_e h
    obtain ⟨n, ids, e1, hin, h⟩ := kar_e h
    exact va_lald hx hb hK hP o 1 (wsl_get e1) rfl hin hdec (go h hl hP hD hS)
  | aaload =>
    have hlen := Nat.eq_of_beq_eq_true hok; subst hlen
    obtain ⟨o, i, r, rfl, h⟩ := kri_e h
    obtain ⟨t, n, ids, e1, e2, e3, hin, h⟩ := karr_e h
    obtain ⟨g1, g2⟩ := hSH _ _ _ _ e1
    obtain ⟨j, hj, rfl⟩ := vp_in_of hin g2
    have hid : ids[j]? = some ids[j] := List.getElem?_eq_getElem (by omega)
    have hf := alls_e ids 0 j ids[j] h hid (by rw [Nat.zero_add])
    have e9 : va_rf ((ids[(nI j).toNatClampNeg]?).map ad) = .ref (ad ids[j]) := by rw [nI_clamp (by omega), hid]; rfl
    rcases (by omega : t = 3 ∨ t = 4) with rfl | rfl
    · exact va_aldq hx hb hK hP o 3 (wsl_get e1) rfl hin hdec (by rw [e9]; exact go hf hl hP hD hS)
    · exact va_aldq hx hb hK hP o 4 (wsl_get e1) rfl hin hdec (by rw [e9]; exact go hf hl hP hD hS)
  | iastore =>
    have hlen := Nat.eq_of_beq_eq_true hok; subst hlen
    obtain ⟨o, i, x, r, rfl, h⟩ := krii_e h
    obtain ⟨n, ids, e1, hin, h⟩ := kar_e h
    have hset : ∀ e, e = cellOf kc ad (pI s o i.toNatClampNeg x) o (.inr (0, n, ids)) → (wsl kc ad SH s).set o (ad o, e) = wsl kc ad SH (pI s o i.toNatClampNeg x) := fun e he => wsl_set e1 he pI_off
    exact va_iast hx hb hK hP hD hS o 0 (wsl_get e1) rfl hin hdec (fun H1 locs1 a1 a2 a3 => by
      rw [hset _ (cellI_pI (Or.inl rfl))] at a1 a2
      exact go h hl a1 a2 a3)
  | bastore =>
    have hlen := Nat.eq_of_beq_eq_true hok; subst hlen
    obtain ⟨o, i, x, r, rfl, h⟩ := krii_e h
    obtain ⟨n, ids, e1, hin, h⟩ := kar_e h
    have hset : ∀ e, e = cellOf kc ad (pI s o i.toNatClampNeg (vp_nar .byte x)) o (.inr (2, n, ids)) → (wsl kc ad SH s).set o (ad o, e) = wsl kc ad SH (pI s o i.toNatClampNeg (vp_nar .byte x)) := fun e he => wsl_set e1 he pI_off
    exact va_bast hx hb hK hP hD hS o 2 (wsl_get e1) rfl hin hdec (fun H1 locs1 a1 a2 a3 => by
      rw [hset _ (cellI_pI (Or.inr rfl))] at a1 a2
      exact go h hl a1 a2 a3)
  | lastore =>
    have hlen := Nat.eq_of_beq_eq_true hok; subst hlen
    obtain ⟨o, i, x, r, rfl, h⟩ := kril_e h
    obtain ⟨n, ids, e1, hin, h⟩ := kar_e h
    have hset : ∀ e, e = cellOf kc ad (pL s o i.toNatClampNeg x) o (.inr (1, n, ids)) → (wsl kc ad SH s).set o (ad o, e) = wsl kc ad SH (pL s o i.toNatClampNeg x) := fun e he => wsl_set e1 he pL_off
    exact va_last hx hb hK hP hD hS o 1 (wsl_get e1) rfl hin hdec (fun H1 locs1 a1 a2 a3 => by
      rw [hset _ (cellI_pL)] at a1 a2
      exact go h hl a1 a2 a3)
  | arraylength =>
    have hlen := Nat.eq_of_beq_eq_true hok; subst hlen
    obtain ⟨o, r, rfl, h⟩ := kr_e h
    obtain ⟨t, n, ids, e1, e2, h⟩ := kal_e h
    rcases (by omega : t = 0 ∨ t = 1 ∨ t = 2 ∨ t = 3 ∨ t = 4) with rfl | rfl | rfl | rfl | rfl
    · exact va_alen hx hb hK hP o 0 (wsl_get e1) rfl rfl hdec (go h hl hP hD hS)
    · exact va_alen hx hb hK hP o 1 (wsl_get e1) rfl rfl hdec (go h hl hP hD hS)
    · exact va_alen hx hb hK hP o 2 (wsl_get e1) rfl rfl hdec (go h hl hP hD hS)
    · exact va_alen hx hb hK hP o 3 (wsl_get e1) rfl rfl hdec (go h hl hP hD hS)
    · exact va_alen hx hb hK hP o 4 (wsl_get e1) rfl rfl hdec (go h hl hP hD hS)
  | invokestatic idx =>
    simp only [okI, Bool.and_eq_true] at hok
    obtain ⟨h2, h1⟩ := hok
    have h2 := Nat.eq_of_beq_eq_true h2; subst h2
    have wl : ∀ {w : Cond}, w ∈ LK → w ∈ wsj MT LK q := fun h => List.mem_cons_of_mem _ (List.mem_append_right _ h)
    simp only [sti] at h
    split at h
    · rename_i n j rr
      obtain ⟨hnl, hro, h⟩ := kon_e h
      have hnl := Nat.le_of_ble_eq_true hnl
      obtain ⟨q2, hq2, hM⟩ := hcall _ _ _ _ h
      have hq2m := List.mem_of_getElem? hq2
      obtain ⟨hpl, hmh, hpd, hmx, -, -⟩ := hMT q2 hq2m
      have hgd := wsj_good (MT := MT) (LK := LK) hLK.1 (fun q hq => (hMT q hq).2.2.2.2.1) (q := q) hq2m
      have hF := free_of hD hS hA
      have hrm : (rmd d).frames + 1 ≤ R.frames ∧ 8 + (q2.2.2.1 + 11) + (rmd d).locals ≤ R.locals := by
        rw [hR]; exact ⟨Nat.le_refl _, by show 8 + (q2.2.2.1 + 11) + (120 + 31 * d) ≤ 120 + 31 * (d + 1); omega⟩
      have hstk : (st.map (cv ad)) = (((st.take n).reverse.map (cv ad)).reverse) ++ (st.drop n).map (cv ad) := by
        rw [← List.map_reverse, List.reverse_reverse, ← List.map_append, List.take_append_drop]
      have hln : ((st.take n).reverse.map (cv ad)).length = n := by simp; omega
      have hpre : PreS s0 H (va_Pc ((st.take n).reverse.map (cv ad)) (wPr D kc ad adV SH s H.size)) ((st.take n).reverse.map (cv ad)) := ⟨wPr_blind, fun U hU hW => wPr_ok hP hD hE (hs.at hS) hF hU hW⟩
      simp only [okCS, hq2] at h1
      simp only [Bool.and_eq_true] at h1
      obtain ⟨hn, h1⟩ := h1
      have hn := Nat.eq_of_beq_eq_true hn
      rw [← hn] at hpd
      split at h1
      · simp only [Bool.and_eq_true, decide_eq_true_eq] at h1
        obtain ⟨⟨h11, h12⟩, h13⟩ := h1
        exact call_g (va_runS ⟨hx, hb, hml, hown, hts⟩ (hM H.size) ⟨callB_of n hts hgd rfl rfl rfl (hts _ (lk_in h13)) (hts _ (lk_in h11)) ⟨hmh.1, hmh.2, hpd⟩ hrm, hts _ (lk_in h12)⟩ hpre rfl hln hl.1 hstk (lv_room (room_map hro)) hdec ⟨Nat.zero_le _, Nat.zero_le _⟩) hF hS hF (fun v s' H1 locs1 a0 a1 a2 a3 => by
          have := go a0 hl a1 a2 a3
          rw [List.map_append, toList_map] at this
          exact this)
      · simp only [Bool.and_eq_true, decide_eq_true_eq] at h1
        obtain ⟨⟨h11, h12⟩, h13⟩ := h1
        exact call_g (va_runSN ⟨hx, hb, hml, hown, hts⟩ (hM H.size) ⟨va_cnB n hts hgd rfl rfl rfl (hE.nn _ h11) (hts _ (lk_in h13)) ⟨hmh.1, hmh.2, hpd⟩ hrm, hts _ (lk_in h12), trivial⟩ hpre rfl hln hl.1 hstk (lv_room (room_map hro)) hdec ⟨Nat.zero_le _, Nat.zero_le _⟩) hF hS hF (fun v s' H1 locs1 a0 a1 a2 a3 => by
          have := go a0 hl a1 a2 a3
          rw [List.map_append, toList_map] at this
          exact this)
      · cases h1
    · obtain ⟨x, y, r, rfl, hro, h⟩ := k2_e h
      simp only [decide_eq_true_eq] at h1
      exact va_mmax hx hb (by rw [hml, hl.1]) hown (hts _ (lk_in h1)) (hts _ (wl (hLK.2.2.1 _ (by simp)))) (hts _ (wl (hLK.2.2.1 _ (by simp)))) (hts _ (wl (hLK.2.2.1 _ (by simp)))) hfr (by have := room_map (ad := ad) hro; omega) (Nat.zero_le _) (Nat.zero_le _) hdec (go h hl hP hD hS)
    · obtain ⟨x, y, r, rfl, hro, h⟩ := k2_e h
      simp only [decide_eq_true_eq] at h1
      exact va_mmin hx hb (by rw [hml, hl.1]) hown (hts _ (lk_in h1)) (hts _ (wl (hLK.2.2.1 _ (by simp)))) (hts _ (wl (hLK.2.2.1 _ (by simp)))) (hts _ (wl (hLK.2.2.1 _ (by simp)))) hfr (by have := room_map (ad := ad) hro; omega) (Nat.zero_le _) (Nat.zero_le _) hdec (go h hl hP hD hS)
    · obtain ⟨x, r, rfl, hro, h⟩ := k1_e h
      simp only [decide_eq_true_eq] at h1
      exact va_mabs hx hb (by rw [hml, hl.1]) hown (hts _ (lk_in h1)) (hts _ (wl (hLK.2.2.1 _ (by simp)))) (hts _ (wl (hLK.2.2.1 _ (by simp)))) (hts _ (wl (hLK.2.2.1 _ (by simp)))) hfr (by have := room_map (ad := ad) hro; omega) (Nat.zero_le _) (Nat.zero_le _) hdec (go h hl hP hD hS)
    · obtain ⟨n, dp, dd, sp, o, r, rfl, hro, h⟩ := kcp_e h
      obtain ⟨n0, ids0, e0, h⟩ := kar_e h
      obtain ⟨n1, ids1, e1, ⟨g1, g2, g3, g4, g5⟩, h⟩ := kar_e h
      simp only [decide_eq_true_eq] at h1
      have hset : ∀ e, e = cellOf kc ad (pA s dd (va_cpy (s.1 o) (s.1 dd) sp.toNatClampNeg dp.toNatClampNeg n.toNatClampNeg)) dd (.inr (0, n1, ids1)) → (wsl kc ad SH s).set dd (ad dd, e) = wsl kc ad SH (pA s dd (va_cpy (s.1 o) (s.1 dd) sp.toNatClampNeg dp.toNatClampNeg n.toNatClampNeg)) := fun e he => wsl_set e1 he pA_off
      have e8 : nativeFrameWords "java/lang/System" "arraycopy" 5 + 11 ≤ 93 := by decide
      have e7 := room_map (ad := ad) hro
      exact va_copyi hx hb (by rw [hml, hl.1]) hown (hts _ (lk_in h1)) (hts _ (wl (hLK.2.2.1 _ (by simp)))) (hts _ (wl (hLK.2.2.1 _ (by simp)))) (hts _ (wl (hLK.2.2.1 _ (by simp)))) hK hP hD hS o dd 0 0 (ty := .int) (wsl_get e0) (wsl_get e1) rfl rfl rfl g1 g2 g3 g4 g5 (fun _ _ => rfl) hfr (by omega) hdec (fun H1 locs1 a1 a2 a3 => by
        rw [hset _ cellA_pA] at a1 a2
        exact go h hl a1 a2 a3)
    · obtain ⟨n, dp, dd, sp, o, r, rfl, hro, h⟩ := kcp_e h
      obtain ⟨n0, ids0, e0, h⟩ := kar_e h
      obtain ⟨n1, ids1, e1, ⟨g1, g2, g3, g4, g5⟩, h⟩ := kar_e h
      simp only [decide_eq_true_eq] at h1
      have hset : ∀ e, e = cellOf kc ad (pB s dd (va_cpy (s.2 o) (s.2 dd) sp.toNatClampNeg dp.toNatClampNeg n.toNatClampNeg)) dd (.inr (1, n1, ids1)) → (wsl kc ad SH s).set dd (ad dd, e) = wsl kc ad SH (pB s dd (va_cpy (s.2 o) (s.2 dd) sp.toNatClampNeg dp.toNatClampNeg n.toNatClampNeg)) := fun e he => wsl_set e1 he pB_off
      have e8 : nativeFrameWords "java/lang/System" "arraycopy" 5 + 11 ≤ 93 := by decide
      have e7 := room_map (ad := ad) hro
      exact va_copyl hx hb (by rw [hml, hl.1]) hown (hts _ (lk_in h1)) (hts _ (wl (hLK.2.2.1 _ (by simp)))) (hts _ (wl (hLK.2.2.1 _ (by simp)))) (hts _ (wl (hLK.2.2.1 _ (by simp)))) hK hP hD hS o dd 1 1 (ty := .long) (wsl_get e0) (wsl_get e1) rfl rfl rfl g1 g2 g3 g4 g5 (fun _ _ => rfl) hfr (by omega) hdec (fun H1 locs1 a1 a2 a3 => by
        rw [hset _ cellB_pB] at a1 a2
        exact go h hl a1 a2 a3)
    · exact h.elim
  | invokevirtual idx =>
    simp only [okI, Bool.and_eq_true] at hok
    obtain ⟨h2, h1⟩ := hok
    have h2 := Nat.eq_of_beq_eq_true h2; subst h2
    simp only [sti] at h
    split at h
    · rename_i n j ci rr
      split at h
      · rename_i o as has
        obtain ⟨hnl, h⟩ := kon_e h
        have hnl := Nat.le_of_ble_eq_true hnl
        obtain ⟨fs, f, e1, -, hro, h⟩ := kf_e h
        obtain ⟨q2, hq2, hM⟩ := hcall _ _ _ _ h
        have hq2m := List.mem_of_getElem? hq2
        obtain ⟨hpl, hmh, hpd, hmx, -, -⟩ := hMT q2 hq2m
        have hgd := wsj_good (MT := MT) (LK := LK) hLK.1 (fun q hq => (hMT q hq).2.2.2.2.1) (q := q) hq2m
        have hF := free_of hD hS hA
        have hrm : (rmd d).frames + 1 ≤ R.frames ∧ 8 + (q2.2.2.1 + 11) + (rmd d).locals ≤ R.locals := by
          rw [hR]; exact ⟨Nat.le_refl _, by show 8 + (q2.2.2.1 + 11) + (120 + 31 * d) ≤ 120 + 31 * (d + 1); omega⟩
        have hstk : (st.map (cv ad)) = ((as.map (cv ad)).reverse) ++ .ref (ad o) :: (st.drop n).map (cv ad) := by
          have e7 : st.take n = (Value.ref o :: as).reverse := by rw [← has, List.reverse_reverse]
          have e8 : st = st.take n ++ st.drop n := (List.take_append_drop n st).symm
          rw [e7, List.reverse_cons] at e8
          calc st.map (cv ad) = (as.reverse ++ [Value.ref o] ++ st.drop n).map (cv ad) := by rw [← e8]
            _ = _ := by rw [List.map_append, List.map_append, List.append_assoc, List.map_reverse]; rfl
        have hln : as.length + 1 = n := by
          have := congrArg List.length has
          simp at this; omega
        simp only [okCV, hq2] at h1
        simp only [Bool.and_eq_true, decide_eq_true_eq] at h1
        obtain ⟨⟨hn, hvc⟩, h1⟩ := h1
        have hn := Nat.eq_of_beq_eq_true hn
        cases hc : vwCl[ci]? with
        | none => rw [hc] at hvc; cases hvc
        | some qc =>
          rw [hc] at hvc
          have hvc : qc.1 = q2.1.cls := Option.some.inj hvc
          have hpre : PreV s0 H q2.1.cls (ad o) (va_Pc ((Value.ref o :: as).map (cv ad)) (wPr D kc ad adV SH s H.size)) (as.map (cv ad)) := ⟨wPr_blind, by rw [← hvc]; exact va_recv hK hP hc (wsl_get e1), fun U hU hW => wPr_ok (av := (Value.ref o :: as).map (cv ad)) hP hD hE (hs.at hS) hF hU hW⟩
          split at h1
          · simp only [Bool.and_eq_true, decide_eq_true_eq] at h1
            obtain ⟨⟨⟨h11, h12⟩, h13⟩, h14⟩ := h1
            exact call_g (va_runV (n := as.length) ⟨hx, hb, hml, hown, hts⟩ (hM H.size) ⟨callB_of as.length hts hgd rfl rfl rfl (hts _ (lk_in h14)) (hts _ (lk_in h11)) ⟨hmh.1, hmh.2, by rw [hpd]; congr 1; omega⟩ hrm, hts _ (lk_in h12), hts _ (lk_in h13)⟩ hpre rfl (by simp) hl.1 hstk (lv_room (room_map hro)) hdec ⟨Nat.zero_le _, Nat.zero_le _⟩) hF hS hF (fun v s' H1 locs1 a0 a1 a2 a3 => by
              have := go a0 hl a1 a2 a3
              rw [List.map_append, toList_map] at this
              exact this)
          · simp only [Bool.and_eq_true, decide_eq_true_eq] at h1
            obtain ⟨⟨⟨h11, h12⟩, h13⟩, h14⟩ := h1
            exact call_g (va_runVN (n := as.length) ⟨hx, hb, hml, hown, hts⟩ (hM H.size) ⟨va_cnB as.length hts hgd rfl rfl rfl (hE.nn _ h11) (hts _ (lk_in h14)) ⟨hmh.1, hmh.2, by rw [hpd]; congr 1; omega⟩ hrm, hts _ (lk_in h12), hts _ (lk_in h13)⟩ hpre rfl (by simp) hl.1 hstk (lv_room (room_map hro)) hdec ⟨Nat.zero_le _, Nat.zero_le _⟩) hF hS hF (fun v s' H1 locs1 a0 a1 a2 a3 => by
              have := go a0 hl a1 a2 a3
              rw [List.map_append, toList_map] at this
              exact this)
          · cases h1
      · exact h.elim
    · rename_i k p0
      obtain ⟨o, r, rfl, h⟩ := kr_e h
      obtain ⟨ho, hro, h9⟩ := kon_e h
      have ho := Nat.eq_of_beq_eq_true ho
      subst ho
      simp only [Bool.and_eq_true, decide_eq_true_eq] at h1
      obtain ⟨hk, h1⟩ := h1
      exact call_h (va_runV (n := 0) (As := []) (rest := r.map (cv ad)) ⟨hx, hb, hml, hown, hts⟩ (j_length l ad adV A k hk) ⟨callB_of 0 hts (sj_in hLK (List.mem_of_getElem? (i := 26) rfl)) rfl rfl rfl (hts _ (sj_w hLK 21 rfl)) (hts _ (lk_in h1)) (by decide +kernel) (by rw [hR]; exact ⟨by show 1 + 1 ≤ d + 1 + 4; omega, by show 8 + (1 + 11) + 31 * 1 ≤ 120 + 31 * (d + 1); omega⟩), hts _ (sj_w hLK 24 rfl), hts _ (sj_w hLK 25 rfl)⟩ (jV hk (hs.at hS)) rfl rfl hl.1 rfl (lv_room (room_map hro)) hdec ⟨Nat.zero_le _, Nat.zero_le _⟩) (go h9 hl hP hD hS)
    · rename_i k p0
      obtain ⟨o, i, r, rfl, h⟩ := kri_e h
      obtain ⟨ho, hro, hin, h9⟩ := kon_e h
      have ho := Nat.eq_of_beq_eq_true ho
      subst ho
      simp only [Bool.and_eq_true, decide_eq_true_eq] at h1
      obtain ⟨hk, h1⟩ := h1
      exact call_h (va_runV (n := 1) (As := [.int i]) (rest := r.map (cv ad)) ⟨hx, hb, hml, hown, hts⟩ (j_charAt l ad adV A k hk i hin) ⟨callB_of 1 hts (sj_in hLK (List.mem_of_getElem? (i := 29) rfl)) rfl rfl rfl (hts _ (sj_w hLK 21 rfl)) (hts _ (lk_in h1)) (by decide +kernel) (by rw [hR]; exact ⟨by show 3 + 1 ≤ d + 1 + 4; omega, by show 8 + (2 + 11) + 31 * 3 ≤ 120 + 31 * (d + 1); omega⟩), hts _ (sj_w hLK 27 rfl), hts _ (sj_w hLK 28 rfl)⟩ (jV hk (hs.at hS)) rfl rfl hl.1 rfl (lv_room (room_map hro)) hdec ⟨Nat.zero_le _, Nat.zero_le _⟩) (go h9 hl hP hD hS)
    · exact h.elim
  | ireturn =>
    have hlen := Nat.eq_of_beq_eq_true hok; subst hlen
    simp only [sti] at h
    split at h
    · rename_i ty x
      exact W.zret (free := A) hx hb hr h.1 (fun t ht hW => ⟨⟨some (.int x), s, rfl, h.2, by rw [ht]; exact hP, hD⟩, hS.F ht⟩) hS.2.2 hdec hlocks
    · exact h.elim
  | lreturn =>
    have hlen := Nat.eq_of_beq_eq_true hok; subst hlen
    simp only [sti] at h
    split at h
    · rename_i x
      exact W.lret (free := A) hx hb hr (fun t ht hW => ⟨⟨some (.long x), s, rfl, h, by rw [ht]; exact hP, hD⟩, hS.F ht⟩) hS.2.2 hdec hlocks
    · exact h.elim
  | areturn =>
    have hlen := Nat.eq_of_beq_eq_true hok; subst hlen
    simp only [sti] at h
    split at h
    · rename_i nm x
      exact W.aret (free := A) hx hb hr (Or.inl ⟨_, rfl⟩) (Or.inr ⟨_, rfl⟩) (fun t ht hW => ⟨⟨some (.ref x), s, rfl, h, by rw [ht]; exact hP, hD⟩, hS.F ht⟩) hS.2.2 hdec hlocks
    · rename_i nm x
      exact W.aret (free := A) hx hb hr (Or.inr ⟨_, rfl⟩) (Or.inr ⟨_, rfl⟩) (fun t ht hW => ⟨⟨some (.ref x), s, rfl, h, by rw [ht]; exact hP, hD⟩, hS.F ht⟩) hS.2.2 hdec hlocks
    · exact h.elim
  | return_ =>
    have hlen := Nat.eq_of_beq_eq_true hok; subst hlen
    simp only [sti] at h
    split at h
    · exact W.vret (free := A) hx hb hr (fun t ht hW => ⟨⟨none, s, rfl, h, by rw [ht]; exact hP, hD⟩, hS.F ht⟩) hS.2.2 hdec hlocks
    · exact h.elim
  | _ => exact False.elim h
end SIM
