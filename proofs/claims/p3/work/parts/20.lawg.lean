theorem sh0_10 : ∃ fs, SHC[0]? = some (.inl (10, fs)) := ⟨_, rfl⟩
theorem sh0_11 : ∃ fs, SHM[0]? = some (.inl (11, fs)) := ⟨_, rfl⟩
theorem lg_cmp_self (x : Int64) : lg_cmp x x = 0 := by
  unfold lg_cmp; first | (rw [if_neg (Int64.lt_irrefl x), if_pos rfl]) | simp
def LW (p : Program) (l : Launch) (e : Env) (s : State) (m : MethodId) (below : List Frame) (meth : Method) (c : Code) (b cells slots : Nat) (D : va_G) (kc : Nat → ClassId) (aC aM : Nat → Nat) (A : Nat → Prop) (pc : Nat) (i : Int32) (st : List Value) (sC sM : Sg) : Prop :=
  ∀ (ls : Array Slot) (H : Heap) (locs : List Loc), lv_has ls 4 [(0, .ref b), (1, .ref (aC 0)), (2, .ref (aM 0)), (3, .int i)] → va_P D vwCl (wsl kc aC SHC sC) H → va_D A (wsl kc aC SHC sC) → va_P D vwCl (wsl kc aM SHM sM) H → va_D A (wsl kc aM SHM sM) → va_S A s.heap H locs → W p l e room_1 s m #[Value.ref b] below meth c H locs cells slots (lw_Z below #[Value.ref b] s) (F0 m pc ls st)
def LX (p : Program) (s : State) (m : MethodId) (meth : Method) (c : Code) (b L : Nat) (xs : Nat → Int32) (D : va_G) (kc : Nat → ClassId) (aC aM adV : Nat → Nat) (A : Nat → Prop) (cells slots : Nat) : Prop :=
  lw_At p s m meth c b L xs ∧ L ≤ 3072 ∧ EK D kc s ∧ SE aC adV A s s.heap ∧ SE aM adV A s s.heap ∧ (∀ q, s.heap.size ≤ q → A q) ∧ (∀ q, A q → s.heap.size ≤ q) ∧ ¬ A b ∧ (∀ i j, i < SHC.length → j < SHM.length → aC i ≠ aM j) ∧ cells ≤ 600000 ∧ slots ≤ 7302250
theorem wsl_addr {kc : Nat → ClassId} {ad : Nat → Nat} {SH : List Shp} {s : Sg} {k a : Nat} {e : va_E} (h : (wsl kc ad SH s)[k]? = some (a, e)) : k < SH.length ∧ a = ad k := by
  unfold wsl at h
  rw [List.getElem?_mapIdx] at h
  cases hs : SH[k]? with
  | none => rw [hs] at h; cases h
  | some sh =>
    rw [hs] at h
    have h : some (ad k, cellOf kc ad s k sh) = some (a, e) := h
    cases h
    exact ⟨(List.getElem?_eq_some_iff.mp hs).1, rfl⟩
theorem kept_w {D : va_G} {kc : Nat → ClassId} {a1 a2 : Nat → Nat} {S1 S2 : List Shp} {s1 s2 : Sg} {H H1 : Heap} (hP : va_P D vwCl (wsl kc a2 S2 s2) H) (hk : ∀ q, q < H.size → ¬ va_A (wsl kc a1 S1 s1) H.size q → H1[q]? = H[q]?) (hd : ∀ i j, i < S1.length → j < S2.length → a1 i ≠ a2 j) : va_P D vwCl (wsl kc a2 S2 s2) H1 := by
  intro k q hq
  have h := hP k q hq
  obtain ⟨g1, g2⟩ := wsl_addr (a := q.1) (e := q.2) hq
  refine h.kept (hk q.1 h.lt (fun z => ?_))
  rcases z with ⟨k2, e2, h2⟩ | h2
  · obtain ⟨g3, g4⟩ := wsl_addr h2
    exact hd k2 k g3 g1 (g4.symm.trans g2)
  · exact absurd h.lt (Nat.not_lt.mpr h2)
theorem call_L {p : Program} {l : Launch} {e : Env} {R : Room} {s0 : State} {m : MethodId} {args : Array Value} {below : List Frame} {meth : Method} {c : Code} {H : Heap} {locs : List Loc} {D : va_G} {kc : Nat → ClassId} {ad : Nat → Nat} {SH : List Shp} {A : Nat → Prop} {cells slots : Nat} {Qf : State → Prop} {pc : Nat} {ls : Array Slot} {st0 rest : List Value} {a : Array Value} {Q : Qt} {s : Sg} {free : Addr → Prop} (hr : va_Run p l e R s0 m args below meth c H locs cells slots 0 0 (F0 m pc ls st0) rest (QF D kc ad SH (va_A (wsl kc ad SH s) H.size) Q a) free) (hf : ∀ q, free q → A q)
    (hS : va_S A s0.heap H locs) (hF : ∀ q, va_A (wsl kc ad SH s) H.size q → A q)
    (kk : ∀ (v : Option Value) (s' : Sg) (H1 : Heap) (locs1 : List Loc), Q v s' → va_P D vwCl (wsl kc ad SH s') H1 → va_D A (wsl kc ad SH s') → (∀ q, q < H.size → ¬ va_A (wsl kc ad SH s) H.size q → H1[q]? = H[q]?) → va_S A s0.heap H1 locs1 → W p l e R s0 m args below meth c H1 locs1 cells slots Qf (F0 m (pc + 3) ls ((v.map (cv ad)).toList ++ rest))) : W p l e R s0 m args below meth c H locs cells slots Qf (F0 m pc ls st0) := by
  intro T hT X
  obtain ⟨v, st₀, t, T', L, h0, X', hL, e1, e2, ⟨⟨r, s', hv, hp, hP1, hD1⟩, hz, hk⟩, st⟩ := hr T hT X
  cases hv
  rw [h0] at hz hk
  obtain ⟨t2, a1, b1⟩ := kk r s' T'.heap (locs ++ L) hp (by rw [e1]; exact hP1) (hD1.weaken (fun _ _ _ h => hF _ h)) (fun q h1 h2 => by rw [e1]; exact hk q h1 h2)
    ⟨Nat.le_trans hS.1 (by rw [e1]; exact hz), fun q h1 h2 => by rw [e1, hk q (Nat.lt_of_lt_of_le h1 hS.1) (fun z => h2 (hF q z))]; exact hS.2.1 q h1 h2, fun q hq => by
      rcases List.mem_append.mp hq with h | h
      · exact hS.2.2 q h
      · exact hf _ (hL q h)⟩ T' rfl X'
  exact ⟨t2, st t2 a1, b1⟩
theorem lw_gd {q : ME} (hq : q ∈ MT) : GoodIn lw_tbl (wsj MT LK q) := by
  intro w hw
  have g := wsj_good (MT := MT) (LK := LK) LK_ok.1 (fun q hq => (MT_ok q hq).2.2.2.2.1) (q := q) hq w hw
  refine ⟨?_, g.2⟩
  rcases List.mem_cons.mp hw with rfl | h
  · exact MT_in q hq
  · exact LA_in w h
set_option maxHeartbeats 1000000 in
theorem law_cC {p : Program} {l : Launch} {e : Env} {s : State} {m : MethodId} {below : List Frame} {meth : Method} {c : Code} {b L : Nat} {xs : Nat → Int32} {D : va_G} {kc : Nat → ClassId} {aC aM adV : Nat → Nat} {A : Nat → Prop} {cells slots : Nat} (X : LX p s m meth c b L xs D kc aC aM adV A cells slots) {pc idx j : Nat} {q : ME} {as rest : List Value} {i : Int32} {sC sM : Sg} {Q : Qt} (d : Nat) (hd10 : d ≤ 10) (hq : MT[j]? = some q) (hw : WpM SHC MT d j (.ref 0 :: as) sC Q) (has : as.map (cv aC) = as) (hC : q.1.cls = RX11) (hnp : as.length = q.2.2.2.2.1) (hdec : decode code pc = .ok (.invokevirtual idx, 3))
    (h1 : (Cond.methodLink RL idx q.1) ∈ lw_tbl) (h2 : (Cond.instanceMethod q.1) ∈ lw_tbl) (h3 : (Cond.selects q.1.cls q.1 q.1) ∈ lw_tbl) (h4 : (Cond.initialized q.1.cls) ∈ lw_tbl) (hro : (rest.map fun v => v.category).sum ≤ 8)
    (kk : ∀ (v : Option Value) (s' : Sg), Q v s' → LW p l e s m below meth c b cells slots D kc aC aM A (pc + 3) i ((v.map (cv aC)).toList ++ rest) s' sM) : LW p l e s m below meth c b cells slots D kc aC aM A pc i (as.reverse ++ .ref (aC 0) :: rest) sC sM := by
  intro ls H locs hl hPC hDC hPM hDM hS
  obtain ⟨⟨hx, hb, hr, hml, hown, hts, hX, hbl, hlocks, hgv⟩, hL, hE, hsC, hsM, hA, hAi, hbA, hdis, hc1, hc2⟩ := X
  obtain ⟨q2, hq2, hM⟩ := snd_M LK_ok cls_ok SHC_ok MT_ok d j _ sC Q hw
  rw [hq] at hq2
  cases hq2
  have hqm := List.mem_of_getElem? hq
  obtain ⟨hpl, hmh, hpd, hmx, -, -⟩ := MT_ok q hqm
  have hF := free_of hDC hS hA
  have hM2 := hM l D kc aC adV H.size
  have ea : (Value.ref 0 :: as).map (cv aC) = .ref (aC 0) :: as := by rw [List.map_cons, has]; rfl
  rw [ea] at hM2
  have hpre : PreV s H q.1.cls (aC 0) (va_Pc (.ref (aC 0) :: as) (wPr D kc aC adV SHC sC H.size)) as := ⟨wPr_blind, by obtain ⟨fs9, hsh9⟩ := sh0_10; rw [hC]; exact va_recv hE.1 hPC (ci := 10) rfl (wsl_get hsh9), fun U hU hW => wPr_ok (av := .ref (aC 0) :: as) hPC hDC hE (hsC.at hS) hF hU hW⟩
  refine call_L (va_runV (n := as.length) (b := aC 0) (As := as) (rest := rest) ⟨hx, hb, hml, hown, hts⟩ hM2 ⟨callB_of as.length hts (lw_gd hqm) rfl rfl rfl (hts _ h4) (hts _ h1) ⟨hmh.1, hmh.2, by rw [hpd, hnp]⟩ ⟨by show d + 4 + 1 ≤ 15; omega, by show 8 + (q.2.2.1 + 11) + (120 + 31 * d) ≤ 582; omega⟩, hts _ h2, hts _ h3⟩ hpre rfl rfl hl.1 rfl (lv_room hro) hdec ⟨by show cells + 0 ≤ 600000; omega, by show slots + 0 ≤ 7302250; omega⟩) hF hS hF (fun v s' H1 locs1 a0 a1 a2 a3 a4 => ?_)
  exact kk v s' a0 ls H1 locs1 hl a1 a2 (kept_w hPM a3 hdis) hDM a4
set_option maxHeartbeats 1000000 in
theorem law_cM {p : Program} {l : Launch} {e : Env} {s : State} {m : MethodId} {below : List Frame} {meth : Method} {c : Code} {b L : Nat} {xs : Nat → Int32} {D : va_G} {kc : Nat → ClassId} {aC aM adV : Nat → Nat} {A : Nat → Prop} {cells slots : Nat} (X : LX p s m meth c b L xs D kc aC aM adV A cells slots) {pc idx j : Nat} {q : ME} {as rest : List Value} {i : Int32} {sC sM : Sg} {Q : Qt} (d : Nat) (hd10 : d ≤ 10) (hq : MT[j]? = some q) (hw : WpM SHM MT d j (.ref 0 :: as) sM Q) (has : as.map (cv aM) = as) (hC : q.1.cls = RX12) (hnp : as.length = q.2.2.2.2.1) (hdec : decode code pc = .ok (.invokevirtual idx, 3))
    (h1 : (Cond.methodLink RL idx q.1) ∈ lw_tbl) (h2 : (Cond.instanceMethod q.1) ∈ lw_tbl) (h3 : (Cond.selects q.1.cls q.1 q.1) ∈ lw_tbl) (h4 : (Cond.initialized q.1.cls) ∈ lw_tbl) (hro : (rest.map fun v => v.category).sum ≤ 8)
    (kk : ∀ (v : Option Value) (s' : Sg), Q v s' → LW p l e s m below meth c b cells slots D kc aC aM A (pc + 3) i ((v.map (cv aM)).toList ++ rest) sC s') : LW p l e s m below meth c b cells slots D kc aC aM A pc i (as.reverse ++ .ref (aM 0) :: rest) sC sM := by
  intro ls H locs hl hPC hDC hPM hDM hS
  obtain ⟨⟨hx, hb, hr, hml, hown, hts, hX, hbl, hlocks, hgv⟩, hL, hE, hsC, hsM, hA, hAi, hbA, hdis, hc1, hc2⟩ := X
  obtain ⟨q2, hq2, hM⟩ := snd_M LK_ok cls_ok SHM_ok MT_ok d j _ sM Q hw
  rw [hq] at hq2
  cases hq2
  have hqm := List.mem_of_getElem? hq
  obtain ⟨hpl, hmh, hpd, hmx, -, -⟩ := MT_ok q hqm
  have hF := free_of hDM hS hA
  have hM2 := hM l D kc aM adV H.size
  have ea : (Value.ref 0 :: as).map (cv aM) = .ref (aM 0) :: as := by rw [List.map_cons, has]; rfl
  rw [ea] at hM2
  have hpre : PreV s H q.1.cls (aM 0) (va_Pc (.ref (aM 0) :: as) (wPr D kc aM adV SHM sM H.size)) as := ⟨wPr_blind, by obtain ⟨fs9, hsh9⟩ := sh0_11; rw [hC]; exact va_recv hE.1 hPM (ci := 11) rfl (wsl_get hsh9), fun U hU hW => wPr_ok (av := .ref (aM 0) :: as) hPM hDM hE (hsM.at hS) hF hU hW⟩
  refine call_L (va_runV (n := as.length) (b := aM 0) (As := as) (rest := rest) ⟨hx, hb, hml, hown, hts⟩ hM2 ⟨callB_of as.length hts (lw_gd hqm) rfl rfl rfl (hts _ h4) (hts _ h1) ⟨hmh.1, hmh.2, by rw [hpd, hnp]⟩ ⟨by show d + 4 + 1 ≤ 15; omega, by show 8 + (q.2.2.1 + 11) + (120 + 31 * d) ≤ 582; omega⟩, hts _ h2, hts _ h3⟩ hpre rfl rfl hl.1 rfl (lv_room hro) hdec ⟨by show cells + 0 ≤ 600000; omega, by show slots + 0 ≤ 7302250; omega⟩) hF hS hF (fun v s' H1 locs1 a0 a1 a2 a3 a4 => ?_)
  exact kk v s' a0 ls H1 locs1 hl (kept_w hPC a3 (fun i j h1 h2 => (hdis j i h2 h1).symm)) hDC a1 a2 a4
theorem lx_a1 {p : Program} {l : Launch} {e : Env} {s : State} {m : MethodId} {below : List Frame} {meth : Method} {c : Code} {b L : Nat} {xs : Nat → Int32} {D : va_G} {kc : Nat → ClassId} {aC aM adV : Nat → Nat} {A : Nat → Prop} {cells slots : Nat} (X : LX p s m meth c b L xs D kc aC aM adV A cells slots) {pc : Nat} {i : Int32} {st : List Value} {sC sM : Sg} (hd : decode code pc = .ok (.aload_n 1, 1)) (kk : LW p l e s m below meth c b cells slots D kc aC aM A (pc + 1) i (.ref (aC 0) :: st) sC sM) : LW p l e s m below meth c b cells slots D kc aC aM A pc i (st) sC sM := fun ls H locs hl hPC hDC hPM hDM hS => lv_aload_n X.1.1 X.1.2.1 hd rfl (lv_at hl 1 rfl) (kk ls H locs hl hPC hDC hPM hDM hS)
theorem lx_a2 {p : Program} {l : Launch} {e : Env} {s : State} {m : MethodId} {below : List Frame} {meth : Method} {c : Code} {b L : Nat} {xs : Nat → Int32} {D : va_G} {kc : Nat → ClassId} {aC aM adV : Nat → Nat} {A : Nat → Prop} {cells slots : Nat} (X : LX p s m meth c b L xs D kc aC aM adV A cells slots) {pc : Nat} {i : Int32} {st : List Value} {sC sM : Sg} (hd : decode code pc = .ok (.aload_n 2, 1)) (kk : LW p l e s m below meth c b cells slots D kc aC aM A (pc + 1) i (.ref (aM 0) :: st) sC sM) : LW p l e s m below meth c b cells slots D kc aC aM A pc i (st) sC sM := fun ls H locs hl hPC hDC hPM hDM hS => lv_aload_n X.1.1 X.1.2.1 hd rfl (lv_at hl 2 rfl) (kk ls H locs hl hPC hDC hPM hDM hS)
theorem lx_pop {p : Program} {l : Launch} {e : Env} {s : State} {m : MethodId} {below : List Frame} {meth : Method} {c : Code} {b L : Nat} {xs : Nat → Int32} {D : va_G} {kc : Nat → ClassId} {aC aM adV : Nat → Nat} {A : Nat → Prop} {cells slots : Nat} (X : LX p s m meth c b L xs D kc aC aM adV A cells slots) {pc : Nat} {i : Int32} {st : List Value} {sC sM : Sg} {x : Int32} (hd : decode code pc = .ok (.pop, 1)) (kk : LW p l e s m below meth c b cells slots D kc aC aM A (pc + 1) i (st) sC sM) : LW p l e s m below meth c b cells slots D kc aC aM A pc i (.int x :: st) sC sM := fun ls H locs hl hPC hDC hPM hDM hS => lv_pop X.1.1 X.1.2.1 hd rfl (kk ls H locs hl hPC hDC hPM hDM hS)
theorem lx_pop2 {p : Program} {l : Launch} {e : Env} {s : State} {m : MethodId} {below : List Frame} {meth : Method} {c : Code} {b L : Nat} {xs : Nat → Int32} {D : va_G} {kc : Nat → ClassId} {aC aM adV : Nat → Nat} {A : Nat → Prop} {cells slots : Nat} (X : LX p s m meth c b L xs D kc aC aM adV A cells slots) {pc : Nat} {i : Int32} {st : List Value} {sC sM : Sg} {x : Int64} (hd : decode code pc = .ok (.pop2, 1)) (kk : LW p l e s m below meth c b cells slots D kc aC aM A (pc + 1) i (st) sC sM) : LW p l e s m below meth c b cells slots D kc aC aM A pc i (.long x :: st) sC sM := fun ls H locs hl hPC hDC hPM hDM hS => lv_pop2_2 X.1.1 X.1.2.1 hd rfl (kk ls H locs hl hPC hDC hPM hDM hS)
theorem lx_goto {p : Program} {l : Launch} {e : Env} {s : State} {m : MethodId} {below : List Frame} {meth : Method} {c : Code} {b L : Nat} {xs : Nat → Int32} {D : va_G} {kc : Nat → ClassId} {aC aM adV : Nat → Nat} {A : Nat → Prop} {cells slots : Nat} (X : LX p s m meth c b L xs D kc aC aM adV A cells slots) {pc : Nat} {i : Int32} {st : List Value} {sC sM : Sg} {off : Int} (t : Nat) (hd : decode code pc = .ok (.goto off, 3)) (ht : (pc : Int) + off = (t : Int)) (kk : LW p l e s m below meth c b cells slots D kc aC aM A t i (st) sC sM) : LW p l e s m below meth c b cells slots D kc aC aM A pc i (st) sC sM := fun ls H locs hl hPC hDC hPM hDM hS => lv_goto X.1.1 X.1.2.1 hd ht (kk ls H locs hl hPC hDC hPM hDM hS)
theorem lx_i2l {p : Program} {l : Launch} {e : Env} {s : State} {m : MethodId} {below : List Frame} {meth : Method} {c : Code} {b L : Nat} {xs : Nat → Int32} {D : va_G} {kc : Nat → ClassId} {aC aM adV : Nat → Nat} {A : Nat → Prop} {cells slots : Nat} (X : LX p s m meth c b L xs D kc aC aM adV A cells slots) {pc : Nat} {i : Int32} {st : List Value} {sC sM : Sg} {x : Int32} (hd : decode code pc = .ok (.i2l, 1)) (kk : LW p l e s m below meth c b cells slots D kc aC aM A (pc + 1) i (.long x.toInt64 :: st) sC sM) : LW p l e s m below meth c b cells slots D kc aC aM A pc i (.int x :: st) sC sM := fun ls H locs hl hPC hDC hPM hDM hS => lv_i2l X.1.1 X.1.2.1 hd rfl (kk ls H locs hl hPC hDC hPM hDM hS)
theorem lx_bip {p : Program} {l : Launch} {e : Env} {s : State} {m : MethodId} {below : List Frame} {meth : Method} {c : Code} {b L : Nat} {xs : Nat → Int32} {D : va_G} {kc : Nat → ClassId} {aC aM adV : Nat → Nat} {A : Nat → Prop} {cells slots : Nat} (X : LX p s m meth c b L xs D kc aC aM adV A cells slots) {pc : Nat} {i : Int32} {st : List Value} {sC sM : Sg} {n : Int} (v : Int32) (hd : decode code pc = .ok (.bipush n, 2)) (hv : (Int8.ofInt n).toInt32 = v) (kk : LW p l e s m below meth c b cells slots D kc aC aM A (pc + 2) i (.int v :: st) sC sM) : LW p l e s m below meth c b cells slots D kc aC aM A pc i (st) sC sM := fun ls H locs hl hPC hDC hPM hDM hS => lv_bipush X.1.1 X.1.2.1 hd hv (kk ls H locs hl hPC hDC hPM hDM hS)
theorem lx_lshl {p : Program} {l : Launch} {e : Env} {s : State} {m : MethodId} {below : List Frame} {meth : Method} {c : Code} {b L : Nat} {xs : Nat → Int32} {D : va_G} {kc : Nat → ClassId} {aC aM adV : Nat → Nat} {A : Nat → Prop} {cells slots : Nat} (X : LX p s m meth c b L xs D kc aC aM adV A cells slots) {pc : Nat} {i : Int32} {st : List Value} {sC sM : Sg} {x : Int64} {y : Int32} (hd : decode code pc = .ok (.lshl, 1)) (kk : LW p l e s m below meth c b cells slots D kc aC aM A (pc + 1) i (.long (x <<< (y.toInt64 &&& 63)) :: st) sC sM) : LW p l e s m below meth c b cells slots D kc aC aM A pc i (.int y :: .long x :: st) sC sM := fun ls H locs hl hPC hDC hPM hDM hS => lv_lshl X.1.1 X.1.2.1 hd rfl (kk ls H locs hl hPC hDC hPM hDM hS)
theorem lx_land {p : Program} {l : Launch} {e : Env} {s : State} {m : MethodId} {below : List Frame} {meth : Method} {c : Code} {b L : Nat} {xs : Nat → Int32} {D : va_G} {kc : Nat → ClassId} {aC aM adV : Nat → Nat} {A : Nat → Prop} {cells slots : Nat} (X : LX p s m meth c b L xs D kc aC aM adV A cells slots) {pc : Nat} {i : Int32} {st : List Value} {sC sM : Sg} {x y : Int64} (hd : decode code pc = .ok (.land, 1)) (kk : LW p l e s m below meth c b cells slots D kc aC aM A (pc + 1) i (.long (x &&& y) :: st) sC sM) : LW p l e s m below meth c b cells slots D kc aC aM A pc i (.long y :: .long x :: st) sC sM := fun ls H locs hl hPC hDC hPM hDM hS => lv_land X.1.1 X.1.2.1 hd (kk ls H locs hl hPC hDC hPM hDM hS)
theorem lx_lor {p : Program} {l : Launch} {e : Env} {s : State} {m : MethodId} {below : List Frame} {meth : Method} {c : Code} {b L : Nat} {xs : Nat → Int32} {D : va_G} {kc : Nat → ClassId} {aC aM adV : Nat → Nat} {A : Nat → Prop} {cells slots : Nat} (X : LX p s m meth c b L xs D kc aC aM adV A cells slots) {pc : Nat} {i : Int32} {st : List Value} {sC sM : Sg} {x y : Int64} (hd : decode code pc = .ok (.lor, 1)) (kk : LW p l e s m below meth c b cells slots D kc aC aM A (pc + 1) i (.long (x ||| y) :: st) sC sM) : LW p l e s m below meth c b cells slots D kc aC aM A pc i (.long y :: .long x :: st) sC sM := fun ls H locs hl hPC hDC hPM hDM hS => lv_lor X.1.1 X.1.2.1 hd (kk ls H locs hl hPC hDC hPM hDM hS)
theorem lx_ldc2 {p : Program} {l : Launch} {e : Env} {s : State} {m : MethodId} {below : List Frame} {meth : Method} {c : Code} {b L : Nat} {xs : Nat → Int32} {D : va_G} {kc : Nat → ClassId} {aC aM adV : Nat → Nat} {A : Nat → Prop} {cells slots : Nat} (X : LX p s m meth c b L xs D kc aC aM adV A cells slots) {pc : Nat} {i : Int32} {st : List Value} {sC sM : Sg} {idx : Nat} (v : Int64) (hd : decode code pc = .ok (.ldc2_w idx, 3)) (hw : (Cond.constantLong RL idx v) ∈ lw_tbl) (kk : LW p l e s m below meth c b cells slots D kc aC aM A (pc + 3) i (.long v :: st) sC sM) : LW p l e s m below meth c b cells slots D kc aC aM A pc i (st) sC sM := fun ls H locs hl hPC hDC hPM hDM hS => lv_ldc2 X.1.1 X.1.2.1 X.1.2.2.2.2.1 (X.1.2.2.2.2.2.1 _ hw) hd (kk ls H locs hl hPC hDC hPM hDM hS)
theorem lx_lcmp {p : Program} {l : Launch} {e : Env} {s : State} {m : MethodId} {below : List Frame} {meth : Method} {c : Code} {b L : Nat} {xs : Nat → Int32} {D : va_G} {kc : Nat → ClassId} {aC aM adV : Nat → Nat} {A : Nat → Prop} {cells slots : Nat} (X : LX p s m meth c b L xs D kc aC aM adV A cells slots) {pc : Nat} {i : Int32} {st : List Value} {sC sM : Sg} {x y : Int64} (hd : decode code pc = .ok (.lcmp, 1)) (kk : LW p l e s m below meth c b cells slots D kc aC aM A (pc + 1) i (.int (lg_cmp x y) :: st) sC sM) : LW p l e s m below meth c b cells slots D kc aC aM A pc i (.long y :: .long x :: st) sC sM := fun ls H locs hl hPC hDC hPM hDM hS => W.lcmp X.1.1 X.1.2.1 hd (kk ls H locs hl hPC hDC hPM hDM hS)
theorem lx_ieq {p : Program} {l : Launch} {e : Env} {s : State} {m : MethodId} {below : List Frame} {meth : Method} {c : Code} {b L : Nat} {xs : Nat → Int32} {D : va_G} {kc : Nat → ClassId} {aC aM adV : Nat → Nat} {A : Nat → Prop} {cells slots : Nat} (X : LX p s m meth c b L xs D kc aC aM adV A cells slots) {pc : Nat} {i : Int32} {st : List Value} {sC sM : Sg} {x y : Int32} {off : Int} (t : Nat) (he : x = y) (hd : decode code pc = .ok (.if_icmp .eq off, 3)) (ht : (pc : Int) + off = (t : Int)) (kk : LW p l e s m below meth c b cells slots D kc aC aM A t i (st) sC sM) : LW p l e s m below meth c b cells slots D kc aC aM A pc i (.int y :: .int x :: st) sC sM := fun ls H locs hl hPC hDC hPM hDM hS => lv_icmp_eq X.1.1 X.1.2.1 hd ht (fun _ => (kk ls H locs hl hPC hDC hPM hDM hS)) (fun z => absurd he z)
theorem lx_eq0 {p : Program} {l : Launch} {e : Env} {s : State} {m : MethodId} {below : List Frame} {meth : Method} {c : Code} {b L : Nat} {xs : Nat → Int32} {D : va_G} {kc : Nat → ClassId} {aC aM adV : Nat → Nat} {A : Nat → Prop} {cells slots : Nat} (X : LX p s m meth c b L xs D kc aC aM adV A cells slots) {pc : Nat} {i : Int32} {st : List Value} {sC sM : Sg} {x : Int32} {off : Int} (t : Nat) (he : x = 0) (hd : decode code pc = .ok (.ifCond .eq off, 3)) (ht : (pc : Int) + off = (t : Int)) (kk : LW p l e s m below meth c b cells slots D kc aC aM A t i (st) sC sM) : LW p l e s m below meth c b cells slots D kc aC aM A pc i (.int x :: st) sC sM := fun ls H locs hl hPC hDC hPM hDM hS => lv_if_eq X.1.1 X.1.2.1 hd ht (fun _ => (kk ls H locs hl hPC hDC hPM hDM hS)) (fun z => absurd he z)
theorem lx_arg {p : Program} {l : Launch} {e : Env} {s : State} {m : MethodId} {below : List Frame} {meth : Method} {c : Code} {b L : Nat} {xs : Nat → Int32} {D : va_G} {kc : Nat → ClassId} {aC aM adV : Nat → Nat} {A : Nat → Prop} {cells slots : Nat} (X : LX p s m meth c b L xs D kc aC aM adV A cells slots) {pc k : Nat} {st : List Value} {sC sM : Sg} (j : Nat) {n : Int} (hj : k + j < L) (h0 : decode code pc = .ok (.aload_n 0, 1)) (h1 : decode code (pc + 1) = .ok (.iload_n 3, 1)) (h2 : decode code (pc + 2) = .ok (.iconst n, 1)) (hn : Int32.ofInt n = nI j) (h3 : decode code (pc + 3) = .ok (.iadd, 1)) (h4 : decode code (pc + 4) = .ok (.iaload, 1))
    (kk : LW p l e s m below meth c b cells slots D kc aC aM A (pc + 5) (nI k) (.int (xs (k + j)) :: st) sC sM) : LW p l e s m below meth c b cells slots D kc aC aM A pc (nI k) st sC sM := fun ls H locs hl hPC hDC hPM hDM hS => by
  have hL := X.2.1
  refine lv_aload_n X.1.1 X.1.2.1 h0 rfl (lv_at hl 0 rfl) ?_
  refine lv_iload_n X.1.1 X.1.2.1 h1 rfl (lv_at hl 3 rfl) ?_
  refine lv_iconst X.1.1 X.1.2.1 h2 hn ?_
  refine lv_iadd X.1.1 X.1.2.1 h3 ?_
  rw [nI_add]
  refine va_sld X.1.1 X.1.2.1 X.1.2.2.2.2.2.2.1 X.1.2.2.2.2.2.2.2.1 X.2.2.2.2.2.2.2.1 hS (vp_in_nI hj (by omega)) h4 ?_
  rw [nI_clamp (by omega)]
  exact kk ls H locs hl hPC hDC hPM hDM hS
