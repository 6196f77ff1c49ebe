theorem ce_mono {tyc : Nat → List FieldType} {call : Cct} {cd : List Ent} {w' : List CC} (hty : tycOk tyc) (hcall : ∀ j as w w2, call j as w = some w2 → w.length ≤ w2.length ∧ slW w ≤ slW w2) : ∀ (n pc : Nat) (lv : Lv) (st : List Value) (w : List CC), ce tyc call cd n pc lv st w = some w' → w.length ≤ w'.length ∧ slW w ≤ slW w' := by
  intro n
  induction n with
  | zero => intro pc lv st w h; cases h
  | succ n ih =>
    intro pc lv st w h
    unfold ce at h
    cases hlk : lk cd pc with
    | none => rw [hlk] at h; cases h
    | some en =>
    obtain ⟨ins, len, ax, z, zl⟩ := en
    rw [hlk] at h
    cases ins with
    | iconst v =>
      exact ih _ _ _ _ h
    | bipush v =>
      exact ih _ _ _ _ h
    | sipush v =>
      exact ih _ _ _ _ h
    | lconst v =>
      exact ih _ _ _ _ h
    | iload_n k =>
      replace h := o_gi_e h
      obtain ⟨x, hg, h⟩ := h
      exact ih _ _ _ _ h
    | aload_n k =>
      replace h := o_gr_e h
      obtain ⟨x, hg, h⟩ := h
      exact ih _ _ _ _ h
    | istore_n k =>
      replace h := o_i_e h
      obtain ⟨x, r, rfl, h⟩ := h
      exact ih _ _ _ _ h
    | iinc k v =>
      replace h := o_gi_e h
      obtain ⟨x, hg, h⟩ := h
      exact ih _ _ _ _ h
    | iadd =>
      replace h := o_ii_e h
      obtain ⟨x, y, r, rfl, h⟩ := h
      exact ih _ _ _ _ h
    | dup =>
      replace h := o_r_e h
      obtain ⟨x, r, rfl, h⟩ := h
      exact ih _ _ _ _ h
    | goto off =>
      replace h := o_x1_e h
      obtain ⟨t, rfl, h⟩ := h
      exact ih _ _ _ _ h
    | if_icmp cnd off =>
      replace h := o_if_e h
      obtain ⟨rfl, h⟩ := h
      replace h := o_x1_e h
      obtain ⟨t, rfl, h⟩ := h
      replace h := o_ii_e h
      obtain ⟨x, y, r, rfl, h⟩ := h
      split at h
      · exact ih _ _ _ _ h
      · exact ih _ _ _ _ h
    | getfield idx =>
      replace h := o_x4_e h
      obtain ⟨ci, k, nest, p0, rfl, h⟩ := h
      replace h := o_r_e h
      obtain ⟨o, r, rfl, h⟩ := h
      replace h := o_obj_e h
      obtain ⟨c2, fs, e1, h⟩ := h
      replace h := o_if_e h
      obtain ⟨rfl, h⟩ := h
      replace h := o_some_e h
      obtain ⟨v, e2, h⟩ := h
      exact ih _ _ _ _ h
    | putfield idx =>
      replace h := o_x5_e h
      obtain ⟨ci, k, nest, p0, kd, rfl, h⟩ := h
      replace h := o_vr_e h
      obtain ⟨v, o, r, rfl, h⟩ := h
      replace h := o_obj_e h
      obtain ⟨c2, fs, e1, h⟩ := h
      replace h := o_if_e h
      obtain ⟨⟨rfl, hk9, hn9, hf9⟩, h⟩ := h
      have hm := ih _ _ _ _ h
      rw [List.length_set, sl_set e1 (by show (fs.set k v).length = fs.length; rw [List.length_set])] at hm
      exact hm
    | iastore =>
      replace h := o_iir_e h
      obtain ⟨x, i, o, r, rfl, h⟩ := h
      replace h := o_arr_e h
      obtain ⟨t, mm, f, ids, e1, h⟩ := h
      replace h := o_if_e h
      obtain ⟨⟨rfl, hin⟩, h⟩ := h
      have hm := ih _ _ _ _ h
      have hsl9 : slW (w.set o (.inr (0, mm, stI f i.toNatClampNeg x, ids))) = slW w := sl_set e1 rfl
      rw [List.length_set, hsl9] at hm
      exact hm
    | aastore =>
      replace h := o_rir_e h
      obtain ⟨v, i, o, r, rfl, h⟩ := h
      replace h := o_arr_e h
      obtain ⟨t, mm, f, ids, e1, h⟩ := h
      replace h := o_obj_e h
      obtain ⟨c2, fs, e2, h⟩ := h
      replace h := o_if_e h
      obtain ⟨⟨htc, hml9, hin⟩, h⟩ := h
      have hm := ih _ _ _ _ h
      have hsl9 : slW (w.set o (.inr (t, mm, f, ids.set i.toNatClampNeg (some v)))) = slW w := sl_set e1 rfl
      rw [List.length_set, hsl9] at hm
      exact hm
    | newarray ty =>
      replace h := o_i_e h
      obtain ⟨x, r, rfl, h⟩ := h
      replace h := o_if_e h
      obtain ⟨hcc, h⟩ := h
      have hm := ih _ _ _ _ h
      rw [len_app, sl_app] at hm
      exact ⟨by omega, by omega⟩
    | anewarray idx =>
      replace h := o_x2_e h
      obtain ⟨p0, t, rfl, h⟩ := h
      replace h := o_i_e h
      obtain ⟨x, r, rfl, h⟩ := h
      replace h := o_if_e h
      obtain ⟨hcc, h⟩ := h
      have hm := ih _ _ _ _ h
      rw [len_app, sl_app] at hm
      exact ⟨by omega, by omega⟩
    | new idx =>
      replace h := o_x4_e h
      obtain ⟨ci, p1, p2, p3, rfl, h⟩ := h
      replace h := o_if_e h
      obtain ⟨hsc, h⟩ := h
      have hm := ih _ _ _ _ h
      rw [len_app, sl_app] at hm
      exact ⟨by omega, by omega⟩
    | invokespecial idx =>
      dsimp only at h
      split at h
      · replace h := o_r_e h
        obtain ⟨o, r, rfl, h⟩ := h
        replace h := o_if_e h
        exact ih _ _ _ _ h.2
      · replace h := o_x7_e h
        obtain ⟨np, j, nest, p1, p2, p3, rfl, h⟩ := h
        replace h := o_if_e h
        obtain ⟨hcc, h⟩ := h
        replace h := o_r_e h
        obtain ⟨o, as, has, h⟩ := h
        replace h := o_w_e h
        obtain ⟨w2, hcl2, h⟩ := h
        have h1 := hcall _ _ _ _ hcl2
        have h2 := ih _ _ _ _ h
        exact ⟨by omega, by omega⟩
    | invokevirtual idx =>
      replace h := o_x9_e h
      obtain ⟨np, j, ci, nest, p1, p2, p3, p4, rfl, h⟩ := h
      replace h := o_if_e h
      obtain ⟨hcc, h⟩ := h
      replace h := o_r_e h
      obtain ⟨o, as, has, h⟩ := h
      replace h := o_obj_e h
      obtain ⟨c2, fs, e1, h⟩ := h
      replace h := o_if_e h
      obtain ⟨rfl, h⟩ := h
      replace h := o_w_e h
      obtain ⟨w2, hcl2, h⟩ := h
      have h1 := hcall _ _ _ _ hcl2
      have h2 := ih _ _ _ _ h
      exact ⟨by omega, by omega⟩
    | return_ =>
      replace h := o_nil_e h
      obtain ⟨rfl, h⟩ := h
      cases h
      exact ⟨Nat.le_refl _, Nat.le_refl _⟩
    | _ => cases h
theorem snd_cM {MT : List ME} {LK : List Cond} {tyc : Nat → List FieldType} {l : Launch} {D : va_G} {kc : Nat → ClassId} (hLK : LKokC LK) (hcl : clsOk) (hty : tycOk tyc) (htf : ∀ ci, ∀ t ∈ tyc ci, t ≠ .float ∧ t ≠ .double) (hMT : ∀ q ∈ MT, MCok MT LK q) : ∀ (d j : Nat) (as : List Value) (w w2 : List CC), cM tyc MT d j as w = some w2 → (w.length ≤ w2.length ∧ slW w ≤ slW w2) ∧ ∃ q2, MT[j]? = some q2 ∧ ∀ (ad : Nat → Nat) (sz : Nat), Met l q2.1 (wsj MT LK q2) (rmc d (w2.length - w.length) (slW w2 - slW w)) (va_Pc (as.map (cv ad)) (wPc D kc ad w sz)) (QC D kc ad (va_A (cwl kc ad w) sz) w.length w2) (w2.length - w.length) (slW w2 - slW w) (va_A (cwl kc ad w) sz) := by
  intro d
  induction d with
  | zero => intro j as w w2 h; cases h
  | succ d ih =>
    intro j as w w2 h
    unfold cM at h
    split at h
    · rename_i q hq
      obtain ⟨hn, h⟩ := o_if_e h
      have hqm := List.mem_of_getElem? hq
      have hq1 := hMT q hqm
      refine ⟨?_, q, hq, fun ad sz => ?_⟩
      · exact ce_mono hty (fun j as w w2 h => (ih j as w w2 h).1) _ _ _ _ _ h
      refine va_MetF (cc := q.2.1) (maxL := q.2.2.1) (ret := q.2.2.2.1) hq1.1 rfl ?_
      intro p e s0 m args below meth c s₁ B hml hv
      obtain ⟨rfl, hsz, hP, hE, hD0⟩ := hv
      have hts := atoms_spec (ws := wsj MT LK q) B.pre
      have hown : s0.vm.findClass q.1.cls = some m.cls := findClass_of_methodNamed B.named
      have hnm : meth.name = q.1.name := (name_of_methodNamed B.named B.method).1
      subst hsz
      have hD := hD0.self (sz := s0.heap.size)
      have hl := lv_entry (as.map (cv ad)) (n := q.2.2.1) (by rw [lgsl_map]; exact hn)
      rw [lg_entry_eq]
      rw [args_map] at hl
      have hr : meth.sig.returnType = none := by rw [B.returns]; exact hq1.2.2.2.2.2.1
      have K := (snd_ce (p := p) (l := l) (e := e) (R := rmc (d + 1) (w2.length - w.length) (slW w2 - slW w)) (s0 := s0) (m := m) (args := (as.map (cv ad)).toArray) (below := below) (meth := meth) (c := c) (D := D) (kc := kc) (ad0 := ad) (A := va_A (cwl kc ad w) s0.heap.size) (n0 := w.length) (sl0 := slW w) (w' := w2) (d := d) B.exec B.bytes hml hr B.notSynchronized hnm hown hts hE (fun q hq => Or.inr hq) hLK hcl hty htf hMT hqm rfl ih 20000 0 (lv_args 0 as) [] w h).2
      have := K ad _ s0.heap [] (fun _ _ => rfl) hl hP hD va_S.rf (Nat.le_refl _) (Nat.le_refl _)
      rw [Nat.sub_self, Nat.sub_self] at this
      exact this
    · cases h
