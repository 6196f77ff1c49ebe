/-- what the evaluator says of a method is a contract of the machine -/
theorem snd_M {SH : List Shp} {MT : List ME} {LK : List Cond} (hLK : LKok LK) (hcl : clsOk) (hSH : SHok SH) (hMT : ∀ q ∈ MT, MEok MT LK q) : ∀ (d j : Nat) (as : List Value) (s : Sg) (Q : Qt), WpM SH MT d j as s Q → ∃ q, MT[j]? = some q ∧ ∀ (l : Launch) (D : va_G) (kc : Nat → ClassId) (ad adV : Nat → Nat) (sz : Nat), Met l q.1 (wsj MT LK q) (rmd d) (va_Pc (as.map (cv ad)) (wPr D kc ad adV SH s sz)) (QF D kc ad SH (va_A (wsl kc ad SH s) sz) Q) 0 0 (va_A (wsl kc ad SH s) sz) := by
  intro d
  induction d with
  | zero => intro j as s Q h; exact h.elim
  | succ d ih =>
    intro j as s Q h
    unfold WpM at h
    split at h
    · rename_i q hq
      obtain ⟨hn, h⟩ := kon_e h
      have hq1 := hMT q (List.mem_of_getElem? hq)
      refine ⟨q, hq, fun l D kc ad adV sz => ?_⟩
      refine va_MetF (cc := q.2.1) (maxL := q.2.2.1) (ret := q.2.2.2.1) hq1.1 rfl ?_
      intro p e s0 m args below meth c s₁ B hml hv
      obtain ⟨rfl, hsz, hP, hE, hD0, hs⟩ := hv
      have hts := atoms_spec (ws := wsj MT LK q) B.pre
      have hown : s0.vm.findClass q.1.cls = some m.cls := findClass_of_methodNamed B.named
      subst hsz
      have hD := hD0.self (sz := s0.heap.size)
      have hl := lv_entry (as.map (cv ad)) (n := q.2.2.1) (by rw [lgsl_map]; exact Nat.le_of_ble_eq_true hn)
      rw [lg_entry_eq]
      rw [args_map] at hl
      refine h (CW p l e (headSpec (wsj MT LK q) (rmd (d + 1))).room s0 m (as.map (cv ad)).toArray below meth c (MQ below (QF D kc ad SH (va_A (wsl kc ad SH s) s0.heap.size) Q) (as.map (cv ad)).toArray s0 0 0 (va_A (wsl kc ad SH s) s0.heap.size)) D kc ad SH (va_A (wsl kc ad SH s) s0.heap.size) q.2.2.1) ?_ ?_ _ _ _ hl hP hD va_S.rf
      · intro pc lv st s2 w
        unfold stp at w
        split at w
        · rename_i ins len ax z zl hlk
          have hm := lk_mem hlk
          obtain ⟨hd, ho⟩ := hq1.2.2.2.2.2 _ hm
          exact snd_sti (d := d) B.exec B.bytes hml B.returns B.notSynchronized hown hts hE (fun q hq => Or.inr hq) hs hLK hcl hSH hMT rfl (fun j as s Q h => by
            obtain ⟨q2, h2, h3⟩ := ih j as s Q h
            exact ⟨q2, h2, fun sz => h3 l D kc ad adV sz⟩) hd ho w
        · exact w.elim
      · intro pc lv ks st s2 w ls H locs hl hP hD hS
        exact w ls H locs (lv_sub hl ks pick_map) hP hD hS
    · exact h.elim
