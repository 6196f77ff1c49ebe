noncomputable abbrev Y_X11_status (d : Nat) (Q : Qt) : Xt := Wp SHC (WpM SHC MT (d + 0)) (flat2 cq_X11_status) (some .int) Q
noncomputable def f_X11_status  (s : Sg) : Option (Int32 × Sg) :=
  some (s.1 0 15, s)
set_option maxRecDepth 100000 in
theorem w_X11_status {d : Nat} {s : Sg} {Q : Qt}  (H : OQ (f_X11_status  s) (fun r9 s9 => Q (some (.int r9)) s9)) : WpM SHC MT (d + 1) 102 [.ref 0] s Q := by
  refine WpM.enter me_X11_status rfl rfl ?_
  show Y_X11_status d Q 0 [(0, .ref 0)] [] s
  unfold f_X11_status at H
  exact Wp.f_al0_gfi (pc := 0) o_X11_status rfl rfl rfl fk_C_0_15 (Wp.r_ireturn (pc := 4) o_X11_status rfl (⟨rfl, H⟩))
noncomputable abbrev Y_X11_top (d : Nat) (Q : Qt) : Xt := Wp SHC (WpM SHC MT (d + 0)) (flat2 cq_X11_top) (some .long) Q
noncomputable def f_X11_top  (s : Sg) : Option (Int64 × Sg) :=
  some (s.2 0 16, s)
set_option maxRecDepth 100000 in
theorem w_X11_top {d : Nat} {s : Sg} {Q : Qt}  (H : OQ (f_X11_top  s) (fun r9 s9 => Q (some (.long r9)) s9)) : WpM SHC MT (d + 1) 103 [.ref 0] s Q := by
  refine WpM.enter me_X11_top rfl rfl ?_
  show Y_X11_top d Q 0 [(0, .ref 0)] [] s
  unfold f_X11_top at H
  exact Wp.f_al0_gfl (pc := 0) o_X11_top rfl rfl rfl fk_C_0_16 (Wp.r_lreturn (pc := 4) o_X11_top rfl (H))
noncomputable abbrev Y_X11_bottom (d : Nat) (Q : Qt) : Xt := Wp SHC (WpM SHC MT (d + 0)) (flat2 cq_X11_bottom) (some .long) Q
noncomputable def f_X11_bottom  (s : Sg) : Option (Int64 × Sg) :=
  some (s.2 0 17, s)
set_option maxRecDepth 100000 in
theorem w_X11_bottom {d : Nat} {s : Sg} {Q : Qt}  (H : OQ (f_X11_bottom  s) (fun r9 s9 => Q (some (.long r9)) s9)) : WpM SHC MT (d + 1) 104 [.ref 0] s Q := by
  refine WpM.enter me_X11_bottom rfl rfl ?_
  show Y_X11_bottom d Q 0 [(0, .ref 0)] [] s
  unfold f_X11_bottom at H
  exact Wp.f_al0_gfl (pc := 0) o_X11_bottom rfl rfl rfl fk_C_0_17 (Wp.r_lreturn (pc := 4) o_X11_bottom rfl (H))
noncomputable abbrev Y_X11_within (d : Nat) (Q : Qt) : Xt := Wp SHC (WpM SHC MT (d + 0)) (flat2 cq_X11_within) (some .boolean) Q
noncomputable def f_X11_within (a0 : Int32) (a1 : Int32) (a2 : Int32) (s : Sg) : Option (Int32 × Sg) :=
  if a0 < a1 then
    some (0, s)
  else
    if a2 < a0 then
      some (0, s)
    else
      some (1, s)
set_option maxRecDepth 100000 in
theorem w_X11_within {d : Nat} {s : Sg} {Q : Qt} (a0 : Int32) (a1 : Int32) (a2 : Int32) (H : OQ (f_X11_within a0 a1 a2 s) (fun r9 s9 => Q (some (.int r9)) s9)) : WpM SHC MT (d + 1) 169 [.int a0, .int a1, .int a2] s Q := by
  refine WpM.enter me_X11_within rfl rfl ?_
  show Y_X11_within d Q 0 [(0, .int a0), (1, .int a1), (2, .int a2)] [] s
  unfold f_X11_within at H
  refine Wp.r_iload_n0 (pc := 0) o_X11_within rfl rfl (Wp.r_iload_n1 (pc := 1) o_X11_within rfl rfl (Wp.r_icmp_lt (pc := 2) o_X11_within rfl (fun c9 => ?_) (fun c9 => ?_)))
  · have H := oq_t c9 H
    exact Wp.r_iconst (pc := 14) o_X11_within rfl (Wp.r_ireturn (pc := 15) o_X11_within rfl (⟨rfl, H⟩))
  · have H := oq_f c9 H
    refine Wp.r_iload_n0 (pc := 5) o_X11_within rfl rfl (Wp.r_iload_n2 (pc := 6) o_X11_within rfl rfl (Wp.r_icmp_gt (pc := 7) o_X11_within rfl (fun c9 => ?_) (fun c9 => ?_)))
    · have H := oq_t c9 H
      exact Wp.r_iconst (pc := 14) o_X11_within rfl (Wp.r_ireturn (pc := 15) o_X11_within rfl (⟨rfl, H⟩))
    · have H := oq_f c9 H
      exact Wp.r_iconst (pc := 10) o_X11_within rfl (Wp.r_goto (pc := 11) o_X11_within rfl (Wp.r_ireturn (pc := 15) o_X11_within rfl (⟨rfl, H⟩)))
noncomputable abbrev Y_X11_isTray (d : Nat) (Q : Qt) : Xt := Wp SHC (WpM SHC MT (d + 1)) (flat2 cq_X11_isTray) (some .boolean) Q
noncomputable def f_X11_isTray (a0 : Int32) (s : Sg) : Option (Int32 × Sg) :=
  bd (f_X11_within a0 0 3 s) (fun r1 s2 =>
  ck (r1 = 0 ∨ r1 = 1) (some (r1, s2))
  )
set_option maxRecDepth 100000 in
theorem w_X11_isTray {d : Nat} {s : Sg} {Q : Qt} (a0 : Int32) (H : OQ (f_X11_isTray a0 s) (fun r9 s9 => Q (some (.int r9)) s9)) : WpM SHC MT (d + 2) 171 [.int a0] s Q := by
  refine WpM.enter me_X11_isTray rfl rfl ?_
  show Y_X11_isTray d Q 0 [(0, .int a0)] [] s
  unfold f_X11_isTray at H
  refine Wp.r_iload_n0 (pc := 0) o_X11_isTray rfl rfl (Wp.r_iconst (pc := 1) o_X11_isTray rfl (Wp.r_iconst (pc := 2) o_X11_isTray rfl (Wp.r_cs3 (pc := 3) o_X11_isTray rfl (⟨rm8_ rfl, ?_⟩))))
  refine w_X11_within (d := d) _ _ _ ?_
  refine oq_bd H (fun r1 s2 H => ?_)
  obtain ⟨c9, H⟩ := oq_ck H
  exact Wp.r_ireturn (pc := 6) o_X11_isTray rfl (⟨b01_n c9, H⟩)
noncomputable abbrev Y_X11_refused (d : Nat) (Q : Qt) : Xt := Wp SHC (WpM SHC MT (d + 0)) (flat2 cq_X11_refused) (some .boolean) Q
noncomputable def f_X11_refused (a1 : Int32) (s : Sg) : Option (Int32 × Sg) :=
  some (0, pI s 0 15 a1)
set_option maxRecDepth 100000 in
theorem w_X11_refused {d : Nat} {s : Sg} {Q : Qt} (a1 : Int32) (H : OQ (f_X11_refused a1 s) (fun r9 s9 => Q (some (.int r9)) s9)) : WpM SHC MT (d + 1) 168 [.ref 0, .int a1] s Q := by
  refine WpM.enter me_X11_refused rfl rfl ?_
  show Y_X11_refused d Q 0 [(0, .ref 0), (1, .int a1)] [] s
  unfold f_X11_refused at H
  exact Wp.r_aload_n0 (pc := 0) o_X11_refused rfl rfl (Wp.r_iload_n1 (pc := 1) o_X11_refused rfl rfl (Wp.r_pfi (pc := 2) o_X11_refused rfl fk_C_0_15 (Wp.r_iconst (pc := 5) o_X11_refused rfl (Wp.r_ireturn (pc := 6) o_X11_refused rfl (⟨rfl, H⟩)))))
noncomputable abbrev Y_X8_lay_10 (d : Nat) (Q : Qt) : Xt := Wp SHC (WpM SHC MT (d + 0)) (flat2 cq_X8_lay) (none) Q
noncomputable def f_X8_lay_10_b17 : Nat → Int32 → Sg → Option (Unit × Sg)
  | 0, _, _ => none
  | n + 1, v3, s =>
    if 60 ≤ v3 then
      some ((), s)
    else
      ck (inr v3 60) (
      (f_X8_lay_10_b17 n) (v3 + 1) (pL s 14 v3.toNatClampNeg 0)
      )
set_option maxRecDepth 100000 in
theorem w_X8_lay_10_b17 {d : Nat} {Q : Qt} (n : Nat) : ∀ (v3 : Int32) (s : Sg), OQ (f_X8_lay_10_b17 n v3 s) (fun _ s9 => Q none s9) → Y_X8_lay_10 d Q 17 [(0, .ref 10), (3, .int v3)] [] s := by
  induction n with
  | zero => intro v3 s H; exact H.elim
  | succ n ih =>
    intro v3 s H
    unfold f_X8_lay_10_b17 at H
    refine Wp.r_iload_n3 (pc := 17) o_X8_lay rfl rfl (Wp.r_bipush (pc := 18) o_X8_lay rfl (Wp.r_icmp_ge (pc := 20) o_X8_lay rfl (fun c9 => ?_) (fun c9 => ?_)))
    · have H := oq_t c9 H
      exact Wp.r_return (pc := 36) o_X8_lay rfl (H)
    · have H := oq_f c9 H
      obtain ⟨hc2, H⟩ := oq_ck H
      refine Wp.f_al0_gfr (pc := 23) o_X8_lay rfl rfl rfl fk_C_10_0 (Wp.r_iload_n3 (pc := 27) o_X8_lay rfl rfl (Wp.r_lconst (pc := 28) o_X8_lay rfl (Wp.r_lastore (pc := 29) o_X8_lay rfl ak_C_14 (⟨hc2, ?_⟩))))
      exact Wp.f_iinc_goto (pc := 30) o_X8_lay rfl rfl rfl (Wp.weak2 [1, 0] (ih _ _ H) rfl)
noncomputable def f_X8_lay_10 (a1 : Int32) (a2 : Int32) (s : Sg) : Option (Unit × Sg) :=
  nmx (pI (pI (pI s 10 1 1) 10 2 a1) 10 3 a2) (fun s1 =>
  f_X8_lay_10_b17 BIG 0 s1
  )
set_option maxRecDepth 100000 in
theorem w_X8_lay_10 {d : Nat} {s : Sg} {Q : Qt} (a1 : Int32) (a2 : Int32) (H : OQ (f_X8_lay_10 a1 a2 s) (fun _ s9 => Q none s9)) : WpM SHC MT (d + 1) 85 [.ref 10, .int a1, .int a2] s Q := by
  refine WpM.enter me_X8_lay rfl rfl ?_
  show Y_X8_lay_10 d Q 0 [(0, .ref 10), (1, .int a1), (2, .int a2)] [] s
  unfold f_X8_lay_10 at H
  refine Wp.f_al0_iconst (pc := 0) o_X8_lay rfl rfl rfl (Wp.r_pfz (pc := 2) o_X8_lay rfl fk_C_10_1 (show ((1 : Int32) = 0 ∨ 1 = 1) ∧ Y_X8_lay_10 d Q 5 [(0, .ref 10), (1, .int a1), (2, .int a2)] [] (pI s 10 1 1) from ⟨Or.inr rfl, ?_⟩))
  refine Wp.r_aload_n0 (pc := 5) o_X8_lay rfl rfl (Wp.r_iload_n1 (pc := 6) o_X8_lay rfl rfl (Wp.r_pfi (pc := 7) o_X8_lay rfl fk_C_10_2 (Wp.r_aload_n0 (pc := 10) o_X8_lay rfl rfl (Wp.r_iload_n2 (pc := 11) o_X8_lay rfl rfl (Wp.r_pfi (pc := 12) o_X8_lay rfl fk_C_10_3 (show Y_X8_lay_10 d Q 15 [(0, .ref 10), (1, .int a1), (2, .int a2)] [] (pI (pI (pI s 10 1 1) 10 2 a1) 10 3 a2) from ?_))))))
  revert H
  generalize pI (pI (pI s 10 1 1) 10 2 a1) 10 3 a2 = s1
  intro H
  have H := nmx_e H
  exact Wp.r_iconst (pc := 15) o_X8_lay rfl (Wp.r_istore_n3 (pc := 16) o_X8_lay rfl (Wp.weak2 [1, 0] (w_X8_lay_10_b17 _ _ _ H) rfl))
noncomputable abbrev Y_X11_granted (d : Nat) (Q : Qt) : Xt := Wp SHC (WpM SHC MT (d + 0)) (flat2 cq_X11_granted) (some .boolean) Q
noncomputable def f_X11_granted  (s : Sg) : Option (Int32 × Sg) :=
  some (1, pI s 0 15 0)
set_option maxRecDepth 100000 in
theorem w_X11_granted {d : Nat} {s : Sg} {Q : Qt}  (H : OQ (f_X11_granted  s) (fun r9 s9 => Q (some (.int r9)) s9)) : WpM SHC MT (d + 1) 167 [.ref 0] s Q := by
  refine WpM.enter me_X11_granted rfl rfl ?_
  show Y_X11_granted d Q 0 [(0, .ref 0)] [] s
  unfold f_X11_granted at H
  exact Wp.f_al0_iconst (pc := 0) o_X11_granted rfl rfl rfl (Wp.r_pfi (pc := 2) o_X11_granted rfl fk_C_0_15 (Wp.r_iconst (pc := 5) o_X11_granted rfl (Wp.r_ireturn (pc := 6) o_X11_granted rfl (⟨rfl, H⟩))))
noncomputable abbrev Y_X8_lay_11 (d : Nat) (Q : Qt) : Xt := Wp SHC (WpM SHC MT (d + 0)) (flat2 cq_X8_lay) (none) Q
noncomputable def f_X8_lay_11_b17 : Nat → Int32 → Sg → Option (Unit × Sg)
  | 0, _, _ => none
  | n + 1, v3, s =>
    if 60 ≤ v3 then
      some ((), s)
    else
      ck (inr v3 60) (
      (f_X8_lay_11_b17 n) (v3 + 1) (pL s 15 v3.toNatClampNeg 0)
      )
set_option maxRecDepth 100000 in
theorem w_X8_lay_11_b17 {d : Nat} {Q : Qt} (n : Nat) : ∀ (v3 : Int32) (s : Sg), OQ (f_X8_lay_11_b17 n v3 s) (fun _ s9 => Q none s9) → Y_X8_lay_11 d Q 17 [(0, .ref 11), (3, .int v3)] [] s := by
  induction n with
  | zero => intro v3 s H; exact H.elim
  | succ n ih =>
    intro v3 s H
    unfold f_X8_lay_11_b17 at H
    refine Wp.r_iload_n3 (pc := 17) o_X8_lay rfl rfl (Wp.r_bipush (pc := 18) o_X8_lay rfl (Wp.r_icmp_ge (pc := 20) o_X8_lay rfl (fun c9 => ?_) (fun c9 => ?_)))
    · have H := oq_t c9 H
      exact Wp.r_return (pc := 36) o_X8_lay rfl (H)
    · have H := oq_f c9 H
      obtain ⟨hc2, H⟩ := oq_ck H
      refine Wp.f_al0_gfr (pc := 23) o_X8_lay rfl rfl rfl fk_C_11_0 (Wp.r_iload_n3 (pc := 27) o_X8_lay rfl rfl (Wp.r_lconst (pc := 28) o_X8_lay rfl (Wp.r_lastore (pc := 29) o_X8_lay rfl ak_C_15 (⟨hc2, ?_⟩))))
      exact Wp.f_iinc_goto (pc := 30) o_X8_lay rfl rfl rfl (Wp.weak2 [1, 0] (ih _ _ H) rfl)
noncomputable def f_X8_lay_11 (a1 : Int32) (a2 : Int32) (s : Sg) : Option (Unit × Sg) :=
  nmx (pI (pI (pI s 11 1 1) 11 2 a1) 11 3 a2) (fun s1 =>
  f_X8_lay_11_b17 BIG 0 s1
  )
set_option maxRecDepth 100000 in
theorem w_X8_lay_11 {d : Nat} {s : Sg} {Q : Qt} (a1 : Int32) (a2 : Int32) (H : OQ (f_X8_lay_11 a1 a2 s) (fun _ s9 => Q none s9)) : WpM SHC MT (d + 1) 85 [.ref 11, .int a1, .int a2] s Q := by
  refine WpM.enter me_X8_lay rfl rfl ?_
  show Y_X8_lay_11 d Q 0 [(0, .ref 11), (1, .int a1), (2, .int a2)] [] s
  unfold f_X8_lay_11 at H
  refine Wp.f_al0_iconst (pc := 0) o_X8_lay rfl rfl rfl (Wp.r_pfz (pc := 2) o_X8_lay rfl fk_C_11_1 (show ((1 : Int32) = 0 ∨ 1 = 1) ∧ Y_X8_lay_11 d Q 5 [(0, .ref 11), (1, .int a1), (2, .int a2)] [] (pI s 11 1 1) from ⟨Or.inr rfl, ?_⟩))
  refine Wp.r_aload_n0 (pc := 5) o_X8_lay rfl rfl (Wp.r_iload_n1 (pc := 6) o_X8_lay rfl rfl (Wp.r_pfi (pc := 7) o_X8_lay rfl fk_C_11_2 (Wp.r_aload_n0 (pc := 10) o_X8_lay rfl rfl (Wp.r_iload_n2 (pc := 11) o_X8_lay rfl rfl (Wp.r_pfi (pc := 12) o_X8_lay rfl fk_C_11_3 (show Y_X8_lay_11 d Q 15 [(0, .ref 11), (1, .int a1), (2, .int a2)] [] (pI (pI (pI s 11 1 1) 11 2 a1) 11 3 a2) from ?_))))))
  revert H
  generalize pI (pI (pI s 11 1 1) 11 2 a1) 11 3 a2 = s1
  intro H
  have H := nmx_e H
  exact Wp.r_iconst (pc := 15) o_X8_lay rfl (Wp.r_istore_n3 (pc := 16) o_X8_lay rfl (Wp.weak2 [1, 0] (w_X8_lay_11_b17 _ _ _ H) rfl))
noncomputable abbrev Y_X8_lay_12 (d : Nat) (Q : Qt) : Xt := Wp SHC (WpM SHC MT (d + 0)) (flat2 cq_X8_lay) (none) Q
noncomputable def f_X8_lay_12_b17 : Nat → Int32 → Sg → Option (Unit × Sg)
  | 0, _, _ => none
  | n + 1, v3, s =>
    if 60 ≤ v3 then
      some ((), s)
    else
      ck (inr v3 60) (
      (f_X8_lay_12_b17 n) (v3 + 1) (pL s 16 v3.toNatClampNeg 0)
      )
set_option maxRecDepth 100000 in
theorem w_X8_lay_12_b17 {d : Nat} {Q : Qt} (n : Nat) : ∀ (v3 : Int32) (s : Sg), OQ (f_X8_lay_12_b17 n v3 s) (fun _ s9 => Q none s9) → Y_X8_lay_12 d Q 17 [(0, .ref 12), (3, .int v3)] [] s := by
  induction n with
  | zero => intro v3 s H; exact H.elim
  | succ n ih =>
    intro v3 s H
    unfold f_X8_lay_12_b17 at H
    refine Wp.r_iload_n3 (pc := 17) o_X8_lay rfl rfl (Wp.r_bipush (pc := 18) o_X8_lay rfl (Wp.r_icmp_ge (pc := 20) o_X8_lay rfl (fun c9 => ?_) (fun c9 => ?_)))
    · have H := oq_t c9 H
      exact Wp.r_return (pc := 36) o_X8_lay rfl (H)
    · have H := oq_f c9 H
      obtain ⟨hc2, H⟩ := oq_ck H
      refine Wp.f_al0_gfr (pc := 23) o_X8_lay rfl rfl rfl fk_C_12_0 (Wp.r_iload_n3 (pc := 27) o_X8_lay rfl rfl (Wp.r_lconst (pc := 28) o_X8_lay rfl (Wp.r_lastore (pc := 29) o_X8_lay rfl ak_C_16 (⟨hc2, ?_⟩))))
      exact Wp.f_iinc_goto (pc := 30) o_X8_lay rfl rfl rfl (Wp.weak2 [1, 0] (ih _ _ H) rfl)
noncomputable def f_X8_lay_12 (a1 : Int32) (a2 : Int32) (s : Sg) : Option (Unit × Sg) :=
  nmx (pI (pI (pI s 12 1 1) 12 2 a1) 12 3 a2) (fun s1 =>
  f_X8_lay_12_b17 BIG 0 s1
  )
set_option maxRecDepth 100000 in
theorem w_X8_lay_12 {d : Nat} {s : Sg} {Q : Qt} (a1 : Int32) (a2 : Int32) (H : OQ (f_X8_lay_12 a1 a2 s) (fun _ s9 => Q none s9)) : WpM SHC MT (d + 1) 85 [.ref 12, .int a1, .int a2] s Q := by
  refine WpM.enter me_X8_lay rfl rfl ?_
  show Y_X8_lay_12 d Q 0 [(0, .ref 12), (1, .int a1), (2, .int a2)] [] s
  unfold f_X8_lay_12 at H
  refine Wp.f_al0_iconst (pc := 0) o_X8_lay rfl rfl rfl (Wp.r_pfz (pc := 2) o_X8_lay rfl fk_C_12_1 (show ((1 : Int32) = 0 ∨ 1 = 1) ∧ Y_X8_lay_12 d Q 5 [(0, .ref 12), (1, .int a1), (2, .int a2)] [] (pI s 12 1 1) from ⟨Or.inr rfl, ?_⟩))
  refine Wp.r_aload_n0 (pc := 5) o_X8_lay rfl rfl (Wp.r_iload_n1 (pc := 6) o_X8_lay rfl rfl (Wp.r_pfi (pc := 7) o_X8_lay rfl fk_C_12_2 (Wp.r_aload_n0 (pc := 10) o_X8_lay rfl rfl (Wp.r_iload_n2 (pc := 11) o_X8_lay rfl rfl (Wp.r_pfi (pc := 12) o_X8_lay rfl fk_C_12_3 (show Y_X8_lay_12 d Q 15 [(0, .ref 12), (1, .int a1), (2, .int a2)] [] (pI (pI (pI s 12 1 1) 12 2 a1) 12 3 a2) from ?_))))))
  revert H
  generalize pI (pI (pI s 12 1 1) 12 2 a1) 12 3 a2 = s1
  intro H
  have H := nmx_e H
  exact Wp.r_iconst (pc := 15) o_X8_lay rfl (Wp.r_istore_n3 (pc := 16) o_X8_lay rfl (Wp.weak2 [1, 0] (w_X8_lay_12_b17 _ _ _ H) rfl))
noncomputable abbrev Y_X8_lay_13 (d : Nat) (Q : Qt) : Xt := Wp SHC (WpM SHC MT (d + 0)) (flat2 cq_X8_lay) (none) Q
noncomputable def f_X8_lay_13_b17 : Nat → Int32 → Sg → Option (Unit × Sg)
  | 0, _, _ => none
  | n + 1, v3, s =>
    if 60 ≤ v3 then
      some ((), s)
    else
      ck (inr v3 60) (
      (f_X8_lay_13_b17 n) (v3 + 1) (pL s 17 v3.toNatClampNeg 0)
      )
set_option maxRecDepth 100000 in
theorem w_X8_lay_13_b17 {d : Nat} {Q : Qt} (n : Nat) : ∀ (v3 : Int32) (s : Sg), OQ (f_X8_lay_13_b17 n v3 s) (fun _ s9 => Q none s9) → Y_X8_lay_13 d Q 17 [(0, .ref 13), (3, .int v3)] [] s := by
  induction n with
  | zero => intro v3 s H; exact H.elim
  | succ n ih =>
    intro v3 s H
    unfold f_X8_lay_13_b17 at H
    refine Wp.r_iload_n3 (pc := 17) o_X8_lay rfl rfl (Wp.r_bipush (pc := 18) o_X8_lay rfl (Wp.r_icmp_ge (pc := 20) o_X8_lay rfl (fun c9 => ?_) (fun c9 => ?_)))
    · have H := oq_t c9 H
      exact Wp.r_return (pc := 36) o_X8_lay rfl (H)
    · have H := oq_f c9 H
      obtain ⟨hc2, H⟩ := oq_ck H
      refine Wp.f_al0_gfr (pc := 23) o_X8_lay rfl rfl rfl fk_C_13_0 (Wp.r_iload_n3 (pc := 27) o_X8_lay rfl rfl (Wp.r_lconst (pc := 28) o_X8_lay rfl (Wp.r_lastore (pc := 29) o_X8_lay rfl ak_C_17 (⟨hc2, ?_⟩))))
      exact Wp.f_iinc_goto (pc := 30) o_X8_lay rfl rfl rfl (Wp.weak2 [1, 0] (ih _ _ H) rfl)
noncomputable def f_X8_lay_13 (a1 : Int32) (a2 : Int32) (s : Sg) : Option (Unit × Sg) :=
  nmx (pI (pI (pI s 13 1 1) 13 2 a1) 13 3 a2) (fun s1 =>
  f_X8_lay_13_b17 BIG 0 s1
  )
set_option maxRecDepth 100000 in
theorem w_X8_lay_13 {d : Nat} {s : Sg} {Q : Qt} (a1 : Int32) (a2 : Int32) (H : OQ (f_X8_lay_13 a1 a2 s) (fun _ s9 => Q none s9)) : WpM SHC MT (d + 1) 85 [.ref 13, .int a1, .int a2] s Q := by
  refine WpM.enter me_X8_lay rfl rfl ?_
  show Y_X8_lay_13 d Q 0 [(0, .ref 13), (1, .int a1), (2, .int a2)] [] s
  unfold f_X8_lay_13 at H
  refine Wp.f_al0_iconst (pc := 0) o_X8_lay rfl rfl rfl (Wp.r_pfz (pc := 2) o_X8_lay rfl fk_C_13_1 (show ((1 : Int32) = 0 ∨ 1 = 1) ∧ Y_X8_lay_13 d Q 5 [(0, .ref 13), (1, .int a1), (2, .int a2)] [] (pI s 13 1 1) from ⟨Or.inr rfl, ?_⟩))
  refine Wp.r_aload_n0 (pc := 5) o_X8_lay rfl rfl (Wp.r_iload_n1 (pc := 6) o_X8_lay rfl rfl (Wp.r_pfi (pc := 7) o_X8_lay rfl fk_C_13_2 (Wp.r_aload_n0 (pc := 10) o_X8_lay rfl rfl (Wp.r_iload_n2 (pc := 11) o_X8_lay rfl rfl (Wp.r_pfi (pc := 12) o_X8_lay rfl fk_C_13_3 (show Y_X8_lay_13 d Q 15 [(0, .ref 13), (1, .int a1), (2, .int a2)] [] (pI (pI (pI s 13 1 1) 13 2 a1) 13 3 a2) from ?_))))))
  revert H
  generalize pI (pI (pI s 13 1 1) 13 2 a1) 13 3 a2 = s1
  intro H
  have H := nmx_e H
  exact Wp.r_iconst (pc := 15) o_X8_lay rfl (Wp.r_istore_n3 (pc := 16) o_X8_lay rfl (Wp.weak2 [1, 0] (w_X8_lay_13_b17 _ _ _ H) rfl))
noncomputable abbrev Y_X11_tray (d : Nat) (Q : Qt) : Xt := Wp SHC (WpM SHC MT (d + 2)) (flat2 cq_X11_tray) (some .boolean) Q
noncomputable def f_X11_tray (a1 : Int32) (a2 : Int32) (a3 : Int32) (s : Sg) : Option (Int32 × Sg) :=
  bd (f_X11_isTray a1 s) (fun r1 s2 =>
  if r1 = 0 then
    bd (f_X11_refused 1 s2) (fun r3 s4 =>
    ck (r3 = 0 ∨ r3 = 1) (some (r3, s4))
    )
  else
    bd (f_X11_within a2 0 3 s2) (fun r5 s6 =>
    if r5 = 0 then
      bd (f_X11_refused 1 s6) (fun r7 s8 =>
      ck (r7 = 0 ∨ r7 = 1) (some (r7, s8))
      )
    else
      bd (f_X11_within a3 0 60 s6) (fun r9 s10 =>
      if r9 = 0 then
        bd (f_X11_refused 1 s10) (fun r11 s12 =>
        ck (r11 = 0 ∨ r11 = 1) (some (r11, s12))
        )
      else
        ck (inr a1 4) (
        sel4 a1
          (
            bd (f_X8_lay_10 a2 a3 s10) (fun _ s15 =>
            bd (f_X11_granted s15) (fun r16 s17 =>
            ck (r16 = 0 ∨ r16 = 1) (some (r16, s17))
            )
            )
          )
          (
            bd (f_X8_lay_11 a2 a3 s10) (fun _ s19 =>
            bd (f_X11_granted s19) (fun r20 s21 =>
            ck (r20 = 0 ∨ r20 = 1) (some (r20, s21))
            )
            )
          )
          (
            bd (f_X8_lay_12 a2 a3 s10) (fun _ s23 =>
            bd (f_X11_granted s23) (fun r24 s25 =>
            ck (r24 = 0 ∨ r24 = 1) (some (r24, s25))
            )
            )
          )
          (
            bd (f_X8_lay_13 a2 a3 s10) (fun _ s27 =>
            bd (f_X11_granted s27) (fun r28 s29 =>
            ck (r28 = 0 ∨ r28 = 1) (some (r28, s29))
            )
            )
          )
        )
      )
    )
  )
set_option maxRecDepth 100000 in
theorem w_X11_tray {d : Nat} {s : Sg} {Q : Qt} (a1 : Int32) (a2 : Int32) (a3 : Int32) (H : OQ (f_X11_tray a1 a2 a3 s) (fun r9 s9 => Q (some (.int r9)) s9)) : WpM SHC MT (d + 3) 105 [.ref 0, .int a1, .int a2, .int a3] s Q := by
  refine WpM.enter me_X11_tray rfl rfl ?_
  show Y_X11_tray d Q 0 [(0, .ref 0), (1, .int a1), (2, .int a2), (3, .int a3)] [] s
  unfold f_X11_tray at H
  refine Wp.r_iload_n1 (pc := 0) o_X11_tray rfl rfl (Wp.r_cs1 (pc := 1) o_X11_tray rfl (⟨rm8_ rfl, ?_⟩))
  refine w_X11_isTray (d := d) _ ?_
  refine oq_bd H (fun r1 s2 H => ?_)
  refine Wp.r_if_eq (pc := 4) o_X11_tray rfl (fun c9 => ?_) (fun c9 => ?_)
  · have H := oq_t c9 H
    refine Wp.f_al0_iconst (pc := 26) o_X11_tray rfl rfl rfl (Wp.r_cv2 (pc := 28) o_X11_tray rfl fk_C_0_0 (⟨rm8_ rfl, ?_⟩))
    refine w_X11_refused (d := d + 1) _ ?_
    refine oq_bd H (fun r3 s4 H => ?_)
    obtain ⟨c9, H⟩ := oq_ck H
    exact Wp.r_ireturn (pc := 31) o_X11_tray rfl (⟨b01_n c9, H⟩)
  · have H := oq_f c9 H
    refine Wp.r_iload_n2 (pc := 7) o_X11_tray rfl rfl (Wp.r_iconst (pc := 8) o_X11_tray rfl (Wp.r_iconst (pc := 9) o_X11_tray rfl (Wp.r_cs3 (pc := 10) o_X11_tray rfl (⟨rm8_ rfl, ?_⟩))))
    refine w_X11_within (d := d + 1) _ _ _ ?_
    refine oq_bd H (fun r5 s6 H => ?_)
    refine Wp.r_if_eq (pc := 13) o_X11_tray rfl (fun c9 => ?_) (fun c9 => ?_)
    · have H := oq_t c9 H
      refine Wp.f_al0_iconst (pc := 26) o_X11_tray rfl rfl rfl (Wp.r_cv2 (pc := 28) o_X11_tray rfl fk_C_0_0 (⟨rm8_ rfl, ?_⟩))
      refine w_X11_refused (d := d + 1) _ ?_
      refine oq_bd H (fun r7 s8 H => ?_)
      obtain ⟨c9, H⟩ := oq_ck H
      exact Wp.r_ireturn (pc := 31) o_X11_tray rfl (⟨b01_n c9, H⟩)
    · have H := oq_f c9 H
      refine Wp.r_iload_n3 (pc := 16) o_X11_tray rfl rfl (Wp.r_iconst (pc := 17) o_X11_tray rfl (Wp.r_bipush (pc := 18) o_X11_tray rfl (Wp.r_cs3 (pc := 20) o_X11_tray rfl (⟨rm8_ rfl, ?_⟩))))
      refine w_X11_within (d := d + 1) _ _ _ ?_
      refine oq_bd H (fun r9 s10 H => ?_)
      refine Wp.r_if_ne (pc := 23) o_X11_tray rfl (fun c9 => ?_) (fun c9 => ?_)
      · have H := oq_t c9 H
        refine Wp.f_al0_iconst (pc := 26) o_X11_tray rfl rfl rfl (Wp.r_cv2 (pc := 28) o_X11_tray rfl fk_C_0_0 (⟨rm8_ rfl, ?_⟩))
        refine w_X11_refused (d := d + 1) _ ?_
        refine oq_bd H (fun r11 s12 H => ?_)
        obtain ⟨c9, H⟩ := oq_ck H
        exact Wp.r_ireturn (pc := 31) o_X11_tray rfl (⟨b01_n c9, H⟩)
      · have H := oq_f c9 H
        obtain ⟨c9, H⟩ := oq_ck H
        refine Wp.f_al0_gfr (pc := 32) o_X11_tray rfl rfl rfl fk_C_0_1 (Wp.r_iload_n1 (pc := 36) o_X11_tray rfl rfl (Wp.run 1 (show vp_in a1 4 ∧ (a1 = nI 0 → Y_X11_tray d Q 38 [(0, .ref 0), (1, .int a1), (2, .int a2), (3, .int a3)] [.ref 10] s10) ∧ (a1 = nI 1 → Y_X11_tray d Q 38 [(0, .ref 0), (1, .int a1), (2, .int a2), (3, .int a3)] [.ref 11] s10) ∧ (a1 = nI 2 → Y_X11_tray d Q 38 [(0, .ref 0), (1, .int a1), (2, .int a2), (3, .int a3)] [.ref 12] s10) ∧ (a1 = nI 3 → Y_X11_tray d Q 38 [(0, .ref 0), (1, .int a1), (2, .int a2), (3, .int a3)] [.ref 13] s10) ∧ True from ⟨c9, fun e9 => ?_, fun e9 => ?_, fun e9 => ?_, fun e9 => ?_, trivial⟩)))
        · have ek13 := e9
          have H := oq_sel4_0 (i := a1) e9 H
          refine Wp.r_iload_n2 (pc := 38) o_X11_tray rfl rfl (Wp.r_iload_n3 (pc := 39) o_X11_tray rfl rfl (Wp.r_cv3 (pc := 40) o_X11_tray rfl fk_C_10_0 (⟨rm8_ rfl, ?_⟩)))
          refine w_X8_lay_10 (d := d + 1) _ _ ?_
          refine oq_bd H (fun _ s15 H => ?_)
          refine Wp.r_aload_n0 (pc := 43) o_X11_tray rfl rfl (Wp.r_cv1 (pc := 44) o_X11_tray rfl fk_C_0_0 (⟨rm8_ rfl, ?_⟩))
          refine w_X11_granted (d := d + 1)  ?_
          refine oq_bd H (fun r16 s17 H => ?_)
          obtain ⟨c9, H⟩ := oq_ck H
          exact Wp.r_ireturn (pc := 47) o_X11_tray rfl (⟨b01_n c9, H⟩)
        · have ek13 := e9
          have H := oq_sel4_1 (i := a1) e9 H
          refine Wp.r_iload_n2 (pc := 38) o_X11_tray rfl rfl (Wp.r_iload_n3 (pc := 39) o_X11_tray rfl rfl (Wp.r_cv3 (pc := 40) o_X11_tray rfl fk_C_11_0 (⟨rm8_ rfl, ?_⟩)))
          refine w_X8_lay_11 (d := d + 1) _ _ ?_
          refine oq_bd H (fun _ s19 H => ?_)
          refine Wp.r_aload_n0 (pc := 43) o_X11_tray rfl rfl (Wp.r_cv1 (pc := 44) o_X11_tray rfl fk_C_0_0 (⟨rm8_ rfl, ?_⟩))
          refine w_X11_granted (d := d + 1)  ?_
          refine oq_bd H (fun r20 s21 H => ?_)
          obtain ⟨c9, H⟩ := oq_ck H
          exact Wp.r_ireturn (pc := 47) o_X11_tray rfl (⟨b01_n c9, H⟩)
        · have ek13 := e9
          have H := oq_sel4_2 (i := a1) e9 H
          refine Wp.r_iload_n2 (pc := 38) o_X11_tray rfl rfl (Wp.r_iload_n3 (pc := 39) o_X11_tray rfl rfl (Wp.r_cv3 (pc := 40) o_X11_tray rfl fk_C_12_0 (⟨rm8_ rfl, ?_⟩)))
          refine w_X8_lay_12 (d := d + 1) _ _ ?_
          refine oq_bd H (fun _ s23 H => ?_)
          refine Wp.r_aload_n0 (pc := 43) o_X11_tray rfl rfl (Wp.r_cv1 (pc := 44) o_X11_tray rfl fk_C_0_0 (⟨rm8_ rfl, ?_⟩))
          refine w_X11_granted (d := d + 1)  ?_
          refine oq_bd H (fun r24 s25 H => ?_)
          obtain ⟨c9, H⟩ := oq_ck H
          exact Wp.r_ireturn (pc := 47) o_X11_tray rfl (⟨b01_n c9, H⟩)
        · have ek13 := e9
          have H := oq_sel4_3 (i := a1) e9 H
          refine Wp.r_iload_n2 (pc := 38) o_X11_tray rfl rfl (Wp.r_iload_n3 (pc := 39) o_X11_tray rfl rfl (Wp.r_cv3 (pc := 40) o_X11_tray rfl fk_C_13_0 (⟨rm8_ rfl, ?_⟩)))
          refine w_X8_lay_13 (d := d + 1) _ _ ?_
          refine oq_bd H (fun _ s27 H => ?_)
          refine Wp.r_aload_n0 (pc := 43) o_X11_tray rfl rfl (Wp.r_cv1 (pc := 44) o_X11_tray rfl fk_C_0_0 (⟨rm8_ rfl, ?_⟩))
          refine w_X11_granted (d := d + 1)  ?_
          refine oq_bd H (fun r28 s29 H => ?_)
          obtain ⟨c9, H⟩ := oq_ck H
          exact Wp.r_ireturn (pc := 47) o_X11_tray rfl (⟨b01_n c9, H⟩)
noncomputable abbrev Y_X11_whyNoPlace (d : Nat) (Q : Qt) : Xt := Wp SHC (WpM SHC MT (d + 2)) (flat2 cq_X11_whyNoPlace) (some .int) Q
noncomputable def f_X11_whyNoPlace (a1 : Int32) (a2 : Int32) (s : Sg) : Option (Int32 × Sg) :=
  bd (f_X11_isTray a1 s) (fun r1 s2 =>
  if r1 = 0 then
    some (1, s2)
  else
    ck (inr a1 4) (
    sel4 a1
      (
        if (s2.1 10 1) = 0 then
          some (2, s2)
        else
          bd (f_X11_within a2 0 ((s2.1 10 3) - 1) s2) (fun r4 s5 =>
          if r4 = 0 then
            some (3, s5)
          else
            some (0, s5)
          )
      )
      (
        if (s2.1 11 1) = 0 then
          some (2, s2)
        else
          bd (f_X11_within a2 0 ((s2.1 11 3) - 1) s2) (fun r6 s7 =>
          if r6 = 0 then
            some (3, s7)
          else
            some (0, s7)
          )
      )
      (
        if (s2.1 12 1) = 0 then
          some (2, s2)
        else
          bd (f_X11_within a2 0 ((s2.1 12 3) - 1) s2) (fun r8 s9 =>
          if r8 = 0 then
            some (3, s9)
          else
            some (0, s9)
          )
      )
      (
        if (s2.1 13 1) = 0 then
          some (2, s2)
        else
          bd (f_X11_within a2 0 ((s2.1 13 3) - 1) s2) (fun r10 s11 =>
          if r10 = 0 then
            some (3, s11)
          else
            some (0, s11)
          )
      )
    )
  )
set_option maxRecDepth 100000 in
theorem w_X11_whyNoPlace {d : Nat} {s : Sg} {Q : Qt} (a1 : Int32) (a2 : Int32) (H : OQ (f_X11_whyNoPlace a1 a2 s) (fun r9 s9 => Q (some (.int r9)) s9)) : WpM SHC MT (d + 3) 176 [.ref 0, .int a1, .int a2] s Q := by
  refine WpM.enter me_X11_whyNoPlace rfl rfl ?_
  show Y_X11_whyNoPlace d Q 0 [(0, .ref 0), (1, .int a1), (2, .int a2)] [] s
  unfold f_X11_whyNoPlace at H
  refine Wp.r_iload_n1 (pc := 0) o_X11_whyNoPlace rfl rfl (Wp.r_cs1 (pc := 1) o_X11_whyNoPlace rfl (⟨rm8_ rfl, ?_⟩))
  refine w_X11_isTray (d := d) _ ?_
  refine oq_bd H (fun r1 s2 H => ?_)
  refine Wp.r_if_ne (pc := 4) o_X11_whyNoPlace rfl (fun c9 => ?_) (fun c9 => ?_)
  · have H := oq_t c9 H
    exact Wp.r_iconst (pc := 7) o_X11_whyNoPlace rfl (Wp.r_ireturn (pc := 8) o_X11_whyNoPlace rfl (⟨rfl, H⟩))
  · have H := oq_f c9 H
    obtain ⟨c9, H⟩ := oq_ck H
    refine Wp.f_al0_gfr (pc := 9) o_X11_whyNoPlace rfl rfl rfl fk_C_0_1 (Wp.r_iload_n1 (pc := 13) o_X11_whyNoPlace rfl rfl (Wp.run 1 (show vp_in a1 4 ∧ (a1 = nI 0 → Y_X11_whyNoPlace d Q 15 [(0, .ref 0), (1, .int a1), (2, .int a2)] [.ref 10] s2) ∧ (a1 = nI 1 → Y_X11_whyNoPlace d Q 15 [(0, .ref 0), (1, .int a1), (2, .int a2)] [.ref 11] s2) ∧ (a1 = nI 2 → Y_X11_whyNoPlace d Q 15 [(0, .ref 0), (1, .int a1), (2, .int a2)] [.ref 12] s2) ∧ (a1 = nI 3 → Y_X11_whyNoPlace d Q 15 [(0, .ref 0), (1, .int a1), (2, .int a2)] [.ref 13] s2) ∧ True from ⟨c9, fun e9 => ?_, fun e9 => ?_, fun e9 => ?_, fun e9 => ?_, trivial⟩)))
    · have ek3 := e9
      have H := oq_sel4_0 (i := a1) e9 H
      refine Wp.r_gfi (pc := 15) o_X11_whyNoPlace rfl fk_C_10_1 (Wp.r_if_ne (pc := 18) o_X11_whyNoPlace rfl (fun c9 => ?_) (fun c9 => ?_))
      · have H := oq_t c9 H
        exact Wp.r_iconst (pc := 21) o_X11_whyNoPlace rfl (Wp.r_ireturn (pc := 22) o_X11_whyNoPlace rfl (⟨rfl, H⟩))
      · have H := oq_f c9 H
        refine Wp.r_iload_n2 (pc := 23) o_X11_whyNoPlace rfl rfl (Wp.r_iconst (pc := 24) o_X11_whyNoPlace rfl (Wp.f_al0_gfr (pc := 25) o_X11_whyNoPlace rfl rfl rfl fk_C_0_1 (Wp.r_iload_n1 (pc := 29) o_X11_whyNoPlace rfl rfl (Wp.run 1 (show vp_in a1 4 ∧ (a1 = nI 0 → Y_X11_whyNoPlace d Q 31 [(0, .ref 0), (1, .int a1), (2, .int a2)] [.ref 10, .int 0, .int a2] s2) ∧ (a1 = nI 1 → Y_X11_whyNoPlace d Q 31 [(0, .ref 0), (1, .int a1), (2, .int a2)] [.ref 11, .int 0, .int a2] s2) ∧ (a1 = nI 2 → Y_X11_whyNoPlace d Q 31 [(0, .ref 0), (1, .int a1), (2, .int a2)] [.ref 12, .int 0, .int a2] s2) ∧ (a1 = nI 3 → Y_X11_whyNoPlace d Q 31 [(0, .ref 0), (1, .int a1), (2, .int a2)] [.ref 13, .int 0, .int a2] s2) ∧ True from ⟨by rw [ek3]; unfold vp_in; decide, fun _ => ?_, fun z9 => absurd (ek3.symm.trans z9) (by decide), fun z9 => absurd (ek3.symm.trans z9) (by decide), fun z9 => absurd (ek3.symm.trans z9) (by decide), trivial⟩)))))
        refine Wp.r_gfi (pc := 31) o_X11_whyNoPlace rfl fk_C_10_3 (Wp.r_iconst (pc := 34) o_X11_whyNoPlace rfl (Wp.r_isub (pc := 35) o_X11_whyNoPlace rfl (Wp.r_cs3 (pc := 36) o_X11_whyNoPlace rfl (⟨rm8_ rfl, ?_⟩))))
        refine w_X11_within (d := d + 1) _ _ _ ?_
        refine oq_bd H (fun r4 s5 H => ?_)
        refine Wp.r_if_eq (pc := 39) o_X11_whyNoPlace rfl (fun c9 => ?_) (fun c9 => ?_)
        · have H := oq_t c9 H
          exact Wp.r_iconst (pc := 46) o_X11_whyNoPlace rfl (Wp.r_ireturn (pc := 47) o_X11_whyNoPlace rfl (⟨rfl, H⟩))
        · have H := oq_f c9 H
          exact Wp.r_iconst (pc := 42) o_X11_whyNoPlace rfl (Wp.r_goto (pc := 43) o_X11_whyNoPlace rfl (Wp.r_ireturn (pc := 47) o_X11_whyNoPlace rfl (⟨rfl, H⟩)))
    · have ek3 := e9
      have H := oq_sel4_1 (i := a1) e9 H
      refine Wp.r_gfi (pc := 15) o_X11_whyNoPlace rfl fk_C_11_1 (Wp.r_if_ne (pc := 18) o_X11_whyNoPlace rfl (fun c9 => ?_) (fun c9 => ?_))
      · have H := oq_t c9 H
        exact Wp.r_iconst (pc := 21) o_X11_whyNoPlace rfl (Wp.r_ireturn (pc := 22) o_X11_whyNoPlace rfl (⟨rfl, H⟩))
      · have H := oq_f c9 H
        refine Wp.r_iload_n2 (pc := 23) o_X11_whyNoPlace rfl rfl (Wp.r_iconst (pc := 24) o_X11_whyNoPlace rfl (Wp.f_al0_gfr (pc := 25) o_X11_whyNoPlace rfl rfl rfl fk_C_0_1 (Wp.r_iload_n1 (pc := 29) o_X11_whyNoPlace rfl rfl (Wp.run 1 (show vp_in a1 4 ∧ (a1 = nI 0 → Y_X11_whyNoPlace d Q 31 [(0, .ref 0), (1, .int a1), (2, .int a2)] [.ref 10, .int 0, .int a2] s2) ∧ (a1 = nI 1 → Y_X11_whyNoPlace d Q 31 [(0, .ref 0), (1, .int a1), (2, .int a2)] [.ref 11, .int 0, .int a2] s2) ∧ (a1 = nI 2 → Y_X11_whyNoPlace d Q 31 [(0, .ref 0), (1, .int a1), (2, .int a2)] [.ref 12, .int 0, .int a2] s2) ∧ (a1 = nI 3 → Y_X11_whyNoPlace d Q 31 [(0, .ref 0), (1, .int a1), (2, .int a2)] [.ref 13, .int 0, .int a2] s2) ∧ True from ⟨by rw [ek3]; unfold vp_in; decide, fun z9 => absurd (ek3.symm.trans z9) (by decide), fun _ => ?_, fun z9 => absurd (ek3.symm.trans z9) (by decide), fun z9 => absurd (ek3.symm.trans z9) (by decide), trivial⟩)))))
        refine Wp.r_gfi (pc := 31) o_X11_whyNoPlace rfl fk_C_11_3 (Wp.r_iconst (pc := 34) o_X11_whyNoPlace rfl (Wp.r_isub (pc := 35) o_X11_whyNoPlace rfl (Wp.r_cs3 (pc := 36) o_X11_whyNoPlace rfl (⟨rm8_ rfl, ?_⟩))))
        refine w_X11_within (d := d + 1) _ _ _ ?_
        refine oq_bd H (fun r6 s7 H => ?_)
        refine Wp.r_if_eq (pc := 39) o_X11_whyNoPlace rfl (fun c9 => ?_) (fun c9 => ?_)
        · have H := oq_t c9 H
          exact Wp.r_iconst (pc := 46) o_X11_whyNoPlace rfl (Wp.r_ireturn (pc := 47) o_X11_whyNoPlace rfl (⟨rfl, H⟩))
        · have H := oq_f c9 H
          exact Wp.r_iconst (pc := 42) o_X11_whyNoPlace rfl (Wp.r_goto (pc := 43) o_X11_whyNoPlace rfl (Wp.r_ireturn (pc := 47) o_X11_whyNoPlace rfl (⟨rfl, H⟩)))
    · have ek3 := e9
      have H := oq_sel4_2 (i := a1) e9 H
      refine Wp.r_gfi (pc := 15) o_X11_whyNoPlace rfl fk_C_12_1 (Wp.r_if_ne (pc := 18) o_X11_whyNoPlace rfl (fun c9 => ?_) (fun c9 => ?_))
      · have H := oq_t c9 H
        exact Wp.r_iconst (pc := 21) o_X11_whyNoPlace rfl (Wp.r_ireturn (pc := 22) o_X11_whyNoPlace rfl (⟨rfl, H⟩))
      · have H := oq_f c9 H
        refine Wp.r_iload_n2 (pc := 23) o_X11_whyNoPlace rfl rfl (Wp.r_iconst (pc := 24) o_X11_whyNoPlace rfl (Wp.f_al0_gfr (pc := 25) o_X11_whyNoPlace rfl rfl rfl fk_C_0_1 (Wp.r_iload_n1 (pc := 29) o_X11_whyNoPlace rfl rfl (Wp.run 1 (show vp_in a1 4 ∧ (a1 = nI 0 → Y_X11_whyNoPlace d Q 31 [(0, .ref 0), (1, .int a1), (2, .int a2)] [.ref 10, .int 0, .int a2] s2) ∧ (a1 = nI 1 → Y_X11_whyNoPlace d Q 31 [(0, .ref 0), (1, .int a1), (2, .int a2)] [.ref 11, .int 0, .int a2] s2) ∧ (a1 = nI 2 → Y_X11_whyNoPlace d Q 31 [(0, .ref 0), (1, .int a1), (2, .int a2)] [.ref 12, .int 0, .int a2] s2) ∧ (a1 = nI 3 → Y_X11_whyNoPlace d Q 31 [(0, .ref 0), (1, .int a1), (2, .int a2)] [.ref 13, .int 0, .int a2] s2) ∧ True from ⟨by rw [ek3]; unfold vp_in; decide, fun z9 => absurd (ek3.symm.trans z9) (by decide), fun z9 => absurd (ek3.symm.trans z9) (by decide), fun _ => ?_, fun z9 => absurd (ek3.symm.trans z9) (by decide), trivial⟩)))))
        refine Wp.r_gfi (pc := 31) o_X11_whyNoPlace rfl fk_C_12_3 (Wp.r_iconst (pc := 34) o_X11_whyNoPlace rfl (Wp.r_isub (pc := 35) o_X11_whyNoPlace rfl (Wp.r_cs3 (pc := 36) o_X11_whyNoPlace rfl (⟨rm8_ rfl, ?_⟩))))
        refine w_X11_within (d := d + 1) _ _ _ ?_
        refine oq_bd H (fun r8 s9 H => ?_)
        refine Wp.r_if_eq (pc := 39) o_X11_whyNoPlace rfl (fun c9 => ?_) (fun c9 => ?_)
        · have H := oq_t c9 H
          exact Wp.r_iconst (pc := 46) o_X11_whyNoPlace rfl (Wp.r_ireturn (pc := 47) o_X11_whyNoPlace rfl (⟨rfl, H⟩))
        · have H := oq_f c9 H
          exact Wp.r_iconst (pc := 42) o_X11_whyNoPlace rfl (Wp.r_goto (pc := 43) o_X11_whyNoPlace rfl (Wp.r_ireturn (pc := 47) o_X11_whyNoPlace rfl (⟨rfl, H⟩)))
    · have ek3 := e9
      have H := oq_sel4_3 (i := a1) e9 H
      refine Wp.r_gfi (pc := 15) o_X11_whyNoPlace rfl fk_C_13_1 (Wp.r_if_ne (pc := 18) o_X11_whyNoPlace rfl (fun c9 => ?_) (fun c9 => ?_))
      · have H := oq_t c9 H
        exact Wp.r_iconst (pc := 21) o_X11_whyNoPlace rfl (Wp.r_ireturn (pc := 22) o_X11_whyNoPlace rfl (⟨rfl, H⟩))
      · have H := oq_f c9 H
        refine Wp.r_iload_n2 (pc := 23) o_X11_whyNoPlace rfl rfl (Wp.r_iconst (pc := 24) o_X11_whyNoPlace rfl (Wp.f_al0_gfr (pc := 25) o_X11_whyNoPlace rfl rfl rfl fk_C_0_1 (Wp.r_iload_n1 (pc := 29) o_X11_whyNoPlace rfl rfl (Wp.run 1 (show vp_in a1 4 ∧ (a1 = nI 0 → Y_X11_whyNoPlace d Q 31 [(0, .ref 0), (1, .int a1), (2, .int a2)] [.ref 10, .int 0, .int a2] s2) ∧ (a1 = nI 1 → Y_X11_whyNoPlace d Q 31 [(0, .ref 0), (1, .int a1), (2, .int a2)] [.ref 11, .int 0, .int a2] s2) ∧ (a1 = nI 2 → Y_X11_whyNoPlace d Q 31 [(0, .ref 0), (1, .int a1), (2, .int a2)] [.ref 12, .int 0, .int a2] s2) ∧ (a1 = nI 3 → Y_X11_whyNoPlace d Q 31 [(0, .ref 0), (1, .int a1), (2, .int a2)] [.ref 13, .int 0, .int a2] s2) ∧ True from ⟨by rw [ek3]; unfold vp_in; decide, fun z9 => absurd (ek3.symm.trans z9) (by decide), fun z9 => absurd (ek3.symm.trans z9) (by decide), fun z9 => absurd (ek3.symm.trans z9) (by decide), fun _ => ?_, trivial⟩)))))
        refine Wp.r_gfi (pc := 31) o_X11_whyNoPlace rfl fk_C_13_3 (Wp.r_iconst (pc := 34) o_X11_whyNoPlace rfl (Wp.r_isub (pc := 35) o_X11_whyNoPlace rfl (Wp.r_cs3 (pc := 36) o_X11_whyNoPlace rfl (⟨rm8_ rfl, ?_⟩))))
        refine w_X11_within (d := d + 1) _ _ _ ?_
        refine oq_bd H (fun r10 s11 H => ?_)
        refine Wp.r_if_eq (pc := 39) o_X11_whyNoPlace rfl (fun c9 => ?_) (fun c9 => ?_)
        · have H := oq_t c9 H
          exact Wp.r_iconst (pc := 46) o_X11_whyNoPlace rfl (Wp.r_ireturn (pc := 47) o_X11_whyNoPlace rfl (⟨rfl, H⟩))
        · have H := oq_f c9 H
          exact Wp.r_iconst (pc := 42) o_X11_whyNoPlace rfl (Wp.r_goto (pc := 43) o_X11_whyNoPlace rfl (Wp.r_ireturn (pc := 47) o_X11_whyNoPlace rfl (⟨rfl, H⟩)))
noncomputable abbrev Y_X8_cut_10 (d : Nat) (Q : Qt) : Xt := Wp SHC (WpM SHC MT (d + 0)) (flat2 cq_X8_cut) (some .long) Q
noncomputable def f_X8_cut_10 (a1 : Int64) (s : Sg) : Option (Int64 × Sg) :=
  if (s.1 10 2) = 0 then
    some (a1.toInt32.toInt8.toInt32.toInt64, s)
  else
  if (s.1 10 2) = 1 then
    some (a1.toInt32.toInt16.toInt32.toInt64, s)
  else
  if (s.1 10 2) = 2 then
    some (a1.toInt32.toInt64, s)
  else
    some (a1, s)
set_option maxRecDepth 100000 in
theorem w_X8_cut_10 {d : Nat} {s : Sg} {Q : Qt} (a1 : Int64) (H : OQ (f_X8_cut_10 a1 s) (fun r9 s9 => Q (some (.long r9)) s9)) : WpM SHC MT (d + 1) 87 [.ref 10, .long a1] s Q := by
  refine WpM.enter me_X8_cut rfl rfl ?_
  show Y_X8_cut_10 d Q 0 [(0, .ref 10), (1, .long a1)] [] s
  unfold f_X8_cut_10 at H
  refine Wp.f_al0_gfi (pc := 0) o_X8_cut rfl rfl rfl fk_C_10_2 (show Y_X8_cut_10 d Q 4 [(0, .ref 10), (1, .long a1)] [.int (s.1 10 2)] s from ?_)
  refine Wp.tsw2 (l := [(0, 32), (1, 37), (2, 42)]) o_X8_cut rfl (by decide +kernel) ?_
  show sw [(0, 32), (1, 37), (2, 42)] 46 (s.1 10 2) (fun t9 => Y_X8_cut_10 d Q t9 [(0, .ref 10), (1, .long a1)] [] s)
  refine sw_c (fun e9 => ?_) (fun c9_0 => (sw_c (fun e9 => ?_) (fun c9_1 => (sw_c (fun e9 => ?_) (fun c9_2 => ?_)))))
  · have H := oq_t e9 H
    exact Wp.r_lload_n1 (pc := 32) o_X8_cut rfl rfl (Wp.r_l2i (pc := 33) o_X8_cut rfl (Wp.r_i2b (pc := 34) o_X8_cut rfl (Wp.r_i2l (pc := 35) o_X8_cut rfl (Wp.r_lreturn (pc := 36) o_X8_cut rfl (H)))))
  · have H := oq_f c9_0 H; have H := oq_t e9 H
    exact Wp.r_lload_n1 (pc := 37) o_X8_cut rfl rfl (Wp.r_l2i (pc := 38) o_X8_cut rfl (Wp.r_i2s (pc := 39) o_X8_cut rfl (Wp.r_i2l (pc := 40) o_X8_cut rfl (Wp.r_lreturn (pc := 41) o_X8_cut rfl (H)))))
  · have H := oq_f c9_0 H; have H := oq_f c9_1 H; have H := oq_t e9 H
    exact Wp.r_lload_n1 (pc := 42) o_X8_cut rfl rfl (Wp.r_l2i (pc := 43) o_X8_cut rfl (Wp.r_i2l (pc := 44) o_X8_cut rfl (Wp.r_lreturn (pc := 45) o_X8_cut rfl (H))))
  · have H := oq_f c9_0 H; have H := oq_f c9_1 H; have H := oq_f c9_2 H
    exact Wp.r_lload_n1 (pc := 46) o_X8_cut rfl rfl (Wp.r_lreturn (pc := 47) o_X8_cut rfl (H))
noncomputable abbrev Y_X8_put_10 (d : Nat) (Q : Qt) : Xt := Wp SHC (WpM SHC MT (d + 1)) (flat2 cq_X8_put) (none) Q
noncomputable def f_X8_put_10 (a1 : Int32) (a2 : Int64) (s : Sg) : Option (Unit × Sg) :=
  bd (f_X8_cut_10 a2 s) (fun r1 s2 =>
  ck (inr a1 60) (
  some ((), pL s2 14 a1.toNatClampNeg r1)
  )
  )
set_option maxRecDepth 100000 in
theorem w_X8_put_10 {d : Nat} {s : Sg} {Q : Qt} (a1 : Int32) (a2 : Int64) (H : OQ (f_X8_put_10 a1 a2 s) (fun _ s9 => Q none s9)) : WpM SHC MT (d + 2) 86 [.ref 10, .int a1, .long a2] s Q := by
  refine WpM.enter me_X8_put rfl rfl ?_
  show Y_X8_put_10 d Q 0 [(0, .ref 10), (1, .int a1), (2, .long a2)] [] s
  unfold f_X8_put_10 at H
  refine Wp.f_al0_gfr (pc := 0) o_X8_put rfl rfl rfl fk_C_10_0 (Wp.r_iload_n1 (pc := 4) o_X8_put rfl rfl (Wp.r_aload_n0 (pc := 5) o_X8_put rfl rfl (Wp.r_lload_n2 (pc := 6) o_X8_put rfl rfl (Wp.r_cv2 (pc := 7) o_X8_put rfl fk_C_10_0 (⟨rm8_ rfl, ?_⟩)))))
  refine w_X8_cut_10 (d := d) _ ?_
  refine oq_bd H (fun r1 s2 H => ?_)
  obtain ⟨hc3, H⟩ := oq_ck H
  refine Wp.r_lastore (pc := 10) o_X8_put rfl ak_C_14 (⟨hc3, ?_⟩)
  exact Wp.r_return (pc := 11) o_X8_put rfl (H)
noncomputable abbrev Y_X8_cut_11 (d : Nat) (Q : Qt) : Xt := Wp SHC (WpM SHC MT (d + 0)) (flat2 cq_X8_cut) (some .long) Q
noncomputable def f_X8_cut_11 (a1 : Int64) (s : Sg) : Option (Int64 × Sg) :=
  if (s.1 11 2) = 0 then
    some (a1.toInt32.toInt8.toInt32.toInt64, s)
  else
  if (s.1 11 2) = 1 then
    some (a1.toInt32.toInt16.toInt32.toInt64, s)
  else
  if (s.1 11 2) = 2 then
    some (a1.toInt32.toInt64, s)
  else
    some (a1, s)
set_option maxRecDepth 100000 in
theorem w_X8_cut_11 {d : Nat} {s : Sg} {Q : Qt} (a1 : Int64) (H : OQ (f_X8_cut_11 a1 s) (fun r9 s9 => Q (some (.long r9)) s9)) : WpM SHC MT (d + 1) 87 [.ref 11, .long a1] s Q := by
  refine WpM.enter me_X8_cut rfl rfl ?_
  show Y_X8_cut_11 d Q 0 [(0, .ref 11), (1, .long a1)] [] s
  unfold f_X8_cut_11 at H
  refine Wp.f_al0_gfi (pc := 0) o_X8_cut rfl rfl rfl fk_C_11_2 (show Y_X8_cut_11 d Q 4 [(0, .ref 11), (1, .long a1)] [.int (s.1 11 2)] s from ?_)
  refine Wp.tsw2 (l := [(0, 32), (1, 37), (2, 42)]) o_X8_cut rfl (by decide +kernel) ?_
  show sw [(0, 32), (1, 37), (2, 42)] 46 (s.1 11 2) (fun t9 => Y_X8_cut_11 d Q t9 [(0, .ref 11), (1, .long a1)] [] s)
  refine sw_c (fun e9 => ?_) (fun c9_0 => (sw_c (fun e9 => ?_) (fun c9_1 => (sw_c (fun e9 => ?_) (fun c9_2 => ?_)))))
  · have H := oq_t e9 H
    exact Wp.r_lload_n1 (pc := 32) o_X8_cut rfl rfl (Wp.r_l2i (pc := 33) o_X8_cut rfl (Wp.r_i2b (pc := 34) o_X8_cut rfl (Wp.r_i2l (pc := 35) o_X8_cut rfl (Wp.r_lreturn (pc := 36) o_X8_cut rfl (H)))))
  · have H := oq_f c9_0 H; have H := oq_t e9 H
    exact Wp.r_lload_n1 (pc := 37) o_X8_cut rfl rfl (Wp.r_l2i (pc := 38) o_X8_cut rfl (Wp.r_i2s (pc := 39) o_X8_cut rfl (Wp.r_i2l (pc := 40) o_X8_cut rfl (Wp.r_lreturn (pc := 41) o_X8_cut rfl (H)))))
  · have H := oq_f c9_0 H; have H := oq_f c9_1 H; have H := oq_t e9 H
    exact Wp.r_lload_n1 (pc := 42) o_X8_cut rfl rfl (Wp.r_l2i (pc := 43) o_X8_cut rfl (Wp.r_i2l (pc := 44) o_X8_cut rfl (Wp.r_lreturn (pc := 45) o_X8_cut rfl (H))))
  · have H := oq_f c9_0 H; have H := oq_f c9_1 H; have H := oq_f c9_2 H
    exact Wp.r_lload_n1 (pc := 46) o_X8_cut rfl rfl (Wp.r_lreturn (pc := 47) o_X8_cut rfl (H))
noncomputable abbrev Y_X8_put_11 (d : Nat) (Q : Qt) : Xt := Wp SHC (WpM SHC MT (d + 1)) (flat2 cq_X8_put) (none) Q
noncomputable def f_X8_put_11 (a1 : Int32) (a2 : Int64) (s : Sg) : Option (Unit × Sg) :=
  bd (f_X8_cut_11 a2 s) (fun r1 s2 =>
  ck (inr a1 60) (
  some ((), pL s2 15 a1.toNatClampNeg r1)
  )
  )
set_option maxRecDepth 100000 in
theorem w_X8_put_11 {d : Nat} {s : Sg} {Q : Qt} (a1 : Int32) (a2 : Int64) (H : OQ (f_X8_put_11 a1 a2 s) (fun _ s9 => Q none s9)) : WpM SHC MT (d + 2) 86 [.ref 11, .int a1, .long a2] s Q := by
  refine WpM.enter me_X8_put rfl rfl ?_
  show Y_X8_put_11 d Q 0 [(0, .ref 11), (1, .int a1), (2, .long a2)] [] s
  unfold f_X8_put_11 at H
  refine Wp.f_al0_gfr (pc := 0) o_X8_put rfl rfl rfl fk_C_11_0 (Wp.r_iload_n1 (pc := 4) o_X8_put rfl rfl (Wp.r_aload_n0 (pc := 5) o_X8_put rfl rfl (Wp.r_lload_n2 (pc := 6) o_X8_put rfl rfl (Wp.r_cv2 (pc := 7) o_X8_put rfl fk_C_11_0 (⟨rm8_ rfl, ?_⟩)))))
  refine w_X8_cut_11 (d := d) _ ?_
  refine oq_bd H (fun r1 s2 H => ?_)
  obtain ⟨hc3, H⟩ := oq_ck H
  refine Wp.r_lastore (pc := 10) o_X8_put rfl ak_C_15 (⟨hc3, ?_⟩)
  exact Wp.r_return (pc := 11) o_X8_put rfl (H)
noncomputable abbrev Y_X8_cut_12 (d : Nat) (Q : Qt) : Xt := Wp SHC (WpM SHC MT (d + 0)) (flat2 cq_X8_cut) (some .long) Q
noncomputable def f_X8_cut_12 (a1 : Int64) (s : Sg) : Option (Int64 × Sg) :=
  if (s.1 12 2) = 0 then
    some (a1.toInt32.toInt8.toInt32.toInt64, s)
  else
  if (s.1 12 2) = 1 then
    some (a1.toInt32.toInt16.toInt32.toInt64, s)
  else
  if (s.1 12 2) = 2 then
    some (a1.toInt32.toInt64, s)
  else
    some (a1, s)
set_option maxRecDepth 100000 in
theorem w_X8_cut_12 {d : Nat} {s : Sg} {Q : Qt} (a1 : Int64) (H : OQ (f_X8_cut_12 a1 s) (fun r9 s9 => Q (some (.long r9)) s9)) : WpM SHC MT (d + 1) 87 [.ref 12, .long a1] s Q := by
  refine WpM.enter me_X8_cut rfl rfl ?_
  show Y_X8_cut_12 d Q 0 [(0, .ref 12), (1, .long a1)] [] s
  unfold f_X8_cut_12 at H
  refine Wp.f_al0_gfi (pc := 0) o_X8_cut rfl rfl rfl fk_C_12_2 (show Y_X8_cut_12 d Q 4 [(0, .ref 12), (1, .long a1)] [.int (s.1 12 2)] s from ?_)
  refine Wp.tsw2 (l := [(0, 32), (1, 37), (2, 42)]) o_X8_cut rfl (by decide +kernel) ?_
  show sw [(0, 32), (1, 37), (2, 42)] 46 (s.1 12 2) (fun t9 => Y_X8_cut_12 d Q t9 [(0, .ref 12), (1, .long a1)] [] s)
  refine sw_c (fun e9 => ?_) (fun c9_0 => (sw_c (fun e9 => ?_) (fun c9_1 => (sw_c (fun e9 => ?_) (fun c9_2 => ?_)))))
  · have H := oq_t e9 H
    exact Wp.r_lload_n1 (pc := 32) o_X8_cut rfl rfl (Wp.r_l2i (pc := 33) o_X8_cut rfl (Wp.r_i2b (pc := 34) o_X8_cut rfl (Wp.r_i2l (pc := 35) o_X8_cut rfl (Wp.r_lreturn (pc := 36) o_X8_cut rfl (H)))))
  · have H := oq_f c9_0 H; have H := oq_t e9 H
    exact Wp.r_lload_n1 (pc := 37) o_X8_cut rfl rfl (Wp.r_l2i (pc := 38) o_X8_cut rfl (Wp.r_i2s (pc := 39) o_X8_cut rfl (Wp.r_i2l (pc := 40) o_X8_cut rfl (Wp.r_lreturn (pc := 41) o_X8_cut rfl (H)))))
  · have H := oq_f c9_0 H; have H := oq_f c9_1 H; have H := oq_t e9 H
    exact Wp.r_lload_n1 (pc := 42) o_X8_cut rfl rfl (Wp.r_l2i (pc := 43) o_X8_cut rfl (Wp.r_i2l (pc := 44) o_X8_cut rfl (Wp.r_lreturn (pc := 45) o_X8_cut rfl (H))))
  · have H := oq_f c9_0 H; have H := oq_f c9_1 H; have H := oq_f c9_2 H
    exact Wp.r_lload_n1 (pc := 46) o_X8_cut rfl rfl (Wp.r_lreturn (pc := 47) o_X8_cut rfl (H))
noncomputable abbrev Y_X8_put_12 (d : Nat) (Q : Qt) : Xt := Wp SHC (WpM SHC MT (d + 1)) (flat2 cq_X8_put) (none) Q
noncomputable def f_X8_put_12 (a1 : Int32) (a2 : Int64) (s : Sg) : Option (Unit × Sg) :=
  bd (f_X8_cut_12 a2 s) (fun r1 s2 =>
  ck (inr a1 60) (
  some ((), pL s2 16 a1.toNatClampNeg r1)
  )
  )
set_option maxRecDepth 100000 in
theorem w_X8_put_12 {d : Nat} {s : Sg} {Q : Qt} (a1 : Int32) (a2 : Int64) (H : OQ (f_X8_put_12 a1 a2 s) (fun _ s9 => Q none s9)) : WpM SHC MT (d + 2) 86 [.ref 12, .int a1, .long a2] s Q := by
  refine WpM.enter me_X8_put rfl rfl ?_
  show Y_X8_put_12 d Q 0 [(0, .ref 12), (1, .int a1), (2, .long a2)] [] s
  unfold f_X8_put_12 at H
  refine Wp.f_al0_gfr (pc := 0) o_X8_put rfl rfl rfl fk_C_12_0 (Wp.r_iload_n1 (pc := 4) o_X8_put rfl rfl (Wp.r_aload_n0 (pc := 5) o_X8_put rfl rfl (Wp.r_lload_n2 (pc := 6) o_X8_put rfl rfl (Wp.r_cv2 (pc := 7) o_X8_put rfl fk_C_12_0 (⟨rm8_ rfl, ?_⟩)))))
  refine w_X8_cut_12 (d := d) _ ?_
  refine oq_bd H (fun r1 s2 H => ?_)
  obtain ⟨hc3, H⟩ := oq_ck H
  refine Wp.r_lastore (pc := 10) o_X8_put rfl ak_C_16 (⟨hc3, ?_⟩)
  exact Wp.r_return (pc := 11) o_X8_put rfl (H)
noncomputable abbrev Y_X8_cut_13 (d : Nat) (Q : Qt) : Xt := Wp SHC (WpM SHC MT (d + 0)) (flat2 cq_X8_cut) (some .long) Q
noncomputable def f_X8_cut_13 (a1 : Int64) (s : Sg) : Option (Int64 × Sg) :=
  if (s.1 13 2) = 0 then
    some (a1.toInt32.toInt8.toInt32.toInt64, s)
  else
  if (s.1 13 2) = 1 then
    some (a1.toInt32.toInt16.toInt32.toInt64, s)
  else
  if (s.1 13 2) = 2 then
    some (a1.toInt32.toInt64, s)
  else
    some (a1, s)
set_option maxRecDepth 100000 in
theorem w_X8_cut_13 {d : Nat} {s : Sg} {Q : Qt} (a1 : Int64) (H : OQ (f_X8_cut_13 a1 s) (fun r9 s9 => Q (some (.long r9)) s9)) : WpM SHC MT (d + 1) 87 [.ref 13, .long a1] s Q := by
  refine WpM.enter me_X8_cut rfl rfl ?_
  show Y_X8_cut_13 d Q 0 [(0, .ref 13), (1, .long a1)] [] s
  unfold f_X8_cut_13 at H
  refine Wp.f_al0_gfi (pc := 0) o_X8_cut rfl rfl rfl fk_C_13_2 (show Y_X8_cut_13 d Q 4 [(0, .ref 13), (1, .long a1)] [.int (s.1 13 2)] s from ?_)
  refine Wp.tsw2 (l := [(0, 32), (1, 37), (2, 42)]) o_X8_cut rfl (by decide +kernel) ?_
  show sw [(0, 32), (1, 37), (2, 42)] 46 (s.1 13 2) (fun t9 => Y_X8_cut_13 d Q t9 [(0, .ref 13), (1, .long a1)] [] s)
  refine sw_c (fun e9 => ?_) (fun c9_0 => (sw_c (fun e9 => ?_) (fun c9_1 => (sw_c (fun e9 => ?_) (fun c9_2 => ?_)))))
  · have H := oq_t e9 H
    exact Wp.r_lload_n1 (pc := 32) o_X8_cut rfl rfl (Wp.r_l2i (pc := 33) o_X8_cut rfl (Wp.r_i2b (pc := 34) o_X8_cut rfl (Wp.r_i2l (pc := 35) o_X8_cut rfl (Wp.r_lreturn (pc := 36) o_X8_cut rfl (H)))))
  · have H := oq_f c9_0 H; have H := oq_t e9 H
    exact Wp.r_lload_n1 (pc := 37) o_X8_cut rfl rfl (Wp.r_l2i (pc := 38) o_X8_cut rfl (Wp.r_i2s (pc := 39) o_X8_cut rfl (Wp.r_i2l (pc := 40) o_X8_cut rfl (Wp.r_lreturn (pc := 41) o_X8_cut rfl (H)))))
  · have H := oq_f c9_0 H; have H := oq_f c9_1 H; have H := oq_t e9 H
    exact Wp.r_lload_n1 (pc := 42) o_X8_cut rfl rfl (Wp.r_l2i (pc := 43) o_X8_cut rfl (Wp.r_i2l (pc := 44) o_X8_cut rfl (Wp.r_lreturn (pc := 45) o_X8_cut rfl (H))))
  · have H := oq_f c9_0 H; have H := oq_f c9_1 H; have H := oq_f c9_2 H
    exact Wp.r_lload_n1 (pc := 46) o_X8_cut rfl rfl (Wp.r_lreturn (pc := 47) o_X8_cut rfl (H))
noncomputable abbrev Y_X8_put_13 (d : Nat) (Q : Qt) : Xt := Wp SHC (WpM SHC MT (d + 1)) (flat2 cq_X8_put) (none) Q
noncomputable def f_X8_put_13 (a1 : Int32) (a2 : Int64) (s : Sg) : Option (Unit × Sg) :=
  bd (f_X8_cut_13 a2 s) (fun r1 s2 =>
  ck (inr a1 60) (
  some ((), pL s2 17 a1.toNatClampNeg r1)
  )
  )
set_option maxRecDepth 100000 in
theorem w_X8_put_13 {d : Nat} {s : Sg} {Q : Qt} (a1 : Int32) (a2 : Int64) (H : OQ (f_X8_put_13 a1 a2 s) (fun _ s9 => Q none s9)) : WpM SHC MT (d + 2) 86 [.ref 13, .int a1, .long a2] s Q := by
  refine WpM.enter me_X8_put rfl rfl ?_
  show Y_X8_put_13 d Q 0 [(0, .ref 13), (1, .int a1), (2, .long a2)] [] s
  unfold f_X8_put_13 at H
  refine Wp.f_al0_gfr (pc := 0) o_X8_put rfl rfl rfl fk_C_13_0 (Wp.r_iload_n1 (pc := 4) o_X8_put rfl rfl (Wp.r_aload_n0 (pc := 5) o_X8_put rfl rfl (Wp.r_lload_n2 (pc := 6) o_X8_put rfl rfl (Wp.r_cv2 (pc := 7) o_X8_put rfl fk_C_13_0 (⟨rm8_ rfl, ?_⟩)))))
  refine w_X8_cut_13 (d := d) _ ?_
  refine oq_bd H (fun r1 s2 H => ?_)
  obtain ⟨hc3, H⟩ := oq_ck H
  refine Wp.r_lastore (pc := 10) o_X8_put rfl ak_C_17 (⟨hc3, ?_⟩)
  exact Wp.r_return (pc := 11) o_X8_put rfl (H)
noncomputable abbrev Y_X11_write (d : Nat) (Q : Qt) : Xt := Wp SHC (WpM SHC MT (d + 3)) (flat2 cq_X11_write) (some .boolean) Q
noncomputable def f_X11_write (a1 : Int32) (a2 : Int32) (a3 : Int64) (s : Sg) : Option (Int32 × Sg) :=
  bd (f_X11_whyNoPlace a1 a2 s) (fun r1 s2 =>
  if r1 = 0 then
    ck (inr a1 4) (
    sel4 a1
      (
        bd (f_X8_put_10 a2 a3 s2) (fun _ s5 =>
        bd (f_X11_granted s5) (fun r6 s7 =>
        ck (r6 = 0 ∨ r6 = 1) (some (r6, s7))
        )
        )
      )
      (
        bd (f_X8_put_11 a2 a3 s2) (fun _ s9 =>
        bd (f_X11_granted s9) (fun r10 s11 =>
        ck (r10 = 0 ∨ r10 = 1) (some (r10, s11))
        )
        )
      )
      (
        bd (f_X8_put_12 a2 a3 s2) (fun _ s13 =>
        bd (f_X11_granted s13) (fun r14 s15 =>
        ck (r14 = 0 ∨ r14 = 1) (some (r14, s15))
        )
        )
      )
      (
        bd (f_X8_put_13 a2 a3 s2) (fun _ s17 =>
        bd (f_X11_granted s17) (fun r18 s19 =>
        ck (r18 = 0 ∨ r18 = 1) (some (r18, s19))
        )
        )
      )
    )
  else
    bd (f_X11_refused r1 s2) (fun r20 s21 =>
    ck (r20 = 0 ∨ r20 = 1) (some (r20, s21))
    )
  )
set_option maxRecDepth 100000 in
theorem w_X11_write {d : Nat} {s : Sg} {Q : Qt} (a1 : Int32) (a2 : Int32) (a3 : Int64) (H : OQ (f_X11_write a1 a2 a3 s) (fun r9 s9 => Q (some (.int r9)) s9)) : WpM SHC MT (d + 4) 106 [.ref 0, .int a1, .int a2, .long a3] s Q := by
  refine WpM.enter me_X11_write rfl rfl ?_
  show Y_X11_write d Q 0 [(0, .ref 0), (1, .int a1), (2, .int a2), (3, .long a3)] [] s
  unfold f_X11_write at H
  refine Wp.r_aload_n0 (pc := 0) o_X11_write rfl rfl (Wp.r_iload_n1 (pc := 1) o_X11_write rfl rfl (Wp.r_iload_n2 (pc := 2) o_X11_write rfl rfl (Wp.r_cv3 (pc := 3) o_X11_write rfl fk_C_0_0 (⟨rm8_ rfl, ?_⟩))))
  refine w_X11_whyNoPlace (d := d) _ _ ?_
  refine oq_bd H (fun r1 s2 H => ?_)
  refine Wp.r_istore (pc := 6) o_X11_write rfl (Wp.r_iload (pc := 8) o_X11_write rfl rfl (Wp.r_if_eq (pc := 10) o_X11_write rfl (fun c9 => ?_) (fun c9 => ?_)))
  · have H := oq_t c9 H
    obtain ⟨c9, H⟩ := oq_ck H
    refine Wp.f_al0_gfr (pc := 20) o_X11_write rfl rfl rfl fk_C_0_1 (Wp.r_iload_n1 (pc := 24) o_X11_write rfl rfl (Wp.run 1 (show vp_in a1 4 ∧ (a1 = nI 0 → Y_X11_write d Q 26 [(5, .int r1), (0, .ref 0), (1, .int a1), (2, .int a2), (3, .long a3)] [.ref 10] s2) ∧ (a1 = nI 1 → Y_X11_write d Q 26 [(5, .int r1), (0, .ref 0), (1, .int a1), (2, .int a2), (3, .long a3)] [.ref 11] s2) ∧ (a1 = nI 2 → Y_X11_write d Q 26 [(5, .int r1), (0, .ref 0), (1, .int a1), (2, .int a2), (3, .long a3)] [.ref 12] s2) ∧ (a1 = nI 3 → Y_X11_write d Q 26 [(5, .int r1), (0, .ref 0), (1, .int a1), (2, .int a2), (3, .long a3)] [.ref 13] s2) ∧ True from ⟨c9, fun e9 => ?_, fun e9 => ?_, fun e9 => ?_, fun e9 => ?_, trivial⟩)))
    · have ek3 := e9
      have H := oq_sel4_0 (i := a1) e9 H
      refine Wp.r_iload_n2 (pc := 26) o_X11_write rfl rfl (Wp.r_lload_n3 (pc := 27) o_X11_write rfl rfl (Wp.r_cv3 (pc := 28) o_X11_write rfl fk_C_10_0 (⟨rm8_ rfl, ?_⟩)))
      refine w_X8_put_10 (d := d + 1) _ _ ?_
      refine oq_bd H (fun _ s5 H => ?_)
      refine Wp.r_aload_n0 (pc := 31) o_X11_write rfl rfl (Wp.r_cv1 (pc := 32) o_X11_write rfl fk_C_0_0 (⟨rm8_ rfl, ?_⟩))
      refine w_X11_granted (d := d + 2)  ?_
      refine oq_bd H (fun r6 s7 H => ?_)
      obtain ⟨c9, H⟩ := oq_ck H
      exact Wp.r_ireturn (pc := 35) o_X11_write rfl (⟨b01_n c9, H⟩)
    · have ek3 := e9
      have H := oq_sel4_1 (i := a1) e9 H
      refine Wp.r_iload_n2 (pc := 26) o_X11_write rfl rfl (Wp.r_lload_n3 (pc := 27) o_X11_write rfl rfl (Wp.r_cv3 (pc := 28) o_X11_write rfl fk_C_11_0 (⟨rm8_ rfl, ?_⟩)))
      refine w_X8_put_11 (d := d + 1) _ _ ?_
      refine oq_bd H (fun _ s9 H => ?_)
      refine Wp.r_aload_n0 (pc := 31) o_X11_write rfl rfl (Wp.r_cv1 (pc := 32) o_X11_write rfl fk_C_0_0 (⟨rm8_ rfl, ?_⟩))
      refine w_X11_granted (d := d + 2)  ?_
      refine oq_bd H (fun r10 s11 H => ?_)
      obtain ⟨c9, H⟩ := oq_ck H
      exact Wp.r_ireturn (pc := 35) o_X11_write rfl (⟨b01_n c9, H⟩)
    · have ek3 := e9
      have H := oq_sel4_2 (i := a1) e9 H
      refine Wp.r_iload_n2 (pc := 26) o_X11_write rfl rfl (Wp.r_lload_n3 (pc := 27) o_X11_write rfl rfl (Wp.r_cv3 (pc := 28) o_X11_write rfl fk_C_12_0 (⟨rm8_ rfl, ?_⟩)))
      refine w_X8_put_12 (d := d + 1) _ _ ?_
      refine oq_bd H (fun _ s13 H => ?_)
      refine Wp.r_aload_n0 (pc := 31) o_X11_write rfl rfl (Wp.r_cv1 (pc := 32) o_X11_write rfl fk_C_0_0 (⟨rm8_ rfl, ?_⟩))
      refine w_X11_granted (d := d + 2)  ?_
      refine oq_bd H (fun r14 s15 H => ?_)
      obtain ⟨c9, H⟩ := oq_ck H
      exact Wp.r_ireturn (pc := 35) o_X11_write rfl (⟨b01_n c9, H⟩)
    · have ek3 := e9
      have H := oq_sel4_3 (i := a1) e9 H
      refine Wp.r_iload_n2 (pc := 26) o_X11_write rfl rfl (Wp.r_lload_n3 (pc := 27) o_X11_write rfl rfl (Wp.r_cv3 (pc := 28) o_X11_write rfl fk_C_13_0 (⟨rm8_ rfl, ?_⟩)))
      refine w_X8_put_13 (d := d + 1) _ _ ?_
      refine oq_bd H (fun _ s17 H => ?_)
      refine Wp.r_aload_n0 (pc := 31) o_X11_write rfl rfl (Wp.r_cv1 (pc := 32) o_X11_write rfl fk_C_0_0 (⟨rm8_ rfl, ?_⟩))
      refine w_X11_granted (d := d + 2)  ?_
      refine oq_bd H (fun r18 s19 H => ?_)
      obtain ⟨c9, H⟩ := oq_ck H
      exact Wp.r_ireturn (pc := 35) o_X11_write rfl (⟨b01_n c9, H⟩)
  · have H := oq_f c9 H
    refine Wp.r_aload_n0 (pc := 13) o_X11_write rfl rfl (Wp.r_iload (pc := 14) o_X11_write rfl rfl (Wp.r_cv2 (pc := 16) o_X11_write rfl fk_C_0_0 (⟨rm8_ rfl, ?_⟩)))
    refine w_X11_refused (d := d + 2) _ ?_
    refine oq_bd H (fun r20 s21 H => ?_)
    obtain ⟨c9, H⟩ := oq_ck H
    exact Wp.r_ireturn (pc := 19) o_X11_write rfl (⟨b01_n c9, H⟩)
noncomputable abbrev Y_X11_refuse (d : Nat) (Q : Qt) : Xt := Wp SHC (WpM SHC MT (d + 0)) (flat2 cq_X11_refuse) (some .int) Q
noncomputable def f_X11_refuse (a1 : Int32) (s : Sg) : Option (Int32 × Sg) :=
  some ((-1), pI s 0 15 a1)
set_option maxRecDepth 100000 in
theorem w_X11_refuse {d : Nat} {s : Sg} {Q : Qt} (a1 : Int32) (H : OQ (f_X11_refuse a1 s) (fun r9 s9 => Q (some (.int r9)) s9)) : WpM SHC MT (d + 1) 166 [.ref 0, .int a1] s Q := by
  refine WpM.enter me_X11_refuse rfl rfl ?_
  show Y_X11_refuse d Q 0 [(0, .ref 0), (1, .int a1)] [] s
  unfold f_X11_refuse at H
  exact Wp.r_aload_n0 (pc := 0) o_X11_refuse rfl rfl (Wp.r_iload_n1 (pc := 1) o_X11_refuse rfl rfl (Wp.r_pfi (pc := 2) o_X11_refuse rfl fk_C_0_15 (Wp.r_iconst (pc := 5) o_X11_refuse rfl (Wp.r_ireturn (pc := 6) o_X11_refuse rfl (⟨rfl, H⟩)))))
noncomputable abbrev Y_X11_read (d : Nat) (Q : Qt) : Xt := Wp SHC (WpM SHC MT (d + 3)) (flat2 cq_X11_read) (some .long) Q
noncomputable def f_X11_read (a1 : Int32) (a2 : Int32) (s : Sg) : Option (Int64 × Sg) :=
  bd (f_X11_whyNoPlace a1 a2 s) (fun r1 s2 =>
  if r1 = 0 then
    ck (inr a1 4) (
    sel4 a1
      (
        ck (inr a2 60) (
        some ((pI s2 0 15 0).2 14 a2.toNatClampNeg, pI s2 0 15 0)
        )
      )
      (
        ck (inr a2 60) (
        some ((pI s2 0 15 0).2 15 a2.toNatClampNeg, pI s2 0 15 0)
        )
      )
      (
        ck (inr a2 60) (
        some ((pI s2 0 15 0).2 16 a2.toNatClampNeg, pI s2 0 15 0)
        )
      )
      (
        ck (inr a2 60) (
        some ((pI s2 0 15 0).2 17 a2.toNatClampNeg, pI s2 0 15 0)
        )
      )
    )
  else
    bd (f_X11_refuse r1 s2) (fun r8 s9 =>
    some (r8.toInt64, s9)
    )
  )
set_option maxRecDepth 100000 in
theorem w_X11_read {d : Nat} {s : Sg} {Q : Qt} (a1 : Int32) (a2 : Int32) (H : OQ (f_X11_read a1 a2 s) (fun r9 s9 => Q (some (.long r9)) s9)) : WpM SHC MT (d + 4) 107 [.ref 0, .int a1, .int a2] s Q := by
  refine WpM.enter me_X11_read rfl rfl ?_
  show Y_X11_read d Q 0 [(0, .ref 0), (1, .int a1), (2, .int a2)] [] s
  unfold f_X11_read at H
  refine Wp.r_aload_n0 (pc := 0) o_X11_read rfl rfl (Wp.r_iload_n1 (pc := 1) o_X11_read rfl rfl (Wp.r_iload_n2 (pc := 2) o_X11_read rfl rfl (Wp.r_cv3 (pc := 3) o_X11_read rfl fk_C_0_0 (⟨rm8_ rfl, ?_⟩))))
  refine w_X11_whyNoPlace (d := d) _ _ ?_
  refine oq_bd H (fun r1 s2 H => ?_)
  refine Wp.r_istore_n3 (pc := 6) o_X11_read rfl (Wp.r_iload_n3 (pc := 7) o_X11_read rfl rfl (Wp.r_if_eq (pc := 8) o_X11_read rfl (fun c9 => ?_) (fun c9 => ?_)))
  · have H := oq_t c9 H
    obtain ⟨c9, H⟩ := oq_ck H
    refine Wp.f_al0_iconst (pc := 18) o_X11_read rfl rfl rfl (Wp.r_pfi (pc := 20) o_X11_read rfl fk_C_0_15 (Wp.f_al0_gfr (pc := 23) o_X11_read rfl rfl rfl fk_C_0_1 (Wp.r_iload_n1 (pc := 27) o_X11_read rfl rfl (Wp.run 1 (show vp_in a1 4 ∧ (a1 = nI 0 → Y_X11_read d Q 29 [(3, .int r1), (0, .ref 0), (1, .int a1), (2, .int a2)] [.ref 10] (pI s2 0 15 0)) ∧ (a1 = nI 1 → Y_X11_read d Q 29 [(3, .int r1), (0, .ref 0), (1, .int a1), (2, .int a2)] [.ref 11] (pI s2 0 15 0)) ∧ (a1 = nI 2 → Y_X11_read d Q 29 [(3, .int r1), (0, .ref 0), (1, .int a1), (2, .int a2)] [.ref 12] (pI s2 0 15 0)) ∧ (a1 = nI 3 → Y_X11_read d Q 29 [(3, .int r1), (0, .ref 0), (1, .int a1), (2, .int a2)] [.ref 13] (pI s2 0 15 0)) ∧ True from ⟨c9, fun e9 => ?_, fun e9 => ?_, fun e9 => ?_, fun e9 => ?_, trivial⟩)))))
    · have ek3 := e9
      have H := oq_sel4_0 (i := a1) e9 H
      obtain ⟨hc4, H⟩ := oq_ck H
      refine Wp.r_gfr (pc := 29) o_X11_read rfl fk_C_10_0 (Wp.r_iload_n2 (pc := 32) o_X11_read rfl rfl (Wp.r_laload (pc := 33) o_X11_read rfl ak_C_14 (⟨hc4, ?_⟩)))
      exact Wp.r_lreturn (pc := 34) o_X11_read rfl (H)
    · have ek3 := e9
      have H := oq_sel4_1 (i := a1) e9 H
      obtain ⟨hc5, H⟩ := oq_ck H
      refine Wp.r_gfr (pc := 29) o_X11_read rfl fk_C_11_0 (Wp.r_iload_n2 (pc := 32) o_X11_read rfl rfl (Wp.r_laload (pc := 33) o_X11_read rfl ak_C_15 (⟨hc5, ?_⟩)))
      exact Wp.r_lreturn (pc := 34) o_X11_read rfl (H)
    · have ek3 := e9
      have H := oq_sel4_2 (i := a1) e9 H
      obtain ⟨hc6, H⟩ := oq_ck H
      refine Wp.r_gfr (pc := 29) o_X11_read rfl fk_C_12_0 (Wp.r_iload_n2 (pc := 32) o_X11_read rfl rfl (Wp.r_laload (pc := 33) o_X11_read rfl ak_C_16 (⟨hc6, ?_⟩)))
      exact Wp.r_lreturn (pc := 34) o_X11_read rfl (H)
    · have ek3 := e9
      have H := oq_sel4_3 (i := a1) e9 H
      obtain ⟨hc7, H⟩ := oq_ck H
      refine Wp.r_gfr (pc := 29) o_X11_read rfl fk_C_13_0 (Wp.r_iload_n2 (pc := 32) o_X11_read rfl rfl (Wp.r_laload (pc := 33) o_X11_read rfl ak_C_17 (⟨hc7, ?_⟩)))
      exact Wp.r_lreturn (pc := 34) o_X11_read rfl (H)
  · have H := oq_f c9 H
    refine Wp.r_aload_n0 (pc := 11) o_X11_read rfl rfl (Wp.r_iload_n3 (pc := 12) o_X11_read rfl rfl (Wp.r_cv2 (pc := 13) o_X11_read rfl fk_C_0_0 (⟨rm8_ rfl, ?_⟩)))
    refine w_X11_refuse (d := d + 2) _ ?_
    refine oq_bd H (fun r8 s9 H => ?_)
    exact Wp.r_i2l (pc := 16) o_X11_read rfl (Wp.r_lreturn (pc := 17) o_X11_read rfl (H))
noncomputable abbrev Y_X8_reachesTo_10 (d : Nat) (Q : Qt) : Xt := Wp SHC (WpM SHC MT (d + 0)) (flat2 cq_X8_reachesTo) (some .boolean) Q
noncomputable def f_X8_reachesTo_10 (a1 : Int32) (a2 : Int32) (s : Sg) : Option (Int32 × Sg) :=
  if 0 < (lg_cmp (a1.toInt64 + a2.toInt64) ((s.1 10 3).toInt64)) then
    some (0, s)
  else
    some (1, s)
set_option maxRecDepth 100000 in
theorem w_X8_reachesTo_10 {d : Nat} {s : Sg} {Q : Qt} (a1 : Int32) (a2 : Int32) (H : OQ (f_X8_reachesTo_10 a1 a2 s) (fun r9 s9 => Q (some (.int r9)) s9)) : WpM SHC MT (d + 1) 88 [.ref 10, .int a1, .int a2] s Q := by
  refine WpM.enter me_X8_reachesTo rfl rfl ?_
  show Y_X8_reachesTo_10 d Q 0 [(0, .ref 10), (1, .int a1), (2, .int a2)] [] s
  unfold f_X8_reachesTo_10 at H
  refine Wp.r_iload_n1 (pc := 0) o_X8_reachesTo rfl rfl (Wp.r_i2l (pc := 1) o_X8_reachesTo rfl (Wp.r_iload_n2 (pc := 2) o_X8_reachesTo rfl rfl (Wp.r_i2l (pc := 3) o_X8_reachesTo rfl (Wp.r_ladd (pc := 4) o_X8_reachesTo rfl (Wp.f_al0_gfi (pc := 5) o_X8_reachesTo rfl rfl rfl fk_C_10_3 (Wp.r_i2l (pc := 9) o_X8_reachesTo rfl (Wp.r_lcmp (pc := 10) o_X8_reachesTo rfl (Wp.r_if_gt (pc := 11) o_X8_reachesTo rfl (fun c9 => ?_) (fun c9 => ?_)))))))))
  · have H := oq_t c9 H
    exact Wp.r_iconst (pc := 18) o_X8_reachesTo rfl (Wp.r_ireturn (pc := 19) o_X8_reachesTo rfl (⟨rfl, H⟩))
  · have H := oq_f c9 H
    exact Wp.r_iconst (pc := 14) o_X8_reachesTo rfl (Wp.r_goto (pc := 15) o_X8_reachesTo rfl (Wp.r_ireturn (pc := 19) o_X8_reachesTo rfl (⟨rfl, H⟩)))
noncomputable abbrev Y_X8_reachesTo_11 (d : Nat) (Q : Qt) : Xt := Wp SHC (WpM SHC MT (d + 0)) (flat2 cq_X8_reachesTo) (some .boolean) Q
noncomputable def f_X8_reachesTo_11 (a1 : Int32) (a2 : Int32) (s : Sg) : Option (Int32 × Sg) :=
  if 0 < (lg_cmp (a1.toInt64 + a2.toInt64) ((s.1 11 3).toInt64)) then
    some (0, s)
  else
    some (1, s)
set_option maxRecDepth 100000 in
theorem w_X8_reachesTo_11 {d : Nat} {s : Sg} {Q : Qt} (a1 : Int32) (a2 : Int32) (H : OQ (f_X8_reachesTo_11 a1 a2 s) (fun r9 s9 => Q (some (.int r9)) s9)) : WpM SHC MT (d + 1) 88 [.ref 11, .int a1, .int a2] s Q := by
  refine WpM.enter me_X8_reachesTo rfl rfl ?_
  show Y_X8_reachesTo_11 d Q 0 [(0, .ref 11), (1, .int a1), (2, .int a2)] [] s
  unfold f_X8_reachesTo_11 at H
  refine Wp.r_iload_n1 (pc := 0) o_X8_reachesTo rfl rfl (Wp.r_i2l (pc := 1) o_X8_reachesTo rfl (Wp.r_iload_n2 (pc := 2) o_X8_reachesTo rfl rfl (Wp.r_i2l (pc := 3) o_X8_reachesTo rfl (Wp.r_ladd (pc := 4) o_X8_reachesTo rfl (Wp.f_al0_gfi (pc := 5) o_X8_reachesTo rfl rfl rfl fk_C_11_3 (Wp.r_i2l (pc := 9) o_X8_reachesTo rfl (Wp.r_lcmp (pc := 10) o_X8_reachesTo rfl (Wp.r_if_gt (pc := 11) o_X8_reachesTo rfl (fun c9 => ?_) (fun c9 => ?_)))))))))
  · have H := oq_t c9 H
    exact Wp.r_iconst (pc := 18) o_X8_reachesTo rfl (Wp.r_ireturn (pc := 19) o_X8_reachesTo rfl (⟨rfl, H⟩))
  · have H := oq_f c9 H
    exact Wp.r_iconst (pc := 14) o_X8_reachesTo rfl (Wp.r_goto (pc := 15) o_X8_reachesTo rfl (Wp.r_ireturn (pc := 19) o_X8_reachesTo rfl (⟨rfl, H⟩)))
noncomputable abbrev Y_X8_reachesTo_12 (d : Nat) (Q : Qt) : Xt := Wp SHC (WpM SHC MT (d + 0)) (flat2 cq_X8_reachesTo) (some .boolean) Q
noncomputable def f_X8_reachesTo_12 (a1 : Int32) (a2 : Int32) (s : Sg) : Option (Int32 × Sg) :=
  if 0 < (lg_cmp (a1.toInt64 + a2.toInt64) ((s.1 12 3).toInt64)) then
    some (0, s)
  else
    some (1, s)
set_option maxRecDepth 100000 in
theorem w_X8_reachesTo_12 {d : Nat} {s : Sg} {Q : Qt} (a1 : Int32) (a2 : Int32) (H : OQ (f_X8_reachesTo_12 a1 a2 s) (fun r9 s9 => Q (some (.int r9)) s9)) : WpM SHC MT (d + 1) 88 [.ref 12, .int a1, .int a2] s Q := by
  refine WpM.enter me_X8_reachesTo rfl rfl ?_
  show Y_X8_reachesTo_12 d Q 0 [(0, .ref 12), (1, .int a1), (2, .int a2)] [] s
  unfold f_X8_reachesTo_12 at H
  refine Wp.r_iload_n1 (pc := 0) o_X8_reachesTo rfl rfl (Wp.r_i2l (pc := 1) o_X8_reachesTo rfl (Wp.r_iload_n2 (pc := 2) o_X8_reachesTo rfl rfl (Wp.r_i2l (pc := 3) o_X8_reachesTo rfl (Wp.r_ladd (pc := 4) o_X8_reachesTo rfl (Wp.f_al0_gfi (pc := 5) o_X8_reachesTo rfl rfl rfl fk_C_12_3 (Wp.r_i2l (pc := 9) o_X8_reachesTo rfl (Wp.r_lcmp (pc := 10) o_X8_reachesTo rfl (Wp.r_if_gt (pc := 11) o_X8_reachesTo rfl (fun c9 => ?_) (fun c9 => ?_)))))))))
  · have H := oq_t c9 H
    exact Wp.r_iconst (pc := 18) o_X8_reachesTo rfl (Wp.r_ireturn (pc := 19) o_X8_reachesTo rfl (⟨rfl, H⟩))
  · have H := oq_f c9 H
    exact Wp.r_iconst (pc := 14) o_X8_reachesTo rfl (Wp.r_goto (pc := 15) o_X8_reachesTo rfl (Wp.r_ireturn (pc := 19) o_X8_reachesTo rfl (⟨rfl, H⟩)))
noncomputable abbrev Y_X8_reachesTo_13 (d : Nat) (Q : Qt) : Xt := Wp SHC (WpM SHC MT (d + 0)) (flat2 cq_X8_reachesTo) (some .boolean) Q
noncomputable def f_X8_reachesTo_13 (a1 : Int32) (a2 : Int32) (s : Sg) : Option (Int32 × Sg) :=
  if 0 < (lg_cmp (a1.toInt64 + a2.toInt64) ((s.1 13 3).toInt64)) then
    some (0, s)
  else
    some (1, s)
set_option maxRecDepth 100000 in
theorem w_X8_reachesTo_13 {d : Nat} {s : Sg} {Q : Qt} (a1 : Int32) (a2 : Int32) (H : OQ (f_X8_reachesTo_13 a1 a2 s) (fun r9 s9 => Q (some (.int r9)) s9)) : WpM SHC MT (d + 1) 88 [.ref 13, .int a1, .int a2] s Q := by
  refine WpM.enter me_X8_reachesTo rfl rfl ?_
  show Y_X8_reachesTo_13 d Q 0 [(0, .ref 13), (1, .int a1), (2, .int a2)] [] s
  unfold f_X8_reachesTo_13 at H
  refine Wp.r_iload_n1 (pc := 0) o_X8_reachesTo rfl rfl (Wp.r_i2l (pc := 1) o_X8_reachesTo rfl (Wp.r_iload_n2 (pc := 2) o_X8_reachesTo rfl rfl (Wp.r_i2l (pc := 3) o_X8_reachesTo rfl (Wp.r_ladd (pc := 4) o_X8_reachesTo rfl (Wp.f_al0_gfi (pc := 5) o_X8_reachesTo rfl rfl rfl fk_C_13_3 (Wp.r_i2l (pc := 9) o_X8_reachesTo rfl (Wp.r_lcmp (pc := 10) o_X8_reachesTo rfl (Wp.r_if_gt (pc := 11) o_X8_reachesTo rfl (fun c9 => ?_) (fun c9 => ?_)))))))))
  · have H := oq_t c9 H
    exact Wp.r_iconst (pc := 18) o_X8_reachesTo rfl (Wp.r_ireturn (pc := 19) o_X8_reachesTo rfl (⟨rfl, H⟩))
  · have H := oq_f c9 H
    exact Wp.r_iconst (pc := 14) o_X8_reachesTo rfl (Wp.r_goto (pc := 15) o_X8_reachesTo rfl (Wp.r_ireturn (pc := 19) o_X8_reachesTo rfl (⟨rfl, H⟩)))
noncomputable abbrev Y_X11_pour (d : Nat) (Q : Qt) : Xt := Wp SHC (WpM SHC MT (d + 2)) (flat2 cq_X11_pour) (some .boolean) Q
noncomputable def f_X11_pour (a1 : Int32) (a2 : Int32) (a3 : Int32) (a4 : Int32) (a5 : Int32) (s : Sg) : Option (Int32 × Sg) :=
  bd (f_X11_isTray a1 s) (fun r1 s2 =>
  if r1 = 0 then
    bd (f_X11_refused 1 s2) (fun r3 s4 =>
    ck (r3 = 0 ∨ r3 = 1) (some (r3, s4))
    )
  else
    bd (f_X11_isTray a3 s2) (fun r5 s6 =>
    if r5 = 0 then
      bd (f_X11_refused 1 s6) (fun r7 s8 =>
      ck (r7 = 0 ∨ r7 = 1) (some (r7, s8))
      )
    else
      if a2 < 0 then
        bd (f_X11_refused 1 s6) (fun r9 s10 =>
        ck (r9 = 0 ∨ r9 = 1) (some (r9, s10))
        )
      else
        if a4 < 0 then
          bd (f_X11_refused 1 s6) (fun r11 s12 =>
          ck (r11 = 0 ∨ r11 = 1) (some (r11, s12))
          )
        else
          if 0 ≤ a5 then
            ck (inr a1 4) (
            sel4 a1
              (
                ck (inr a3 4) (
                sel4 a3
                  (
                    if (s6.1 10 1) = 0 then
                      bd (f_X11_refused 2 s6) (fun r15 s16 =>
                      ck (r15 = 0 ∨ r15 = 1) (some (r15, s16))
                      )
                    else
                      if (s6.1 10 1) = 0 then
                        bd (f_X11_refused 2 s6) (fun r17 s18 =>
                        ck (r17 = 0 ∨ r17 = 1) (some (r17, s18))
                        )
                      else
                        if (s6.1 10 2) = (s6.1 10 2) then
                          bd (f_X8_reachesTo_10 a2 a5 s6) (fun r19 s20 =>
                          if r19 = 0 then
                            bd (f_X11_refused 3 s20) (fun r21 s22 =>
                            ck (r21 = 0 ∨ r21 = 1) (some (r21, s22))
                            )
                          else
                            bd (f_X8_reachesTo_10 a4 a5 s20) (fun r23 s24 =>
                            if r23 = 0 then
                              bd (f_X11_refused 3 s24) (fun r25 s26 =>
                              ck (r25 = 0 ∨ r25 = 1) (some (r25, s26))
                              )
                            else
                              ck (¬ a2 < 0 ∧ ¬ a4 < 0 ∧ ¬ a5 < 0 ∧ a2.toNatClampNeg + a5.toNatClampNeg ≤ 60 ∧ a4.toNatClampNeg + a5.toNatClampNeg ≤ 60) (
                              bd (f_X11_granted (pB s24 14 (va_cpy (s24.2 14) (s24.2 14) a2.toNatClampNeg a4.toNatClampNeg a5.toNatClampNeg))) (fun r27 s28 =>
                              ck (r27 = 0 ∨ r27 = 1) (some (r27, s28))
                              )
                              )
                            )
                          )
                        else
                          bd (f_X11_refused 8 s6) (fun r29 s30 =>
                          ck (r29 = 0 ∨ r29 = 1) (some (r29, s30))
                          )
                  )
                  (
                    if (s6.1 10 1) = 0 then
                      bd (f_X11_refused 2 s6) (fun r31 s32 =>
                      ck (r31 = 0 ∨ r31 = 1) (some (r31, s32))
                      )
                    else
                      if (s6.1 11 1) = 0 then
                        bd (f_X11_refused 2 s6) (fun r33 s34 =>
                        ck (r33 = 0 ∨ r33 = 1) (some (r33, s34))
                        )
                      else
                        if (s6.1 10 2) = (s6.1 11 2) then
                          bd (f_X8_reachesTo_10 a2 a5 s6) (fun r35 s36 =>
                          if r35 = 0 then
                            bd (f_X11_refused 3 s36) (fun r37 s38 =>
                            ck (r37 = 0 ∨ r37 = 1) (some (r37, s38))
                            )
                          else
                            bd (f_X8_reachesTo_11 a4 a5 s36) (fun r39 s40 =>
                            if r39 = 0 then
                              bd (f_X11_refused 3 s40) (fun r41 s42 =>
                              ck (r41 = 0 ∨ r41 = 1) (some (r41, s42))
                              )
                            else
                              ck (¬ a2 < 0 ∧ ¬ a4 < 0 ∧ ¬ a5 < 0 ∧ a2.toNatClampNeg + a5.toNatClampNeg ≤ 60 ∧ a4.toNatClampNeg + a5.toNatClampNeg ≤ 60) (
                              bd (f_X11_granted (pB s40 15 (va_cpy (s40.2 14) (s40.2 15) a2.toNatClampNeg a4.toNatClampNeg a5.toNatClampNeg))) (fun r43 s44 =>
                              ck (r43 = 0 ∨ r43 = 1) (some (r43, s44))
                              )
                              )
                            )
                          )
                        else
                          bd (f_X11_refused 8 s6) (fun r45 s46 =>
                          ck (r45 = 0 ∨ r45 = 1) (some (r45, s46))
                          )
                  )
                  (
                    if (s6.1 10 1) = 0 then
                      bd (f_X11_refused 2 s6) (fun r47 s48 =>
                      ck (r47 = 0 ∨ r47 = 1) (some (r47, s48))
                      )
                    else
                      if (s6.1 12 1) = 0 then
                        bd (f_X11_refused 2 s6) (fun r49 s50 =>
                        ck (r49 = 0 ∨ r49 = 1) (some (r49, s50))
                        )
                      else
                        if (s6.1 10 2) = (s6.1 12 2) then
                          bd (f_X8_reachesTo_10 a2 a5 s6) (fun r51 s52 =>
                          if r51 = 0 then
                            bd (f_X11_refused 3 s52) (fun r53 s54 =>
                            ck (r53 = 0 ∨ r53 = 1) (some (r53, s54))
                            )
                          else
                            bd (f_X8_reachesTo_12 a4 a5 s52) (fun r55 s56 =>
                            if r55 = 0 then
                              bd (f_X11_refused 3 s56) (fun r57 s58 =>
                              ck (r57 = 0 ∨ r57 = 1) (some (r57, s58))
                              )
                            else
                              ck (¬ a2 < 0 ∧ ¬ a4 < 0 ∧ ¬ a5 < 0 ∧ a2.toNatClampNeg + a5.toNatClampNeg ≤ 60 ∧ a4.toNatClampNeg + a5.toNatClampNeg ≤ 60) (
                              bd (f_X11_granted (pB s56 16 (va_cpy (s56.2 14) (s56.2 16) a2.toNatClampNeg a4.toNatClampNeg a5.toNatClampNeg))) (fun r59 s60 =>
                              ck (r59 = 0 ∨ r59 = 1) (some (r59, s60))
                              )
                              )
                            )
                          )
                        else
                          bd (f_X11_refused 8 s6) (fun r61 s62 =>
                          ck (r61 = 0 ∨ r61 = 1) (some (r61, s62))
                          )
                  )
                  (
                    if (s6.1 10 1) = 0 then
                      bd (f_X11_refused 2 s6) (fun r63 s64 =>
                      ck (r63 = 0 ∨ r63 = 1) (some (r63, s64))
                      )
                    else
                      if (s6.1 13 1) = 0 then
                        bd (f_X11_refused 2 s6) (fun r65 s66 =>
                        ck (r65 = 0 ∨ r65 = 1) (some (r65, s66))
                        )
                      else
                        if (s6.1 10 2) = (s6.1 13 2) then
                          bd (f_X8_reachesTo_10 a2 a5 s6) (fun r67 s68 =>
                          if r67 = 0 then
                            bd (f_X11_refused 3 s68) (fun r69 s70 =>
                            ck (r69 = 0 ∨ r69 = 1) (some (r69, s70))
                            )
                          else
                            bd (f_X8_reachesTo_13 a4 a5 s68) (fun r71 s72 =>
                            if r71 = 0 then
                              bd (f_X11_refused 3 s72) (fun r73 s74 =>
                              ck (r73 = 0 ∨ r73 = 1) (some (r73, s74))
                              )
                            else
                              ck (¬ a2 < 0 ∧ ¬ a4 < 0 ∧ ¬ a5 < 0 ∧ a2.toNatClampNeg + a5.toNatClampNeg ≤ 60 ∧ a4.toNatClampNeg + a5.toNatClampNeg ≤ 60) (
                              bd (f_X11_granted (pB s72 17 (va_cpy (s72.2 14) (s72.2 17) a2.toNatClampNeg a4.toNatClampNeg a5.toNatClampNeg))) (fun r75 s76 =>
                              ck (r75 = 0 ∨ r75 = 1) (some (r75, s76))
                              )
                              )
                            )
                          )
                        else
                          bd (f_X11_refused 8 s6) (fun r77 s78 =>
                          ck (r77 = 0 ∨ r77 = 1) (some (r77, s78))
                          )
                  )
                )
              )
              (
                ck (inr a3 4) (
                sel4 a3
                  (
                    if (s6.1 11 1) = 0 then
                      bd (f_X11_refused 2 s6) (fun r80 s81 =>
                      ck (r80 = 0 ∨ r80 = 1) (some (r80, s81))
                      )
                    else
                      if (s6.1 10 1) = 0 then
                        bd (f_X11_refused 2 s6) (fun r82 s83 =>
                        ck (r82 = 0 ∨ r82 = 1) (some (r82, s83))
                        )
                      else
                        if (s6.1 11 2) = (s6.1 10 2) then
                          bd (f_X8_reachesTo_11 a2 a5 s6) (fun r84 s85 =>
                          if r84 = 0 then
                            bd (f_X11_refused 3 s85) (fun r86 s87 =>
                            ck (r86 = 0 ∨ r86 = 1) (some (r86, s87))
                            )
                          else
                            bd (f_X8_reachesTo_10 a4 a5 s85) (fun r88 s89 =>
                            if r88 = 0 then
                              bd (f_X11_refused 3 s89) (fun r90 s91 =>
                              ck (r90 = 0 ∨ r90 = 1) (some (r90, s91))
                              )
                            else
                              ck (¬ a2 < 0 ∧ ¬ a4 < 0 ∧ ¬ a5 < 0 ∧ a2.toNatClampNeg + a5.toNatClampNeg ≤ 60 ∧ a4.toNatClampNeg + a5.toNatClampNeg ≤ 60) (
                              bd (f_X11_granted (pB s89 14 (va_cpy (s89.2 15) (s89.2 14) a2.toNatClampNeg a4.toNatClampNeg a5.toNatClampNeg))) (fun r92 s93 =>
                              ck (r92 = 0 ∨ r92 = 1) (some (r92, s93))
                              )
                              )
                            )
                          )
                        else
                          bd (f_X11_refused 8 s6) (fun r94 s95 =>
                          ck (r94 = 0 ∨ r94 = 1) (some (r94, s95))
                          )
                  )
                  (
                    if (s6.1 11 1) = 0 then
                      bd (f_X11_refused 2 s6) (fun r96 s97 =>
                      ck (r96 = 0 ∨ r96 = 1) (some (r96, s97))
                      )
                    else
                      if (s6.1 11 1) = 0 then
                        bd (f_X11_refused 2 s6) (fun r98 s99 =>
                        ck (r98 = 0 ∨ r98 = 1) (some (r98, s99))
                        )
                      else
                        if (s6.1 11 2) = (s6.1 11 2) then
                          bd (f_X8_reachesTo_11 a2 a5 s6) (fun r100 s101 =>
                          if r100 = 0 then
                            bd (f_X11_refused 3 s101) (fun r102 s103 =>
                            ck (r102 = 0 ∨ r102 = 1) (some (r102, s103))
                            )
                          else
                            bd (f_X8_reachesTo_11 a4 a5 s101) (fun r104 s105 =>
                            if r104 = 0 then
                              bd (f_X11_refused 3 s105) (fun r106 s107 =>
                              ck (r106 = 0 ∨ r106 = 1) (some (r106, s107))
                              )
                            else
                              ck (¬ a2 < 0 ∧ ¬ a4 < 0 ∧ ¬ a5 < 0 ∧ a2.toNatClampNeg + a5.toNatClampNeg ≤ 60 ∧ a4.toNatClampNeg + a5.toNatClampNeg ≤ 60) (
                              bd (f_X11_granted (pB s105 15 (va_cpy (s105.2 15) (s105.2 15) a2.toNatClampNeg a4.toNatClampNeg a5.toNatClampNeg))) (fun r108 s109 =>
                              ck (r108 = 0 ∨ r108 = 1) (some (r108, s109))
                              )
                              )
                            )
                          )
                        else
                          bd (f_X11_refused 8 s6) (fun r110 s111 =>
                          ck (r110 = 0 ∨ r110 = 1) (some (r110, s111))
                          )
                  )
                  (
                    if (s6.1 11 1) = 0 then
                      bd (f_X11_refused 2 s6) (fun r112 s113 =>
                      ck (r112 = 0 ∨ r112 = 1) (some (r112, s113))
                      )
                    else
                      if (s6.1 12 1) = 0 then
                        bd (f_X11_refused 2 s6) (fun r114 s115 =>
                        ck (r114 = 0 ∨ r114 = 1) (some (r114, s115))
                        )
                      else
                        if (s6.1 11 2) = (s6.1 12 2) then
                          bd (f_X8_reachesTo_11 a2 a5 s6) (fun r116 s117 =>
                          if r116 = 0 then
                            bd (f_X11_refused 3 s117) (fun r118 s119 =>
                            ck (r118 = 0 ∨ r118 = 1) (some (r118, s119))
                            )
                          else
                            bd (f_X8_reachesTo_12 a4 a5 s117) (fun r120 s121 =>
                            if r120 = 0 then
                              bd (f_X11_refused 3 s121) (fun r122 s123 =>
                              ck (r122 = 0 ∨ r122 = 1) (some (r122, s123))
                              )
                            else
                              ck (¬ a2 < 0 ∧ ¬ a4 < 0 ∧ ¬ a5 < 0 ∧ a2.toNatClampNeg + a5.toNatClampNeg ≤ 60 ∧ a4.toNatClampNeg + a5.toNatClampNeg ≤ 60) (
                              bd (f_X11_granted (pB s121 16 (va_cpy (s121.2 15) (s121.2 16) a2.toNatClampNeg a4.toNatClampNeg a5.toNatClampNeg))) (fun r124 s125 =>
                              ck (r124 = 0 ∨ r124 = 1) (some (r124, s125))
                              )
                              )
                            )
                          )
                        else
                          bd (f_X11_refused 8 s6) (fun r126 s127 =>
                          ck (r126 = 0 ∨ r126 = 1) (some (r126, s127))
                          )
                  )
                  (
                    if (s6.1 11 1) = 0 then
                      bd (f_X11_refused 2 s6) (fun r128 s129 =>
                      ck (r128 = 0 ∨ r128 = 1) (some (r128, s129))
                      )
                    else
                      if (s6.1 13 1) = 0 then
                        bd (f_X11_refused 2 s6) (fun r130 s131 =>
                        ck (r130 = 0 ∨ r130 = 1) (some (r130, s131))
                        )
                      else
                        if (s6.1 11 2) = (s6.1 13 2) then
                          bd (f_X8_reachesTo_11 a2 a5 s6) (fun r132 s133 =>
                          if r132 = 0 then
                            bd (f_X11_refused 3 s133) (fun r134 s135 =>
                            ck (r134 = 0 ∨ r134 = 1) (some (r134, s135))
                            )
                          else
                            bd (f_X8_reachesTo_13 a4 a5 s133) (fun r136 s137 =>
                            if r136 = 0 then
                              bd (f_X11_refused 3 s137) (fun r138 s139 =>
                              ck (r138 = 0 ∨ r138 = 1) (some (r138, s139))
                              )
                            else
                              ck (¬ a2 < 0 ∧ ¬ a4 < 0 ∧ ¬ a5 < 0 ∧ a2.toNatClampNeg + a5.toNatClampNeg ≤ 60 ∧ a4.toNatClampNeg + a5.toNatClampNeg ≤ 60) (
                              bd (f_X11_granted (pB s137 17 (va_cpy (s137.2 15) (s137.2 17) a2.toNatClampNeg a4.toNatClampNeg a5.toNatClampNeg))) (fun r140 s141 =>
                              ck (r140 = 0 ∨ r140 = 1) (some (r140, s141))
                              )
                              )
                            )
                          )
                        else
                          bd (f_X11_refused 8 s6) (fun r142 s143 =>
                          ck (r142 = 0 ∨ r142 = 1) (some (r142, s143))
                          )
                  )
                )
              )
              (
                ck (inr a3 4) (
                sel4 a3
                  (
                    if (s6.1 12 1) = 0 then
                      bd (f_X11_refused 2 s6) (fun r145 s146 =>
                      ck (r145 = 0 ∨ r145 = 1) (some (r145, s146))
                      )
                    else
                      if (s6.1 10 1) = 0 then
                        bd (f_X11_refused 2 s6) (fun r147 s148 =>
                        ck (r147 = 0 ∨ r147 = 1) (some (r147, s148))
                        )
                      else
                        if (s6.1 12 2) = (s6.1 10 2) then
                          bd (f_X8_reachesTo_12 a2 a5 s6) (fun r149 s150 =>
                          if r149 = 0 then
                            bd (f_X11_refused 3 s150) (fun r151 s152 =>
                            ck (r151 = 0 ∨ r151 = 1) (some (r151, s152))
                            )
                          else
                            bd (f_X8_reachesTo_10 a4 a5 s150) (fun r153 s154 =>
                            if r153 = 0 then
                              bd (f_X11_refused 3 s154) (fun r155 s156 =>
                              ck (r155 = 0 ∨ r155 = 1) (some (r155, s156))
                              )
                            else
                              ck (¬ a2 < 0 ∧ ¬ a4 < 0 ∧ ¬ a5 < 0 ∧ a2.toNatClampNeg + a5.toNatClampNeg ≤ 60 ∧ a4.toNatClampNeg + a5.toNatClampNeg ≤ 60) (
                              bd (f_X11_granted (pB s154 14 (va_cpy (s154.2 16) (s154.2 14) a2.toNatClampNeg a4.toNatClampNeg a5.toNatClampNeg))) (fun r157 s158 =>
                              ck (r157 = 0 ∨ r157 = 1) (some (r157, s158))
                              )
                              )
                            )
                          )
                        else
                          bd (f_X11_refused 8 s6) (fun r159 s160 =>
                          ck (r159 = 0 ∨ r159 = 1) (some (r159, s160))
                          )
                  )
                  (
                    if (s6.1 12 1) = 0 then
                      bd (f_X11_refused 2 s6) (fun r161 s162 =>
                      ck (r161 = 0 ∨ r161 = 1) (some (r161, s162))
                      )
                    else
                      if (s6.1 11 1) = 0 then
                        bd (f_X11_refused 2 s6) (fun r163 s164 =>
                        ck (r163 = 0 ∨ r163 = 1) (some (r163, s164))
                        )
                      else
                        if (s6.1 12 2) = (s6.1 11 2) then
                          bd (f_X8_reachesTo_12 a2 a5 s6) (fun r165 s166 =>
                          if r165 = 0 then
                            bd (f_X11_refused 3 s166) (fun r167 s168 =>
                            ck (r167 = 0 ∨ r167 = 1) (some (r167, s168))
                            )
                          else
                            bd (f_X8_reachesTo_11 a4 a5 s166) (fun r169 s170 =>
                            if r169 = 0 then
                              bd (f_X11_refused 3 s170) (fun r171 s172 =>
                              ck (r171 = 0 ∨ r171 = 1) (some (r171, s172))
                              )
                            else
                              ck (¬ a2 < 0 ∧ ¬ a4 < 0 ∧ ¬ a5 < 0 ∧ a2.toNatClampNeg + a5.toNatClampNeg ≤ 60 ∧ a4.toNatClampNeg + a5.toNatClampNeg ≤ 60) (
                              bd (f_X11_granted (pB s170 15 (va_cpy (s170.2 16) (s170.2 15) a2.toNatClampNeg a4.toNatClampNeg a5.toNatClampNeg))) (fun r173 s174 =>
                              ck (r173 = 0 ∨ r173 = 1) (some (r173, s174))
                              )
                              )
                            )
                          )
                        else
                          bd (f_X11_refused 8 s6) (fun r175 s176 =>
                          ck (r175 = 0 ∨ r175 = 1) (some (r175, s176))
                          )
                  )
                  (
                    if (s6.1 12 1) = 0 then
                      bd (f_X11_refused 2 s6) (fun r177 s178 =>
                      ck (r177 = 0 ∨ r177 = 1) (some (r177, s178))
                      )
                    else
                      if (s6.1 12 1) = 0 then
                        bd (f_X11_refused 2 s6) (fun r179 s180 =>
                        ck (r179 = 0 ∨ r179 = 1) (some (r179, s180))
                        )
                      else
                        if (s6.1 12 2) = (s6.1 12 2) then
                          bd (f_X8_reachesTo_12 a2 a5 s6) (fun r181 s182 =>
                          if r181 = 0 then
                            bd (f_X11_refused 3 s182) (fun r183 s184 =>
                            ck (r183 = 0 ∨ r183 = 1) (some (r183, s184))
                            )
                          else
                            bd (f_X8_reachesTo_12 a4 a5 s182) (fun r185 s186 =>
                            if r185 = 0 then
                              bd (f_X11_refused 3 s186) (fun r187 s188 =>
                              ck (r187 = 0 ∨ r187 = 1) (some (r187, s188))
                              )
                            else
                              ck (¬ a2 < 0 ∧ ¬ a4 < 0 ∧ ¬ a5 < 0 ∧ a2.toNatClampNeg + a5.toNatClampNeg ≤ 60 ∧ a4.toNatClampNeg + a5.toNatClampNeg ≤ 60) (
                              bd (f_X11_granted (pB s186 16 (va_cpy (s186.2 16) (s186.2 16) a2.toNatClampNeg a4.toNatClampNeg a5.toNatClampNeg))) (fun r189 s190 =>
                              ck (r189 = 0 ∨ r189 = 1) (some (r189, s190))
                              )
                              )
                            )
                          )
                        else
                          bd (f_X11_refused 8 s6) (fun r191 s192 =>
                          ck (r191 = 0 ∨ r191 = 1) (some (r191, s192))
                          )
                  )
                  (
                    if (s6.1 12 1) = 0 then
                      bd (f_X11_refused 2 s6) (fun r193 s194 =>
                      ck (r193 = 0 ∨ r193 = 1) (some (r193, s194))
                      )
                    else
                      if (s6.1 13 1) = 0 then
                        bd (f_X11_refused 2 s6) (fun r195 s196 =>
                        ck (r195 = 0 ∨ r195 = 1) (some (r195, s196))
                        )
                      else
                        if (s6.1 12 2) = (s6.1 13 2) then
                          bd (f_X8_reachesTo_12 a2 a5 s6) (fun r197 s198 =>
                          if r197 = 0 then
                            bd (f_X11_refused 3 s198) (fun r199 s200 =>
                            ck (r199 = 0 ∨ r199 = 1) (some (r199, s200))
                            )
                          else
                            bd (f_X8_reachesTo_13 a4 a5 s198) (fun r201 s202 =>
                            if r201 = 0 then
                              bd (f_X11_refused 3 s202) (fun r203 s204 =>
                              ck (r203 = 0 ∨ r203 = 1) (some (r203, s204))
                              )
                            else
                              ck (¬ a2 < 0 ∧ ¬ a4 < 0 ∧ ¬ a5 < 0 ∧ a2.toNatClampNeg + a5.toNatClampNeg ≤ 60 ∧ a4.toNatClampNeg + a5.toNatClampNeg ≤ 60) (
                              bd (f_X11_granted (pB s202 17 (va_cpy (s202.2 16) (s202.2 17) a2.toNatClampNeg a4.toNatClampNeg a5.toNatClampNeg))) (fun r205 s206 =>
                              ck (r205 = 0 ∨ r205 = 1) (some (r205, s206))
                              )
                              )
                            )
                          )
                        else
                          bd (f_X11_refused 8 s6) (fun r207 s208 =>
                          ck (r207 = 0 ∨ r207 = 1) (some (r207, s208))
                          )
                  )
                )
              )
              (
                ck (inr a3 4) (
                sel4 a3
                  (
                    if (s6.1 13 1) = 0 then
                      bd (f_X11_refused 2 s6) (fun r210 s211 =>
                      ck (r210 = 0 ∨ r210 = 1) (some (r210, s211))
                      )
                    else
                      if (s6.1 10 1) = 0 then
                        bd (f_X11_refused 2 s6) (fun r212 s213 =>
                        ck (r212 = 0 ∨ r212 = 1) (some (r212, s213))
                        )
                      else
                        if (s6.1 13 2) = (s6.1 10 2) then
                          bd (f_X8_reachesTo_13 a2 a5 s6) (fun r214 s215 =>
                          if r214 = 0 then
                            bd (f_X11_refused 3 s215) (fun r216 s217 =>
                            ck (r216 = 0 ∨ r216 = 1) (some (r216, s217))
                            )
                          else
                            bd (f_X8_reachesTo_10 a4 a5 s215) (fun r218 s219 =>
                            if r218 = 0 then
                              bd (f_X11_refused 3 s219) (fun r220 s221 =>
                              ck (r220 = 0 ∨ r220 = 1) (some (r220, s221))
                              )
                            else
                              ck (¬ a2 < 0 ∧ ¬ a4 < 0 ∧ ¬ a5 < 0 ∧ a2.toNatClampNeg + a5.toNatClampNeg ≤ 60 ∧ a4.toNatClampNeg + a5.toNatClampNeg ≤ 60) (
                              bd (f_X11_granted (pB s219 14 (va_cpy (s219.2 17) (s219.2 14) a2.toNatClampNeg a4.toNatClampNeg a5.toNatClampNeg))) (fun r222 s223 =>
                              ck (r222 = 0 ∨ r222 = 1) (some (r222, s223))
                              )
                              )
                            )
                          )
                        else
                          bd (f_X11_refused 8 s6) (fun r224 s225 =>
                          ck (r224 = 0 ∨ r224 = 1) (some (r224, s225))
                          )
                  )
                  (
                    if (s6.1 13 1) = 0 then
                      bd (f_X11_refused 2 s6) (fun r226 s227 =>
                      ck (r226 = 0 ∨ r226 = 1) (some (r226, s227))
                      )
                    else
                      if (s6.1 11 1) = 0 then
                        bd (f_X11_refused 2 s6) (fun r228 s229 =>
                        ck (r228 = 0 ∨ r228 = 1) (some (r228, s229))
                        )
                      else
                        if (s6.1 13 2) = (s6.1 11 2) then
                          bd (f_X8_reachesTo_13 a2 a5 s6) (fun r230 s231 =>
                          if r230 = 0 then
                            bd (f_X11_refused 3 s231) (fun r232 s233 =>
                            ck (r232 = 0 ∨ r232 = 1) (some (r232, s233))
                            )
                          else
                            bd (f_X8_reachesTo_11 a4 a5 s231) (fun r234 s235 =>
                            if r234 = 0 then
                              bd (f_X11_refused 3 s235) (fun r236 s237 =>
                              ck (r236 = 0 ∨ r236 = 1) (some (r236, s237))
                              )
                            else
                              ck (¬ a2 < 0 ∧ ¬ a4 < 0 ∧ ¬ a5 < 0 ∧ a2.toNatClampNeg + a5.toNatClampNeg ≤ 60 ∧ a4.toNatClampNeg + a5.toNatClampNeg ≤ 60) (
                              bd (f_X11_granted (pB s235 15 (va_cpy (s235.2 17) (s235.2 15) a2.toNatClampNeg a4.toNatClampNeg a5.toNatClampNeg))) (fun r238 s239 =>
                              ck (r238 = 0 ∨ r238 = 1) (some (r238, s239))
                              )
                              )
                            )
                          )
                        else
                          bd (f_X11_refused 8 s6) (fun r240 s241 =>
                          ck (r240 = 0 ∨ r240 = 1) (some (r240, s241))
                          )
                  )
                  (
                    if (s6.1 13 1) = 0 then
                      bd (f_X11_refused 2 s6) (fun r242 s243 =>
                      ck (r242 = 0 ∨ r242 = 1) (some (r242, s243))
                      )
                    else
                      if (s6.1 12 1) = 0 then
                        bd (f_X11_refused 2 s6) (fun r244 s245 =>
                        ck (r244 = 0 ∨ r244 = 1) (some (r244, s245))
                        )
                      else
                        if (s6.1 13 2) = (s6.1 12 2) then
                          bd (f_X8_reachesTo_13 a2 a5 s6) (fun r246 s247 =>
                          if r246 = 0 then
                            bd (f_X11_refused 3 s247) (fun r248 s249 =>
                            ck (r248 = 0 ∨ r248 = 1) (some (r248, s249))
                            )
                          else
                            bd (f_X8_reachesTo_12 a4 a5 s247) (fun r250 s251 =>
                            if r250 = 0 then
                              bd (f_X11_refused 3 s251) (fun r252 s253 =>
                              ck (r252 = 0 ∨ r252 = 1) (some (r252, s253))
                              )
                            else
                              ck (¬ a2 < 0 ∧ ¬ a4 < 0 ∧ ¬ a5 < 0 ∧ a2.toNatClampNeg + a5.toNatClampNeg ≤ 60 ∧ a4.toNatClampNeg + a5.toNatClampNeg ≤ 60) (
                              bd (f_X11_granted (pB s251 16 (va_cpy (s251.2 17) (s251.2 16) a2.toNatClampNeg a4.toNatClampNeg a5.toNatClampNeg))) (fun r254 s255 =>
                              ck (r254 = 0 ∨ r254 = 1) (some (r254, s255))
                              )
                              )
                            )
                          )
                        else
                          bd (f_X11_refused 8 s6) (fun r256 s257 =>
                          ck (r256 = 0 ∨ r256 = 1) (some (r256, s257))
                          )
                  )
                  (
                    if (s6.1 13 1) = 0 then
                      bd (f_X11_refused 2 s6) (fun r258 s259 =>
                      ck (r258 = 0 ∨ r258 = 1) (some (r258, s259))
                      )
                    else
                      if (s6.1 13 1) = 0 then
                        bd (f_X11_refused 2 s6) (fun r260 s261 =>
                        ck (r260 = 0 ∨ r260 = 1) (some (r260, s261))
                        )
                      else
                        if (s6.1 13 2) = (s6.1 13 2) then
                          bd (f_X8_reachesTo_13 a2 a5 s6) (fun r262 s263 =>
                          if r262 = 0 then
                            bd (f_X11_refused 3 s263) (fun r264 s265 =>
                            ck (r264 = 0 ∨ r264 = 1) (some (r264, s265))
                            )
                          else
                            bd (f_X8_reachesTo_13 a4 a5 s263) (fun r266 s267 =>
                            if r266 = 0 then
                              bd (f_X11_refused 3 s267) (fun r268 s269 =>
                              ck (r268 = 0 ∨ r268 = 1) (some (r268, s269))
                              )
                            else
                              ck (¬ a2 < 0 ∧ ¬ a4 < 0 ∧ ¬ a5 < 0 ∧ a2.toNatClampNeg + a5.toNatClampNeg ≤ 60 ∧ a4.toNatClampNeg + a5.toNatClampNeg ≤ 60) (
                              bd (f_X11_granted (pB s267 17 (va_cpy (s267.2 17) (s267.2 17) a2.toNatClampNeg a4.toNatClampNeg a5.toNatClampNeg))) (fun r270 s271 =>
                              ck (r270 = 0 ∨ r270 = 1) (some (r270, s271))
                              )
                              )
                            )
                          )
                        else
                          bd (f_X11_refused 8 s6) (fun r272 s273 =>
                          ck (r272 = 0 ∨ r272 = 1) (some (r272, s273))
                          )
                  )
                )
              )
            )
          else
            bd (f_X11_refused 1 s6) (fun r274 s275 =>
            ck (r274 = 0 ∨ r274 = 1) (some (r274, s275))
            )
    )
  )
set_option maxRecDepth 100000 in
theorem w_X11_pour {d : Nat} {s : Sg} {Q : Qt} (a1 : Int32) (a2 : Int32) (a3 : Int32) (a4 : Int32) (a5 : Int32) (H : OQ (f_X11_pour a1 a2 a3 a4 a5 s) (fun r9 s9 => Q (some (.int r9)) s9)) : WpM SHC MT (d + 3) 108 [.ref 0, .int a1, .int a2, .int a3, .int a4, .int a5] s Q := by
  refine WpM.enter me_X11_pour rfl rfl ?_
  show Y_X11_pour d Q 0 [(0, .ref 0), (1, .int a1), (2, .int a2), (3, .int a3), (4, .int a4), (5, .int a5)] [] s
  unfold f_X11_pour at H
  refine Wp.r_iload_n1 (pc := 0) o_X11_pour rfl rfl (Wp.r_cs1 (pc := 1) o_X11_pour rfl (⟨rm8_ rfl, ?_⟩))
  refine w_X11_isTray (d := d) _ ?_
  refine oq_bd H (fun r1 s2 H => ?_)
  refine Wp.r_if_eq (pc := 4) o_X11_pour rfl (fun c9 => ?_) (fun c9 => ?_)
  · have H := oq_t c9 H
    refine Wp.f_al0_iconst (pc := 28) o_X11_pour rfl rfl rfl (Wp.r_cv2 (pc := 30) o_X11_pour rfl fk_C_0_0 (⟨rm8_ rfl, ?_⟩))
    refine w_X11_refused (d := d + 1) _ ?_
    refine oq_bd H (fun r3 s4 H => ?_)
    obtain ⟨c9, H⟩ := oq_ck H
    exact Wp.r_ireturn (pc := 33) o_X11_pour rfl (⟨b01_n c9, H⟩)
  · have H := oq_f c9 H
    refine Wp.r_iload_n3 (pc := 7) o_X11_pour rfl rfl (Wp.r_cs1 (pc := 8) o_X11_pour rfl (⟨rm8_ rfl, ?_⟩))
    refine w_X11_isTray (d := d) _ ?_
    refine oq_bd H (fun r5 s6 H => ?_)
    refine Wp.r_if_eq (pc := 11) o_X11_pour rfl (fun c9 => ?_) (fun c9 => ?_)
    · have H := oq_t c9 H
      refine Wp.f_al0_iconst (pc := 28) o_X11_pour rfl rfl rfl (Wp.r_cv2 (pc := 30) o_X11_pour rfl fk_C_0_0 (⟨rm8_ rfl, ?_⟩))
      refine w_X11_refused (d := d + 1) _ ?_
      refine oq_bd H (fun r7 s8 H => ?_)
      obtain ⟨c9, H⟩ := oq_ck H
      exact Wp.r_ireturn (pc := 33) o_X11_pour rfl (⟨b01_n c9, H⟩)
    · have H := oq_f c9 H
      refine Wp.r_iload_n2 (pc := 14) o_X11_pour rfl rfl (Wp.r_if_lt (pc := 15) o_X11_pour rfl (fun c9 => ?_) (fun c9 => ?_))
      · have H := oq_t c9 H
        refine Wp.f_al0_iconst (pc := 28) o_X11_pour rfl rfl rfl (Wp.r_cv2 (pc := 30) o_X11_pour rfl fk_C_0_0 (⟨rm8_ rfl, ?_⟩))
        refine w_X11_refused (d := d + 1) _ ?_
        refine oq_bd H (fun r9 s10 H => ?_)
        obtain ⟨c9, H⟩ := oq_ck H
        exact Wp.r_ireturn (pc := 33) o_X11_pour rfl (⟨b01_n c9, H⟩)
      · have H := oq_f c9 H
        refine Wp.r_iload (pc := 18) o_X11_pour rfl rfl (Wp.r_if_lt (pc := 20) o_X11_pour rfl (fun c9 => ?_) (fun c9 => ?_))
        · have H := oq_t c9 H
          refine Wp.f_al0_iconst (pc := 28) o_X11_pour rfl rfl rfl (Wp.r_cv2 (pc := 30) o_X11_pour rfl fk_C_0_0 (⟨rm8_ rfl, ?_⟩))
          refine w_X11_refused (d := d + 1) _ ?_
          refine oq_bd H (fun r11 s12 H => ?_)
          obtain ⟨c9, H⟩ := oq_ck H
          exact Wp.r_ireturn (pc := 33) o_X11_pour rfl (⟨b01_n c9, H⟩)
        · have H := oq_f c9 H
          refine Wp.r_iload (pc := 23) o_X11_pour rfl rfl (Wp.r_if_ge (pc := 25) o_X11_pour rfl (fun c9 => ?_) (fun c9 => ?_))
          · have H := oq_t c9 H
            obtain ⟨c9, H⟩ := oq_ck H
            refine Wp.f_al0_gfr (pc := 34) o_X11_pour rfl rfl rfl fk_C_0_1 (Wp.r_iload_n1 (pc := 38) o_X11_pour rfl rfl (Wp.run 1 (show vp_in a1 4 ∧ (a1 = nI 0 → Y_X11_pour d Q 40 [(0, .ref 0), (1, .int a1), (2, .int a2), (3, .int a3), (4, .int a4), (5, .int a5)] [.ref 10] s6) ∧ (a1 = nI 1 → Y_X11_pour d Q 40 [(0, .ref 0), (1, .int a1), (2, .int a2), (3, .int a3), (4, .int a4), (5, .int a5)] [.ref 11] s6) ∧ (a1 = nI 2 → Y_X11_pour d Q 40 [(0, .ref 0), (1, .int a1), (2, .int a2), (3, .int a3), (4, .int a4), (5, .int a5)] [.ref 12] s6) ∧ (a1 = nI 3 → Y_X11_pour d Q 40 [(0, .ref 0), (1, .int a1), (2, .int a2), (3, .int a3), (4, .int a4), (5, .int a5)] [.ref 13] s6) ∧ True from ⟨c9, fun e9 => ?_, fun e9 => ?_, fun e9 => ?_, fun e9 => ?_, trivial⟩)))
            · have ek13 := e9
              have H := oq_sel4_0 (i := a1) e9 H
              obtain ⟨c9, H⟩ := oq_ck H
              refine Wp.r_astore (pc := 40) o_X11_pour rfl (Wp.f_al0_gfr (pc := 42) o_X11_pour rfl rfl rfl fk_C_0_1 (Wp.r_iload_n3 (pc := 46) o_X11_pour rfl rfl (Wp.run 1 (show vp_in a3 4 ∧ (a3 = nI 0 → Y_X11_pour d Q 48 [(6, .ref 10), (0, .ref 0), (1, .int a1), (2, .int a2), (3, .int a3), (4, .int a4), (5, .int a5)] [.ref 10] s6) ∧ (a3 = nI 1 → Y_X11_pour d Q 48 [(6, .ref 10), (0, .ref 0), (1, .int a1), (2, .int a2), (3, .int a3), (4, .int a4), (5, .int a5)] [.ref 11] s6) ∧ (a3 = nI 2 → Y_X11_pour d Q 48 [(6, .ref 10), (0, .ref 0), (1, .int a1), (2, .int a2), (3, .int a3), (4, .int a4), (5, .int a5)] [.ref 12] s6) ∧ (a3 = nI 3 → Y_X11_pour d Q 48 [(6, .ref 10), (0, .ref 0), (1, .int a1), (2, .int a2), (3, .int a3), (4, .int a4), (5, .int a5)] [.ref 13] s6) ∧ True from ⟨c9, fun e9 => ?_, fun e9 => ?_, fun e9 => ?_, fun e9 => ?_, trivial⟩))))
              · have ek14 := e9
                have H := oq_sel4_0 (i := a3) e9 H
                refine Wp.r_astore (pc := 48) o_X11_pour rfl (Wp.r_aload (pc := 50) o_X11_pour rfl rfl (Wp.r_gfi (pc := 52) o_X11_pour rfl fk_C_10_1 (Wp.r_if_eq (pc := 55) o_X11_pour rfl (fun c9 => ?_) (fun c9 => ?_))))
                · have H := oq_t c9 H
                  refine Wp.f_al0_iconst (pc := 66) o_X11_pour rfl rfl rfl (Wp.r_cv2 (pc := 68) o_X11_pour rfl fk_C_0_0 (⟨rm8_ rfl, ?_⟩))
                  refine w_X11_refused (d := d + 1) _ ?_
                  refine oq_bd H (fun r15 s16 H => ?_)
                  obtain ⟨c9, H⟩ := oq_ck H
                  exact Wp.r_ireturn (pc := 71) o_X11_pour rfl (⟨b01_n c9, H⟩)
                · have H := oq_f c9 H
                  refine Wp.r_aload (pc := 58) o_X11_pour rfl rfl (Wp.r_gfi (pc := 60) o_X11_pour rfl fk_C_10_1 (Wp.r_if_ne (pc := 63) o_X11_pour rfl (fun c9 => ?_) (fun c9 => ?_)))
                  · have H := oq_t c9 H
                    refine Wp.f_al0_iconst (pc := 66) o_X11_pour rfl rfl rfl (Wp.r_cv2 (pc := 68) o_X11_pour rfl fk_C_0_0 (⟨rm8_ rfl, ?_⟩))
                    refine w_X11_refused (d := d + 1) _ ?_
                    refine oq_bd H (fun r17 s18 H => ?_)
                    obtain ⟨c9, H⟩ := oq_ck H
                    exact Wp.r_ireturn (pc := 71) o_X11_pour rfl (⟨b01_n c9, H⟩)
                  · have H := oq_f c9 H
                    refine Wp.r_aload (pc := 72) o_X11_pour rfl rfl (Wp.r_gfi (pc := 74) o_X11_pour rfl fk_C_10_2 (Wp.r_aload (pc := 77) o_X11_pour rfl rfl (Wp.r_gfi (pc := 79) o_X11_pour rfl fk_C_10_2 (Wp.r_icmp_eq (pc := 82) o_X11_pour rfl (fun c9 => ?_) (fun c9 => ?_)))))
                    · have H := oq_t c9 H
                      refine Wp.r_aload (pc := 92) o_X11_pour rfl rfl (Wp.r_iload_n2 (pc := 94) o_X11_pour rfl rfl (Wp.r_iload (pc := 95) o_X11_pour rfl rfl (Wp.r_cv3 (pc := 97) o_X11_pour rfl fk_C_10_0 (⟨rm8_ rfl, ?_⟩))))
                      refine w_X8_reachesTo_10 (d := d + 1) _ _ ?_
                      refine oq_bd H (fun r19 s20 H => ?_)
                      refine Wp.r_if_eq (pc := 100) o_X11_pour rfl (fun c9 => ?_) (fun c9 => ?_)
                      · have H := oq_t c9 H
                        refine Wp.f_al0_iconst (pc := 115) o_X11_pour rfl rfl rfl (Wp.r_cv2 (pc := 117) o_X11_pour rfl fk_C_0_0 (⟨rm8_ rfl, ?_⟩))
                        refine w_X11_refused (d := d + 1) _ ?_
                        refine oq_bd H (fun r21 s22 H => ?_)
                        obtain ⟨c9, H⟩ := oq_ck H
                        exact Wp.r_ireturn (pc := 120) o_X11_pour rfl (⟨b01_n c9, H⟩)
                      · have H := oq_f c9 H
                        refine Wp.r_aload (pc := 103) o_X11_pour rfl rfl (Wp.r_iload (pc := 105) o_X11_pour rfl rfl (Wp.r_iload (pc := 107) o_X11_pour rfl rfl (Wp.r_cv3 (pc := 109) o_X11_pour rfl fk_C_10_0 (⟨rm8_ rfl, ?_⟩))))
                        refine w_X8_reachesTo_10 (d := d + 1) _ _ ?_
                        refine oq_bd H (fun r23 s24 H => ?_)
                        refine Wp.r_if_ne (pc := 112) o_X11_pour rfl (fun c9 => ?_) (fun c9 => ?_)
                        · have H := oq_t c9 H
                          refine Wp.f_al0_iconst (pc := 115) o_X11_pour rfl rfl rfl (Wp.r_cv2 (pc := 117) o_X11_pour rfl fk_C_0_0 (⟨rm8_ rfl, ?_⟩))
                          refine w_X11_refused (d := d + 1) _ ?_
                          refine oq_bd H (fun r25 s26 H => ?_)
                          obtain ⟨c9, H⟩ := oq_ck H
                          exact Wp.r_ireturn (pc := 120) o_X11_pour rfl (⟨b01_n c9, H⟩)
                        · have H := oq_f c9 H
                          obtain ⟨c9, H⟩ := oq_ck H
                          refine Wp.r_aload (pc := 121) o_X11_pour rfl rfl (Wp.r_gfr (pc := 123) o_X11_pour rfl fk_C_10_0 (Wp.r_iload_n2 (pc := 126) o_X11_pour rfl rfl (Wp.r_aload (pc := 127) o_X11_pour rfl rfl (Wp.r_gfr (pc := 129) o_X11_pour rfl fk_C_10_0 (Wp.r_iload (pc := 132) o_X11_pour rfl rfl (Wp.r_iload (pc := 134) o_X11_pour rfl rfl (Wp.run 1 (show room8 [] ∧ (¬ a2 < 0 ∧ ¬ a4 < 0 ∧ ¬ a5 < 0 ∧ a2.toNatClampNeg + a5.toNatClampNeg ≤ 60 ∧ a4.toNatClampNeg + a5.toNatClampNeg ≤ 60) ∧ Y_X11_pour d Q 139 [(7, .ref 10), (6, .ref 10), (0, .ref 0), (1, .int a1), (2, .int a2), (3, .int a3), (4, .int a4), (5, .int a5)] [] (pB s24 14 (va_cpy (s24.2 14) (s24.2 14) a2.toNatClampNeg a4.toNatClampNeg a5.toNatClampNeg)) from ⟨rm8_ rfl, c9, ?_⟩))))))))
                          refine Wp.r_aload_n0 (pc := 139) o_X11_pour rfl rfl (Wp.r_cv1 (pc := 140) o_X11_pour rfl fk_C_0_0 (⟨rm8_ rfl, ?_⟩))
                          refine w_X11_granted (d := d + 1)  ?_
                          refine oq_bd H (fun r27 s28 H => ?_)
                          obtain ⟨c9, H⟩ := oq_ck H
                          exact Wp.r_ireturn (pc := 143) o_X11_pour rfl (⟨b01_n c9, H⟩)
                    · have H := oq_f c9 H
                      refine Wp.r_aload_n0 (pc := 85) o_X11_pour rfl rfl (Wp.r_bipush (pc := 86) o_X11_pour rfl (Wp.r_cv2 (pc := 88) o_X11_pour rfl fk_C_0_0 (⟨rm8_ rfl, ?_⟩)))
                      refine w_X11_refused (d := d + 1) _ ?_
                      refine oq_bd H (fun r29 s30 H => ?_)
                      obtain ⟨c9, H⟩ := oq_ck H
                      exact Wp.r_ireturn (pc := 91) o_X11_pour rfl (⟨b01_n c9, H⟩)
              · have ek14 := e9
                have H := oq_sel4_1 (i := a3) e9 H
                refine Wp.r_astore (pc := 48) o_X11_pour rfl (Wp.r_aload (pc := 50) o_X11_pour rfl rfl (Wp.r_gfi (pc := 52) o_X11_pour rfl fk_C_10_1 (Wp.r_if_eq (pc := 55) o_X11_pour rfl (fun c9 => ?_) (fun c9 => ?_))))
                · have H := oq_t c9 H
                  refine Wp.f_al0_iconst (pc := 66) o_X11_pour rfl rfl rfl (Wp.r_cv2 (pc := 68) o_X11_pour rfl fk_C_0_0 (⟨rm8_ rfl, ?_⟩))
                  refine w_X11_refused (d := d + 1) _ ?_
                  refine oq_bd H (fun r31 s32 H => ?_)
                  obtain ⟨c9, H⟩ := oq_ck H
                  exact Wp.r_ireturn (pc := 71) o_X11_pour rfl (⟨b01_n c9, H⟩)
                · have H := oq_f c9 H
                  refine Wp.r_aload (pc := 58) o_X11_pour rfl rfl (Wp.r_gfi (pc := 60) o_X11_pour rfl fk_C_11_1 (Wp.r_if_ne (pc := 63) o_X11_pour rfl (fun c9 => ?_) (fun c9 => ?_)))
                  · have H := oq_t c9 H
                    refine Wp.f_al0_iconst (pc := 66) o_X11_pour rfl rfl rfl (Wp.r_cv2 (pc := 68) o_X11_pour rfl fk_C_0_0 (⟨rm8_ rfl, ?_⟩))
                    refine w_X11_refused (d := d + 1) _ ?_
                    refine oq_bd H (fun r33 s34 H => ?_)
                    obtain ⟨c9, H⟩ := oq_ck H
                    exact Wp.r_ireturn (pc := 71) o_X11_pour rfl (⟨b01_n c9, H⟩)
                  · have H := oq_f c9 H
                    refine Wp.r_aload (pc := 72) o_X11_pour rfl rfl (Wp.r_gfi (pc := 74) o_X11_pour rfl fk_C_10_2 (Wp.r_aload (pc := 77) o_X11_pour rfl rfl (Wp.r_gfi (pc := 79) o_X11_pour rfl fk_C_11_2 (Wp.r_icmp_eq (pc := 82) o_X11_pour rfl (fun c9 => ?_) (fun c9 => ?_)))))
                    · have H := oq_t c9 H
                      refine Wp.r_aload (pc := 92) o_X11_pour rfl rfl (Wp.r_iload_n2 (pc := 94) o_X11_pour rfl rfl (Wp.r_iload (pc := 95) o_X11_pour rfl rfl (Wp.r_cv3 (pc := 97) o_X11_pour rfl fk_C_10_0 (⟨rm8_ rfl, ?_⟩))))
                      refine w_X8_reachesTo_10 (d := d + 1) _ _ ?_
                      refine oq_bd H (fun r35 s36 H => ?_)
                      refine Wp.r_if_eq (pc := 100) o_X11_pour rfl (fun c9 => ?_) (fun c9 => ?_)
                      · have H := oq_t c9 H
                        refine Wp.f_al0_iconst (pc := 115) o_X11_pour rfl rfl rfl (Wp.r_cv2 (pc := 117) o_X11_pour rfl fk_C_0_0 (⟨rm8_ rfl, ?_⟩))
                        refine w_X11_refused (d := d + 1) _ ?_
                        refine oq_bd H (fun r37 s38 H => ?_)
                        obtain ⟨c9, H⟩ := oq_ck H
                        exact Wp.r_ireturn (pc := 120) o_X11_pour rfl (⟨b01_n c9, H⟩)
                      · have H := oq_f c9 H
                        refine Wp.r_aload (pc := 103) o_X11_pour rfl rfl (Wp.r_iload (pc := 105) o_X11_pour rfl rfl (Wp.r_iload (pc := 107) o_X11_pour rfl rfl (Wp.r_cv3 (pc := 109) o_X11_pour rfl fk_C_11_0 (⟨rm8_ rfl, ?_⟩))))
                        refine w_X8_reachesTo_11 (d := d + 1) _ _ ?_
                        refine oq_bd H (fun r39 s40 H => ?_)
                        refine Wp.r_if_ne (pc := 112) o_X11_pour rfl (fun c9 => ?_) (fun c9 => ?_)
                        · have H := oq_t c9 H
                          refine Wp.f_al0_iconst (pc := 115) o_X11_pour rfl rfl rfl (Wp.r_cv2 (pc := 117) o_X11_pour rfl fk_C_0_0 (⟨rm8_ rfl, ?_⟩))
                          refine w_X11_refused (d := d + 1) _ ?_
                          refine oq_bd H (fun r41 s42 H => ?_)
                          obtain ⟨c9, H⟩ := oq_ck H
                          exact Wp.r_ireturn (pc := 120) o_X11_pour rfl (⟨b01_n c9, H⟩)
                        · have H := oq_f c9 H
                          obtain ⟨c9, H⟩ := oq_ck H
                          refine Wp.r_aload (pc := 121) o_X11_pour rfl rfl (Wp.r_gfr (pc := 123) o_X11_pour rfl fk_C_10_0 (Wp.r_iload_n2 (pc := 126) o_X11_pour rfl rfl (Wp.r_aload (pc := 127) o_X11_pour rfl rfl (Wp.r_gfr (pc := 129) o_X11_pour rfl fk_C_11_0 (Wp.r_iload (pc := 132) o_X11_pour rfl rfl (Wp.r_iload (pc := 134) o_X11_pour rfl rfl (Wp.run 1 (show room8 [] ∧ (¬ a2 < 0 ∧ ¬ a4 < 0 ∧ ¬ a5 < 0 ∧ a2.toNatClampNeg + a5.toNatClampNeg ≤ 60 ∧ a4.toNatClampNeg + a5.toNatClampNeg ≤ 60) ∧ Y_X11_pour d Q 139 [(7, .ref 11), (6, .ref 10), (0, .ref 0), (1, .int a1), (2, .int a2), (3, .int a3), (4, .int a4), (5, .int a5)] [] (pB s40 15 (va_cpy (s40.2 14) (s40.2 15) a2.toNatClampNeg a4.toNatClampNeg a5.toNatClampNeg)) from ⟨rm8_ rfl, c9, ?_⟩))))))))
                          refine Wp.r_aload_n0 (pc := 139) o_X11_pour rfl rfl (Wp.r_cv1 (pc := 140) o_X11_pour rfl fk_C_0_0 (⟨rm8_ rfl, ?_⟩))
                          refine w_X11_granted (d := d + 1)  ?_
                          refine oq_bd H (fun r43 s44 H => ?_)
                          obtain ⟨c9, H⟩ := oq_ck H
                          exact Wp.r_ireturn (pc := 143) o_X11_pour rfl (⟨b01_n c9, H⟩)
                    · have H := oq_f c9 H
                      refine Wp.r_aload_n0 (pc := 85) o_X11_pour rfl rfl (Wp.r_bipush (pc := 86) o_X11_pour rfl (Wp.r_cv2 (pc := 88) o_X11_pour rfl fk_C_0_0 (⟨rm8_ rfl, ?_⟩)))
                      refine w_X11_refused (d := d + 1) _ ?_
                      refine oq_bd H (fun r45 s46 H => ?_)
                      obtain ⟨c9, H⟩ := oq_ck H
                      exact Wp.r_ireturn (pc := 91) o_X11_pour rfl (⟨b01_n c9, H⟩)
              · have ek14 := e9
                have H := oq_sel4_2 (i := a3) e9 H
                refine Wp.r_astore (pc := 48) o_X11_pour rfl (Wp.r_aload (pc := 50) o_X11_pour rfl rfl (Wp.r_gfi (pc := 52) o_X11_pour rfl fk_C_10_1 (Wp.r_if_eq (pc := 55) o_X11_pour rfl (fun c9 => ?_) (fun c9 => ?_))))
                · have H := oq_t c9 H
                  refine Wp.f_al0_iconst (pc := 66) o_X11_pour rfl rfl rfl (Wp.r_cv2 (pc := 68) o_X11_pour rfl fk_C_0_0 (⟨rm8_ rfl, ?_⟩))
                  refine w_X11_refused (d := d + 1) _ ?_
                  refine oq_bd H (fun r47 s48 H => ?_)
                  obtain ⟨c9, H⟩ := oq_ck H
                  exact Wp.r_ireturn (pc := 71) o_X11_pour rfl (⟨b01_n c9, H⟩)
                · have H := oq_f c9 H
                  refine Wp.r_aload (pc := 58) o_X11_pour rfl rfl (Wp.r_gfi (pc := 60) o_X11_pour rfl fk_C_12_1 (Wp.r_if_ne (pc := 63) o_X11_pour rfl (fun c9 => ?_) (fun c9 => ?_)))
                  · have H := oq_t c9 H
                    refine Wp.f_al0_iconst (pc := 66) o_X11_pour rfl rfl rfl (Wp.r_cv2 (pc := 68) o_X11_pour rfl fk_C_0_0 (⟨rm8_ rfl, ?_⟩))
                    refine w_X11_refused (d := d + 1) _ ?_
                    refine oq_bd H (fun r49 s50 H => ?_)
                    obtain ⟨c9, H⟩ := oq_ck H
                    exact Wp.r_ireturn (pc := 71) o_X11_pour rfl (⟨b01_n c9, H⟩)
                  · have H := oq_f c9 H
                    refine Wp.r_aload (pc := 72) o_X11_pour rfl rfl (Wp.r_gfi (pc := 74) o_X11_pour rfl fk_C_10_2 (Wp.r_aload (pc := 77) o_X11_pour rfl rfl (Wp.r_gfi (pc := 79) o_X11_pour rfl fk_C_12_2 (Wp.r_icmp_eq (pc := 82) o_X11_pour rfl (fun c9 => ?_) (fun c9 => ?_)))))
                    · have H := oq_t c9 H
                      refine Wp.r_aload (pc := 92) o_X11_pour rfl rfl (Wp.r_iload_n2 (pc := 94) o_X11_pour rfl rfl (Wp.r_iload (pc := 95) o_X11_pour rfl rfl (Wp.r_cv3 (pc := 97) o_X11_pour rfl fk_C_10_0 (⟨rm8_ rfl, ?_⟩))))
                      refine w_X8_reachesTo_10 (d := d + 1) _ _ ?_
                      refine oq_bd H (fun r51 s52 H => ?_)
                      refine Wp.r_if_eq (pc := 100) o_X11_pour rfl (fun c9 => ?_) (fun c9 => ?_)
                      · have H := oq_t c9 H
                        refine Wp.f_al0_iconst (pc := 115) o_X11_pour rfl rfl rfl (Wp.r_cv2 (pc := 117) o_X11_pour rfl fk_C_0_0 (⟨rm8_ rfl, ?_⟩))
                        refine w_X11_refused (d := d + 1) _ ?_
                        refine oq_bd H (fun r53 s54 H => ?_)
                        obtain ⟨c9, H⟩ := oq_ck H
                        exact Wp.r_ireturn (pc := 120) o_X11_pour rfl (⟨b01_n c9, H⟩)
                      · have H := oq_f c9 H
                        refine Wp.r_aload (pc := 103) o_X11_pour rfl rfl (Wp.r_iload (pc := 105) o_X11_pour rfl rfl (Wp.r_iload (pc := 107) o_X11_pour rfl rfl (Wp.r_cv3 (pc := 109) o_X11_pour rfl fk_C_12_0 (⟨rm8_ rfl, ?_⟩))))
                        refine w_X8_reachesTo_12 (d := d + 1) _ _ ?_
                        refine oq_bd H (fun r55 s56 H => ?_)
                        refine Wp.r_if_ne (pc := 112) o_X11_pour rfl (fun c9 => ?_) (fun c9 => ?_)
                        · have H := oq_t c9 H
                          refine Wp.f_al0_iconst (pc := 115) o_X11_pour rfl rfl rfl (Wp.r_cv2 (pc := 117) o_X11_pour rfl fk_C_0_0 (⟨rm8_ rfl, ?_⟩))
                          refine w_X11_refused (d := d + 1) _ ?_
                          refine oq_bd H (fun r57 s58 H => ?_)
                          obtain ⟨c9, H⟩ := oq_ck H
                          exact Wp.r_ireturn (pc := 120) o_X11_pour rfl (⟨b01_n c9, H⟩)
                        · have H := oq_f c9 H
                          obtain ⟨c9, H⟩ := oq_ck H
                          refine Wp.r_aload (pc := 121) o_X11_pour rfl rfl (Wp.r_gfr (pc := 123) o_X11_pour rfl fk_C_10_0 (Wp.r_iload_n2 (pc := 126) o_X11_pour rfl rfl (Wp.r_aload (pc := 127) o_X11_pour rfl rfl (Wp.r_gfr (pc := 129) o_X11_pour rfl fk_C_12_0 (Wp.r_iload (pc := 132) o_X11_pour rfl rfl (Wp.r_iload (pc := 134) o_X11_pour rfl rfl (Wp.run 1 (show room8 [] ∧ (¬ a2 < 0 ∧ ¬ a4 < 0 ∧ ¬ a5 < 0 ∧ a2.toNatClampNeg + a5.toNatClampNeg ≤ 60 ∧ a4.toNatClampNeg + a5.toNatClampNeg ≤ 60) ∧ Y_X11_pour d Q 139 [(7, .ref 12), (6, .ref 10), (0, .ref 0), (1, .int a1), (2, .int a2), (3, .int a3), (4, .int a4), (5, .int a5)] [] (pB s56 16 (va_cpy (s56.2 14) (s56.2 16) a2.toNatClampNeg a4.toNatClampNeg a5.toNatClampNeg)) from ⟨rm8_ rfl, c9, ?_⟩))))))))
                          refine Wp.r_aload_n0 (pc := 139) o_X11_pour rfl rfl (Wp.r_cv1 (pc := 140) o_X11_pour rfl fk_C_0_0 (⟨rm8_ rfl, ?_⟩))
                          refine w_X11_granted (d := d + 1)  ?_
                          refine oq_bd H (fun r59 s60 H => ?_)
                          obtain ⟨c9, H⟩ := oq_ck H
                          exact Wp.r_ireturn (pc := 143) o_X11_pour rfl (⟨b01_n c9, H⟩)
                    · have H := oq_f c9 H
                      refine Wp.r_aload_n0 (pc := 85) o_X11_pour rfl rfl (Wp.r_bipush (pc := 86) o_X11_pour rfl (Wp.r_cv2 (pc := 88) o_X11_pour rfl fk_C_0_0 (⟨rm8_ rfl, ?_⟩)))
                      refine w_X11_refused (d := d + 1) _ ?_
                      refine oq_bd H (fun r61 s62 H => ?_)
                      obtain ⟨c9, H⟩ := oq_ck H
                      exact Wp.r_ireturn (pc := 91) o_X11_pour rfl (⟨b01_n c9, H⟩)
              · have ek14 := e9
                have H := oq_sel4_3 (i := a3) e9 H
                refine Wp.r_astore (pc := 48) o_X11_pour rfl (Wp.r_aload (pc := 50) o_X11_pour rfl rfl (Wp.r_gfi (pc := 52) o_X11_pour rfl fk_C_10_1 (Wp.r_if_eq (pc := 55) o_X11_pour rfl (fun c9 => ?_) (fun c9 => ?_))))
                · have H := oq_t c9 H
                  refine Wp.f_al0_iconst (pc := 66) o_X11_pour rfl rfl rfl (Wp.r_cv2 (pc := 68) o_X11_pour rfl fk_C_0_0 (⟨rm8_ rfl, ?_⟩))
                  refine w_X11_refused (d := d + 1) _ ?_
                  refine oq_bd H (fun r63 s64 H => ?_)
                  obtain ⟨c9, H⟩ := oq_ck H
                  exact Wp.r_ireturn (pc := 71) o_X11_pour rfl (⟨b01_n c9, H⟩)
                · have H := oq_f c9 H
                  refine Wp.r_aload (pc := 58) o_X11_pour rfl rfl (Wp.r_gfi (pc := 60) o_X11_pour rfl fk_C_13_1 (Wp.r_if_ne (pc := 63) o_X11_pour rfl (fun c9 => ?_) (fun c9 => ?_)))
                  · have H := oq_t c9 H
                    refine Wp.f_al0_iconst (pc := 66) o_X11_pour rfl rfl rfl (Wp.r_cv2 (pc := 68) o_X11_pour rfl fk_C_0_0 (⟨rm8_ rfl, ?_⟩))
                    refine w_X11_refused (d := d + 1) _ ?_
                    refine oq_bd H (fun r65 s66 H => ?_)
                    obtain ⟨c9, H⟩ := oq_ck H
                    exact Wp.r_ireturn (pc := 71) o_X11_pour rfl (⟨b01_n c9, H⟩)
                  · have H := oq_f c9 H
                    refine Wp.r_aload (pc := 72) o_X11_pour rfl rfl (Wp.r_gfi (pc := 74) o_X11_pour rfl fk_C_10_2 (Wp.r_aload (pc := 77) o_X11_pour rfl rfl (Wp.r_gfi (pc := 79) o_X11_pour rfl fk_C_13_2 (Wp.r_icmp_eq (pc := 82) o_X11_pour rfl (fun c9 => ?_) (fun c9 => ?_)))))
                    · have H := oq_t c9 H
                      refine Wp.r_aload (pc := 92) o_X11_pour rfl rfl (Wp.r_iload_n2 (pc := 94) o_X11_pour rfl rfl (Wp.r_iload (pc := 95) o_X11_pour rfl rfl (Wp.r_cv3 (pc := 97) o_X11_pour rfl fk_C_10_0 (⟨rm8_ rfl, ?_⟩))))
                      refine w_X8_reachesTo_10 (d := d + 1) _ _ ?_
                      refine oq_bd H (fun r67 s68 H => ?_)
                      refine Wp.r_if_eq (pc := 100) o_X11_pour rfl (fun c9 => ?_) (fun c9 => ?_)
                      · have H := oq_t c9 H
                        refine Wp.f_al0_iconst (pc := 115) o_X11_pour rfl rfl rfl (Wp.r_cv2 (pc := 117) o_X11_pour rfl fk_C_0_0 (⟨rm8_ rfl, ?_⟩))
                        refine w_X11_refused (d := d + 1) _ ?_
                        refine oq_bd H (fun r69 s70 H => ?_)
                        obtain ⟨c9, H⟩ := oq_ck H
                        exact Wp.r_ireturn (pc := 120) o_X11_pour rfl (⟨b01_n c9, H⟩)
                      · have H := oq_f c9 H
                        refine Wp.r_aload (pc := 103) o_X11_pour rfl rfl (Wp.r_iload (pc := 105) o_X11_pour rfl rfl (Wp.r_iload (pc := 107) o_X11_pour rfl rfl (Wp.r_cv3 (pc := 109) o_X11_pour rfl fk_C_13_0 (⟨rm8_ rfl, ?_⟩))))
                        refine w_X8_reachesTo_13 (d := d + 1) _ _ ?_
                        refine oq_bd H (fun r71 s72 H => ?_)
                        refine Wp.r_if_ne (pc := 112) o_X11_pour rfl (fun c9 => ?_) (fun c9 => ?_)
                        · have H := oq_t c9 H
                          refine Wp.f_al0_iconst (pc := 115) o_X11_pour rfl rfl rfl (Wp.r_cv2 (pc := 117) o_X11_pour rfl fk_C_0_0 (⟨rm8_ rfl, ?_⟩))
                          refine w_X11_refused (d := d + 1) _ ?_
                          refine oq_bd H (fun r73 s74 H => ?_)
                          obtain ⟨c9, H⟩ := oq_ck H
                          exact Wp.r_ireturn (pc := 120) o_X11_pour rfl (⟨b01_n c9, H⟩)
                        · have H := oq_f c9 H
                          obtain ⟨c9, H⟩ := oq_ck H
                          refine Wp.r_aload (pc := 121) o_X11_pour rfl rfl (Wp.r_gfr (pc := 123) o_X11_pour rfl fk_C_10_0 (Wp.r_iload_n2 (pc := 126) o_X11_pour rfl rfl (Wp.r_aload (pc := 127) o_X11_pour rfl rfl (Wp.r_gfr (pc := 129) o_X11_pour rfl fk_C_13_0 (Wp.r_iload (pc := 132) o_X11_pour rfl rfl (Wp.r_iload (pc := 134) o_X11_pour rfl rfl (Wp.run 1 (show room8 [] ∧ (¬ a2 < 0 ∧ ¬ a4 < 0 ∧ ¬ a5 < 0 ∧ a2.toNatClampNeg + a5.toNatClampNeg ≤ 60 ∧ a4.toNatClampNeg + a5.toNatClampNeg ≤ 60) ∧ Y_X11_pour d Q 139 [(7, .ref 13), (6, .ref 10), (0, .ref 0), (1, .int a1), (2, .int a2), (3, .int a3), (4, .int a4), (5, .int a5)] [] (pB s72 17 (va_cpy (s72.2 14) (s72.2 17) a2.toNatClampNeg a4.toNatClampNeg a5.toNatClampNeg)) from ⟨rm8_ rfl, c9, ?_⟩))))))))
                          refine Wp.r_aload_n0 (pc := 139) o_X11_pour rfl rfl (Wp.r_cv1 (pc := 140) o_X11_pour rfl fk_C_0_0 (⟨rm8_ rfl, ?_⟩))
                          refine w_X11_granted (d := d + 1)  ?_
                          refine oq_bd H (fun r75 s76 H => ?_)
                          obtain ⟨c9, H⟩ := oq_ck H
                          exact Wp.r_ireturn (pc := 143) o_X11_pour rfl (⟨b01_n c9, H⟩)
                    · have H := oq_f c9 H
                      refine Wp.r_aload_n0 (pc := 85) o_X11_pour rfl rfl (Wp.r_bipush (pc := 86) o_X11_pour rfl (Wp.r_cv2 (pc := 88) o_X11_pour rfl fk_C_0_0 (⟨rm8_ rfl, ?_⟩)))
                      refine w_X11_refused (d := d + 1) _ ?_
                      refine oq_bd H (fun r77 s78 H => ?_)
                      obtain ⟨c9, H⟩ := oq_ck H
                      exact Wp.r_ireturn (pc := 91) o_X11_pour rfl (⟨b01_n c9, H⟩)
            · have ek13 := e9
              have H := oq_sel4_1 (i := a1) e9 H
              obtain ⟨c9, H⟩ := oq_ck H
              refine Wp.r_astore (pc := 40) o_X11_pour rfl (Wp.f_al0_gfr (pc := 42) o_X11_pour rfl rfl rfl fk_C_0_1 (Wp.r_iload_n3 (pc := 46) o_X11_pour rfl rfl (Wp.run 1 (show vp_in a3 4 ∧ (a3 = nI 0 → Y_X11_pour d Q 48 [(6, .ref 11), (0, .ref 0), (1, .int a1), (2, .int a2), (3, .int a3), (4, .int a4), (5, .int a5)] [.ref 10] s6) ∧ (a3 = nI 1 → Y_X11_pour d Q 48 [(6, .ref 11), (0, .ref 0), (1, .int a1), (2, .int a2), (3, .int a3), (4, .int a4), (5, .int a5)] [.ref 11] s6) ∧ (a3 = nI 2 → Y_X11_pour d Q 48 [(6, .ref 11), (0, .ref 0), (1, .int a1), (2, .int a2), (3, .int a3), (4, .int a4), (5, .int a5)] [.ref 12] s6) ∧ (a3 = nI 3 → Y_X11_pour d Q 48 [(6, .ref 11), (0, .ref 0), (1, .int a1), (2, .int a2), (3, .int a3), (4, .int a4), (5, .int a5)] [.ref 13] s6) ∧ True from ⟨c9, fun e9 => ?_, fun e9 => ?_, fun e9 => ?_, fun e9 => ?_, trivial⟩))))
              · have ek79 := e9
                have H := oq_sel4_0 (i := a3) e9 H
                refine Wp.r_astore (pc := 48) o_X11_pour rfl (Wp.r_aload (pc := 50) o_X11_pour rfl rfl (Wp.r_gfi (pc := 52) o_X11_pour rfl fk_C_11_1 (Wp.r_if_eq (pc := 55) o_X11_pour rfl (fun c9 => ?_) (fun c9 => ?_))))
                · have H := oq_t c9 H
                  refine Wp.f_al0_iconst (pc := 66) o_X11_pour rfl rfl rfl (Wp.r_cv2 (pc := 68) o_X11_pour rfl fk_C_0_0 (⟨rm8_ rfl, ?_⟩))
                  refine w_X11_refused (d := d + 1) _ ?_
                  refine oq_bd H (fun r80 s81 H => ?_)
                  obtain ⟨c9, H⟩ := oq_ck H
                  exact Wp.r_ireturn (pc := 71) o_X11_pour rfl (⟨b01_n c9, H⟩)
                · have H := oq_f c9 H
                  refine Wp.r_aload (pc := 58) o_X11_pour rfl rfl (Wp.r_gfi (pc := 60) o_X11_pour rfl fk_C_10_1 (Wp.r_if_ne (pc := 63) o_X11_pour rfl (fun c9 => ?_) (fun c9 => ?_)))
                  · have H := oq_t c9 H
                    refine Wp.f_al0_iconst (pc := 66) o_X11_pour rfl rfl rfl (Wp.r_cv2 (pc := 68) o_X11_pour rfl fk_C_0_0 (⟨rm8_ rfl, ?_⟩))
                    refine w_X11_refused (d := d + 1) _ ?_
                    refine oq_bd H (fun r82 s83 H => ?_)
                    obtain ⟨c9, H⟩ := oq_ck H
                    exact Wp.r_ireturn (pc := 71) o_X11_pour rfl (⟨b01_n c9, H⟩)
                  · have H := oq_f c9 H
                    refine Wp.r_aload (pc := 72) o_X11_pour rfl rfl (Wp.r_gfi (pc := 74) o_X11_pour rfl fk_C_11_2 (Wp.r_aload (pc := 77) o_X11_pour rfl rfl (Wp.r_gfi (pc := 79) o_X11_pour rfl fk_C_10_2 (Wp.r_icmp_eq (pc := 82) o_X11_pour rfl (fun c9 => ?_) (fun c9 => ?_)))))
                    · have H := oq_t c9 H
                      refine Wp.r_aload (pc := 92) o_X11_pour rfl rfl (Wp.r_iload_n2 (pc := 94) o_X11_pour rfl rfl (Wp.r_iload (pc := 95) o_X11_pour rfl rfl (Wp.r_cv3 (pc := 97) o_X11_pour rfl fk_C_11_0 (⟨rm8_ rfl, ?_⟩))))
                      refine w_X8_reachesTo_11 (d := d + 1) _ _ ?_
                      refine oq_bd H (fun r84 s85 H => ?_)
                      refine Wp.r_if_eq (pc := 100) o_X11_pour rfl (fun c9 => ?_) (fun c9 => ?_)
                      · have H := oq_t c9 H
                        refine Wp.f_al0_iconst (pc := 115) o_X11_pour rfl rfl rfl (Wp.r_cv2 (pc := 117) o_X11_pour rfl fk_C_0_0 (⟨rm8_ rfl, ?_⟩))
                        refine w_X11_refused (d := d + 1) _ ?_
                        refine oq_bd H (fun r86 s87 H => ?_)
                        obtain ⟨c9, H⟩ := oq_ck H
                        exact Wp.r_ireturn (pc := 120) o_X11_pour rfl (⟨b01_n c9, H⟩)
                      · have H := oq_f c9 H
                        refine Wp.r_aload (pc := 103) o_X11_pour rfl rfl (Wp.r_iload (pc := 105) o_X11_pour rfl rfl (Wp.r_iload (pc := 107) o_X11_pour rfl rfl (Wp.r_cv3 (pc := 109) o_X11_pour rfl fk_C_10_0 (⟨rm8_ rfl, ?_⟩))))
                        refine w_X8_reachesTo_10 (d := d + 1) _ _ ?_
                        refine oq_bd H (fun r88 s89 H => ?_)
                        refine Wp.r_if_ne (pc := 112) o_X11_pour rfl (fun c9 => ?_) (fun c9 => ?_)
                        · have H := oq_t c9 H
                          refine Wp.f_al0_iconst (pc := 115) o_X11_pour rfl rfl rfl (Wp.r_cv2 (pc := 117) o_X11_pour rfl fk_C_0_0 (⟨rm8_ rfl, ?_⟩))
                          refine w_X11_refused (d := d + 1) _ ?_
                          refine oq_bd H (fun r90 s91 H => ?_)
                          obtain ⟨c9, H⟩ := oq_ck H
                          exact Wp.r_ireturn (pc := 120) o_X11_pour rfl (⟨b01_n c9, H⟩)
                        · have H := oq_f c9 H
                          obtain ⟨c9, H⟩ := oq_ck H
                          refine Wp.r_aload (pc := 121) o_X11_pour rfl rfl (Wp.r_gfr (pc := 123) o_X11_pour rfl fk_C_11_0 (Wp.r_iload_n2 (pc := 126) o_X11_pour rfl rfl (Wp.r_aload (pc := 127) o_X11_pour rfl rfl (Wp.r_gfr (pc := 129) o_X11_pour rfl fk_C_10_0 (Wp.r_iload (pc := 132) o_X11_pour rfl rfl (Wp.r_iload (pc := 134) o_X11_pour rfl rfl (Wp.run 1 (show room8 [] ∧ (¬ a2 < 0 ∧ ¬ a4 < 0 ∧ ¬ a5 < 0 ∧ a2.toNatClampNeg + a5.toNatClampNeg ≤ 60 ∧ a4.toNatClampNeg + a5.toNatClampNeg ≤ 60) ∧ Y_X11_pour d Q 139 [(7, .ref 10), (6, .ref 11), (0, .ref 0), (1, .int a1), (2, .int a2), (3, .int a3), (4, .int a4), (5, .int a5)] [] (pB s89 14 (va_cpy (s89.2 15) (s89.2 14) a2.toNatClampNeg a4.toNatClampNeg a5.toNatClampNeg)) from ⟨rm8_ rfl, c9, ?_⟩))))))))
                          refine Wp.r_aload_n0 (pc := 139) o_X11_pour rfl rfl (Wp.r_cv1 (pc := 140) o_X11_pour rfl fk_C_0_0 (⟨rm8_ rfl, ?_⟩))
                          refine w_X11_granted (d := d + 1)  ?_
                          refine oq_bd H (fun r92 s93 H => ?_)
                          obtain ⟨c9, H⟩ := oq_ck H
                          exact Wp.r_ireturn (pc := 143) o_X11_pour rfl (⟨b01_n c9, H⟩)
                    · have H := oq_f c9 H
                      refine Wp.r_aload_n0 (pc := 85) o_X11_pour rfl rfl (Wp.r_bipush (pc := 86) o_X11_pour rfl (Wp.r_cv2 (pc := 88) o_X11_pour rfl fk_C_0_0 (⟨rm8_ rfl, ?_⟩)))
                      refine w_X11_refused (d := d + 1) _ ?_
                      refine oq_bd H (fun r94 s95 H => ?_)
                      obtain ⟨c9, H⟩ := oq_ck H
                      exact Wp.r_ireturn (pc := 91) o_X11_pour rfl (⟨b01_n c9, H⟩)
              · have ek79 := e9
                have H := oq_sel4_1 (i := a3) e9 H
                refine Wp.r_astore (pc := 48) o_X11_pour rfl (Wp.r_aload (pc := 50) o_X11_pour rfl rfl (Wp.r_gfi (pc := 52) o_X11_pour rfl fk_C_11_1 (Wp.r_if_eq (pc := 55) o_X11_pour rfl (fun c9 => ?_) (fun c9 => ?_))))
                · have H := oq_t c9 H
                  refine Wp.f_al0_iconst (pc := 66) o_X11_pour rfl rfl rfl (Wp.r_cv2 (pc := 68) o_X11_pour rfl fk_C_0_0 (⟨rm8_ rfl, ?_⟩))
                  refine w_X11_refused (d := d + 1) _ ?_
                  refine oq_bd H (fun r96 s97 H => ?_)
                  obtain ⟨c9, H⟩ := oq_ck H
                  exact Wp.r_ireturn (pc := 71) o_X11_pour rfl (⟨b01_n c9, H⟩)
                · have H := oq_f c9 H
                  refine Wp.r_aload (pc := 58) o_X11_pour rfl rfl (Wp.r_gfi (pc := 60) o_X11_pour rfl fk_C_11_1 (Wp.r_if_ne (pc := 63) o_X11_pour rfl (fun c9 => ?_) (fun c9 => ?_)))
                  · have H := oq_t c9 H
                    refine Wp.f_al0_iconst (pc := 66) o_X11_pour rfl rfl rfl (Wp.r_cv2 (pc := 68) o_X11_pour rfl fk_C_0_0 (⟨rm8_ rfl, ?_⟩))
                    refine w_X11_refused (d := d + 1) _ ?_
                    refine oq_bd H (fun r98 s99 H => ?_)
                    obtain ⟨c9, H⟩ := oq_ck H
                    exact Wp.r_ireturn (pc := 71) o_X11_pour rfl (⟨b01_n c9, H⟩)
                  · have H := oq_f c9 H
                    refine Wp.r_aload (pc := 72) o_X11_pour rfl rfl (Wp.r_gfi (pc := 74) o_X11_pour rfl fk_C_11_2 (Wp.r_aload (pc := 77) o_X11_pour rfl rfl (Wp.r_gfi (pc := 79) o_X11_pour rfl fk_C_11_2 (Wp.r_icmp_eq (pc := 82) o_X11_pour rfl (fun c9 => ?_) (fun c9 => ?_)))))
                    · have H := oq_t c9 H
                      refine Wp.r_aload (pc := 92) o_X11_pour rfl rfl (Wp.r_iload_n2 (pc := 94) o_X11_pour rfl rfl (Wp.r_iload (pc := 95) o_X11_pour rfl rfl (Wp.r_cv3 (pc := 97) o_X11_pour rfl fk_C_11_0 (⟨rm8_ rfl, ?_⟩))))
                      refine w_X8_reachesTo_11 (d := d + 1) _ _ ?_
                      refine oq_bd H (fun r100 s101 H => ?_)
                      refine Wp.r_if_eq (pc := 100) o_X11_pour rfl (fun c9 => ?_) (fun c9 => ?_)
                      · have H := oq_t c9 H
                        refine Wp.f_al0_iconst (pc := 115) o_X11_pour rfl rfl rfl (Wp.r_cv2 (pc := 117) o_X11_pour rfl fk_C_0_0 (⟨rm8_ rfl, ?_⟩))
                        refine w_X11_refused (d := d + 1) _ ?_
                        refine oq_bd H (fun r102 s103 H => ?_)
                        obtain ⟨c9, H⟩ := oq_ck H
                        exact Wp.r_ireturn (pc := 120) o_X11_pour rfl (⟨b01_n c9, H⟩)
                      · have H := oq_f c9 H
                        refine Wp.r_aload (pc := 103) o_X11_pour rfl rfl (Wp.r_iload (pc := 105) o_X11_pour rfl rfl (Wp.r_iload (pc := 107) o_X11_pour rfl rfl (Wp.r_cv3 (pc := 109) o_X11_pour rfl fk_C_11_0 (⟨rm8_ rfl, ?_⟩))))
                        refine w_X8_reachesTo_11 (d := d + 1) _ _ ?_
                        refine oq_bd H (fun r104 s105 H => ?_)
                        refine Wp.r_if_ne (pc := 112) o_X11_pour rfl (fun c9 => ?_) (fun c9 => ?_)
                        · have H := oq_t c9 H
                          refine Wp.f_al0_iconst (pc := 115) o_X11_pour rfl rfl rfl (Wp.r_cv2 (pc := 117) o_X11_pour rfl fk_C_0_0 (⟨rm8_ rfl, ?_⟩))
                          refine w_X11_refused (d := d + 1) _ ?_
                          refine oq_bd H (fun r106 s107 H => ?_)
                          obtain ⟨c9, H⟩ := oq_ck H
                          exact Wp.r_ireturn (pc := 120) o_X11_pour rfl (⟨b01_n c9, H⟩)
                        · have H := oq_f c9 H
                          obtain ⟨c9, H⟩ := oq_ck H
                          refine Wp.r_aload (pc := 121) o_X11_pour rfl rfl (Wp.r_gfr (pc := 123) o_X11_pour rfl fk_C_11_0 (Wp.r_iload_n2 (pc := 126) o_X11_pour rfl rfl (Wp.r_aload (pc := 127) o_X11_pour rfl rfl (Wp.r_gfr (pc := 129) o_X11_pour rfl fk_C_11_0 (Wp.r_iload (pc := 132) o_X11_pour rfl rfl (Wp.r_iload (pc := 134) o_X11_pour rfl rfl (Wp.run 1 (show room8 [] ∧ (¬ a2 < 0 ∧ ¬ a4 < 0 ∧ ¬ a5 < 0 ∧ a2.toNatClampNeg + a5.toNatClampNeg ≤ 60 ∧ a4.toNatClampNeg + a5.toNatClampNeg ≤ 60) ∧ Y_X11_pour d Q 139 [(7, .ref 11), (6, .ref 11), (0, .ref 0), (1, .int a1), (2, .int a2), (3, .int a3), (4, .int a4), (5, .int a5)] [] (pB s105 15 (va_cpy (s105.2 15) (s105.2 15) a2.toNatClampNeg a4.toNatClampNeg a5.toNatClampNeg)) from ⟨rm8_ rfl, c9, ?_⟩))))))))
                          refine Wp.r_aload_n0 (pc := 139) o_X11_pour rfl rfl (Wp.r_cv1 (pc := 140) o_X11_pour rfl fk_C_0_0 (⟨rm8_ rfl, ?_⟩))
                          refine w_X11_granted (d := d + 1)  ?_
                          refine oq_bd H (fun r108 s109 H => ?_)
                          obtain ⟨c9, H⟩ := oq_ck H
                          exact Wp.r_ireturn (pc := 143) o_X11_pour rfl (⟨b01_n c9, H⟩)
                    · have H := oq_f c9 H
                      refine Wp.r_aload_n0 (pc := 85) o_X11_pour rfl rfl (Wp.r_bipush (pc := 86) o_X11_pour rfl (Wp.r_cv2 (pc := 88) o_X11_pour rfl fk_C_0_0 (⟨rm8_ rfl, ?_⟩)))
                      refine w_X11_refused (d := d + 1) _ ?_
                      refine oq_bd H (fun r110 s111 H => ?_)
                      obtain ⟨c9, H⟩ := oq_ck H
                      exact Wp.r_ireturn (pc := 91) o_X11_pour rfl (⟨b01_n c9, H⟩)
              · have ek79 := e9
                have H := oq_sel4_2 (i := a3) e9 H
                refine Wp.r_astore (pc := 48) o_X11_pour rfl (Wp.r_aload (pc := 50) o_X11_pour rfl rfl (Wp.r_gfi (pc := 52) o_X11_pour rfl fk_C_11_1 (Wp.r_if_eq (pc := 55) o_X11_pour rfl (fun c9 => ?_) (fun c9 => ?_))))
                · have H := oq_t c9 H
                  refine Wp.f_al0_iconst (pc := 66) o_X11_pour rfl rfl rfl (Wp.r_cv2 (pc := 68) o_X11_pour rfl fk_C_0_0 (⟨rm8_ rfl, ?_⟩))
                  refine w_X11_refused (d := d + 1) _ ?_
                  refine oq_bd H (fun r112 s113 H => ?_)
                  obtain ⟨c9, H⟩ := oq_ck H
                  exact Wp.r_ireturn (pc := 71) o_X11_pour rfl (⟨b01_n c9, H⟩)
                · have H := oq_f c9 H
                  refine Wp.r_aload (pc := 58) o_X11_pour rfl rfl (Wp.r_gfi (pc := 60) o_X11_pour rfl fk_C_12_1 (Wp.r_if_ne (pc := 63) o_X11_pour rfl (fun c9 => ?_) (fun c9 => ?_)))
                  · have H := oq_t c9 H
                    refine Wp.f_al0_iconst (pc := 66) o_X11_pour rfl rfl rfl (Wp.r_cv2 (pc := 68) o_X11_pour rfl fk_C_0_0 (⟨rm8_ rfl, ?_⟩))
                    refine w_X11_refused (d := d + 1) _ ?_
                    refine oq_bd H (fun r114 s115 H => ?_)
                    obtain ⟨c9, H⟩ := oq_ck H
                    exact Wp.r_ireturn (pc := 71) o_X11_pour rfl (⟨b01_n c9, H⟩)
                  · have H := oq_f c9 H
                    refine Wp.r_aload (pc := 72) o_X11_pour rfl rfl (Wp.r_gfi (pc := 74) o_X11_pour rfl fk_C_11_2 (Wp.r_aload (pc := 77) o_X11_pour rfl rfl (Wp.r_gfi (pc := 79) o_X11_pour rfl fk_C_12_2 (Wp.r_icmp_eq (pc := 82) o_X11_pour rfl (fun c9 => ?_) (fun c9 => ?_)))))
                    · have H := oq_t c9 H
                      refine Wp.r_aload (pc := 92) o_X11_pour rfl rfl (Wp.r_iload_n2 (pc := 94) o_X11_pour rfl rfl (Wp.r_iload (pc := 95) o_X11_pour rfl rfl (Wp.r_cv3 (pc := 97) o_X11_pour rfl fk_C_11_0 (⟨rm8_ rfl, ?_⟩))))
                      refine w_X8_reachesTo_11 (d := d + 1) _ _ ?_
                      refine oq_bd H (fun r116 s117 H => ?_)
                      refine Wp.r_if_eq (pc := 100) o_X11_pour rfl (fun c9 => ?_) (fun c9 => ?_)
                      · have H := oq_t c9 H
                        refine Wp.f_al0_iconst (pc := 115) o_X11_pour rfl rfl rfl (Wp.r_cv2 (pc := 117) o_X11_pour rfl fk_C_0_0 (⟨rm8_ rfl, ?_⟩))
                        refine w_X11_refused (d := d + 1) _ ?_
                        refine oq_bd H (fun r118 s119 H => ?_)
                        obtain ⟨c9, H⟩ := oq_ck H
                        exact Wp.r_ireturn (pc := 120) o_X11_pour rfl (⟨b01_n c9, H⟩)
                      · have H := oq_f c9 H
                        refine Wp.r_aload (pc := 103) o_X11_pour rfl rfl (Wp.r_iload (pc := 105) o_X11_pour rfl rfl (Wp.r_iload (pc := 107) o_X11_pour rfl rfl (Wp.r_cv3 (pc := 109) o_X11_pour rfl fk_C_12_0 (⟨rm8_ rfl, ?_⟩))))
                        refine w_X8_reachesTo_12 (d := d + 1) _ _ ?_
                        refine oq_bd H (fun r120 s121 H => ?_)
                        refine Wp.r_if_ne (pc := 112) o_X11_pour rfl (fun c9 => ?_) (fun c9 => ?_)
                        · have H := oq_t c9 H
                          refine Wp.f_al0_iconst (pc := 115) o_X11_pour rfl rfl rfl (Wp.r_cv2 (pc := 117) o_X11_pour rfl fk_C_0_0 (⟨rm8_ rfl, ?_⟩))
                          refine w_X11_refused (d := d + 1) _ ?_
                          refine oq_bd H (fun r122 s123 H => ?_)
                          obtain ⟨c9, H⟩ := oq_ck H
                          exact Wp.r_ireturn (pc := 120) o_X11_pour rfl (⟨b01_n c9, H⟩)
                        · have H := oq_f c9 H
                          obtain ⟨c9, H⟩ := oq_ck H
                          refine Wp.r_aload (pc := 121) o_X11_pour rfl rfl (Wp.r_gfr (pc := 123) o_X11_pour rfl fk_C_11_0 (Wp.r_iload_n2 (pc := 126) o_X11_pour rfl rfl (Wp.r_aload (pc := 127) o_X11_pour rfl rfl (Wp.r_gfr (pc := 129) o_X11_pour rfl fk_C_12_0 (Wp.r_iload (pc := 132) o_X11_pour rfl rfl (Wp.r_iload (pc := 134) o_X11_pour rfl rfl (Wp.run 1 (show room8 [] ∧ (¬ a2 < 0 ∧ ¬ a4 < 0 ∧ ¬ a5 < 0 ∧ a2.toNatClampNeg + a5.toNatClampNeg ≤ 60 ∧ a4.toNatClampNeg + a5.toNatClampNeg ≤ 60) ∧ Y_X11_pour d Q 139 [(7, .ref 12), (6, .ref 11), (0, .ref 0), (1, .int a1), (2, .int a2), (3, .int a3), (4, .int a4), (5, .int a5)] [] (pB s121 16 (va_cpy (s121.2 15) (s121.2 16) a2.toNatClampNeg a4.toNatClampNeg a5.toNatClampNeg)) from ⟨rm8_ rfl, c9, ?_⟩))))))))
                          refine Wp.r_aload_n0 (pc := 139) o_X11_pour rfl rfl (Wp.r_cv1 (pc := 140) o_X11_pour rfl fk_C_0_0 (⟨rm8_ rfl, ?_⟩))
                          refine w_X11_granted (d := d + 1)  ?_
                          refine oq_bd H (fun r124 s125 H => ?_)
                          obtain ⟨c9, H⟩ := oq_ck H
                          exact Wp.r_ireturn (pc := 143) o_X11_pour rfl (⟨b01_n c9, H⟩)
                    · have H := oq_f c9 H
                      refine Wp.r_aload_n0 (pc := 85) o_X11_pour rfl rfl (Wp.r_bipush (pc := 86) o_X11_pour rfl (Wp.r_cv2 (pc := 88) o_X11_pour rfl fk_C_0_0 (⟨rm8_ rfl, ?_⟩)))
                      refine w_X11_refused (d := d + 1) _ ?_
                      refine oq_bd H (fun r126 s127 H => ?_)
                      obtain ⟨c9, H⟩ := oq_ck H
                      exact Wp.r_ireturn (pc := 91) o_X11_pour rfl (⟨b01_n c9, H⟩)
              · have ek79 := e9
                have H := oq_sel4_3 (i := a3) e9 H
                refine Wp.r_astore (pc := 48) o_X11_pour rfl (Wp.r_aload (pc := 50) o_X11_pour rfl rfl (Wp.r_gfi (pc := 52) o_X11_pour rfl fk_C_11_1 (Wp.r_if_eq (pc := 55) o_X11_pour rfl (fun c9 => ?_) (fun c9 => ?_))))
                · have H := oq_t c9 H
                  refine Wp.f_al0_iconst (pc := 66) o_X11_pour rfl rfl rfl (Wp.r_cv2 (pc := 68) o_X11_pour rfl fk_C_0_0 (⟨rm8_ rfl, ?_⟩))
                  refine w_X11_refused (d := d + 1) _ ?_
                  refine oq_bd H (fun r128 s129 H => ?_)
                  obtain ⟨c9, H⟩ := oq_ck H
                  exact Wp.r_ireturn (pc := 71) o_X11_pour rfl (⟨b01_n c9, H⟩)
                · have H := oq_f c9 H
                  refine Wp.r_aload (pc := 58) o_X11_pour rfl rfl (Wp.r_gfi (pc := 60) o_X11_pour rfl fk_C_13_1 (Wp.r_if_ne (pc := 63) o_X11_pour rfl (fun c9 => ?_) (fun c9 => ?_)))
                  · have H := oq_t c9 H
                    refine Wp.f_al0_iconst (pc := 66) o_X11_pour rfl rfl rfl (Wp.r_cv2 (pc := 68) o_X11_pour rfl fk_C_0_0 (⟨rm8_ rfl, ?_⟩))
                    refine w_X11_refused (d := d + 1) _ ?_
                    refine oq_bd H (fun r130 s131 H => ?_)
                    obtain ⟨c9, H⟩ := oq_ck H
                    exact Wp.r_ireturn (pc := 71) o_X11_pour rfl (⟨b01_n c9, H⟩)
                  · have H := oq_f c9 H
                    refine Wp.r_aload (pc := 72) o_X11_pour rfl rfl (Wp.r_gfi (pc := 74) o_X11_pour rfl fk_C_11_2 (Wp.r_aload (pc := 77) o_X11_pour rfl rfl (Wp.r_gfi (pc := 79) o_X11_pour rfl fk_C_13_2 (Wp.r_icmp_eq (pc := 82) o_X11_pour rfl (fun c9 => ?_) (fun c9 => ?_)))))
                    · have H := oq_t c9 H
                      refine Wp.r_aload (pc := 92) o_X11_pour rfl rfl (Wp.r_iload_n2 (pc := 94) o_X11_pour rfl rfl (Wp.r_iload (pc := 95) o_X11_pour rfl rfl (Wp.r_cv3 (pc := 97) o_X11_pour rfl fk_C_11_0 (⟨rm8_ rfl, ?_⟩))))
                      refine w_X8_reachesTo_11 (d := d + 1) _ _ ?_
                      refine oq_bd H (fun r132 s133 H => ?_)
                      refine Wp.r_if_eq (pc := 100) o_X11_pour rfl (fun c9 => ?_) (fun c9 => ?_)
                      · have H := oq_t c9 H
                        refine Wp.f_al0_iconst (pc := 115) o_X11_pour rfl rfl rfl (Wp.r_cv2 (pc := 117) o_X11_pour rfl fk_C_0_0 (⟨rm8_ rfl, ?_⟩))
                        refine w_X11_refused (d := d + 1) _ ?_
                        refine oq_bd H (fun r134 s135 H => ?_)
                        obtain ⟨c9, H⟩ := oq_ck H
                        exact Wp.r_ireturn (pc := 120) o_X11_pour rfl (⟨b01_n c9, H⟩)
                      · have H := oq_f c9 H
                        refine Wp.r_aload (pc := 103) o_X11_pour rfl rfl (Wp.r_iload (pc := 105) o_X11_pour rfl rfl (Wp.r_iload (pc := 107) o_X11_pour rfl rfl (Wp.r_cv3 (pc := 109) o_X11_pour rfl fk_C_13_0 (⟨rm8_ rfl, ?_⟩))))
                        refine w_X8_reachesTo_13 (d := d + 1) _ _ ?_
                        refine oq_bd H (fun r136 s137 H => ?_)
                        refine Wp.r_if_ne (pc := 112) o_X11_pour rfl (fun c9 => ?_) (fun c9 => ?_)
                        · have H := oq_t c9 H
                          refine Wp.f_al0_iconst (pc := 115) o_X11_pour rfl rfl rfl (Wp.r_cv2 (pc := 117) o_X11_pour rfl fk_C_0_0 (⟨rm8_ rfl, ?_⟩))
                          refine w_X11_refused (d := d + 1) _ ?_
                          refine oq_bd H (fun r138 s139 H => ?_)
                          obtain ⟨c9, H⟩ := oq_ck H
                          exact Wp.r_ireturn (pc := 120) o_X11_pour rfl (⟨b01_n c9, H⟩)
                        · have H := oq_f c9 H
                          obtain ⟨c9, H⟩ := oq_ck H
                          refine Wp.r_aload (pc := 121) o_X11_pour rfl rfl (Wp.r_gfr (pc := 123) o_X11_pour rfl fk_C_11_0 (Wp.r_iload_n2 (pc := 126) o_X11_pour rfl rfl (Wp.r_aload (pc := 127) o_X11_pour rfl rfl (Wp.r_gfr (pc := 129) o_X11_pour rfl fk_C_13_0 (Wp.r_iload (pc := 132) o_X11_pour rfl rfl (Wp.r_iload (pc := 134) o_X11_pour rfl rfl (Wp.run 1 (show room8 [] ∧ (¬ a2 < 0 ∧ ¬ a4 < 0 ∧ ¬ a5 < 0 ∧ a2.toNatClampNeg + a5.toNatClampNeg ≤ 60 ∧ a4.toNatClampNeg + a5.toNatClampNeg ≤ 60) ∧ Y_X11_pour d Q 139 [(7, .ref 13), (6, .ref 11), (0, .ref 0), (1, .int a1), (2, .int a2), (3, .int a3), (4, .int a4), (5, .int a5)] [] (pB s137 17 (va_cpy (s137.2 15) (s137.2 17) a2.toNatClampNeg a4.toNatClampNeg a5.toNatClampNeg)) from ⟨rm8_ rfl, c9, ?_⟩))))))))
                          refine Wp.r_aload_n0 (pc := 139) o_X11_pour rfl rfl (Wp.r_cv1 (pc := 140) o_X11_pour rfl fk_C_0_0 (⟨rm8_ rfl, ?_⟩))
                          refine w_X11_granted (d := d + 1)  ?_
                          refine oq_bd H (fun r140 s141 H => ?_)
                          obtain ⟨c9, H⟩ := oq_ck H
                          exact Wp.r_ireturn (pc := 143) o_X11_pour rfl (⟨b01_n c9, H⟩)
                    · have H := oq_f c9 H
                      refine Wp.r_aload_n0 (pc := 85) o_X11_pour rfl rfl (Wp.r_bipush (pc := 86) o_X11_pour rfl (Wp.r_cv2 (pc := 88) o_X11_pour rfl fk_C_0_0 (⟨rm8_ rfl, ?_⟩)))
                      refine w_X11_refused (d := d + 1) _ ?_
                      refine oq_bd H (fun r142 s143 H => ?_)
                      obtain ⟨c9, H⟩ := oq_ck H
                      exact Wp.r_ireturn (pc := 91) o_X11_pour rfl (⟨b01_n c9, H⟩)
            · have ek13 := e9
              have H := oq_sel4_2 (i := a1) e9 H
              obtain ⟨c9, H⟩ := oq_ck H
              refine Wp.r_astore (pc := 40) o_X11_pour rfl (Wp.f_al0_gfr (pc := 42) o_X11_pour rfl rfl rfl fk_C_0_1 (Wp.r_iload_n3 (pc := 46) o_X11_pour rfl rfl (Wp.run 1 (show vp_in a3 4 ∧ (a3 = nI 0 → Y_X11_pour d Q 48 [(6, .ref 12), (0, .ref 0), (1, .int a1), (2, .int a2), (3, .int a3), (4, .int a4), (5, .int a5)] [.ref 10] s6) ∧ (a3 = nI 1 → Y_X11_pour d Q 48 [(6, .ref 12), (0, .ref 0), (1, .int a1), (2, .int a2), (3, .int a3), (4, .int a4), (5, .int a5)] [.ref 11] s6) ∧ (a3 = nI 2 → Y_X11_pour d Q 48 [(6, .ref 12), (0, .ref 0), (1, .int a1), (2, .int a2), (3, .int a3), (4, .int a4), (5, .int a5)] [.ref 12] s6) ∧ (a3 = nI 3 → Y_X11_pour d Q 48 [(6, .ref 12), (0, .ref 0), (1, .int a1), (2, .int a2), (3, .int a3), (4, .int a4), (5, .int a5)] [.ref 13] s6) ∧ True from ⟨c9, fun e9 => ?_, fun e9 => ?_, fun e9 => ?_, fun e9 => ?_, trivial⟩))))
              · have ek144 := e9
                have H := oq_sel4_0 (i := a3) e9 H
                refine Wp.r_astore (pc := 48) o_X11_pour rfl (Wp.r_aload (pc := 50) o_X11_pour rfl rfl (Wp.r_gfi (pc := 52) o_X11_pour rfl fk_C_12_1 (Wp.r_if_eq (pc := 55) o_X11_pour rfl (fun c9 => ?_) (fun c9 => ?_))))
                · have H := oq_t c9 H
                  refine Wp.f_al0_iconst (pc := 66) o_X11_pour rfl rfl rfl (Wp.r_cv2 (pc := 68) o_X11_pour rfl fk_C_0_0 (⟨rm8_ rfl, ?_⟩))
                  refine w_X11_refused (d := d + 1) _ ?_
                  refine oq_bd H (fun r145 s146 H => ?_)
                  obtain ⟨c9, H⟩ := oq_ck H
                  exact Wp.r_ireturn (pc := 71) o_X11_pour rfl (⟨b01_n c9, H⟩)
                · have H := oq_f c9 H
                  refine Wp.r_aload (pc := 58) o_X11_pour rfl rfl (Wp.r_gfi (pc := 60) o_X11_pour rfl fk_C_10_1 (Wp.r_if_ne (pc := 63) o_X11_pour rfl (fun c9 => ?_) (fun c9 => ?_)))
                  · have H := oq_t c9 H
                    refine Wp.f_al0_iconst (pc := 66) o_X11_pour rfl rfl rfl (Wp.r_cv2 (pc := 68) o_X11_pour rfl fk_C_0_0 (⟨rm8_ rfl, ?_⟩))
                    refine w_X11_refused (d := d + 1) _ ?_
                    refine oq_bd H (fun r147 s148 H => ?_)
                    obtain ⟨c9, H⟩ := oq_ck H
                    exact Wp.r_ireturn (pc := 71) o_X11_pour rfl (⟨b01_n c9, H⟩)
                  · have H := oq_f c9 H
                    refine Wp.r_aload (pc := 72) o_X11_pour rfl rfl (Wp.r_gfi (pc := 74) o_X11_pour rfl fk_C_12_2 (Wp.r_aload (pc := 77) o_X11_pour rfl rfl (Wp.r_gfi (pc := 79) o_X11_pour rfl fk_C_10_2 (Wp.r_icmp_eq (pc := 82) o_X11_pour rfl (fun c9 => ?_) (fun c9 => ?_)))))
                    · have H := oq_t c9 H
                      refine Wp.r_aload (pc := 92) o_X11_pour rfl rfl (Wp.r_iload_n2 (pc := 94) o_X11_pour rfl rfl (Wp.r_iload (pc := 95) o_X11_pour rfl rfl (Wp.r_cv3 (pc := 97) o_X11_pour rfl fk_C_12_0 (⟨rm8_ rfl, ?_⟩))))
                      refine w_X8_reachesTo_12 (d := d + 1) _ _ ?_
                      refine oq_bd H (fun r149 s150 H => ?_)
                      refine Wp.r_if_eq (pc := 100) o_X11_pour rfl (fun c9 => ?_) (fun c9 => ?_)
                      · have H := oq_t c9 H
                        refine Wp.f_al0_iconst (pc := 115) o_X11_pour rfl rfl rfl (Wp.r_cv2 (pc := 117) o_X11_pour rfl fk_C_0_0 (⟨rm8_ rfl, ?_⟩))
                        refine w_X11_refused (d := d + 1) _ ?_
                        refine oq_bd H (fun r151 s152 H => ?_)
                        obtain ⟨c9, H⟩ := oq_ck H
                        exact Wp.r_ireturn (pc := 120) o_X11_pour rfl (⟨b01_n c9, H⟩)
                      · have H := oq_f c9 H
                        refine Wp.r_aload (pc := 103) o_X11_pour rfl rfl (Wp.r_iload (pc := 105) o_X11_pour rfl rfl (Wp.r_iload (pc := 107) o_X11_pour rfl rfl (Wp.r_cv3 (pc := 109) o_X11_pour rfl fk_C_10_0 (⟨rm8_ rfl, ?_⟩))))
                        refine w_X8_reachesTo_10 (d := d + 1) _ _ ?_
                        refine oq_bd H (fun r153 s154 H => ?_)
                        refine Wp.r_if_ne (pc := 112) o_X11_pour rfl (fun c9 => ?_) (fun c9 => ?_)
                        · have H := oq_t c9 H
                          refine Wp.f_al0_iconst (pc := 115) o_X11_pour rfl rfl rfl (Wp.r_cv2 (pc := 117) o_X11_pour rfl fk_C_0_0 (⟨rm8_ rfl, ?_⟩))
                          refine w_X11_refused (d := d + 1) _ ?_
                          refine oq_bd H (fun r155 s156 H => ?_)
                          obtain ⟨c9, H⟩ := oq_ck H
                          exact Wp.r_ireturn (pc := 120) o_X11_pour rfl (⟨b01_n c9, H⟩)
                        · have H := oq_f c9 H
                          obtain ⟨c9, H⟩ := oq_ck H
                          refine Wp.r_aload (pc := 121) o_X11_pour rfl rfl (Wp.r_gfr (pc := 123) o_X11_pour rfl fk_C_12_0 (Wp.r_iload_n2 (pc := 126) o_X11_pour rfl rfl (Wp.r_aload (pc := 127) o_X11_pour rfl rfl (Wp.r_gfr (pc := 129) o_X11_pour rfl fk_C_10_0 (Wp.r_iload (pc := 132) o_X11_pour rfl rfl (Wp.r_iload (pc := 134) o_X11_pour rfl rfl (Wp.run 1 (show room8 [] ∧ (¬ a2 < 0 ∧ ¬ a4 < 0 ∧ ¬ a5 < 0 ∧ a2.toNatClampNeg + a5.toNatClampNeg ≤ 60 ∧ a4.toNatClampNeg + a5.toNatClampNeg ≤ 60) ∧ Y_X11_pour d Q 139 [(7, .ref 10), (6, .ref 12), (0, .ref 0), (1, .int a1), (2, .int a2), (3, .int a3), (4, .int a4), (5, .int a5)] [] (pB s154 14 (va_cpy (s154.2 16) (s154.2 14) a2.toNatClampNeg a4.toNatClampNeg a5.toNatClampNeg)) from ⟨rm8_ rfl, c9, ?_⟩))))))))
                          refine Wp.r_aload_n0 (pc := 139) o_X11_pour rfl rfl (Wp.r_cv1 (pc := 140) o_X11_pour rfl fk_C_0_0 (⟨rm8_ rfl, ?_⟩))
                          refine w_X11_granted (d := d + 1)  ?_
                          refine oq_bd H (fun r157 s158 H => ?_)
                          obtain ⟨c9, H⟩ := oq_ck H
                          exact Wp.r_ireturn (pc := 143) o_X11_pour rfl (⟨b01_n c9, H⟩)
                    · have H := oq_f c9 H
                      refine Wp.r_aload_n0 (pc := 85) o_X11_pour rfl rfl (Wp.r_bipush (pc := 86) o_X11_pour rfl (Wp.r_cv2 (pc := 88) o_X11_pour rfl fk_C_0_0 (⟨rm8_ rfl, ?_⟩)))
                      refine w_X11_refused (d := d + 1) _ ?_
                      refine oq_bd H (fun r159 s160 H => ?_)
                      obtain ⟨c9, H⟩ := oq_ck H
                      exact Wp.r_ireturn (pc := 91) o_X11_pour rfl (⟨b01_n c9, H⟩)
              · have ek144 := e9
                have H := oq_sel4_1 (i := a3) e9 H
                refine Wp.r_astore (pc := 48) o_X11_pour rfl (Wp.r_aload (pc := 50) o_X11_pour rfl rfl (Wp.r_gfi (pc := 52) o_X11_pour rfl fk_C_12_1 (Wp.r_if_eq (pc := 55) o_X11_pour rfl (fun c9 => ?_) (fun c9 => ?_))))
                · have H := oq_t c9 H
                  refine Wp.f_al0_iconst (pc := 66) o_X11_pour rfl rfl rfl (Wp.r_cv2 (pc := 68) o_X11_pour rfl fk_C_0_0 (⟨rm8_ rfl, ?_⟩))
                  refine w_X11_refused (d := d + 1) _ ?_
                  refine oq_bd H (fun r161 s162 H => ?_)
                  obtain ⟨c9, H⟩ := oq_ck H
                  exact Wp.r_ireturn (pc := 71) o_X11_pour rfl (⟨b01_n c9, H⟩)
                · have H := oq_f c9 H
                  refine Wp.r_aload (pc := 58) o_X11_pour rfl rfl (Wp.r_gfi (pc := 60) o_X11_pour rfl fk_C_11_1 (Wp.r_if_ne (pc := 63) o_X11_pour rfl (fun c9 => ?_) (fun c9 => ?_)))
                  · have H := oq_t c9 H
                    refine Wp.f_al0_iconst (pc := 66) o_X11_pour rfl rfl rfl (Wp.r_cv2 (pc := 68) o_X11_pour rfl fk_C_0_0 (⟨rm8_ rfl, ?_⟩))
                    refine w_X11_refused (d := d + 1) _ ?_
                    refine oq_bd H (fun r163 s164 H => ?_)
                    obtain ⟨c9, H⟩ := oq_ck H
                    exact Wp.r_ireturn (pc := 71) o_X11_pour rfl (⟨b01_n c9, H⟩)
                  · have H := oq_f c9 H
                    refine Wp.r_aload (pc := 72) o_X11_pour rfl rfl (Wp.r_gfi (pc := 74) o_X11_pour rfl fk_C_12_2 (Wp.r_aload (pc := 77) o_X11_pour rfl rfl (Wp.r_gfi (pc := 79) o_X11_pour rfl fk_C_11_2 (Wp.r_icmp_eq (pc := 82) o_X11_pour rfl (fun c9 => ?_) (fun c9 => ?_)))))
                    · have H := oq_t c9 H
                      refine Wp.r_aload (pc := 92) o_X11_pour rfl rfl (Wp.r_iload_n2 (pc := 94) o_X11_pour rfl rfl (Wp.r_iload (pc := 95) o_X11_pour rfl rfl (Wp.r_cv3 (pc := 97) o_X11_pour rfl fk_C_12_0 (⟨rm8_ rfl, ?_⟩))))
                      refine w_X8_reachesTo_12 (d := d + 1) _ _ ?_
                      refine oq_bd H (fun r165 s166 H => ?_)
                      refine Wp.r_if_eq (pc := 100) o_X11_pour rfl (fun c9 => ?_) (fun c9 => ?_)
                      · have H := oq_t c9 H
                        refine Wp.f_al0_iconst (pc := 115) o_X11_pour rfl rfl rfl (Wp.r_cv2 (pc := 117) o_X11_pour rfl fk_C_0_0 (⟨rm8_ rfl, ?_⟩))
                        refine w_X11_refused (d := d + 1) _ ?_
                        refine oq_bd H (fun r167 s168 H => ?_)
                        obtain ⟨c9, H⟩ := oq_ck H
                        exact Wp.r_ireturn (pc := 120) o_X11_pour rfl (⟨b01_n c9, H⟩)
                      · have H := oq_f c9 H
                        refine Wp.r_aload (pc := 103) o_X11_pour rfl rfl (Wp.r_iload (pc := 105) o_X11_pour rfl rfl (Wp.r_iload (pc := 107) o_X11_pour rfl rfl (Wp.r_cv3 (pc := 109) o_X11_pour rfl fk_C_11_0 (⟨rm8_ rfl, ?_⟩))))
                        refine w_X8_reachesTo_11 (d := d + 1) _ _ ?_
                        refine oq_bd H (fun r169 s170 H => ?_)
                        refine Wp.r_if_ne (pc := 112) o_X11_pour rfl (fun c9 => ?_) (fun c9 => ?_)
                        · have H := oq_t c9 H
                          refine Wp.f_al0_iconst (pc := 115) o_X11_pour rfl rfl rfl (Wp.r_cv2 (pc := 117) o_X11_pour rfl fk_C_0_0 (⟨rm8_ rfl, ?_⟩))
                          refine w_X11_refused (d := d + 1) _ ?_
                          refine oq_bd H (fun r171 s172 H => ?_)
                          obtain ⟨c9, H⟩ := oq_ck H
                          exact Wp.r_ireturn (pc := 120) o_X11_pour rfl (⟨b01_n c9, H⟩)
                        · have H := oq_f c9 H
                          obtain ⟨c9, H⟩ := oq_ck H
                          refine Wp.r_aload (pc := 121) o_X11_pour rfl rfl (Wp.r_gfr (pc := 123) o_X11_pour rfl fk_C_12_0 (Wp.r_iload_n2 (pc := 126) o_X11_pour rfl rfl (Wp.r_aload (pc := 127) o_X11_pour rfl rfl (Wp.r_gfr (pc := 129) o_X11_pour rfl fk_C_11_0 (Wp.r_iload (pc := 132) o_X11_pour rfl rfl (Wp.r_iload (pc := 134) o_X11_pour rfl rfl (Wp.run 1 (show room8 [] ∧ (¬ a2 < 0 ∧ ¬ a4 < 0 ∧ ¬ a5 < 0 ∧ a2.toNatClampNeg + a5.toNatClampNeg ≤ 60 ∧ a4.toNatClampNeg + a5.toNatClampNeg ≤ 60) ∧ Y_X11_pour d Q 139 [(7, .ref 11), (6, .ref 12), (0, .ref 0), (1, .int a1), (2, .int a2), (3, .int a3), (4, .int a4), (5, .int a5)] [] (pB s170 15 (va_cpy (s170.2 16) (s170.2 15) a2.toNatClampNeg a4.toNatClampNeg a5.toNatClampNeg)) from ⟨rm8_ rfl, c9, ?_⟩))))))))
                          refine Wp.r_aload_n0 (pc := 139) o_X11_pour rfl rfl (Wp.r_cv1 (pc := 140) o_X11_pour rfl fk_C_0_0 (⟨rm8_ rfl, ?_⟩))
                          refine w_X11_granted (d := d + 1)  ?_
                          refine oq_bd H (fun r173 s174 H => ?_)
                          obtain ⟨c9, H⟩ := oq_ck H
                          exact Wp.r_ireturn (pc := 143) o_X11_pour rfl (⟨b01_n c9, H⟩)
                    · have H := oq_f c9 H
                      refine Wp.r_aload_n0 (pc := 85) o_X11_pour rfl rfl (Wp.r_bipush (pc := 86) o_X11_pour rfl (Wp.r_cv2 (pc := 88) o_X11_pour rfl fk_C_0_0 (⟨rm8_ rfl, ?_⟩)))
                      refine w_X11_refused (d := d + 1) _ ?_
                      refine oq_bd H (fun r175 s176 H => ?_)
                      obtain ⟨c9, H⟩ := oq_ck H
                      exact Wp.r_ireturn (pc := 91) o_X11_pour rfl (⟨b01_n c9, H⟩)
              · have ek144 := e9
                have H := oq_sel4_2 (i := a3) e9 H
                refine Wp.r_astore (pc := 48) o_X11_pour rfl (Wp.r_aload (pc := 50) o_X11_pour rfl rfl (Wp.r_gfi (pc := 52) o_X11_pour rfl fk_C_12_1 (Wp.r_if_eq (pc := 55) o_X11_pour rfl (fun c9 => ?_) (fun c9 => ?_))))
                · have H := oq_t c9 H
                  refine Wp.f_al0_iconst (pc := 66) o_X11_pour rfl rfl rfl (Wp.r_cv2 (pc := 68) o_X11_pour rfl fk_C_0_0 (⟨rm8_ rfl, ?_⟩))
                  refine w_X11_refused (d := d + 1) _ ?_
                  refine oq_bd H (fun r177 s178 H => ?_)
                  obtain ⟨c9, H⟩ := oq_ck H
                  exact Wp.r_ireturn (pc := 71) o_X11_pour rfl (⟨b01_n c9, H⟩)
                · have H := oq_f c9 H
                  refine Wp.r_aload (pc := 58) o_X11_pour rfl rfl (Wp.r_gfi (pc := 60) o_X11_pour rfl fk_C_12_1 (Wp.r_if_ne (pc := 63) o_X11_pour rfl (fun c9 => ?_) (fun c9 => ?_)))
                  · have H := oq_t c9 H
                    refine Wp.f_al0_iconst (pc := 66) o_X11_pour rfl rfl rfl (Wp.r_cv2 (pc := 68) o_X11_pour rfl fk_C_0_0 (⟨rm8_ rfl, ?_⟩))
                    refine w_X11_refused (d := d + 1) _ ?_
                    refine oq_bd H (fun r179 s180 H => ?_)
                    obtain ⟨c9, H⟩ := oq_ck H
                    exact Wp.r_ireturn (pc := 71) o_X11_pour rfl (⟨b01_n c9, H⟩)
                  · have H := oq_f c9 H
                    refine Wp.r_aload (pc := 72) o_X11_pour rfl rfl (Wp.r_gfi (pc := 74) o_X11_pour rfl fk_C_12_2 (Wp.r_aload (pc := 77) o_X11_pour rfl rfl (Wp.r_gfi (pc := 79) o_X11_pour rfl fk_C_12_2 (Wp.r_icmp_eq (pc := 82) o_X11_pour rfl (fun c9 => ?_) (fun c9 => ?_)))))
                    · have H := oq_t c9 H
                      refine Wp.r_aload (pc := 92) o_X11_pour rfl rfl (Wp.r_iload_n2 (pc := 94) o_X11_pour rfl rfl (Wp.r_iload (pc := 95) o_X11_pour rfl rfl (Wp.r_cv3 (pc := 97) o_X11_pour rfl fk_C_12_0 (⟨rm8_ rfl, ?_⟩))))
                      refine w_X8_reachesTo_12 (d := d + 1) _ _ ?_
                      refine oq_bd H (fun r181 s182 H => ?_)
                      refine Wp.r_if_eq (pc := 100) o_X11_pour rfl (fun c9 => ?_) (fun c9 => ?_)
                      · have H := oq_t c9 H
                        refine Wp.f_al0_iconst (pc := 115) o_X11_pour rfl rfl rfl (Wp.r_cv2 (pc := 117) o_X11_pour rfl fk_C_0_0 (⟨rm8_ rfl, ?_⟩))
                        refine w_X11_refused (d := d + 1) _ ?_
                        refine oq_bd H (fun r183 s184 H => ?_)
                        obtain ⟨c9, H⟩ := oq_ck H
                        exact Wp.r_ireturn (pc := 120) o_X11_pour rfl (⟨b01_n c9, H⟩)
                      · have H := oq_f c9 H
                        refine Wp.r_aload (pc := 103) o_X11_pour rfl rfl (Wp.r_iload (pc := 105) o_X11_pour rfl rfl (Wp.r_iload (pc := 107) o_X11_pour rfl rfl (Wp.r_cv3 (pc := 109) o_X11_pour rfl fk_C_12_0 (⟨rm8_ rfl, ?_⟩))))
                        refine w_X8_reachesTo_12 (d := d + 1) _ _ ?_
                        refine oq_bd H (fun r185 s186 H => ?_)
                        refine Wp.r_if_ne (pc := 112) o_X11_pour rfl (fun c9 => ?_) (fun c9 => ?_)
                        · have H := oq_t c9 H
                          refine Wp.f_al0_iconst (pc := 115) o_X11_pour rfl rfl rfl (Wp.r_cv2 (pc := 117) o_X11_pour rfl fk_C_0_0 (⟨rm8_ rfl, ?_⟩))
                          refine w_X11_refused (d := d + 1) _ ?_
                          refine oq_bd H (fun r187 s188 H => ?_)
                          obtain ⟨c9, H⟩ := oq_ck H
                          exact Wp.r_ireturn (pc := 120) o_X11_pour rfl (⟨b01_n c9, H⟩)
                        · have H := oq_f c9 H
                          obtain ⟨c9, H⟩ := oq_ck H
                          refine Wp.r_aload (pc := 121) o_X11_pour rfl rfl (Wp.r_gfr (pc := 123) o_X11_pour rfl fk_C_12_0 (Wp.r_iload_n2 (pc := 126) o_X11_pour rfl rfl (Wp.r_aload (pc := 127) o_X11_pour rfl rfl (Wp.r_gfr (pc := 129) o_X11_pour rfl fk_C_12_0 (Wp.r_iload (pc := 132) o_X11_pour rfl rfl (Wp.r_iload (pc := 134) o_X11_pour rfl rfl (Wp.run 1 (show room8 [] ∧ (¬ a2 < 0 ∧ ¬ a4 < 0 ∧ ¬ a5 < 0 ∧ a2.toNatClampNeg + a5.toNatClampNeg ≤ 60 ∧ a4.toNatClampNeg + a5.toNatClampNeg ≤ 60) ∧ Y_X11_pour d Q 139 [(7, .ref 12), (6, .ref 12), (0, .ref 0), (1, .int a1), (2, .int a2), (3, .int a3), (4, .int a4), (5, .int a5)] [] (pB s186 16 (va_cpy (s186.2 16) (s186.2 16) a2.toNatClampNeg a4.toNatClampNeg a5.toNatClampNeg)) from ⟨rm8_ rfl, c9, ?_⟩))))))))
                          refine Wp.r_aload_n0 (pc := 139) o_X11_pour rfl rfl (Wp.r_cv1 (pc := 140) o_X11_pour rfl fk_C_0_0 (⟨rm8_ rfl, ?_⟩))
                          refine w_X11_granted (d := d + 1)  ?_
                          refine oq_bd H (fun r189 s190 H => ?_)
                          obtain ⟨c9, H⟩ := oq_ck H
                          exact Wp.r_ireturn (pc := 143) o_X11_pour rfl (⟨b01_n c9, H⟩)
                    · have H := oq_f c9 H
                      refine Wp.r_aload_n0 (pc := 85) o_X11_pour rfl rfl (Wp.r_bipush (pc := 86) o_X11_pour rfl (Wp.r_cv2 (pc := 88) o_X11_pour rfl fk_C_0_0 (⟨rm8_ rfl, ?_⟩)))
                      refine w_X11_refused (d := d + 1) _ ?_
                      refine oq_bd H (fun r191 s192 H => ?_)
                      obtain ⟨c9, H⟩ := oq_ck H
                      exact Wp.r_ireturn (pc := 91) o_X11_pour rfl (⟨b01_n c9, H⟩)
              · have ek144 := e9
                have H := oq_sel4_3 (i := a3) e9 H
                refine Wp.r_astore (pc := 48) o_X11_pour rfl (Wp.r_aload (pc := 50) o_X11_pour rfl rfl (Wp.r_gfi (pc := 52) o_X11_pour rfl fk_C_12_1 (Wp.r_if_eq (pc := 55) o_X11_pour rfl (fun c9 => ?_) (fun c9 => ?_))))
                · have H := oq_t c9 H
                  refine Wp.f_al0_iconst (pc := 66) o_X11_pour rfl rfl rfl (Wp.r_cv2 (pc := 68) o_X11_pour rfl fk_C_0_0 (⟨rm8_ rfl, ?_⟩))
                  refine w_X11_refused (d := d + 1) _ ?_
                  refine oq_bd H (fun r193 s194 H => ?_)
                  obtain ⟨c9, H⟩ := oq_ck H
                  exact Wp.r_ireturn (pc := 71) o_X11_pour rfl (⟨b01_n c9, H⟩)
                · have H := oq_f c9 H
                  refine Wp.r_aload (pc := 58) o_X11_pour rfl rfl (Wp.r_gfi (pc := 60) o_X11_pour rfl fk_C_13_1 (Wp.r_if_ne (pc := 63) o_X11_pour rfl (fun c9 => ?_) (fun c9 => ?_)))
                  · have H := oq_t c9 H
                    refine Wp.f_al0_iconst (pc := 66) o_X11_pour rfl rfl rfl (Wp.r_cv2 (pc := 68) o_X11_pour rfl fk_C_0_0 (⟨rm8_ rfl, ?_⟩))
                    refine w_X11_refused (d := d + 1) _ ?_
                    refine oq_bd H (fun r195 s196 H => ?_)
                    obtain ⟨c9, H⟩ := oq_ck H
                    exact Wp.r_ireturn (pc := 71) o_X11_pour rfl (⟨b01_n c9, H⟩)
                  · have H := oq_f c9 H
                    refine Wp.r_aload (pc := 72) o_X11_pour rfl rfl (Wp.r_gfi (pc := 74) o_X11_pour rfl fk_C_12_2 (Wp.r_aload (pc := 77) o_X11_pour rfl rfl (Wp.r_gfi (pc := 79) o_X11_pour rfl fk_C_13_2 (Wp.r_icmp_eq (pc := 82) o_X11_pour rfl (fun c9 => ?_) (fun c9 => ?_)))))
                    · have H := oq_t c9 H
                      refine Wp.r_aload (pc := 92) o_X11_pour rfl rfl (Wp.r_iload_n2 (pc := 94) o_X11_pour rfl rfl (Wp.r_iload (pc := 95) o_X11_pour rfl rfl (Wp.r_cv3 (pc := 97) o_X11_pour rfl fk_C_12_0 (⟨rm8_ rfl, ?_⟩))))
                      refine w_X8_reachesTo_12 (d := d + 1) _ _ ?_
                      refine oq_bd H (fun r197 s198 H => ?_)
                      refine Wp.r_if_eq (pc := 100) o_X11_pour rfl (fun c9 => ?_) (fun c9 => ?_)
                      · have H := oq_t c9 H
                        refine Wp.f_al0_iconst (pc := 115) o_X11_pour rfl rfl rfl (Wp.r_cv2 (pc := 117) o_X11_pour rfl fk_C_0_0 (⟨rm8_ rfl, ?_⟩))
                        refine w_X11_refused (d := d + 1) _ ?_
                        refine oq_bd H (fun r199 s200 H => ?_)
                        obtain ⟨c9, H⟩ := oq_ck H
                        exact Wp.r_ireturn (pc := 120) o_X11_pour rfl (⟨b01_n c9, H⟩)
                      · have H := oq_f c9 H
                        refine Wp.r_aload (pc := 103) o_X11_pour rfl rfl (Wp.r_iload (pc := 105) o_X11_pour rfl rfl (Wp.r_iload (pc := 107) o_X11_pour rfl rfl (Wp.r_cv3 (pc := 109) o_X11_pour rfl fk_C_13_0 (⟨rm8_ rfl, ?_⟩))))
                        refine w_X8_reachesTo_13 (d := d + 1) _ _ ?_
                        refine oq_bd H (fun r201 s202 H => ?_)
                        refine Wp.r_if_ne (pc := 112) o_X11_pour rfl (fun c9 => ?_) (fun c9 => ?_)
                        · have H := oq_t c9 H
                          refine Wp.f_al0_iconst (pc := 115) o_X11_pour rfl rfl rfl (Wp.r_cv2 (pc := 117) o_X11_pour rfl fk_C_0_0 (⟨rm8_ rfl, ?_⟩))
                          refine w_X11_refused (d := d + 1) _ ?_
                          refine oq_bd H (fun r203 s204 H => ?_)
                          obtain ⟨c9, H⟩ := oq_ck H
                          exact Wp.r_ireturn (pc := 120) o_X11_pour rfl (⟨b01_n c9, H⟩)
                        · have H := oq_f c9 H
                          obtain ⟨c9, H⟩ := oq_ck H
                          refine Wp.r_aload (pc := 121) o_X11_pour rfl rfl (Wp.r_gfr (pc := 123) o_X11_pour rfl fk_C_12_0 (Wp.r_iload_n2 (pc := 126) o_X11_pour rfl rfl (Wp.r_aload (pc := 127) o_X11_pour rfl rfl (Wp.r_gfr (pc := 129) o_X11_pour rfl fk_C_13_0 (Wp.r_iload (pc := 132) o_X11_pour rfl rfl (Wp.r_iload (pc := 134) o_X11_pour rfl rfl (Wp.run 1 (show room8 [] ∧ (¬ a2 < 0 ∧ ¬ a4 < 0 ∧ ¬ a5 < 0 ∧ a2.toNatClampNeg + a5.toNatClampNeg ≤ 60 ∧ a4.toNatClampNeg + a5.toNatClampNeg ≤ 60) ∧ Y_X11_pour d Q 139 [(7, .ref 13), (6, .ref 12), (0, .ref 0), (1, .int a1), (2, .int a2), (3, .int a3), (4, .int a4), (5, .int a5)] [] (pB s202 17 (va_cpy (s202.2 16) (s202.2 17) a2.toNatClampNeg a4.toNatClampNeg a5.toNatClampNeg)) from ⟨rm8_ rfl, c9, ?_⟩))))))))
                          refine Wp.r_aload_n0 (pc := 139) o_X11_pour rfl rfl (Wp.r_cv1 (pc := 140) o_X11_pour rfl fk_C_0_0 (⟨rm8_ rfl, ?_⟩))
                          refine w_X11_granted (d := d + 1)  ?_
                          refine oq_bd H (fun r205 s206 H => ?_)
                          obtain ⟨c9, H⟩ := oq_ck H
                          exact Wp.r_ireturn (pc := 143) o_X11_pour rfl (⟨b01_n c9, H⟩)
                    · have H := oq_f c9 H
                      refine Wp.r_aload_n0 (pc := 85) o_X11_pour rfl rfl (Wp.r_bipush (pc := 86) o_X11_pour rfl (Wp.r_cv2 (pc := 88) o_X11_pour rfl fk_C_0_0 (⟨rm8_ rfl, ?_⟩)))
                      refine w_X11_refused (d := d + 1) _ ?_
                      refine oq_bd H (fun r207 s208 H => ?_)
                      obtain ⟨c9, H⟩ := oq_ck H
                      exact Wp.r_ireturn (pc := 91) o_X11_pour rfl (⟨b01_n c9, H⟩)
            · have ek13 := e9
              have H := oq_sel4_3 (i := a1) e9 H
              obtain ⟨c9, H⟩ := oq_ck H
              refine Wp.r_astore (pc := 40) o_X11_pour rfl (Wp.f_al0_gfr (pc := 42) o_X11_pour rfl rfl rfl fk_C_0_1 (Wp.r_iload_n3 (pc := 46) o_X11_pour rfl rfl (Wp.run 1 (show vp_in a3 4 ∧ (a3 = nI 0 → Y_X11_pour d Q 48 [(6, .ref 13), (0, .ref 0), (1, .int a1), (2, .int a2), (3, .int a3), (4, .int a4), (5, .int a5)] [.ref 10] s6) ∧ (a3 = nI 1 → Y_X11_pour d Q 48 [(6, .ref 13), (0, .ref 0), (1, .int a1), (2, .int a2), (3, .int a3), (4, .int a4), (5, .int a5)] [.ref 11] s6) ∧ (a3 = nI 2 → Y_X11_pour d Q 48 [(6, .ref 13), (0, .ref 0), (1, .int a1), (2, .int a2), (3, .int a3), (4, .int a4), (5, .int a5)] [.ref 12] s6) ∧ (a3 = nI 3 → Y_X11_pour d Q 48 [(6, .ref 13), (0, .ref 0), (1, .int a1), (2, .int a2), (3, .int a3), (4, .int a4), (5, .int a5)] [.ref 13] s6) ∧ True from ⟨c9, fun e9 => ?_, fun e9 => ?_, fun e9 => ?_, fun e9 => ?_, trivial⟩))))
              · have ek209 := e9
                have H := oq_sel4_0 (i := a3) e9 H
                refine Wp.r_astore (pc := 48) o_X11_pour rfl (Wp.r_aload (pc := 50) o_X11_pour rfl rfl (Wp.r_gfi (pc := 52) o_X11_pour rfl fk_C_13_1 (Wp.r_if_eq (pc := 55) o_X11_pour rfl (fun c9 => ?_) (fun c9 => ?_))))
                · have H := oq_t c9 H
                  refine Wp.f_al0_iconst (pc := 66) o_X11_pour rfl rfl rfl (Wp.r_cv2 (pc := 68) o_X11_pour rfl fk_C_0_0 (⟨rm8_ rfl, ?_⟩))
                  refine w_X11_refused (d := d + 1) _ ?_
                  refine oq_bd H (fun r210 s211 H => ?_)
                  obtain ⟨c9, H⟩ := oq_ck H
                  exact Wp.r_ireturn (pc := 71) o_X11_pour rfl (⟨b01_n c9, H⟩)
                · have H := oq_f c9 H
                  refine Wp.r_aload (pc := 58) o_X11_pour rfl rfl (Wp.r_gfi (pc := 60) o_X11_pour rfl fk_C_10_1 (Wp.r_if_ne (pc := 63) o_X11_pour rfl (fun c9 => ?_) (fun c9 => ?_)))
                  · have H := oq_t c9 H
                    refine Wp.f_al0_iconst (pc := 66) o_X11_pour rfl rfl rfl (Wp.r_cv2 (pc := 68) o_X11_pour rfl fk_C_0_0 (⟨rm8_ rfl, ?_⟩))
                    refine w_X11_refused (d := d + 1) _ ?_
                    refine oq_bd H (fun r212 s213 H => ?_)
                    obtain ⟨c9, H⟩ := oq_ck H
                    exact Wp.r_ireturn (pc := 71) o_X11_pour rfl (⟨b01_n c9, H⟩)
                  · have H := oq_f c9 H
                    refine Wp.r_aload (pc := 72) o_X11_pour rfl rfl (Wp.r_gfi (pc := 74) o_X11_pour rfl fk_C_13_2 (Wp.r_aload (pc := 77) o_X11_pour rfl rfl (Wp.r_gfi (pc := 79) o_X11_pour rfl fk_C_10_2 (Wp.r_icmp_eq (pc := 82) o_X11_pour rfl (fun c9 => ?_) (fun c9 => ?_)))))
                    · have H := oq_t c9 H
                      refine Wp.r_aload (pc := 92) o_X11_pour rfl rfl (Wp.r_iload_n2 (pc := 94) o_X11_pour rfl rfl (Wp.r_iload (pc := 95) o_X11_pour rfl rfl (Wp.r_cv3 (pc := 97) o_X11_pour rfl fk_C_13_0 (⟨rm8_ rfl, ?_⟩))))
                      refine w_X8_reachesTo_13 (d := d + 1) _ _ ?_
                      refine oq_bd H (fun r214 s215 H => ?_)
                      refine Wp.r_if_eq (pc := 100) o_X11_pour rfl (fun c9 => ?_) (fun c9 => ?_)
                      · have H := oq_t c9 H
                        refine Wp.f_al0_iconst (pc := 115) o_X11_pour rfl rfl rfl (Wp.r_cv2 (pc := 117) o_X11_pour rfl fk_C_0_0 (⟨rm8_ rfl, ?_⟩))
                        refine w_X11_refused (d := d + 1) _ ?_
                        refine oq_bd H (fun r216 s217 H => ?_)
                        obtain ⟨c9, H⟩ := oq_ck H
                        exact Wp.r_ireturn (pc := 120) o_X11_pour rfl (⟨b01_n c9, H⟩)
                      · have H := oq_f c9 H
                        refine Wp.r_aload (pc := 103) o_X11_pour rfl rfl (Wp.r_iload (pc := 105) o_X11_pour rfl rfl (Wp.r_iload (pc := 107) o_X11_pour rfl rfl (Wp.r_cv3 (pc := 109) o_X11_pour rfl fk_C_10_0 (⟨rm8_ rfl, ?_⟩))))
                        refine w_X8_reachesTo_10 (d := d + 1) _ _ ?_
                        refine oq_bd H (fun r218 s219 H => ?_)
                        refine Wp.r_if_ne (pc := 112) o_X11_pour rfl (fun c9 => ?_) (fun c9 => ?_)
                        · have H := oq_t c9 H
                          refine Wp.f_al0_iconst (pc := 115) o_X11_pour rfl rfl rfl (Wp.r_cv2 (pc := 117) o_X11_pour rfl fk_C_0_0 (⟨rm8_ rfl, ?_⟩))
                          refine w_X11_refused (d := d + 1) _ ?_
                          refine oq_bd H (fun r220 s221 H => ?_)
                          obtain ⟨c9, H⟩ := oq_ck H
                          exact Wp.r_ireturn (pc := 120) o_X11_pour rfl (⟨b01_n c9, H⟩)
                        · have H := oq_f c9 H
                          obtain ⟨c9, H⟩ := oq_ck H
                          refine Wp.r_aload (pc := 121) o_X11_pour rfl rfl (Wp.r_gfr (pc := 123) o_X11_pour rfl fk_C_13_0 (Wp.r_iload_n2 (pc := 126) o_X11_pour rfl rfl (Wp.r_aload (pc := 127) o_X11_pour rfl rfl (Wp.r_gfr (pc := 129) o_X11_pour rfl fk_C_10_0 (Wp.r_iload (pc := 132) o_X11_pour rfl rfl (Wp.r_iload (pc := 134) o_X11_pour rfl rfl (Wp.run 1 (show room8 [] ∧ (¬ a2 < 0 ∧ ¬ a4 < 0 ∧ ¬ a5 < 0 ∧ a2.toNatClampNeg + a5.toNatClampNeg ≤ 60 ∧ a4.toNatClampNeg + a5.toNatClampNeg ≤ 60) ∧ Y_X11_pour d Q 139 [(7, .ref 10), (6, .ref 13), (0, .ref 0), (1, .int a1), (2, .int a2), (3, .int a3), (4, .int a4), (5, .int a5)] [] (pB s219 14 (va_cpy (s219.2 17) (s219.2 14) a2.toNatClampNeg a4.toNatClampNeg a5.toNatClampNeg)) from ⟨rm8_ rfl, c9, ?_⟩))))))))
                          refine Wp.r_aload_n0 (pc := 139) o_X11_pour rfl rfl (Wp.r_cv1 (pc := 140) o_X11_pour rfl fk_C_0_0 (⟨rm8_ rfl, ?_⟩))
                          refine w_X11_granted (d := d + 1)  ?_
                          refine oq_bd H (fun r222 s223 H => ?_)
                          obtain ⟨c9, H⟩ := oq_ck H
                          exact Wp.r_ireturn (pc := 143) o_X11_pour rfl (⟨b01_n c9, H⟩)
                    · have H := oq_f c9 H
                      refine Wp.r_aload_n0 (pc := 85) o_X11_pour rfl rfl (Wp.r_bipush (pc := 86) o_X11_pour rfl (Wp.r_cv2 (pc := 88) o_X11_pour rfl fk_C_0_0 (⟨rm8_ rfl, ?_⟩)))
                      refine w_X11_refused (d := d + 1) _ ?_
                      refine oq_bd H (fun r224 s225 H => ?_)
                      obtain ⟨c9, H⟩ := oq_ck H
                      exact Wp.r_ireturn (pc := 91) o_X11_pour rfl (⟨b01_n c9, H⟩)
              · have ek209 := e9
                have H := oq_sel4_1 (i := a3) e9 H
                refine Wp.r_astore (pc := 48) o_X11_pour rfl (Wp.r_aload (pc := 50) o_X11_pour rfl rfl (Wp.r_gfi (pc := 52) o_X11_pour rfl fk_C_13_1 (Wp.r_if_eq (pc := 55) o_X11_pour rfl (fun c9 => ?_) (fun c9 => ?_))))
                · have H := oq_t c9 H
                  refine Wp.f_al0_iconst (pc := 66) o_X11_pour rfl rfl rfl (Wp.r_cv2 (pc := 68) o_X11_pour rfl fk_C_0_0 (⟨rm8_ rfl, ?_⟩))
                  refine w_X11_refused (d := d + 1) _ ?_
                  refine oq_bd H (fun r226 s227 H => ?_)
                  obtain ⟨c9, H⟩ := oq_ck H
                  exact Wp.r_ireturn (pc := 71) o_X11_pour rfl (⟨b01_n c9, H⟩)
                · have H := oq_f c9 H
                  refine Wp.r_aload (pc := 58) o_X11_pour rfl rfl (Wp.r_gfi (pc := 60) o_X11_pour rfl fk_C_11_1 (Wp.r_if_ne (pc := 63) o_X11_pour rfl (fun c9 => ?_) (fun c9 => ?_)))
                  · have H := oq_t c9 H
                    refine Wp.f_al0_iconst (pc := 66) o_X11_pour rfl rfl rfl (Wp.r_cv2 (pc := 68) o_X11_pour rfl fk_C_0_0 (⟨rm8_ rfl, ?_⟩))
                    refine w_X11_refused (d := d + 1) _ ?_
                    refine oq_bd H (fun r228 s229 H => ?_)
                    obtain ⟨c9, H⟩ := oq_ck H
                    exact Wp.r_ireturn (pc := 71) o_X11_pour rfl (⟨b01_n c9, H⟩)
                  · have H := oq_f c9 H
                    refine Wp.r_aload (pc := 72) o_X11_pour rfl rfl (Wp.r_gfi (pc := 74) o_X11_pour rfl fk_C_13_2 (Wp.r_aload (pc := 77) o_X11_pour rfl rfl (Wp.r_gfi (pc := 79) o_X11_pour rfl fk_C_11_2 (Wp.r_icmp_eq (pc := 82) o_X11_pour rfl (fun c9 => ?_) (fun c9 => ?_)))))
                    · have H := oq_t c9 H
                      refine Wp.r_aload (pc := 92) o_X11_pour rfl rfl (Wp.r_iload_n2 (pc := 94) o_X11_pour rfl rfl (Wp.r_iload (pc := 95) o_X11_pour rfl rfl (Wp.r_cv3 (pc := 97) o_X11_pour rfl fk_C_13_0 (⟨rm8_ rfl, ?_⟩))))
                      refine w_X8_reachesTo_13 (d := d + 1) _ _ ?_
                      refine oq_bd H (fun r230 s231 H => ?_)
                      refine Wp.r_if_eq (pc := 100) o_X11_pour rfl (fun c9 => ?_) (fun c9 => ?_)
                      · have H := oq_t c9 H
                        refine Wp.f_al0_iconst (pc := 115) o_X11_pour rfl rfl rfl (Wp.r_cv2 (pc := 117) o_X11_pour rfl fk_C_0_0 (⟨rm8_ rfl, ?_⟩))
                        refine w_X11_refused (d := d + 1) _ ?_
                        refine oq_bd H (fun r232 s233 H => ?_)
                        obtain ⟨c9, H⟩ := oq_ck H
                        exact Wp.r_ireturn (pc := 120) o_X11_pour rfl (⟨b01_n c9, H⟩)
                      · have H := oq_f c9 H
                        refine Wp.r_aload (pc := 103) o_X11_pour rfl rfl (Wp.r_iload (pc := 105) o_X11_pour rfl rfl (Wp.r_iload (pc := 107) o_X11_pour rfl rfl (Wp.r_cv3 (pc := 109) o_X11_pour rfl fk_C_11_0 (⟨rm8_ rfl, ?_⟩))))
                        refine w_X8_reachesTo_11 (d := d + 1) _ _ ?_
                        refine oq_bd H (fun r234 s235 H => ?_)
                        refine Wp.r_if_ne (pc := 112) o_X11_pour rfl (fun c9 => ?_) (fun c9 => ?_)
                        · have H := oq_t c9 H
                          refine Wp.f_al0_iconst (pc := 115) o_X11_pour rfl rfl rfl (Wp.r_cv2 (pc := 117) o_X11_pour rfl fk_C_0_0 (⟨rm8_ rfl, ?_⟩))
                          refine w_X11_refused (d := d + 1) _ ?_
                          refine oq_bd H (fun r236 s237 H => ?_)
                          obtain ⟨c9, H⟩ := oq_ck H
                          exact Wp.r_ireturn (pc := 120) o_X11_pour rfl (⟨b01_n c9, H⟩)
                        · have H := oq_f c9 H
                          obtain ⟨c9, H⟩ := oq_ck H
                          refine Wp.r_aload (pc := 121) o_X11_pour rfl rfl (Wp.r_gfr (pc := 123) o_X11_pour rfl fk_C_13_0 (Wp.r_iload_n2 (pc := 126) o_X11_pour rfl rfl (Wp.r_aload (pc := 127) o_X11_pour rfl rfl (Wp.r_gfr (pc := 129) o_X11_pour rfl fk_C_11_0 (Wp.r_iload (pc := 132) o_X11_pour rfl rfl (Wp.r_iload (pc := 134) o_X11_pour rfl rfl (Wp.run 1 (show room8 [] ∧ (¬ a2 < 0 ∧ ¬ a4 < 0 ∧ ¬ a5 < 0 ∧ a2.toNatClampNeg + a5.toNatClampNeg ≤ 60 ∧ a4.toNatClampNeg + a5.toNatClampNeg ≤ 60) ∧ Y_X11_pour d Q 139 [(7, .ref 11), (6, .ref 13), (0, .ref 0), (1, .int a1), (2, .int a2), (3, .int a3), (4, .int a4), (5, .int a5)] [] (pB s235 15 (va_cpy (s235.2 17) (s235.2 15) a2.toNatClampNeg a4.toNatClampNeg a5.toNatClampNeg)) from ⟨rm8_ rfl, c9, ?_⟩))))))))
                          refine Wp.r_aload_n0 (pc := 139) o_X11_pour rfl rfl (Wp.r_cv1 (pc := 140) o_X11_pour rfl fk_C_0_0 (⟨rm8_ rfl, ?_⟩))
                          refine w_X11_granted (d := d + 1)  ?_
                          refine oq_bd H (fun r238 s239 H => ?_)
                          obtain ⟨c9, H⟩ := oq_ck H
                          exact Wp.r_ireturn (pc := 143) o_X11_pour rfl (⟨b01_n c9, H⟩)
                    · have H := oq_f c9 H
                      refine Wp.r_aload_n0 (pc := 85) o_X11_pour rfl rfl (Wp.r_bipush (pc := 86) o_X11_pour rfl (Wp.r_cv2 (pc := 88) o_X11_pour rfl fk_C_0_0 (⟨rm8_ rfl, ?_⟩)))
                      refine w_X11_refused (d := d + 1) _ ?_
                      refine oq_bd H (fun r240 s241 H => ?_)
                      obtain ⟨c9, H⟩ := oq_ck H
                      exact Wp.r_ireturn (pc := 91) o_X11_pour rfl (⟨b01_n c9, H⟩)
              · have ek209 := e9
                have H := oq_sel4_2 (i := a3) e9 H
                refine Wp.r_astore (pc := 48) o_X11_pour rfl (Wp.r_aload (pc := 50) o_X11_pour rfl rfl (Wp.r_gfi (pc := 52) o_X11_pour rfl fk_C_13_1 (Wp.r_if_eq (pc := 55) o_X11_pour rfl (fun c9 => ?_) (fun c9 => ?_))))
                · have H := oq_t c9 H
                  refine Wp.f_al0_iconst (pc := 66) o_X11_pour rfl rfl rfl (Wp.r_cv2 (pc := 68) o_X11_pour rfl fk_C_0_0 (⟨rm8_ rfl, ?_⟩))
                  refine w_X11_refused (d := d + 1) _ ?_
                  refine oq_bd H (fun r242 s243 H => ?_)
                  obtain ⟨c9, H⟩ := oq_ck H
                  exact Wp.r_ireturn (pc := 71) o_X11_pour rfl (⟨b01_n c9, H⟩)
                · have H := oq_f c9 H
                  refine Wp.r_aload (pc := 58) o_X11_pour rfl rfl (Wp.r_gfi (pc := 60) o_X11_pour rfl fk_C_12_1 (Wp.r_if_ne (pc := 63) o_X11_pour rfl (fun c9 => ?_) (fun c9 => ?_)))
                  · have H := oq_t c9 H
                    refine Wp.f_al0_iconst (pc := 66) o_X11_pour rfl rfl rfl (Wp.r_cv2 (pc := 68) o_X11_pour rfl fk_C_0_0 (⟨rm8_ rfl, ?_⟩))
                    refine w_X11_refused (d := d + 1) _ ?_
                    refine oq_bd H (fun r244 s245 H => ?_)
                    obtain ⟨c9, H⟩ := oq_ck H
                    exact Wp.r_ireturn (pc := 71) o_X11_pour rfl (⟨b01_n c9, H⟩)
                  · have H := oq_f c9 H
                    refine Wp.r_aload (pc := 72) o_X11_pour rfl rfl (Wp.r_gfi (pc := 74) o_X11_pour rfl fk_C_13_2 (Wp.r_aload (pc := 77) o_X11_pour rfl rfl (Wp.r_gfi (pc := 79) o_X11_pour rfl fk_C_12_2 (Wp.r_icmp_eq (pc := 82) o_X11_pour rfl (fun c9 => ?_) (fun c9 => ?_)))))
                    · have H := oq_t c9 H
                      refine Wp.r_aload (pc := 92) o_X11_pour rfl rfl (Wp.r_iload_n2 (pc := 94) o_X11_pour rfl rfl (Wp.r_iload (pc := 95) o_X11_pour rfl rfl (Wp.r_cv3 (pc := 97) o_X11_pour rfl fk_C_13_0 (⟨rm8_ rfl, ?_⟩))))
                      refine w_X8_reachesTo_13 (d := d + 1) _ _ ?_
                      refine oq_bd H (fun r246 s247 H => ?_)
                      refine Wp.r_if_eq (pc := 100) o_X11_pour rfl (fun c9 => ?_) (fun c9 => ?_)
                      · have H := oq_t c9 H
                        refine Wp.f_al0_iconst (pc := 115) o_X11_pour rfl rfl rfl (Wp.r_cv2 (pc := 117) o_X11_pour rfl fk_C_0_0 (⟨rm8_ rfl, ?_⟩))
                        refine w_X11_refused (d := d + 1) _ ?_
                        refine oq_bd H (fun r248 s249 H => ?_)
                        obtain ⟨c9, H⟩ := oq_ck H
                        exact Wp.r_ireturn (pc := 120) o_X11_pour rfl (⟨b01_n c9, H⟩)
                      · have H := oq_f c9 H
                        refine Wp.r_aload (pc := 103) o_X11_pour rfl rfl (Wp.r_iload (pc := 105) o_X11_pour rfl rfl (Wp.r_iload (pc := 107) o_X11_pour rfl rfl (Wp.r_cv3 (pc := 109) o_X11_pour rfl fk_C_12_0 (⟨rm8_ rfl, ?_⟩))))
                        refine w_X8_reachesTo_12 (d := d + 1) _ _ ?_
                        refine oq_bd H (fun r250 s251 H => ?_)
                        refine Wp.r_if_ne (pc := 112) o_X11_pour rfl (fun c9 => ?_) (fun c9 => ?_)
                        · have H := oq_t c9 H
                          refine Wp.f_al0_iconst (pc := 115) o_X11_pour rfl rfl rfl (Wp.r_cv2 (pc := 117) o_X11_pour rfl fk_C_0_0 (⟨rm8_ rfl, ?_⟩))
                          refine w_X11_refused (d := d + 1) _ ?_
                          refine oq_bd H (fun r252 s253 H => ?_)
                          obtain ⟨c9, H⟩ := oq_ck H
                          exact Wp.r_ireturn (pc := 120) o_X11_pour rfl (⟨b01_n c9, H⟩)
                        · have H := oq_f c9 H
                          obtain ⟨c9, H⟩ := oq_ck H
                          refine Wp.r_aload (pc := 121) o_X11_pour rfl rfl (Wp.r_gfr (pc := 123) o_X11_pour rfl fk_C_13_0 (Wp.r_iload_n2 (pc := 126) o_X11_pour rfl rfl (Wp.r_aload (pc := 127) o_X11_pour rfl rfl (Wp.r_gfr (pc := 129) o_X11_pour rfl fk_C_12_0 (Wp.r_iload (pc := 132) o_X11_pour rfl rfl (Wp.r_iload (pc := 134) o_X11_pour rfl rfl (Wp.run 1 (show room8 [] ∧ (¬ a2 < 0 ∧ ¬ a4 < 0 ∧ ¬ a5 < 0 ∧ a2.toNatClampNeg + a5.toNatClampNeg ≤ 60 ∧ a4.toNatClampNeg + a5.toNatClampNeg ≤ 60) ∧ Y_X11_pour d Q 139 [(7, .ref 12), (6, .ref 13), (0, .ref 0), (1, .int a1), (2, .int a2), (3, .int a3), (4, .int a4), (5, .int a5)] [] (pB s251 16 (va_cpy (s251.2 17) (s251.2 16) a2.toNatClampNeg a4.toNatClampNeg a5.toNatClampNeg)) from ⟨rm8_ rfl, c9, ?_⟩))))))))
                          refine Wp.r_aload_n0 (pc := 139) o_X11_pour rfl rfl (Wp.r_cv1 (pc := 140) o_X11_pour rfl fk_C_0_0 (⟨rm8_ rfl, ?_⟩))
                          refine w_X11_granted (d := d + 1)  ?_
                          refine oq_bd H (fun r254 s255 H => ?_)
                          obtain ⟨c9, H⟩ := oq_ck H
                          exact Wp.r_ireturn (pc := 143) o_X11_pour rfl (⟨b01_n c9, H⟩)
                    · have H := oq_f c9 H
                      refine Wp.r_aload_n0 (pc := 85) o_X11_pour rfl rfl (Wp.r_bipush (pc := 86) o_X11_pour rfl (Wp.r_cv2 (pc := 88) o_X11_pour rfl fk_C_0_0 (⟨rm8_ rfl, ?_⟩)))
                      refine w_X11_refused (d := d + 1) _ ?_
                      refine oq_bd H (fun r256 s257 H => ?_)
                      obtain ⟨c9, H⟩ := oq_ck H
                      exact Wp.r_ireturn (pc := 91) o_X11_pour rfl (⟨b01_n c9, H⟩)
              · have ek209 := e9
                have H := oq_sel4_3 (i := a3) e9 H
                refine Wp.r_astore (pc := 48) o_X11_pour rfl (Wp.r_aload (pc := 50) o_X11_pour rfl rfl (Wp.r_gfi (pc := 52) o_X11_pour rfl fk_C_13_1 (Wp.r_if_eq (pc := 55) o_X11_pour rfl (fun c9 => ?_) (fun c9 => ?_))))
                · have H := oq_t c9 H
                  refine Wp.f_al0_iconst (pc := 66) o_X11_pour rfl rfl rfl (Wp.r_cv2 (pc := 68) o_X11_pour rfl fk_C_0_0 (⟨rm8_ rfl, ?_⟩))
                  refine w_X11_refused (d := d + 1) _ ?_
                  refine oq_bd H (fun r258 s259 H => ?_)
                  obtain ⟨c9, H⟩ := oq_ck H
                  exact Wp.r_ireturn (pc := 71) o_X11_pour rfl (⟨b01_n c9, H⟩)
                · have H := oq_f c9 H
                  refine Wp.r_aload (pc := 58) o_X11_pour rfl rfl (Wp.r_gfi (pc := 60) o_X11_pour rfl fk_C_13_1 (Wp.r_if_ne (pc := 63) o_X11_pour rfl (fun c9 => ?_) (fun c9 => ?_)))
                  · have H := oq_t c9 H
                    refine Wp.f_al0_iconst (pc := 66) o_X11_pour rfl rfl rfl (Wp.r_cv2 (pc := 68) o_X11_pour rfl fk_C_0_0 (⟨rm8_ rfl, ?_⟩))
                    refine w_X11_refused (d := d + 1) _ ?_
                    refine oq_bd H (fun r260 s261 H => ?_)
                    obtain ⟨c9, H⟩ := oq_ck H
                    exact Wp.r_ireturn (pc := 71) o_X11_pour rfl (⟨b01_n c9, H⟩)
                  · have H := oq_f c9 H
                    refine Wp.r_aload (pc := 72) o_X11_pour rfl rfl (Wp.r_gfi (pc := 74) o_X11_pour rfl fk_C_13_2 (Wp.r_aload (pc := 77) o_X11_pour rfl rfl (Wp.r_gfi (pc := 79) o_X11_pour rfl fk_C_13_2 (Wp.r_icmp_eq (pc := 82) o_X11_pour rfl (fun c9 => ?_) (fun c9 => ?_)))))
                    · have H := oq_t c9 H
                      refine Wp.r_aload (pc := 92) o_X11_pour rfl rfl (Wp.r_iload_n2 (pc := 94) o_X11_pour rfl rfl (Wp.r_iload (pc := 95) o_X11_pour rfl rfl (Wp.r_cv3 (pc := 97) o_X11_pour rfl fk_C_13_0 (⟨rm8_ rfl, ?_⟩))))
                      refine w_X8_reachesTo_13 (d := d + 1) _ _ ?_
                      refine oq_bd H (fun r262 s263 H => ?_)
                      refine Wp.r_if_eq (pc := 100) o_X11_pour rfl (fun c9 => ?_) (fun c9 => ?_)
                      · have H := oq_t c9 H
                        refine Wp.f_al0_iconst (pc := 115) o_X11_pour rfl rfl rfl (Wp.r_cv2 (pc := 117) o_X11_pour rfl fk_C_0_0 (⟨rm8_ rfl, ?_⟩))
                        refine w_X11_refused (d := d + 1) _ ?_
                        refine oq_bd H (fun r264 s265 H => ?_)
                        obtain ⟨c9, H⟩ := oq_ck H
                        exact Wp.r_ireturn (pc := 120) o_X11_pour rfl (⟨b01_n c9, H⟩)
                      · have H := oq_f c9 H
                        refine Wp.r_aload (pc := 103) o_X11_pour rfl rfl (Wp.r_iload (pc := 105) o_X11_pour rfl rfl (Wp.r_iload (pc := 107) o_X11_pour rfl rfl (Wp.r_cv3 (pc := 109) o_X11_pour rfl fk_C_13_0 (⟨rm8_ rfl, ?_⟩))))
                        refine w_X8_reachesTo_13 (d := d + 1) _ _ ?_
                        refine oq_bd H (fun r266 s267 H => ?_)
                        refine Wp.r_if_ne (pc := 112) o_X11_pour rfl (fun c9 => ?_) (fun c9 => ?_)
                        · have H := oq_t c9 H
                          refine Wp.f_al0_iconst (pc := 115) o_X11_pour rfl rfl rfl (Wp.r_cv2 (pc := 117) o_X11_pour rfl fk_C_0_0 (⟨rm8_ rfl, ?_⟩))
                          refine w_X11_refused (d := d + 1) _ ?_
                          refine oq_bd H (fun r268 s269 H => ?_)
                          obtain ⟨c9, H⟩ := oq_ck H
                          exact Wp.r_ireturn (pc := 120) o_X11_pour rfl (⟨b01_n c9, H⟩)
                        · have H := oq_f c9 H
                          obtain ⟨c9, H⟩ := oq_ck H
                          refine Wp.r_aload (pc := 121) o_X11_pour rfl rfl (Wp.r_gfr (pc := 123) o_X11_pour rfl fk_C_13_0 (Wp.r_iload_n2 (pc := 126) o_X11_pour rfl rfl (Wp.r_aload (pc := 127) o_X11_pour rfl rfl (Wp.r_gfr (pc := 129) o_X11_pour rfl fk_C_13_0 (Wp.r_iload (pc := 132) o_X11_pour rfl rfl (Wp.r_iload (pc := 134) o_X11_pour rfl rfl (Wp.run 1 (show room8 [] ∧ (¬ a2 < 0 ∧ ¬ a4 < 0 ∧ ¬ a5 < 0 ∧ a2.toNatClampNeg + a5.toNatClampNeg ≤ 60 ∧ a4.toNatClampNeg + a5.toNatClampNeg ≤ 60) ∧ Y_X11_pour d Q 139 [(7, .ref 13), (6, .ref 13), (0, .ref 0), (1, .int a1), (2, .int a2), (3, .int a3), (4, .int a4), (5, .int a5)] [] (pB s267 17 (va_cpy (s267.2 17) (s267.2 17) a2.toNatClampNeg a4.toNatClampNeg a5.toNatClampNeg)) from ⟨rm8_ rfl, c9, ?_⟩))))))))
                          refine Wp.r_aload_n0 (pc := 139) o_X11_pour rfl rfl (Wp.r_cv1 (pc := 140) o_X11_pour rfl fk_C_0_0 (⟨rm8_ rfl, ?_⟩))
                          refine w_X11_granted (d := d + 1)  ?_
                          refine oq_bd H (fun r270 s271 H => ?_)
                          obtain ⟨c9, H⟩ := oq_ck H
                          exact Wp.r_ireturn (pc := 143) o_X11_pour rfl (⟨b01_n c9, H⟩)
                    · have H := oq_f c9 H
                      refine Wp.r_aload_n0 (pc := 85) o_X11_pour rfl rfl (Wp.r_bipush (pc := 86) o_X11_pour rfl (Wp.r_cv2 (pc := 88) o_X11_pour rfl fk_C_0_0 (⟨rm8_ rfl, ?_⟩)))
                      refine w_X11_refused (d := d + 1) _ ?_
                      refine oq_bd H (fun r272 s273 H => ?_)
                      obtain ⟨c9, H⟩ := oq_ck H
                      exact Wp.r_ireturn (pc := 91) o_X11_pour rfl (⟨b01_n c9, H⟩)
          · have H := oq_f c9 H
            refine Wp.f_al0_iconst (pc := 28) o_X11_pour rfl rfl rfl (Wp.r_cv2 (pc := 30) o_X11_pour rfl fk_C_0_0 (⟨rm8_ rfl, ?_⟩))
            refine w_X11_refused (d := d + 1) _ ?_
            refine oq_bd H (fun r274 s275 H => ?_)
            obtain ⟨c9, H⟩ := oq_ck H
            exact Wp.r_ireturn (pc := 33) o_X11_pour rfl (⟨b01_n c9, H⟩)
noncomputable abbrev Y_X11_putOnTape (d : Nat) (Q : Qt) : Xt := Wp SHC (WpM SHC MT (d + 0)) (flat2 cq_X11_putOnTape) (none) Q
noncomputable def f_X11_putOnTape_b3 : Nat → Int32 → Int32 → Sg → Option (Unit × Sg)
  | 0, _, _, _ => none
  | n + 1, v1, v2, s =>
    if v2 < 0 then
      some ((), s)
    else
      if 900 ≤ (s.1 0 13) then
        (f_X11_putOnTape_b3 n) v1 (v2 + (-8)) s
      else
        ck (inr (s.1 0 13) 900) (
        nmx (pI s 1 ((s.1 0 13).toNatClampNeg) (((v1.toUInt32 >>> (v2.toUInt32 &&& Int32.toUInt32 31)).toInt32) &&& 255)) (fun s2 =>
        (f_X11_putOnTape_b3 n) v1 (v2 + (-8)) (pI s2 0 13 ((s2.1 0 13) + 1))
        )
        )
set_option maxRecDepth 100000 in
theorem w_X11_putOnTape_b3 {d : Nat} {Q : Qt} (n : Nat) : ∀ (v1 : Int32) (v2 : Int32) (s : Sg), OQ (f_X11_putOnTape_b3 n v1 v2 s) (fun _ s9 => Q none s9) → Y_X11_putOnTape d Q 3 [(0, .ref 0), (1, .int v1), (2, .int v2)] [] s := by
  induction n with
  | zero => intro v1 v2 s H; exact H.elim
  | succ n ih =>
    intro v1 v2 s H
    unfold f_X11_putOnTape_b3 at H
    refine Wp.r_iload_n2 (pc := 3) o_X11_putOnTape rfl rfl (Wp.r_if_lt (pc := 4) o_X11_putOnTape rfl (fun c9 => ?_) (fun c9 => ?_))
    · have H := oq_t c9 H
      exact Wp.r_return (pc := 49) o_X11_putOnTape rfl (H)
    · have H := oq_f c9 H
      refine Wp.f_al0_gfi (pc := 7) o_X11_putOnTape rfl rfl rfl fk_C_0_13 (Wp.r_sipush (pc := 11) o_X11_putOnTape rfl (Wp.r_icmp_ge (pc := 14) o_X11_putOnTape rfl (fun c9 => ?_) (fun c9 => ?_)))
      · have H := oq_t c9 H
        exact Wp.f_iinc_goto (pc := 43) o_X11_putOnTape rfl rfl rfl (Wp.weak2 [1, 2, 0] (ih _ _ _ H) rfl)
      · have H := oq_f c9 H
        obtain ⟨hc1, H⟩ := oq_ck H
        refine Wp.f_al0_gfr (pc := 17) o_X11_putOnTape rfl rfl rfl fk_C_0_0 (Wp.f_al0_gfi (pc := 21) o_X11_putOnTape rfl rfl rfl fk_C_0_13 (Wp.r_iload_n1 (pc := 25) o_X11_putOnTape rfl rfl (Wp.r_iload_n2 (pc := 26) o_X11_putOnTape rfl rfl (Wp.r_iushr (pc := 27) o_X11_putOnTape rfl (Wp.r_sipush (pc := 28) o_X11_putOnTape rfl (Wp.r_iand (pc := 31) o_X11_putOnTape rfl (Wp.r_iastore (pc := 32) o_X11_putOnTape rfl ak_C_1 (⟨hc1, ?_⟩))))))))
        revert H
        generalize pI s 1 ((s.1 0 13).toNatClampNeg) (((v1.toUInt32 >>> (v2.toUInt32 &&& Int32.toUInt32 31)).toInt32) &&& 255) = s2
        intro H
        have H := nmx_e H
        exact Wp.r_aload_n0 (pc := 33) o_X11_putOnTape rfl rfl (Wp.r_dup_r (pc := 34) o_X11_putOnTape rfl (Wp.r_gfi (pc := 35) o_X11_putOnTape rfl fk_C_0_13 (Wp.r_iconst (pc := 38) o_X11_putOnTape rfl (Wp.r_iadd (pc := 39) o_X11_putOnTape rfl (Wp.r_pfi (pc := 40) o_X11_putOnTape rfl fk_C_0_13 (Wp.f_iinc_goto (pc := 43) o_X11_putOnTape rfl rfl rfl (Wp.weak2 [1, 2, 0] (ih _ _ _ H) rfl)))))))
noncomputable def f_X11_putOnTape (a1 : Int32) (s : Sg) : Option (Unit × Sg) :=
  f_X11_putOnTape_b3 BIG a1 24 s
set_option maxRecDepth 100000 in
theorem w_X11_putOnTape {d : Nat} {s : Sg} {Q : Qt} (a1 : Int32) (H : OQ (f_X11_putOnTape a1 s) (fun _ s9 => Q none s9)) : WpM SHC MT (d + 1) 178 [.ref 0, .int a1] s Q := by
  refine WpM.enter me_X11_putOnTape rfl rfl ?_
  show Y_X11_putOnTape d Q 0 [(0, .ref 0), (1, .int a1)] [] s
  unfold f_X11_putOnTape at H
  exact Wp.r_bipush (pc := 0) o_X11_putOnTape rfl (Wp.r_istore_n2 (pc := 2) o_X11_putOnTape rfl (Wp.weak2 [1, 2, 0] (w_X11_putOnTape_b3 _ _ _ _ H) rfl))
noncomputable abbrev Y_X11_feed (d : Nat) (Q : Qt) : Xt := Wp SHC (WpM SHC MT (d + 1)) (flat2 cq_X11_feed) (some .int) Q
noncomputable def f_X11_feed (a1 : Int32) (a2 : Int32) (a3 : Int32) (a4 : Int32) (a5 : Int32) (s : Sg) : Option (Int32 × Sg) :=
  if ((s.1 0 13) + 20) ≤ 900 then
    bd (f_X11_putOnTape a1 s) (fun _ s2 =>
    bd (f_X11_putOnTape a2 s2) (fun _ s4 =>
    bd (f_X11_putOnTape a3 s4) (fun _ s6 =>
    bd (f_X11_putOnTape a4 s6) (fun _ s8 =>
    bd (f_X11_putOnTape a5 s8) (fun _ s10 =>
    some (s10.1 0 13, s10)
    )
    )
    )
    )
    )
  else
    some ((-1), s)
set_option maxRecDepth 100000 in
theorem w_X11_feed {d : Nat} {s : Sg} {Q : Qt} (a1 : Int32) (a2 : Int32) (a3 : Int32) (a4 : Int32) (a5 : Int32) (H : OQ (f_X11_feed a1 a2 a3 a4 a5 s) (fun r9 s9 => Q (some (.int r9)) s9)) : WpM SHC MT (d + 2) 109 [.ref 0, .int a1, .int a2, .int a3, .int a4, .int a5] s Q := by
  refine WpM.enter me_X11_feed rfl rfl ?_
  show Y_X11_feed d Q 0 [(0, .ref 0), (1, .int a1), (2, .int a2), (3, .int a3), (4, .int a4), (5, .int a5)] [] s
  unfold f_X11_feed at H
  refine Wp.f_al0_gfi (pc := 0) o_X11_feed rfl rfl rfl fk_C_0_13 (Wp.r_bipush (pc := 4) o_X11_feed rfl (Wp.r_iadd (pc := 6) o_X11_feed rfl (Wp.r_sipush (pc := 7) o_X11_feed rfl (Wp.r_icmp_le (pc := 10) o_X11_feed rfl (fun c9 => ?_) (fun c9 => ?_)))))
  · have H := oq_t c9 H
    refine Wp.r_aload_n0 (pc := 15) o_X11_feed rfl rfl (Wp.r_iload_n1 (pc := 16) o_X11_feed rfl rfl (Wp.r_cv2 (pc := 17) o_X11_feed rfl fk_C_0_0 (⟨rm8_ rfl, ?_⟩)))
    refine w_X11_putOnTape (d := d) _ ?_
    refine oq_bd H (fun _ s2 H => ?_)
    refine Wp.r_aload_n0 (pc := 20) o_X11_feed rfl rfl (Wp.r_iload_n2 (pc := 21) o_X11_feed rfl rfl (Wp.r_cv2 (pc := 22) o_X11_feed rfl fk_C_0_0 (⟨rm8_ rfl, ?_⟩)))
    refine w_X11_putOnTape (d := d) _ ?_
    refine oq_bd H (fun _ s4 H => ?_)
    refine Wp.r_aload_n0 (pc := 25) o_X11_feed rfl rfl (Wp.r_iload_n3 (pc := 26) o_X11_feed rfl rfl (Wp.r_cv2 (pc := 27) o_X11_feed rfl fk_C_0_0 (⟨rm8_ rfl, ?_⟩)))
    refine w_X11_putOnTape (d := d) _ ?_
    refine oq_bd H (fun _ s6 H => ?_)
    refine Wp.r_aload_n0 (pc := 30) o_X11_feed rfl rfl (Wp.r_iload (pc := 31) o_X11_feed rfl rfl (Wp.r_cv2 (pc := 33) o_X11_feed rfl fk_C_0_0 (⟨rm8_ rfl, ?_⟩)))
    refine w_X11_putOnTape (d := d) _ ?_
    refine oq_bd H (fun _ s8 H => ?_)
    refine Wp.r_aload_n0 (pc := 36) o_X11_feed rfl rfl (Wp.r_iload (pc := 37) o_X11_feed rfl rfl (Wp.r_cv2 (pc := 39) o_X11_feed rfl fk_C_0_0 (⟨rm8_ rfl, ?_⟩)))
    refine w_X11_putOnTape (d := d) _ ?_
    refine oq_bd H (fun _ s10 H => ?_)
    exact Wp.f_al0_gfi (pc := 42) o_X11_feed rfl rfl rfl fk_C_0_13 (Wp.r_ireturn (pc := 46) o_X11_feed rfl (⟨rfl, H⟩))
  · have H := oq_f c9 H
    exact Wp.r_iconst (pc := 13) o_X11_feed rfl (Wp.r_ireturn (pc := 14) o_X11_feed rfl (⟨rfl, H⟩))
noncomputable abbrev Y_X7_isLetter (d : Nat) (Q : Qt) : Xt := Wp SHC (WpM SHC MT (d + 0)) (flat2 cq_X7_isLetter) (some .boolean) Q
noncomputable def f_X7_isLetter (a0 : Int32) (s : Sg) : Option (Int32 × Sg) :=
  if a0 < 97 then
    some (0, s)
  else
    if 122 < a0 then
      some (0, s)
    else
      some (1, s)
set_option maxRecDepth 100000 in
theorem w_X7_isLetter {d : Nat} {s : Sg} {Q : Qt} (a0 : Int32) (H : OQ (f_X7_isLetter a0 s) (fun r9 s9 => Q (some (.int r9)) s9)) : WpM SHC MT (d + 1) 75 [.int a0] s Q := by
  refine WpM.enter me_X7_isLetter rfl rfl ?_
  show Y_X7_isLetter d Q 0 [(0, .int a0)] [] s
  unfold f_X7_isLetter at H
  refine Wp.r_iload_n0 (pc := 0) o_X7_isLetter rfl rfl (Wp.r_bipush (pc := 1) o_X7_isLetter rfl (Wp.r_icmp_lt (pc := 3) o_X7_isLetter rfl (fun c9 => ?_) (fun c9 => ?_)))
  · have H := oq_t c9 H
    exact Wp.r_iconst (pc := 16) o_X7_isLetter rfl (Wp.r_ireturn (pc := 17) o_X7_isLetter rfl (⟨rfl, H⟩))
  · have H := oq_f c9 H
    refine Wp.r_iload_n0 (pc := 6) o_X7_isLetter rfl rfl (Wp.r_bipush (pc := 7) o_X7_isLetter rfl (Wp.r_icmp_gt (pc := 9) o_X7_isLetter rfl (fun c9 => ?_) (fun c9 => ?_)))
    · have H := oq_t c9 H
      exact Wp.r_iconst (pc := 16) o_X7_isLetter rfl (Wp.r_ireturn (pc := 17) o_X7_isLetter rfl (⟨rfl, H⟩))
    · have H := oq_f c9 H
      exact Wp.r_iconst (pc := 12) o_X7_isLetter rfl (Wp.r_goto (pc := 13) o_X7_isLetter rfl (Wp.r_ireturn (pc := 17) o_X7_isLetter rfl (⟨rfl, H⟩)))
noncomputable abbrev Y_X7_isDigit (d : Nat) (Q : Qt) : Xt := Wp SHC (WpM SHC MT (d + 0)) (flat2 cq_X7_isDigit) (some .boolean) Q
noncomputable def f_X7_isDigit (a0 : Int32) (s : Sg) : Option (Int32 × Sg) :=
  if a0 < 48 then
    some (0, s)
  else
    if 57 < a0 then
      some (0, s)
    else
      some (1, s)
set_option maxRecDepth 100000 in
theorem w_X7_isDigit {d : Nat} {s : Sg} {Q : Qt} (a0 : Int32) (H : OQ (f_X7_isDigit a0 s) (fun r9 s9 => Q (some (.int r9)) s9)) : WpM SHC MT (d + 1) 76 [.int a0] s Q := by
  refine WpM.enter me_X7_isDigit rfl rfl ?_
  show Y_X7_isDigit d Q 0 [(0, .int a0)] [] s
  unfold f_X7_isDigit at H
  refine Wp.r_iload_n0 (pc := 0) o_X7_isDigit rfl rfl (Wp.r_bipush (pc := 1) o_X7_isDigit rfl (Wp.r_icmp_lt (pc := 3) o_X7_isDigit rfl (fun c9 => ?_) (fun c9 => ?_)))
  · have H := oq_t c9 H
    exact Wp.r_iconst (pc := 16) o_X7_isDigit rfl (Wp.r_ireturn (pc := 17) o_X7_isDigit rfl (⟨rfl, H⟩))
  · have H := oq_f c9 H
    refine Wp.r_iload_n0 (pc := 6) o_X7_isDigit rfl rfl (Wp.r_bipush (pc := 7) o_X7_isDigit rfl (Wp.r_icmp_gt (pc := 9) o_X7_isDigit rfl (fun c9 => ?_) (fun c9 => ?_)))
    · have H := oq_t c9 H
      exact Wp.r_iconst (pc := 16) o_X7_isDigit rfl (Wp.r_ireturn (pc := 17) o_X7_isDigit rfl (⟨rfl, H⟩))
    · have H := oq_f c9 H
      exact Wp.r_iconst (pc := 12) o_X7_isDigit rfl (Wp.r_goto (pc := 13) o_X7_isDigit rfl (Wp.r_ireturn (pc := 17) o_X7_isDigit rfl (⟨rfl, H⟩)))
noncomputable abbrev Y_X7_cutSign (d : Nat) (Q : Qt) : Xt := Wp SHC (WpM SHC MT (d + 0)) (flat2 cq_X7_cutSign) (none) Q
noncomputable def f_X7_cutSign_b35 (v1 : Int32) (s : Sg) : Option (Unit × Sg) :=
  nmx (pI (pI s 7 3 v1) 7 2 (((pI s 7 3 v1).1 7 2) + 1)) (fun s3 =>
  some ((), s3)
  )
set_option maxRecDepth 100000 in
theorem w_X7_cutSign_b35 {d : Nat} {Q : Qt} (v1 : Int32) (s : Sg) (H : OQ (f_X7_cutSign_b35 v1 s) (fun _ s9 => Q none s9)) : Y_X7_cutSign d Q 35 [(0, .ref 7), (1, .int v1)] [.ref 7] s := by
  unfold f_X7_cutSign_b35 at H
  refine Wp.r_iload_n1 (pc := 35) o_X7_cutSign rfl rfl (Wp.r_goto (pc := 36) o_X7_cutSign rfl (Wp.r_pfi (pc := 40) o_X7_cutSign rfl fk_C_7_3 (Wp.r_aload_n0 (pc := 43) o_X7_cutSign rfl rfl (Wp.r_dup_r (pc := 44) o_X7_cutSign rfl (Wp.r_gfi (pc := 45) o_X7_cutSign rfl fk_C_7_2 (Wp.r_iconst (pc := 48) o_X7_cutSign rfl (Wp.r_iadd (pc := 49) o_X7_cutSign rfl (Wp.r_pfi (pc := 50) o_X7_cutSign rfl fk_C_7_2 (show Y_X7_cutSign d Q 53 [(0, .ref 7), (1, .int v1)] [] (pI (pI s 7 3 v1) 7 2 (((pI s 7 3 v1).1 7 2) + 1)) from ?_)))))))))
  revert H
  generalize pI (pI s 7 3 v1) 7 2 (((pI s 7 3 v1).1 7 2) + 1) = s3
  intro H
  have H := nmx_e H
  exact Wp.r_return (pc := 53) o_X7_cutSign rfl (H)
noncomputable def f_X7_cutSign  (s : Sg) : Option (Unit × Sg) :=
  ck (inr (s.1 7 2) 900) (
  nmx (s.1 1 ((s.1 7 2).toNatClampNeg) : Int32) (fun x2 =>
  if x2 = 59 then
    f_X7_cutSign_b35 x2 s
  else
    if x2 = 60 then
      f_X7_cutSign_b35 x2 s
    else
      if x2 = 62 then
        f_X7_cutSign_b35 x2 s
      else
        if x2 = 61 then
          f_X7_cutSign_b35 x2 s
        else
          nmx (pI (pI s 7 3 4) 7 2 (((pI s 7 3 4).1 7 2) + 1)) (fun s4 =>
          some ((), s4)
          )
  )
  )
set_option maxRecDepth 100000 in
theorem w_X7_cutSign {d : Nat} {s : Sg} {Q : Qt}  (H : OQ (f_X7_cutSign  s) (fun _ s9 => Q none s9)) : WpM SHC MT (d + 1) 80 [.ref 7] s Q := by
  refine WpM.enter me_X7_cutSign rfl rfl ?_
  show Y_X7_cutSign d Q 0 [(0, .ref 7)] [] s
  unfold f_X7_cutSign at H
  obtain ⟨hc1, H⟩ := oq_ck H
  refine Wp.f_al0_gfr (pc := 0) o_X7_cutSign rfl rfl rfl fk_C_7_0 (Wp.f_al0_gfi (pc := 4) o_X7_cutSign rfl rfl rfl fk_C_7_2 (Wp.r_iaload (pc := 8) o_X7_cutSign rfl ak_C_1 (⟨hc1, ?_⟩)))
  refine Wp.r_istore_n1 (pc := 9) o_X7_cutSign rfl (show Y_X7_cutSign d Q 10 [(1, .int (s.1 1 ((s.1 7 2).toNatClampNeg))), (0, .ref 7)] [] s from ?_)
  revert H
  generalize (s.1 1 ((s.1 7 2).toNatClampNeg) : Int32) = x2
  intro H
  have H := nmx_e H
  refine Wp.r_aload_n0 (pc := 10) o_X7_cutSign rfl rfl (Wp.r_iload_n1 (pc := 11) o_X7_cutSign rfl rfl (Wp.r_bipush (pc := 12) o_X7_cutSign rfl (Wp.r_icmp_eq (pc := 14) o_X7_cutSign rfl (fun c9 => ?_) (fun c9 => ?_))))
  · have H := oq_t c9 H
    exact Wp.weak2 [1, 0] (w_X7_cutSign_b35 _ _ H) rfl
  · have H := oq_f c9 H
    refine Wp.r_iload_n1 (pc := 17) o_X7_cutSign rfl rfl (Wp.r_bipush (pc := 18) o_X7_cutSign rfl (Wp.r_icmp_eq (pc := 20) o_X7_cutSign rfl (fun c9 => ?_) (fun c9 => ?_)))
    · have H := oq_t c9 H
      exact Wp.weak2 [1, 0] (w_X7_cutSign_b35 _ _ H) rfl
    · have H := oq_f c9 H
      refine Wp.r_iload_n1 (pc := 23) o_X7_cutSign rfl rfl (Wp.r_bipush (pc := 24) o_X7_cutSign rfl (Wp.r_icmp_eq (pc := 26) o_X7_cutSign rfl (fun c9 => ?_) (fun c9 => ?_)))
      · have H := oq_t c9 H
        exact Wp.weak2 [1, 0] (w_X7_cutSign_b35 _ _ H) rfl
      · have H := oq_f c9 H
        refine Wp.r_iload_n1 (pc := 29) o_X7_cutSign rfl rfl (Wp.r_bipush (pc := 30) o_X7_cutSign rfl (Wp.r_icmp_ne (pc := 32) o_X7_cutSign rfl (fun c9 => ?_) (fun c9 => ?_)))
        · have H := oq_t c9 H
          exact Wp.weak2 [1, 0] (w_X7_cutSign_b35 _ _ H) rfl
        · have H := oq_f c9 H
          refine Wp.r_iconst (pc := 39) o_X7_cutSign rfl (Wp.r_pfi (pc := 40) o_X7_cutSign rfl fk_C_7_3 (Wp.r_aload_n0 (pc := 43) o_X7_cutSign rfl rfl (Wp.r_dup_r (pc := 44) o_X7_cutSign rfl (Wp.r_gfi (pc := 45) o_X7_cutSign rfl fk_C_7_2 (Wp.r_iconst (pc := 48) o_X7_cutSign rfl (Wp.r_iadd (pc := 49) o_X7_cutSign rfl (Wp.r_pfi (pc := 50) o_X7_cutSign rfl fk_C_7_2 (show Y_X7_cutSign d Q 53 [(1, .int x2), (0, .ref 7)] [] (pI (pI s 7 3 4) 7 2 (((pI s 7 3 4).1 7 2) + 1)) from ?_))))))))
          revert H
          generalize pI (pI s 7 3 4) 7 2 (((pI s 7 3 4).1 7 2) + 1) = s4
          intro H
          have H := nmx_e H
          exact Wp.r_return (pc := 53) o_X7_cutSign rfl (H)
noncomputable abbrev Y_X7_cutNumber (d : Nat) (Q : Qt) : Xt := Wp SHC (WpM SHC MT (d + 1)) (flat2 cq_X7_cutNumber) (none) Q
noncomputable def f_X7_cutNumber_b81  (s : Sg) : Option (Unit × Sg) :=
  if ((s.1 7 2) - (s.1 7 4)) ≤ 4 then
    some ((), pI s 7 3 3)
  else
    some ((), pI s 7 3 4)
set_option maxRecDepth 100000 in
theorem w_X7_cutNumber_b81 {d : Nat} {Q : Qt}  (s : Sg) (H : OQ (f_X7_cutNumber_b81  s) (fun _ s9 => Q none s9)) : Y_X7_cutNumber d Q 81 [(0, .ref 7)] [] s := by
  unfold f_X7_cutNumber_b81 at H
  refine Wp.r_aload_n0 (pc := 81) o_X7_cutNumber rfl rfl (Wp.f_al0_gfi (pc := 82) o_X7_cutNumber rfl rfl rfl fk_C_7_2 (Wp.f_al0_gfi (pc := 86) o_X7_cutNumber rfl rfl rfl fk_C_7_4 (Wp.r_isub (pc := 90) o_X7_cutNumber rfl (Wp.r_iconst (pc := 91) o_X7_cutNumber rfl (Wp.r_icmp_le (pc := 92) o_X7_cutNumber rfl (fun c9 => ?_) (fun c9 => ?_))))))
  · have H := oq_t c9 H
    exact Wp.r_iconst (pc := 99) o_X7_cutNumber rfl (Wp.r_pfi (pc := 100) o_X7_cutNumber rfl fk_C_7_3 (Wp.r_return (pc := 103) o_X7_cutNumber rfl (H)))
  · have H := oq_f c9 H
    exact Wp.r_iconst (pc := 95) o_X7_cutNumber rfl (Wp.r_goto (pc := 96) o_X7_cutNumber rfl (Wp.r_pfi (pc := 100) o_X7_cutNumber rfl fk_C_7_3 (Wp.r_return (pc := 103) o_X7_cutNumber rfl (H))))
noncomputable def f_X7_cutNumber_b5 : Nat → Sg → Option (Unit × Sg)
  | 0, _ => none
  | n + 1, s =>
    if (s.1 7 1) ≤ (s.1 7 2) then
      f_X7_cutNumber_b81 s
    else
      ck (inr (s.1 7 2) 900) (
      bd (f_X7_isDigit (s.1 1 ((s.1 7 2).toNatClampNeg)) s) (fun r2 s3 =>
      if r2 = 0 then
        f_X7_cutNumber_b81 s3
      else
        if 4 ≤ ((s3.1 7 2) - (s3.1 7 4)) then
          (f_X7_cutNumber_b5 n) (pI s3 7 2 ((s3.1 7 2) + 1))
        else
          ck (inr (s3.1 7 2) 900) (
          nmx (pI s3 7 5 ((((s3.1 7 5) * 10) + (s3.1 1 ((s3.1 7 2).toNatClampNeg))) - 48)) (fun s5 =>
          (f_X7_cutNumber_b5 n) (pI s5 7 2 ((s5.1 7 2) + 1))
          )
          )
      )
      )
set_option maxRecDepth 100000 in
theorem w_X7_cutNumber_b5 {d : Nat} {Q : Qt} (n : Nat) : ∀  (s : Sg), OQ (f_X7_cutNumber_b5 n  s) (fun _ s9 => Q none s9) → Y_X7_cutNumber d Q 5 [(0, .ref 7)] [] s := by
  induction n with
  | zero => intro  s H; exact H.elim
  | succ n ih =>
    intro  s H
    unfold f_X7_cutNumber_b5 at H
    refine Wp.f_al0_gfi (pc := 5) o_X7_cutNumber rfl rfl rfl fk_C_7_2 (Wp.f_al0_gfi (pc := 9) o_X7_cutNumber rfl rfl rfl fk_C_7_1 (Wp.r_icmp_ge (pc := 13) o_X7_cutNumber rfl (fun c9 => ?_) (fun c9 => ?_)))
    · have H := oq_t c9 H
      exact Wp.weak2 [0] (w_X7_cutNumber_b81 _ H) rfl
    · have H := oq_f c9 H
      obtain ⟨hc1, H⟩ := oq_ck H
      refine Wp.f_al0_gfr (pc := 16) o_X7_cutNumber rfl rfl rfl fk_C_7_0 (Wp.f_al0_gfi (pc := 20) o_X7_cutNumber rfl rfl rfl fk_C_7_2 (Wp.r_iaload (pc := 24) o_X7_cutNumber rfl ak_C_1 (⟨hc1, ?_⟩)))
      refine Wp.r_cs1 (pc := 25) o_X7_cutNumber rfl (⟨rm8_ rfl, ?_⟩)
      refine w_X7_isDigit (d := d) _ ?_
      refine oq_bd H (fun r2 s3 H => ?_)
      refine Wp.r_if_eq (pc := 28) o_X7_cutNumber rfl (fun c9 => ?_) (fun c9 => ?_)
      · have H := oq_t c9 H
        exact Wp.weak2 [0] (w_X7_cutNumber_b81 _ H) rfl
      · have H := oq_f c9 H
        refine Wp.f_al0_gfi (pc := 31) o_X7_cutNumber rfl rfl rfl fk_C_7_2 (Wp.f_al0_gfi (pc := 35) o_X7_cutNumber rfl rfl rfl fk_C_7_4 (Wp.r_isub (pc := 39) o_X7_cutNumber rfl (Wp.r_iconst (pc := 40) o_X7_cutNumber rfl (Wp.r_icmp_ge (pc := 41) o_X7_cutNumber rfl (fun c9 => ?_) (fun c9 => ?_)))))
        · have H := oq_t c9 H
          exact Wp.r_aload_n0 (pc := 68) o_X7_cutNumber rfl rfl (Wp.r_dup_r (pc := 69) o_X7_cutNumber rfl (Wp.r_gfi (pc := 70) o_X7_cutNumber rfl fk_C_7_2 (Wp.r_iconst (pc := 73) o_X7_cutNumber rfl (Wp.r_iadd (pc := 74) o_X7_cutNumber rfl (Wp.r_pfi (pc := 75) o_X7_cutNumber rfl fk_C_7_2 (Wp.r_goto (pc := 78) o_X7_cutNumber rfl (Wp.weak2 [0] (ih _ H) rfl)))))))
        · have H := oq_f c9 H
          obtain ⟨hc4, H⟩ := oq_ck H
          refine Wp.r_aload_n0 (pc := 44) o_X7_cutNumber rfl rfl (Wp.f_al0_gfi (pc := 45) o_X7_cutNumber rfl rfl rfl fk_C_7_5 (Wp.r_bipush (pc := 49) o_X7_cutNumber rfl (Wp.r_imul (pc := 51) o_X7_cutNumber rfl (Wp.f_al0_gfr (pc := 52) o_X7_cutNumber rfl rfl rfl fk_C_7_0 (Wp.f_al0_gfi (pc := 56) o_X7_cutNumber rfl rfl rfl fk_C_7_2 (Wp.r_iaload (pc := 60) o_X7_cutNumber rfl ak_C_1 (⟨hc4, ?_⟩)))))))
          refine Wp.r_iadd (pc := 61) o_X7_cutNumber rfl (Wp.r_bipush (pc := 62) o_X7_cutNumber rfl (Wp.r_isub (pc := 64) o_X7_cutNumber rfl (Wp.r_pfi (pc := 65) o_X7_cutNumber rfl fk_C_7_5 (show Y_X7_cutNumber d Q 68 [(0, .ref 7)] [] (pI s3 7 5 ((((s3.1 7 5) * 10) + (s3.1 1 ((s3.1 7 2).toNatClampNeg))) - 48)) from ?_))))
          revert H
          generalize pI s3 7 5 ((((s3.1 7 5) * 10) + (s3.1 1 ((s3.1 7 2).toNatClampNeg))) - 48) = s5
          intro H
          have H := nmx_e H
          exact Wp.r_aload_n0 (pc := 68) o_X7_cutNumber rfl rfl (Wp.r_dup_r (pc := 69) o_X7_cutNumber rfl (Wp.r_gfi (pc := 70) o_X7_cutNumber rfl fk_C_7_2 (Wp.r_iconst (pc := 73) o_X7_cutNumber rfl (Wp.r_iadd (pc := 74) o_X7_cutNumber rfl (Wp.r_pfi (pc := 75) o_X7_cutNumber rfl fk_C_7_2 (Wp.r_goto (pc := 78) o_X7_cutNumber rfl (Wp.weak2 [0] (ih _ H) rfl)))))))
noncomputable def f_X7_cutNumber  (s : Sg) : Option (Unit × Sg) :=
  f_X7_cutNumber_b5 BIG (pI s 7 5 0)
set_option maxRecDepth 100000 in
theorem w_X7_cutNumber {d : Nat} {s : Sg} {Q : Qt}  (H : OQ (f_X7_cutNumber  s) (fun _ s9 => Q none s9)) : WpM SHC MT (d + 2) 79 [.ref 7] s Q := by
  refine WpM.enter me_X7_cutNumber rfl rfl ?_
  show Y_X7_cutNumber d Q 0 [(0, .ref 7)] [] s
  unfold f_X7_cutNumber at H
  exact Wp.f_al0_iconst (pc := 0) o_X7_cutNumber rfl rfl rfl (Wp.r_pfi (pc := 2) o_X7_cutNumber rfl fk_C_7_5 (Wp.weak2 [0] (w_X7_cutNumber_b5 _ _ H) rfl))
noncomputable abbrev Y_X7_cutWord (d : Nat) (Q : Qt) : Xt := Wp SHC (WpM SHC MT (d + 1)) (flat2 cq_X7_cutWord) (none) Q
noncomputable def f_X7_cutWord_b5 : Nat → Sg → Option (Unit × Sg)
  | 0, _ => none
  | n + 1, s =>
    if (s.1 7 1) ≤ (s.1 7 2) then
      some ((), s)
    else
      ck (inr (s.1 7 2) 900) (
      bd (f_X7_isLetter (s.1 1 ((s.1 7 2).toNatClampNeg)) s) (fun r2 s3 =>
      if r2 = 0 then
        some ((), s3)
      else
        if 8 ≤ ((s3.1 7 2) - (s3.1 7 4)) then
          (f_X7_cutWord_b5 n) (pI s3 7 2 ((s3.1 7 2) + 1))
        else
          ck (inr (s3.1 7 2) 900) (
          nmx (pL s3 7 6 (((((s3.2 7 6) * 27) + ((s3.1 1 ((s3.1 7 2).toNatClampNeg)).toInt64)) - 97) + 1)) (fun s5 =>
          (f_X7_cutWord_b5 n) (pI s5 7 2 ((s5.1 7 2) + 1))
          )
          )
      )
      )
set_option maxRecDepth 100000 in
theorem w_X7_cutWord_b5 {d : Nat} {Q : Qt} (n : Nat) : ∀  (s : Sg), OQ (f_X7_cutWord_b5 n  s) (fun _ s9 => Q none s9) → Y_X7_cutWord d Q 5 [(0, .ref 7)] [] s := by
  induction n with
  | zero => intro  s H; exact H.elim
  | succ n ih =>
    intro  s H
    unfold f_X7_cutWord_b5 at H
    refine Wp.f_al0_gfi (pc := 5) o_X7_cutWord rfl rfl rfl fk_C_7_2 (Wp.f_al0_gfi (pc := 9) o_X7_cutWord rfl rfl rfl fk_C_7_1 (Wp.r_icmp_ge (pc := 13) o_X7_cutWord rfl (fun c9 => ?_) (fun c9 => ?_)))
    · have H := oq_t c9 H
      exact Wp.r_return (pc := 87) o_X7_cutWord rfl (H)
    · have H := oq_f c9 H
      obtain ⟨hc1, H⟩ := oq_ck H
      refine Wp.f_al0_gfr (pc := 16) o_X7_cutWord rfl rfl rfl fk_C_7_0 (Wp.f_al0_gfi (pc := 20) o_X7_cutWord rfl rfl rfl fk_C_7_2 (Wp.r_iaload (pc := 24) o_X7_cutWord rfl ak_C_1 (⟨hc1, ?_⟩)))
      refine Wp.r_cs1 (pc := 25) o_X7_cutWord rfl (⟨rm8_ rfl, ?_⟩)
      refine w_X7_isLetter (d := d) _ ?_
      refine oq_bd H (fun r2 s3 H => ?_)
      refine Wp.r_if_eq (pc := 28) o_X7_cutWord rfl (fun c9 => ?_) (fun c9 => ?_)
      · have H := oq_t c9 H
        exact Wp.r_return (pc := 87) o_X7_cutWord rfl (H)
      · have H := oq_f c9 H
        refine Wp.f_al0_gfi (pc := 31) o_X7_cutWord rfl rfl rfl fk_C_7_2 (Wp.f_al0_gfi (pc := 35) o_X7_cutWord rfl rfl rfl fk_C_7_4 (Wp.r_isub (pc := 39) o_X7_cutWord rfl (Wp.r_bipush (pc := 40) o_X7_cutWord rfl (Wp.r_icmp_ge (pc := 42) o_X7_cutWord rfl (fun c9 => ?_) (fun c9 => ?_)))))
        · have H := oq_t c9 H
          exact Wp.r_aload_n0 (pc := 74) o_X7_cutWord rfl rfl (Wp.r_dup_r (pc := 75) o_X7_cutWord rfl (Wp.r_gfi (pc := 76) o_X7_cutWord rfl fk_C_7_2 (Wp.r_iconst (pc := 79) o_X7_cutWord rfl (Wp.r_iadd (pc := 80) o_X7_cutWord rfl (Wp.r_pfi (pc := 81) o_X7_cutWord rfl fk_C_7_2 (Wp.r_goto (pc := 84) o_X7_cutWord rfl (Wp.weak2 [0] (ih _ H) rfl)))))))
        · have H := oq_f c9 H
          obtain ⟨hc4, H⟩ := oq_ck H
          refine Wp.r_aload_n0 (pc := 45) o_X7_cutWord rfl rfl (Wp.f_al0_gfl (pc := 46) o_X7_cutWord rfl rfl rfl fk_C_7_6 (Wp.r_ldc2_w (pc := 50) o_X7_cutWord rfl (Wp.r_lmul (pc := 53) o_X7_cutWord rfl (Wp.f_al0_gfr (pc := 54) o_X7_cutWord rfl rfl rfl fk_C_7_0 (Wp.f_al0_gfi (pc := 58) o_X7_cutWord rfl rfl rfl fk_C_7_2 (Wp.r_iaload (pc := 62) o_X7_cutWord rfl ak_C_1 (⟨hc4, ?_⟩)))))))
          refine Wp.r_i2l (pc := 63) o_X7_cutWord rfl (Wp.r_ladd (pc := 64) o_X7_cutWord rfl (Wp.r_ldc2_w (pc := 65) o_X7_cutWord rfl (Wp.r_lsub (pc := 68) o_X7_cutWord rfl (Wp.r_lconst (pc := 69) o_X7_cutWord rfl (Wp.r_ladd (pc := 70) o_X7_cutWord rfl (Wp.r_pfl (pc := 71) o_X7_cutWord rfl fk_C_7_6 (show Y_X7_cutWord d Q 74 [(0, .ref 7)] [] (pL s3 7 6 (((((s3.2 7 6) * 27) + ((s3.1 1 ((s3.1 7 2).toNatClampNeg)).toInt64)) - 97) + 1)) from ?_)))))))
          revert H
          generalize pL s3 7 6 (((((s3.2 7 6) * 27) + ((s3.1 1 ((s3.1 7 2).toNatClampNeg)).toInt64)) - 97) + 1) = s5
          intro H
          have H := nmx_e H
          exact Wp.r_aload_n0 (pc := 74) o_X7_cutWord rfl rfl (Wp.r_dup_r (pc := 75) o_X7_cutWord rfl (Wp.r_gfi (pc := 76) o_X7_cutWord rfl fk_C_7_2 (Wp.r_iconst (pc := 79) o_X7_cutWord rfl (Wp.r_iadd (pc := 80) o_X7_cutWord rfl (Wp.r_pfi (pc := 81) o_X7_cutWord rfl fk_C_7_2 (Wp.r_goto (pc := 84) o_X7_cutWord rfl (Wp.weak2 [0] (ih _ H) rfl)))))))
noncomputable def f_X7_cutWord  (s : Sg) : Option (Unit × Sg) :=
  f_X7_cutWord_b5 BIG (pL s 7 6 0)
set_option maxRecDepth 100000 in
theorem w_X7_cutWord {d : Nat} {s : Sg} {Q : Qt}  (H : OQ (f_X7_cutWord  s) (fun _ s9 => Q none s9)) : WpM SHC MT (d + 2) 77 [.ref 7] s Q := by
  refine WpM.enter me_X7_cutWord rfl rfl ?_
  show Y_X7_cutWord d Q 0 [(0, .ref 7)] [] s
  unfold f_X7_cutWord at H
  exact Wp.r_aload_n0 (pc := 0) o_X7_cutWord rfl rfl (Wp.r_lconst (pc := 1) o_X7_cutWord rfl (Wp.r_pfl (pc := 2) o_X7_cutWord rfl fk_C_7_6 (Wp.weak2 [0] (w_X7_cutWord_b5 _ _ H) rfl)))
noncomputable abbrev Y_X7_kindOfWord (d : Nat) (Q : Qt) : Xt := Wp SHC (WpM SHC MT (d + 0)) (flat2 cq_X7_kindOfWord) (some .int) Q
noncomputable def f_X7_kindOfWord_b8 : Nat → Int64 → Int32 → Int64 → Int32 → Sg → Option (Int32 × Sg)
  | 0, _, _, _, _, _ => none
  | n + 1, v0, v2, v3, v5, s =>
    if 167 ≤ v5 then
      some (1, s)
    else
      ck (inr v5 167) (
      nmx ((strB.getD 0 []).getD v5.toNatClampNeg 0 : Int32) (fun x1 =>
      if x1 = 32 then
        if (lg_cmp v3 v0) = 0 then
          some (v2, s)
        else
          (f_X7_kindOfWord_b8 n) v0 (v2 + 1) 0 (v5 + 1) s
      else
        nmx ((((v3 * 27) + x1.toInt64) - 97) + 1 : Int64) (fun x2 =>
        (f_X7_kindOfWord_b8 n) v0 v2 x2 (v5 + 1) s
        )
      )
      )
set_option maxRecDepth 100000 in
theorem w_X7_kindOfWord_b8 {d : Nat} {Q : Qt} (n : Nat) : ∀ (v0 : Int64) (v2 : Int32) (v3 : Int64) (v5 : Int32) (s : Sg), OQ (f_X7_kindOfWord_b8 n v0 v2 v3 v5 s) (fun r9 s9 => Q (some (.int r9)) s9) → Y_X7_kindOfWord d Q 8 [(0, .long v0), (2, .int v2), (3, .long v3), (5, .int v5)] [] s := by
  induction n with
  | zero => intro v0 v2 v3 v5 s H; exact H.elim
  | succ n ih =>
    intro v0 v2 v3 v5 s H
    unfold f_X7_kindOfWord_b8 at H
    refine Wp.r_iload (pc := 8) o_X7_kindOfWord rfl rfl (Wp.r_ldcs (pc := 10) o_X7_kindOfWord rfl (Wp.run 1 (show room8 [.int v5] ∧ Y_X7_kindOfWord d Q 15 [(0, .long v0), (2, .int v2), (3, .long v3), (5, .int v5)] [.int 167, .int v5] s from ⟨rm8_ rfl, ?_⟩)))
    refine Wp.r_icmp_ge (pc := 15) o_X7_kindOfWord rfl (fun c9 => ?_) (fun c9 => ?_)
    · have H := oq_t c9 H
      exact Wp.r_iconst (pc := 72) o_X7_kindOfWord rfl (Wp.r_ireturn (pc := 73) o_X7_kindOfWord rfl (⟨rfl, H⟩))
    · have H := oq_f c9 H
      obtain ⟨c9, H⟩ := oq_ck H
      refine Wp.r_ldcs (pc := 18) o_X7_kindOfWord rfl (Wp.r_iload (pc := 20) o_X7_kindOfWord rfl rfl (Wp.run 1 (show room8 [] ∧ vp_in v5 167 ∧ Y_X7_kindOfWord d Q 25 [(0, .long v0), (2, .int v2), (3, .long v3), (5, .int v5)] [.int ((strB.getD 0 []).getD v5.toNatClampNeg 0)] s from ⟨rm8_ rfl, c9, ?_⟩)))
      refine Wp.r_istore (pc := 25) o_X7_kindOfWord rfl (show Y_X7_kindOfWord d Q 27 [(6, .int ((strB.getD 0 []).getD v5.toNatClampNeg 0)), (0, .long v0), (2, .int v2), (3, .long v3), (5, .int v5)] [] s from ?_)
      revert H
      generalize ((strB.getD 0 []).getD v5.toNatClampNeg 0 : Int32) = x1
      intro H
      have H := nmx_e H
      refine Wp.r_iload (pc := 27) o_X7_kindOfWord rfl rfl (Wp.r_bipush (pc := 29) o_X7_kindOfWord rfl (Wp.r_icmp_eq (pc := 31) o_X7_kindOfWord rfl (fun c9 => ?_) (fun c9 => ?_)))
      · have H := oq_t c9 H
        refine Wp.r_lload_n3 (pc := 53) o_X7_kindOfWord rfl rfl (Wp.r_lload_n0 (pc := 54) o_X7_kindOfWord rfl rfl (Wp.r_lcmp (pc := 55) o_X7_kindOfWord rfl (Wp.r_if_ne (pc := 56) o_X7_kindOfWord rfl (fun c9 => ?_) (fun c9 => ?_))))
        · have H := oq_t c9 H
          exact Wp.r_iload_n2 (pc := 59) o_X7_kindOfWord rfl rfl (Wp.r_ireturn (pc := 60) o_X7_kindOfWord rfl (⟨rfl, H⟩))
        · have H := oq_f c9 H
          exact Wp.r_lconst (pc := 61) o_X7_kindOfWord rfl (Wp.r_lstore_n3 (pc := 62) o_X7_kindOfWord rfl (Wp.r_iinc (pc := 63) o_X7_kindOfWord rfl rfl (Wp.f_iinc_goto (pc := 66) o_X7_kindOfWord rfl rfl rfl (Wp.weak2 [4, 1, 2, 0] (ih _ _ _ _ _ H) rfl))))
      · have H := oq_f c9 H
        refine Wp.r_lload_n3 (pc := 34) o_X7_kindOfWord rfl rfl (Wp.r_ldc2_w (pc := 35) o_X7_kindOfWord rfl (Wp.r_lmul (pc := 38) o_X7_kindOfWord rfl (Wp.r_iload (pc := 39) o_X7_kindOfWord rfl rfl (Wp.r_i2l (pc := 41) o_X7_kindOfWord rfl (Wp.r_ladd (pc := 42) o_X7_kindOfWord rfl (Wp.r_ldc2_w (pc := 43) o_X7_kindOfWord rfl (Wp.r_lsub (pc := 46) o_X7_kindOfWord rfl (Wp.r_lconst (pc := 47) o_X7_kindOfWord rfl (Wp.r_ladd (pc := 48) o_X7_kindOfWord rfl (Wp.r_lstore_n3 (pc := 49) o_X7_kindOfWord rfl (show Y_X7_kindOfWord d Q 50 [(3, .long ((((v3 * 27) + x1.toInt64) - 97) + 1)), (6, .int x1), (0, .long v0), (2, .int v2), (5, .int v5)] [] s from ?_)))))))))))
        revert H
        generalize ((((v3 * 27) + x1.toInt64) - 97) + 1 : Int64) = x2
        intro H
        have H := nmx_e H
        exact Wp.r_goto (pc := 50) o_X7_kindOfWord rfl (Wp.f_iinc_goto (pc := 66) o_X7_kindOfWord rfl rfl rfl (Wp.weak2 [3, 4, 1, 0] (ih _ _ _ _ _ H) rfl))
noncomputable def f_X7_kindOfWord (a0 : Int64) (s : Sg) : Option (Int32 × Sg) :=
  f_X7_kindOfWord_b8 BIG a0 100 0 0 s
set_option maxRecDepth 100000 in
theorem w_X7_kindOfWord {d : Nat} {s : Sg} {Q : Qt} (a0 : Int64) (H : OQ (f_X7_kindOfWord a0 s) (fun r9 s9 => Q (some (.int r9)) s9)) : WpM SHC MT (d + 1) 78 [.long a0] s Q := by
  refine WpM.enter me_X7_kindOfWord rfl rfl ?_
  show Y_X7_kindOfWord d Q 0 [(0, .long a0)] [] s
  unfold f_X7_kindOfWord at H
  exact Wp.r_bipush (pc := 0) o_X7_kindOfWord rfl (Wp.r_istore_n2 (pc := 2) o_X7_kindOfWord rfl (Wp.r_lconst (pc := 3) o_X7_kindOfWord rfl (Wp.r_lstore_n3 (pc := 4) o_X7_kindOfWord rfl (Wp.r_iconst (pc := 5) o_X7_kindOfWord rfl (Wp.r_istore (pc := 6) o_X7_kindOfWord rfl (Wp.weak2 [3, 2, 1, 0] (w_X7_kindOfWord_b8 _ _ _ _ _ _ H) rfl))))))
noncomputable abbrev Y_X7_advance (d : Nat) (Q : Qt) : Xt := Wp SHC (WpM SHC MT (d + 2)) (flat2 cq_X7_advance) (none) Q
noncomputable def f_X7_advance_b52  (s : Sg) : Option (Unit × Sg) :=
  if ((pI s 7 4 (s.1 7 2)).1 7 2) < ((pI s 7 4 (s.1 7 2)).1 7 1) then
    ck (inr ((pI s 7 4 (s.1 7 2)).1 7 2) 900) (
    bd (f_X7_isLetter ((pI s 7 4 (s.1 7 2)).1 1 (((pI s 7 4 (s.1 7 2)).1 7 2).toNatClampNeg)) (pI s 7 4 (s.1 7 2))) (fun r2 s3 =>
    if r2 = 0 then
      ck (inr (s3.1 7 2) 900) (
      bd (f_X7_isDigit (s3.1 1 ((s3.1 7 2).toNatClampNeg)) s3) (fun r5 s6 =>
      if r5 = 0 then
        bd (f_X7_cutSign s6) (fun _ s8 =>
        some ((), s8)
        )
      else
        bd (f_X7_cutNumber s6) (fun _ s10 =>
        some ((), s10)
        )
      )
      )
    else
      bd (f_X7_cutWord s3) (fun _ s12 =>
      if ((s12.1 7 2) - (s12.1 7 4)) ≤ 8 then
        bd (f_X7_kindOfWord (s12.2 7 6) s12) (fun r13 s14 =>
        some ((), pI s14 7 3 r13)
        )
      else
        some ((), pI s12 7 3 2)
      )
    )
    )
  else
    some ((), pI (pI s 7 4 (s.1 7 2)) 7 3 0)
set_option maxRecDepth 100000 in
theorem w_X7_advance_b52 {d : Nat} {Q : Qt}  (s : Sg) (H : OQ (f_X7_advance_b52  s) (fun _ s9 => Q none s9)) : Y_X7_advance d Q 52 [(0, .ref 7)] [] s := by
  unfold f_X7_advance_b52 at H
  refine Wp.r_aload_n0 (pc := 52) o_X7_advance rfl rfl (Wp.f_al0_gfi (pc := 53) o_X7_advance rfl rfl rfl fk_C_7_2 (Wp.r_pfi (pc := 57) o_X7_advance rfl fk_C_7_4 (Wp.f_al0_gfi (pc := 60) o_X7_advance rfl rfl rfl fk_C_7_2 (Wp.f_al0_gfi (pc := 64) o_X7_advance rfl rfl rfl fk_C_7_1 (Wp.r_icmp_lt (pc := 68) o_X7_advance rfl (fun c9 => ?_) (fun c9 => ?_))))))
  · have H := oq_t c9 H
    obtain ⟨hc1, H⟩ := oq_ck H
    refine Wp.f_al0_gfr (pc := 79) o_X7_advance rfl rfl rfl fk_C_7_0 (Wp.f_al0_gfi (pc := 83) o_X7_advance rfl rfl rfl fk_C_7_2 (Wp.r_iaload (pc := 87) o_X7_advance rfl ak_C_1 (⟨hc1, ?_⟩)))
    refine Wp.r_cs1 (pc := 88) o_X7_advance rfl (⟨rm8_ rfl, ?_⟩)
    refine w_X7_isLetter (d := d + 1) _ ?_
    refine oq_bd H (fun r2 s3 H => ?_)
    refine Wp.r_if_eq (pc := 91) o_X7_advance rfl (fun c9 => ?_) (fun c9 => ?_)
    · have H := oq_t c9 H
      obtain ⟨hc4, H⟩ := oq_ck H
      refine Wp.f_al0_gfr (pc := 130) o_X7_advance rfl rfl rfl fk_C_7_0 (Wp.f_al0_gfi (pc := 134) o_X7_advance rfl rfl rfl fk_C_7_2 (Wp.r_iaload (pc := 138) o_X7_advance rfl ak_C_1 (⟨hc4, ?_⟩)))
      refine Wp.r_cs1 (pc := 139) o_X7_advance rfl (⟨rm8_ rfl, ?_⟩)
      refine w_X7_isDigit (d := d + 1) _ ?_
      refine oq_bd H (fun r5 s6 H => ?_)
      refine Wp.r_if_eq (pc := 142) o_X7_advance rfl (fun c9 => ?_) (fun c9 => ?_)
      · have H := oq_t c9 H
        refine Wp.r_aload_n0 (pc := 152) o_X7_advance rfl rfl (Wp.r_cv1 (pc := 153) o_X7_advance rfl fk_C_7_0 (⟨rm8_ rfl, ?_⟩))
        refine w_X7_cutSign (d := d + 1)  ?_
        refine oq_bd H (fun _ s8 H => ?_)
        exact Wp.r_return (pc := 156) o_X7_advance rfl (H)
      · have H := oq_f c9 H
        refine Wp.r_aload_n0 (pc := 145) o_X7_advance rfl rfl (Wp.r_cv1 (pc := 146) o_X7_advance rfl fk_C_7_0 (⟨rm8_ rfl, ?_⟩))
        refine w_X7_cutNumber (d := d)  ?_
        refine oq_bd H (fun _ s10 H => ?_)
        exact Wp.r_goto (pc := 149) o_X7_advance rfl (Wp.r_return (pc := 156) o_X7_advance rfl (H))
    · have H := oq_f c9 H
      refine Wp.r_aload_n0 (pc := 94) o_X7_advance rfl rfl (Wp.r_cv1 (pc := 95) o_X7_advance rfl fk_C_7_0 (⟨rm8_ rfl, ?_⟩))
      refine w_X7_cutWord (d := d)  ?_
      refine oq_bd H (fun _ s12 H => ?_)
      refine Wp.r_aload_n0 (pc := 98) o_X7_advance rfl rfl (Wp.f_al0_gfi (pc := 99) o_X7_advance rfl rfl rfl fk_C_7_2 (Wp.f_al0_gfi (pc := 103) o_X7_advance rfl rfl rfl fk_C_7_4 (Wp.r_isub (pc := 107) o_X7_advance rfl (Wp.r_bipush (pc := 108) o_X7_advance rfl (Wp.r_icmp_le (pc := 110) o_X7_advance rfl (fun c9 => ?_) (fun c9 => ?_))))))
      · have H := oq_t c9 H
        refine Wp.f_al0_gfl (pc := 117) o_X7_advance rfl rfl rfl fk_C_7_6 (Wp.r_cs1 (pc := 121) o_X7_advance rfl (⟨rm8_ rfl, ?_⟩))
        refine w_X7_kindOfWord (d := d + 1) _ ?_
        refine oq_bd H (fun r13 s14 H => ?_)
        exact Wp.r_pfi (pc := 124) o_X7_advance rfl fk_C_7_3 (Wp.r_goto (pc := 127) o_X7_advance rfl (Wp.r_return (pc := 156) o_X7_advance rfl (H)))
      · have H := oq_f c9 H
        exact Wp.r_iconst (pc := 113) o_X7_advance rfl (Wp.r_goto (pc := 114) o_X7_advance rfl (Wp.r_pfi (pc := 124) o_X7_advance rfl fk_C_7_3 (Wp.r_goto (pc := 127) o_X7_advance rfl (Wp.r_return (pc := 156) o_X7_advance rfl (H)))))
  · have H := oq_f c9 H
    exact Wp.f_al0_iconst (pc := 71) o_X7_advance rfl rfl rfl (Wp.r_pfi (pc := 73) o_X7_advance rfl fk_C_7_3 (Wp.r_goto (pc := 76) o_X7_advance rfl (Wp.r_return (pc := 156) o_X7_advance rfl (H))))
noncomputable def f_X7_advance_b0 : Nat → Sg → Option (Unit × Sg)
  | 0, _ => none
  | n + 1, s =>
    if (s.1 7 1) ≤ (s.1 7 2) then
      f_X7_advance_b52 s
    else
      ck (inr (s.1 7 2) 900) (
      if (s.1 1 ((s.1 7 2).toNatClampNeg)) = 32 then
        (f_X7_advance_b0 n) (pI s 7 2 ((s.1 7 2) + 1))
      else
        if (s.1 1 ((s.1 7 2).toNatClampNeg)) = 10 then
          (f_X7_advance_b0 n) (pI s 7 2 ((s.1 7 2) + 1))
        else
          f_X7_advance_b52 s
      )
set_option maxRecDepth 100000 in
theorem w_X7_advance_b0 {d : Nat} {Q : Qt} (n : Nat) : ∀  (s : Sg), OQ (f_X7_advance_b0 n  s) (fun _ s9 => Q none s9) → Y_X7_advance d Q 0 [(0, .ref 7)] [] s := by
  induction n with
  | zero => intro  s H; exact H.elim
  | succ n ih =>
    intro  s H
    unfold f_X7_advance_b0 at H
    refine Wp.f_al0_gfi (pc := 0) o_X7_advance rfl rfl rfl fk_C_7_2 (Wp.f_al0_gfi (pc := 4) o_X7_advance rfl rfl rfl fk_C_7_1 (Wp.r_icmp_ge (pc := 8) o_X7_advance rfl (fun c9 => ?_) (fun c9 => ?_)))
    · have H := oq_t c9 H
      exact Wp.weak2 [0] (w_X7_advance_b52 _ H) rfl
    · have H := oq_f c9 H
      obtain ⟨hc15, H⟩ := oq_ck H
      refine Wp.f_al0_gfr (pc := 11) o_X7_advance rfl rfl rfl fk_C_7_0 (Wp.f_al0_gfi (pc := 15) o_X7_advance rfl rfl rfl fk_C_7_2 (Wp.r_iaload (pc := 19) o_X7_advance rfl ak_C_1 (⟨hc15, ?_⟩)))
      refine Wp.r_bipush (pc := 20) o_X7_advance rfl (Wp.r_icmp_eq (pc := 22) o_X7_advance rfl (fun c9 => ?_) (fun c9 => ?_))
      · have H := oq_t c9 H
        exact Wp.r_aload_n0 (pc := 39) o_X7_advance rfl rfl (Wp.r_dup_r (pc := 40) o_X7_advance rfl (Wp.r_gfi (pc := 41) o_X7_advance rfl fk_C_7_2 (Wp.r_iconst (pc := 44) o_X7_advance rfl (Wp.r_iadd (pc := 45) o_X7_advance rfl (Wp.r_pfi (pc := 46) o_X7_advance rfl fk_C_7_2 (Wp.r_goto (pc := 49) o_X7_advance rfl (Wp.weak2 [0] (ih _ H) rfl)))))))
      · have H := oq_f c9 H
        refine Wp.f_al0_gfr (pc := 25) o_X7_advance rfl rfl rfl fk_C_7_0 (Wp.f_al0_gfi (pc := 29) o_X7_advance rfl rfl rfl fk_C_7_2 (Wp.r_iaload (pc := 33) o_X7_advance rfl ak_C_1 (⟨hc15, ?_⟩)))
        refine Wp.r_bipush (pc := 34) o_X7_advance rfl (Wp.r_icmp_ne (pc := 36) o_X7_advance rfl (fun c9 => ?_) (fun c9 => ?_))
        · have H := oq_t c9 H
          exact Wp.r_aload_n0 (pc := 39) o_X7_advance rfl rfl (Wp.r_dup_r (pc := 40) o_X7_advance rfl (Wp.r_gfi (pc := 41) o_X7_advance rfl fk_C_7_2 (Wp.r_iconst (pc := 44) o_X7_advance rfl (Wp.r_iadd (pc := 45) o_X7_advance rfl (Wp.r_pfi (pc := 46) o_X7_advance rfl fk_C_7_2 (Wp.r_goto (pc := 49) o_X7_advance rfl (Wp.weak2 [0] (ih _ H) rfl)))))))
        · have H := oq_f c9 H
          exact Wp.weak2 [0] (w_X7_advance_b52 _ H) rfl
noncomputable def f_X7_advance  (s : Sg) : Option (Unit × Sg) :=
  f_X7_advance_b0 BIG s
set_option maxRecDepth 100000 in
theorem w_X7_advance {d : Nat} {s : Sg} {Q : Qt}  (H : OQ (f_X7_advance  s) (fun _ s9 => Q none s9)) : WpM SHC MT (d + 3) 74 [.ref 7] s Q := by
  refine WpM.enter me_X7_advance rfl rfl ?_
  show Y_X7_advance d Q 0 [(0, .ref 7)] [] s
  unfold f_X7_advance at H
  exact Wp.weak2 [0] (w_X7_advance_b0 _ _ H) rfl
noncomputable abbrev Y_X7_begin (d : Nat) (Q : Qt) : Xt := Wp SHC (WpM SHC MT (d + 3)) (flat2 cq_X7_begin) (none) Q
noncomputable def f_X7_begin (a1 : Int32) (s : Sg) : Option (Unit × Sg) :=
  nmx (pI s 7 1 (if 900 < a1 then 900 else a1)) (fun s1 =>
  nmx (pI (pI (pI s1 7 2 0) 7 8 0) 7 9 (-1)) (fun s2 =>
  bd (f_X7_advance s2) (fun _ s4 =>
  some ((), s4)
  )
  )
  )
set_option maxRecDepth 100000 in
theorem w_X7_begin {d : Nat} {s : Sg} {Q : Qt} (a1 : Int32) (H : OQ (f_X7_begin a1 s) (fun _ s9 => Q none s9)) : WpM SHC MT (d + 4) 73 [.ref 7, .int a1] s Q := by
  refine WpM.enter me_X7_begin rfl rfl ?_
  show Y_X7_begin d Q 0 [(0, .ref 7), (1, .int a1)] [] s
  unfold f_X7_begin at H
  refine Wp.r_aload_n0 (pc := 0) o_X7_begin rfl rfl (Wp.r_iload_n1 (pc := 1) o_X7_begin rfl rfl (Wp.f_al0_gfr (pc := 2) o_X7_begin rfl rfl rfl fk_C_7_0 (Wp.r_alen (pc := 6) o_X7_begin rfl lk_C_1 (Wp.r_min (pc := 7) o_X7_begin rfl (⟨rm8_ rfl, ?_⟩)))))
  refine Wp.r_pfi (pc := 10) o_X7_begin rfl fk_C_7_1 (show Y_X7_begin d Q 13 [(0, .ref 7), (1, .int a1)] [] (pI s 7 1 (if 900 < a1 then 900 else a1)) from ?_)
  revert H
  generalize pI s 7 1 (if 900 < a1 then 900 else a1) = s1
  intro H
  have H := nmx_e H
  refine Wp.f_al0_iconst (pc := 13) o_X7_begin rfl rfl rfl (Wp.r_pfi (pc := 15) o_X7_begin rfl fk_C_7_2 (Wp.f_al0_iconst (pc := 18) o_X7_begin rfl rfl rfl (Wp.r_pfi (pc := 20) o_X7_begin rfl fk_C_7_8 (Wp.f_al0_iconst (pc := 23) o_X7_begin rfl rfl rfl (Wp.r_pfi (pc := 25) o_X7_begin rfl fk_C_7_9 (show Y_X7_begin d Q 28 [(0, .ref 7), (1, .int a1)] [] (pI (pI (pI s1 7 2 0) 7 8 0) 7 9 (-1)) from ?_))))))
  revert H
  generalize pI (pI (pI s1 7 2 0) 7 8 0) 7 9 (-1) = s2
  intro H
  have H := nmx_e H
  refine Wp.r_aload_n0 (pc := 28) o_X7_begin rfl rfl (Wp.r_cv1 (pc := 29) o_X7_begin rfl fk_C_7_0 (⟨rm8_ rfl, ?_⟩))
  refine w_X7_advance (d := d)  ?_
  refine oq_bd H (fun _ s4 H => ?_)
  exact Wp.r_return (pc := 32) o_X7_begin rfl (H)
noncomputable abbrev Y_X11_clearRow_61 (d : Nat) (Q : Qt) : Xt := Wp SHC (WpM SHC MT (d + 0)) (flat2 cq_X11_clearRow) (none) Q
noncomputable def f_X11_clearRow_61_b2 : Nat → Int32 → Sg → Option (Unit × Sg)
  | 0, _, _ => none
  | n + 1, v1, s =>
    if 8 ≤ v1 then
      some ((), s)
    else
      ck (inr v1 8) (
      (f_X11_clearRow_61_b2 n) (v1 + 1) (pI s 61 v1.toNatClampNeg 0)
      )
set_option maxRecDepth 100000 in
theorem w_X11_clearRow_61_b2 {d : Nat} {Q : Qt} (n : Nat) : ∀ (v1 : Int32) (s : Sg), OQ (f_X11_clearRow_61_b2 n v1 s) (fun _ s9 => Q none s9) → Y_X11_clearRow_61 d Q 2 [(0, .ref 61), (1, .int v1)] [] s := by
  induction n with
  | zero => intro v1 s H; exact H.elim
  | succ n ih =>
    intro v1 s H
    unfold f_X11_clearRow_61_b2 at H
    refine Wp.r_iload_n1 (pc := 2) o_X11_clearRow rfl rfl (Wp.f_al0_alen (pc := 3) o_X11_clearRow rfl rfl rfl lk_C_61 (Wp.r_icmp_ge (pc := 5) o_X11_clearRow rfl (fun c9 => ?_) (fun c9 => ?_)))
    · have H := oq_t c9 H
      exact Wp.r_return (pc := 18) o_X11_clearRow rfl (H)
    · have H := oq_f c9 H
      obtain ⟨hc1, H⟩ := oq_ck H
      refine Wp.r_aload_n0 (pc := 8) o_X11_clearRow rfl rfl (Wp.r_iload_n1 (pc := 9) o_X11_clearRow rfl rfl (Wp.r_iconst (pc := 10) o_X11_clearRow rfl (Wp.r_iastore (pc := 11) o_X11_clearRow rfl ak_C_61 (⟨hc1, ?_⟩))))
      exact Wp.f_iinc_goto (pc := 12) o_X11_clearRow rfl rfl rfl (Wp.weak2 [1, 0] (ih _ _ H) rfl)
noncomputable def f_X11_clearRow_61  (s : Sg) : Option (Unit × Sg) :=
  f_X11_clearRow_61_b2 BIG 0 s
set_option maxRecDepth 100000 in
theorem w_X11_clearRow_61 {d : Nat} {s : Sg} {Q : Qt}  (H : OQ (f_X11_clearRow_61  s) (fun _ s9 => Q none s9)) : WpM SHC MT (d + 1) 185 [.ref 61] s Q := by
  refine WpM.enter me_X11_clearRow rfl rfl ?_
  show Y_X11_clearRow_61 d Q 0 [(0, .ref 61)] [] s
  unfold f_X11_clearRow_61 at H
  exact Wp.r_iconst (pc := 0) o_X11_clearRow rfl (Wp.r_istore_n1 (pc := 1) o_X11_clearRow rfl (Wp.weak2 [1, 0] (w_X11_clearRow_61_b2 _ _ _ H) rfl))
noncomputable abbrev Y_X4_clear_52 (d : Nat) (Q : Qt) : Xt := Wp SHC (WpM SHC MT (d + 1)) (flat2 cq_X4_clear) (none) Q
noncomputable def f_X4_clear_52  (s : Sg) : Option (Unit × Sg) :=
  bd (f_X11_clearRow_61 s) (fun _ s2 =>
  nmx (pI (pI (pI s2 52 12 0) 52 13 0) 52 14 0) (fun s3 =>
  nmx (pI (pI (pI s3 52 15 0) 52 16 0) 52 17 0) (fun s4 =>
  some ((), pI (pI s4 52 18 5) 52 19 0)
  )
  )
  )
set_option maxRecDepth 100000 in
theorem w_X4_clear_52 {d : Nat} {s : Sg} {Q : Qt}  (H : OQ (f_X4_clear_52  s) (fun _ s9 => Q none s9)) : WpM SHC MT (d + 2) 49 [.ref 52] s Q := by
  refine WpM.enter me_X4_clear rfl rfl ?_
  show Y_X4_clear_52 d Q 0 [(0, .ref 52)] [] s
  unfold f_X4_clear_52 at H
  refine Wp.f_al0_gfr (pc := 0) o_X4_clear rfl rfl rfl fk_C_52_6 (Wp.r_cs1 (pc := 4) o_X4_clear rfl (⟨rm8_ rfl, ?_⟩))
  refine w_X11_clearRow_61 (d := d)  ?_
  refine oq_bd H (fun _ s2 H => ?_)
  refine Wp.f_al0_iconst (pc := 7) o_X4_clear rfl rfl rfl (Wp.r_pfi (pc := 9) o_X4_clear rfl fk_C_52_12 (Wp.f_al0_iconst (pc := 12) o_X4_clear rfl rfl rfl (Wp.r_pfi (pc := 14) o_X4_clear rfl fk_C_52_13 (Wp.f_al0_iconst (pc := 17) o_X4_clear rfl rfl rfl (Wp.r_pfi (pc := 19) o_X4_clear rfl fk_C_52_14 (show Y_X4_clear_52 d Q 22 [(0, .ref 52)] [] (pI (pI (pI s2 52 12 0) 52 13 0) 52 14 0) from ?_))))))
  revert H
  generalize pI (pI (pI s2 52 12 0) 52 13 0) 52 14 0 = s3
  intro H
  have H := nmx_e H
  refine Wp.f_al0_iconst (pc := 22) o_X4_clear rfl rfl rfl (Wp.r_pfi (pc := 24) o_X4_clear rfl fk_C_52_15 (Wp.f_al0_iconst (pc := 27) o_X4_clear rfl rfl rfl (Wp.r_pfi (pc := 29) o_X4_clear rfl fk_C_52_16 (Wp.f_al0_iconst (pc := 32) o_X4_clear rfl rfl rfl (Wp.r_pfi (pc := 34) o_X4_clear rfl fk_C_52_17 (show Y_X4_clear_52 d Q 37 [(0, .ref 52)] [] (pI (pI (pI s3 52 15 0) 52 16 0) 52 17 0) from ?_))))))
  revert H
  generalize pI (pI (pI s3 52 15 0) 52 16 0) 52 17 0 = s4
  intro H
  have H := nmx_e H
  refine Wp.f_al0_iconst (pc := 37) o_X4_clear rfl rfl rfl (Wp.r_pfi (pc := 39) o_X4_clear rfl fk_C_52_18 (Wp.f_al0_iconst (pc := 42) o_X4_clear rfl rfl rfl (Wp.r_pfz (pc := 44) o_X4_clear rfl fk_C_52_19 (show ((0 : Int32) = 0 ∨ 0 = 1) ∧ Y_X4_clear_52 d Q 47 [(0, .ref 52)] [] (pI (pI s4 52 18 5) 52 19 0) from ⟨Or.inl rfl, ?_⟩))))
  exact Wp.r_return (pc := 47) o_X4_clear rfl (H)
noncomputable abbrev Y_X11_clearRow_67 (d : Nat) (Q : Qt) : Xt := Wp SHC (WpM SHC MT (d + 0)) (flat2 cq_X11_clearRow) (none) Q
noncomputable def f_X11_clearRow_67_b2 : Nat → Int32 → Sg → Option (Unit × Sg)
  | 0, _, _ => none
  | n + 1, v1, s =>
    if 8 ≤ v1 then
      some ((), s)
    else
      ck (inr v1 8) (
      (f_X11_clearRow_67_b2 n) (v1 + 1) (pI s 67 v1.toNatClampNeg 0)
      )
set_option maxRecDepth 100000 in
theorem w_X11_clearRow_67_b2 {d : Nat} {Q : Qt} (n : Nat) : ∀ (v1 : Int32) (s : Sg), OQ (f_X11_clearRow_67_b2 n v1 s) (fun _ s9 => Q none s9) → Y_X11_clearRow_67 d Q 2 [(0, .ref 67), (1, .int v1)] [] s := by
  induction n with
  | zero => intro v1 s H; exact H.elim
  | succ n ih =>
    intro v1 s H
    unfold f_X11_clearRow_67_b2 at H
    refine Wp.r_iload_n1 (pc := 2) o_X11_clearRow rfl rfl (Wp.f_al0_alen (pc := 3) o_X11_clearRow rfl rfl rfl lk_C_67 (Wp.r_icmp_ge (pc := 5) o_X11_clearRow rfl (fun c9 => ?_) (fun c9 => ?_)))
    · have H := oq_t c9 H
      exact Wp.r_return (pc := 18) o_X11_clearRow rfl (H)
    · have H := oq_f c9 H
      obtain ⟨hc1, H⟩ := oq_ck H
      refine Wp.r_aload_n0 (pc := 8) o_X11_clearRow rfl rfl (Wp.r_iload_n1 (pc := 9) o_X11_clearRow rfl rfl (Wp.r_iconst (pc := 10) o_X11_clearRow rfl (Wp.r_iastore (pc := 11) o_X11_clearRow rfl ak_C_67 (⟨hc1, ?_⟩))))
      exact Wp.f_iinc_goto (pc := 12) o_X11_clearRow rfl rfl rfl (Wp.weak2 [1, 0] (ih _ _ H) rfl)
noncomputable def f_X11_clearRow_67  (s : Sg) : Option (Unit × Sg) :=
  f_X11_clearRow_67_b2 BIG 0 s
set_option maxRecDepth 100000 in
theorem w_X11_clearRow_67 {d : Nat} {s : Sg} {Q : Qt}  (H : OQ (f_X11_clearRow_67  s) (fun _ s9 => Q none s9)) : WpM SHC MT (d + 1) 185 [.ref 67] s Q := by
  refine WpM.enter me_X11_clearRow rfl rfl ?_
  show Y_X11_clearRow_67 d Q 0 [(0, .ref 67)] [] s
  unfold f_X11_clearRow_67 at H
  exact Wp.r_iconst (pc := 0) o_X11_clearRow rfl (Wp.r_istore_n1 (pc := 1) o_X11_clearRow rfl (Wp.weak2 [1, 0] (w_X11_clearRow_67_b2 _ _ _ H) rfl))
noncomputable abbrev Y_X11_clearRow_68 (d : Nat) (Q : Qt) : Xt := Wp SHC (WpM SHC MT (d + 0)) (flat2 cq_X11_clearRow) (none) Q
noncomputable def f_X11_clearRow_68_b2 : Nat → Int32 → Sg → Option (Unit × Sg)
  | 0, _, _ => none
  | n + 1, v1, s =>
    if 8 ≤ v1 then
      some ((), s)
    else
      ck (inr v1 8) (
      (f_X11_clearRow_68_b2 n) (v1 + 1) (pI s 68 v1.toNatClampNeg 0)
      )
set_option maxRecDepth 100000 in
theorem w_X11_clearRow_68_b2 {d : Nat} {Q : Qt} (n : Nat) : ∀ (v1 : Int32) (s : Sg), OQ (f_X11_clearRow_68_b2 n v1 s) (fun _ s9 => Q none s9) → Y_X11_clearRow_68 d Q 2 [(0, .ref 68), (1, .int v1)] [] s := by
  induction n with
  | zero => intro v1 s H; exact H.elim
  | succ n ih =>
    intro v1 s H
    unfold f_X11_clearRow_68_b2 at H
    refine Wp.r_iload_n1 (pc := 2) o_X11_clearRow rfl rfl (Wp.f_al0_alen (pc := 3) o_X11_clearRow rfl rfl rfl lk_C_68 (Wp.r_icmp_ge (pc := 5) o_X11_clearRow rfl (fun c9 => ?_) (fun c9 => ?_)))
    · have H := oq_t c9 H
      exact Wp.r_return (pc := 18) o_X11_clearRow rfl (H)
    · have H := oq_f c9 H
      obtain ⟨hc1, H⟩ := oq_ck H
      refine Wp.r_aload_n0 (pc := 8) o_X11_clearRow rfl rfl (Wp.r_iload_n1 (pc := 9) o_X11_clearRow rfl rfl (Wp.r_iconst (pc := 10) o_X11_clearRow rfl (Wp.r_iastore (pc := 11) o_X11_clearRow rfl ak_C_68 (⟨hc1, ?_⟩))))
      exact Wp.f_iinc_goto (pc := 12) o_X11_clearRow rfl rfl rfl (Wp.weak2 [1, 0] (ih _ _ H) rfl)
noncomputable def f_X11_clearRow_68  (s : Sg) : Option (Unit × Sg) :=
  f_X11_clearRow_68_b2 BIG 0 s
set_option maxRecDepth 100000 in
theorem w_X11_clearRow_68 {d : Nat} {s : Sg} {Q : Qt}  (H : OQ (f_X11_clearRow_68  s) (fun _ s9 => Q none s9)) : WpM SHC MT (d + 1) 185 [.ref 68] s Q := by
  refine WpM.enter me_X11_clearRow rfl rfl ?_
  show Y_X11_clearRow_68 d Q 0 [(0, .ref 68)] [] s
  unfold f_X11_clearRow_68 at H
  exact Wp.r_iconst (pc := 0) o_X11_clearRow rfl (Wp.r_istore_n1 (pc := 1) o_X11_clearRow rfl (Wp.weak2 [1, 0] (w_X11_clearRow_68_b2 _ _ _ H) rfl))
noncomputable abbrev Y_X11_clearRow_69 (d : Nat) (Q : Qt) : Xt := Wp SHC (WpM SHC MT (d + 0)) (flat2 cq_X11_clearRow) (none) Q
noncomputable def f_X11_clearRow_69_b2 : Nat → Int32 → Sg → Option (Unit × Sg)
  | 0, _, _ => none
  | n + 1, v1, s =>
    if 8 ≤ v1 then
      some ((), s)
    else
      ck (inr v1 8) (
      (f_X11_clearRow_69_b2 n) (v1 + 1) (pI s 69 v1.toNatClampNeg 0)
      )
set_option maxRecDepth 100000 in
theorem w_X11_clearRow_69_b2 {d : Nat} {Q : Qt} (n : Nat) : ∀ (v1 : Int32) (s : Sg), OQ (f_X11_clearRow_69_b2 n v1 s) (fun _ s9 => Q none s9) → Y_X11_clearRow_69 d Q 2 [(0, .ref 69), (1, .int v1)] [] s := by
  induction n with
  | zero => intro v1 s H; exact H.elim
  | succ n ih =>
    intro v1 s H
    unfold f_X11_clearRow_69_b2 at H
    refine Wp.r_iload_n1 (pc := 2) o_X11_clearRow rfl rfl (Wp.f_al0_alen (pc := 3) o_X11_clearRow rfl rfl rfl lk_C_69 (Wp.r_icmp_ge (pc := 5) o_X11_clearRow rfl (fun c9 => ?_) (fun c9 => ?_)))
    · have H := oq_t c9 H
      exact Wp.r_return (pc := 18) o_X11_clearRow rfl (H)
    · have H := oq_f c9 H
      obtain ⟨hc1, H⟩ := oq_ck H
      refine Wp.r_aload_n0 (pc := 8) o_X11_clearRow rfl rfl (Wp.r_iload_n1 (pc := 9) o_X11_clearRow rfl rfl (Wp.r_iconst (pc := 10) o_X11_clearRow rfl (Wp.r_iastore (pc := 11) o_X11_clearRow rfl ak_C_69 (⟨hc1, ?_⟩))))
      exact Wp.f_iinc_goto (pc := 12) o_X11_clearRow rfl rfl rfl (Wp.weak2 [1, 0] (ih _ _ H) rfl)
noncomputable def f_X11_clearRow_69  (s : Sg) : Option (Unit × Sg) :=
  f_X11_clearRow_69_b2 BIG 0 s
set_option maxRecDepth 100000 in
theorem w_X11_clearRow_69 {d : Nat} {s : Sg} {Q : Qt}  (H : OQ (f_X11_clearRow_69  s) (fun _ s9 => Q none s9)) : WpM SHC MT (d + 1) 185 [.ref 69] s Q := by
  refine WpM.enter me_X11_clearRow rfl rfl ?_
  show Y_X11_clearRow_69 d Q 0 [(0, .ref 69)] [] s
  unfold f_X11_clearRow_69 at H
  exact Wp.r_iconst (pc := 0) o_X11_clearRow rfl (Wp.r_istore_n1 (pc := 1) o_X11_clearRow rfl (Wp.weak2 [1, 0] (w_X11_clearRow_69_b2 _ _ _ H) rfl))
noncomputable abbrev Y_X11_clearRow_70 (d : Nat) (Q : Qt) : Xt := Wp SHC (WpM SHC MT (d + 0)) (flat2 cq_X11_clearRow) (none) Q
noncomputable def f_X11_clearRow_70_b2 : Nat → Int32 → Sg → Option (Unit × Sg)
  | 0, _, _ => none
  | n + 1, v1, s =>
    if 8 ≤ v1 then
      some ((), s)
    else
      ck (inr v1 8) (
      (f_X11_clearRow_70_b2 n) (v1 + 1) (pI s 70 v1.toNatClampNeg 0)
      )
set_option maxRecDepth 100000 in
theorem w_X11_clearRow_70_b2 {d : Nat} {Q : Qt} (n : Nat) : ∀ (v1 : Int32) (s : Sg), OQ (f_X11_clearRow_70_b2 n v1 s) (fun _ s9 => Q none s9) → Y_X11_clearRow_70 d Q 2 [(0, .ref 70), (1, .int v1)] [] s := by
  induction n with
  | zero => intro v1 s H; exact H.elim
  | succ n ih =>
    intro v1 s H
    unfold f_X11_clearRow_70_b2 at H
    refine Wp.r_iload_n1 (pc := 2) o_X11_clearRow rfl rfl (Wp.f_al0_alen (pc := 3) o_X11_clearRow rfl rfl rfl lk_C_70 (Wp.r_icmp_ge (pc := 5) o_X11_clearRow rfl (fun c9 => ?_) (fun c9 => ?_)))
    · have H := oq_t c9 H
      exact Wp.r_return (pc := 18) o_X11_clearRow rfl (H)
    · have H := oq_f c9 H
      obtain ⟨hc1, H⟩ := oq_ck H
      refine Wp.r_aload_n0 (pc := 8) o_X11_clearRow rfl rfl (Wp.r_iload_n1 (pc := 9) o_X11_clearRow rfl rfl (Wp.r_iconst (pc := 10) o_X11_clearRow rfl (Wp.r_iastore (pc := 11) o_X11_clearRow rfl ak_C_70 (⟨hc1, ?_⟩))))
      exact Wp.f_iinc_goto (pc := 12) o_X11_clearRow rfl rfl rfl (Wp.weak2 [1, 0] (ih _ _ H) rfl)
noncomputable def f_X11_clearRow_70  (s : Sg) : Option (Unit × Sg) :=
  f_X11_clearRow_70_b2 BIG 0 s
set_option maxRecDepth 100000 in
theorem w_X11_clearRow_70 {d : Nat} {s : Sg} {Q : Qt}  (H : OQ (f_X11_clearRow_70  s) (fun _ s9 => Q none s9)) : WpM SHC MT (d + 1) 185 [.ref 70] s Q := by
  refine WpM.enter me_X11_clearRow rfl rfl ?_
  show Y_X11_clearRow_70 d Q 0 [(0, .ref 70)] [] s
  unfold f_X11_clearRow_70 at H
  exact Wp.r_iconst (pc := 0) o_X11_clearRow rfl (Wp.r_istore_n1 (pc := 1) o_X11_clearRow rfl (Wp.weak2 [1, 0] (w_X11_clearRow_70_b2 _ _ _ H) rfl))
noncomputable abbrev Y_X11_clearRow_71 (d : Nat) (Q : Qt) : Xt := Wp SHC (WpM SHC MT (d + 0)) (flat2 cq_X11_clearRow) (none) Q
noncomputable def f_X11_clearRow_71_b2 : Nat → Int32 → Sg → Option (Unit × Sg)
  | 0, _, _ => none
  | n + 1, v1, s =>
    if 4 ≤ v1 then
      some ((), s)
    else
      ck (inr v1 4) (
      (f_X11_clearRow_71_b2 n) (v1 + 1) (pI s 71 v1.toNatClampNeg 0)
      )
set_option maxRecDepth 100000 in
theorem w_X11_clearRow_71_b2 {d : Nat} {Q : Qt} (n : Nat) : ∀ (v1 : Int32) (s : Sg), OQ (f_X11_clearRow_71_b2 n v1 s) (fun _ s9 => Q none s9) → Y_X11_clearRow_71 d Q 2 [(0, .ref 71), (1, .int v1)] [] s := by
  induction n with
  | zero => intro v1 s H; exact H.elim
  | succ n ih =>
    intro v1 s H
    unfold f_X11_clearRow_71_b2 at H
    refine Wp.r_iload_n1 (pc := 2) o_X11_clearRow rfl rfl (Wp.f_al0_alen (pc := 3) o_X11_clearRow rfl rfl rfl lk_C_71 (Wp.r_icmp_ge (pc := 5) o_X11_clearRow rfl (fun c9 => ?_) (fun c9 => ?_)))
    · have H := oq_t c9 H
      exact Wp.r_return (pc := 18) o_X11_clearRow rfl (H)
    · have H := oq_f c9 H
      obtain ⟨hc1, H⟩ := oq_ck H
      refine Wp.r_aload_n0 (pc := 8) o_X11_clearRow rfl rfl (Wp.r_iload_n1 (pc := 9) o_X11_clearRow rfl rfl (Wp.r_iconst (pc := 10) o_X11_clearRow rfl (Wp.r_iastore (pc := 11) o_X11_clearRow rfl ak_C_71 (⟨hc1, ?_⟩))))
      exact Wp.f_iinc_goto (pc := 12) o_X11_clearRow rfl rfl rfl (Wp.weak2 [1, 0] (ih _ _ H) rfl)
noncomputable def f_X11_clearRow_71  (s : Sg) : Option (Unit × Sg) :=
  f_X11_clearRow_71_b2 BIG 0 s
set_option maxRecDepth 100000 in
theorem w_X11_clearRow_71 {d : Nat} {s : Sg} {Q : Qt}  (H : OQ (f_X11_clearRow_71  s) (fun _ s9 => Q none s9)) : WpM SHC MT (d + 1) 185 [.ref 71] s Q := by
  refine WpM.enter me_X11_clearRow rfl rfl ?_
  show Y_X11_clearRow_71 d Q 0 [(0, .ref 71)] [] s
  unfold f_X11_clearRow_71 at H
  exact Wp.r_iconst (pc := 0) o_X11_clearRow rfl (Wp.r_istore_n1 (pc := 1) o_X11_clearRow rfl (Wp.weak2 [1, 0] (w_X11_clearRow_71_b2 _ _ _ H) rfl))
noncomputable abbrev Y_X2_clear_53 (d : Nat) (Q : Qt) : Xt := Wp SHC (WpM SHC MT (d + 1)) (flat2 cq_X2_clear) (none) Q
noncomputable def f_X2_clear_53  (s : Sg) : Option (Unit × Sg) :=
  bd (f_X11_clearRow_67 s) (fun _ s2 =>
  bd (f_X11_clearRow_68 s2) (fun _ s4 =>
  bd (f_X11_clearRow_69 s4) (fun _ s6 =>
  bd (f_X11_clearRow_70 s6) (fun _ s8 =>
  bd (f_X11_clearRow_71 s8) (fun _ s10 =>
  nmx (pI (pI (pI (pI s10 53 5 0) 53 6 0) 53 7 0) 53 8 0) (fun s11 =>
  nmx (pI (pI (pI s11 53 9 0) 53 10 0) 53 11 0) (fun s12 =>
  some ((), pI s12 53 12 0)
  )
  )
  )
  )
  )
  )
  )
set_option maxRecDepth 100000 in
theorem w_X2_clear_53 {d : Nat} {s : Sg} {Q : Qt}  (H : OQ (f_X2_clear_53  s) (fun _ s9 => Q none s9)) : WpM SHC MT (d + 2) 20 [.ref 53] s Q := by
  refine WpM.enter me_X2_clear rfl rfl ?_
  show Y_X2_clear_53 d Q 0 [(0, .ref 53)] [] s
  unfold f_X2_clear_53 at H
  refine Wp.f_al0_gfr (pc := 0) o_X2_clear rfl rfl rfl fk_C_53_0 (Wp.r_cs1 (pc := 4) o_X2_clear rfl (⟨rm8_ rfl, ?_⟩))
  refine w_X11_clearRow_67 (d := d)  ?_
  refine oq_bd H (fun _ s2 H => ?_)
  refine Wp.f_al0_gfr (pc := 7) o_X2_clear rfl rfl rfl fk_C_53_1 (Wp.r_cs1 (pc := 11) o_X2_clear rfl (⟨rm8_ rfl, ?_⟩))
  refine w_X11_clearRow_68 (d := d)  ?_
  refine oq_bd H (fun _ s4 H => ?_)
  refine Wp.f_al0_gfr (pc := 14) o_X2_clear rfl rfl rfl fk_C_53_2 (Wp.r_cs1 (pc := 18) o_X2_clear rfl (⟨rm8_ rfl, ?_⟩))
  refine w_X11_clearRow_69 (d := d)  ?_
  refine oq_bd H (fun _ s6 H => ?_)
  refine Wp.f_al0_gfr (pc := 21) o_X2_clear rfl rfl rfl fk_C_53_3 (Wp.r_cs1 (pc := 25) o_X2_clear rfl (⟨rm8_ rfl, ?_⟩))
  refine w_X11_clearRow_70 (d := d)  ?_
  refine oq_bd H (fun _ s8 H => ?_)
  refine Wp.f_al0_gfr (pc := 28) o_X2_clear rfl rfl rfl fk_C_53_4 (Wp.r_cs1 (pc := 32) o_X2_clear rfl (⟨rm8_ rfl, ?_⟩))
  refine w_X11_clearRow_71 (d := d)  ?_
  refine oq_bd H (fun _ s10 H => ?_)
  refine Wp.f_al0_iconst (pc := 35) o_X2_clear rfl rfl rfl (Wp.r_pfi (pc := 37) o_X2_clear rfl fk_C_53_5 (Wp.f_al0_iconst (pc := 40) o_X2_clear rfl rfl rfl (Wp.r_pfi (pc := 42) o_X2_clear rfl fk_C_53_6 (Wp.f_al0_iconst (pc := 45) o_X2_clear rfl rfl rfl (Wp.r_pfz (pc := 47) o_X2_clear rfl fk_C_53_7 (show ((0 : Int32) = 0 ∨ 0 = 1) ∧ Y_X2_clear_53 d Q 50 [(0, .ref 53)] [] (pI (pI (pI s10 53 5 0) 53 6 0) 53 7 0) from ⟨Or.inl rfl, ?_⟩))))))
  refine Wp.f_al0_iconst (pc := 50) o_X2_clear rfl rfl rfl (Wp.r_pfi (pc := 52) o_X2_clear rfl fk_C_53_8 (show Y_X2_clear_53 d Q 55 [(0, .ref 53)] [] (pI (pI (pI (pI s10 53 5 0) 53 6 0) 53 7 0) 53 8 0) from ?_))
  revert H
  generalize pI (pI (pI (pI s10 53 5 0) 53 6 0) 53 7 0) 53 8 0 = s11
  intro H
  have H := nmx_e H
  refine Wp.f_al0_iconst (pc := 55) o_X2_clear rfl rfl rfl (Wp.r_pfi (pc := 57) o_X2_clear rfl fk_C_53_9 (Wp.f_al0_iconst (pc := 60) o_X2_clear rfl rfl rfl (Wp.r_pfi (pc := 62) o_X2_clear rfl fk_C_53_10 (Wp.f_al0_iconst (pc := 65) o_X2_clear rfl rfl rfl (Wp.r_pfi (pc := 67) o_X2_clear rfl fk_C_53_11 (show Y_X2_clear_53 d Q 70 [(0, .ref 53)] [] (pI (pI (pI s11 53 9 0) 53 10 0) 53 11 0) from ?_))))))
  revert H
  generalize pI (pI (pI s11 53 9 0) 53 10 0) 53 11 0 = s12
  intro H
  have H := nmx_e H
  exact Wp.f_al0_iconst (pc := 70) o_X2_clear rfl rfl rfl (Wp.r_pfi (pc := 72) o_X2_clear rfl fk_C_53_12 (Wp.r_return (pc := 75) o_X2_clear rfl (H)))
noncomputable abbrev Y_X5_clear_54 (d : Nat) (Q : Qt) : Xt := Wp SHC (WpM SHC MT (d + 0)) (flat2 cq_X5_clear) (none) Q
noncomputable def f_X5_clear_54  (s : Sg) : Option (Unit × Sg) :=
  nmx (pI (pI (pI s 54 6 0) 54 7 0) 54 8 0) (fun s1 =>
  some ((), s1)
  )
set_option maxRecDepth 100000 in
theorem w_X5_clear_54 {d : Nat} {s : Sg} {Q : Qt}  (H : OQ (f_X5_clear_54  s) (fun _ s9 => Q none s9)) : WpM SHC MT (d + 1) 61 [.ref 54] s Q := by
  refine WpM.enter me_X5_clear rfl rfl ?_
  show Y_X5_clear_54 d Q 0 [(0, .ref 54)] [] s
  unfold f_X5_clear_54 at H
  refine Wp.f_al0_iconst (pc := 0) o_X5_clear rfl rfl rfl (Wp.r_pfz (pc := 2) o_X5_clear rfl fk_C_54_6 (show ((0 : Int32) = 0 ∨ 0 = 1) ∧ Y_X5_clear_54 d Q 5 [(0, .ref 54)] [] (pI s 54 6 0) from ⟨Or.inl rfl, ?_⟩))
  refine Wp.f_al0_iconst (pc := 5) o_X5_clear rfl rfl rfl (Wp.r_pfi (pc := 7) o_X5_clear rfl fk_C_54_7 (Wp.f_al0_iconst (pc := 10) o_X5_clear rfl rfl rfl (Wp.r_pfi (pc := 12) o_X5_clear rfl fk_C_54_8 (show Y_X5_clear_54 d Q 15 [(0, .ref 54)] [] (pI (pI (pI s 54 6 0) 54 7 0) 54 8 0) from ?_))))
  revert H
  generalize pI (pI (pI s 54 6 0) 54 7 0) 54 8 0 = s1
  intro H
  have H := nmx_e H
  exact Wp.r_return (pc := 15) o_X5_clear rfl (H)
noncomputable abbrev Y_X10_clear_51 (d : Nat) (Q : Qt) : Xt := Wp SHC (WpM SHC MT (d + 2)) (flat2 cq_X10_clear) (none) Q
noncomputable def f_X10_clear_51  (s : Sg) : Option (Unit × Sg) :=
  bd (f_X4_clear_52 s) (fun _ s2 =>
  bd (f_X2_clear_53 s2) (fun _ s4 =>
  bd (f_X5_clear_54 s4) (fun _ s6 =>
  some ((), s6)
  )
  )
  )
set_option maxRecDepth 100000 in
theorem w_X10_clear_51 {d : Nat} {s : Sg} {Q : Qt}  (H : OQ (f_X10_clear_51  s) (fun _ s9 => Q none s9)) : WpM SHC MT (d + 3) 100 [.ref 51] s Q := by
  refine WpM.enter me_X10_clear rfl rfl ?_
  show Y_X10_clear_51 d Q 0 [(0, .ref 51)] [] s
  unfold f_X10_clear_51 at H
  refine Wp.f_al0_gfr (pc := 0) o_X10_clear rfl rfl rfl fk_C_51_0 (Wp.r_cv1 (pc := 4) o_X10_clear rfl fk_C_52_0 (⟨rm8_ rfl, ?_⟩))
  refine w_X4_clear_52 (d := d)  ?_
  refine oq_bd H (fun _ s2 H => ?_)
  refine Wp.f_al0_gfr (pc := 7) o_X10_clear rfl rfl rfl fk_C_51_1 (Wp.r_cv1 (pc := 11) o_X10_clear rfl fk_C_53_0 (⟨rm8_ rfl, ?_⟩))
  refine w_X2_clear_53 (d := d)  ?_
  refine oq_bd H (fun _ s4 H => ?_)
  refine Wp.f_al0_gfr (pc := 14) o_X10_clear rfl rfl rfl fk_C_51_2 (Wp.r_cv1 (pc := 18) o_X10_clear rfl fk_C_54_0 (⟨rm8_ rfl, ?_⟩))
  refine w_X5_clear_54 (d := d + 1)  ?_
  refine oq_bd H (fun _ s6 H => ?_)
  exact Wp.r_return (pc := 21) o_X10_clear rfl (H)
noncomputable abbrev Y_X4_addName_52 (d : Nat) (Q : Qt) : Xt := Wp SHC (WpM SHC MT (d + 0)) (flat2 cq_X4_addName) (some .boolean) Q
noncomputable def f_X4_addName_52_b14 : Nat → Int64 → Int32 → Int32 → Int32 → Sg → Option (Int32 × Sg)
  | 0, _, _, _, _, _ => none
  | n + 1, v1, v3, v4, v5, s =>
    if (s.1 52 12) ≤ v5 then
      ck (inr (s.1 52 12) 24) (
      nmx (pL s 55 ((s.1 52 12).toNatClampNeg) v1) (fun s2 =>
      ck (inr (s2.1 52 12) 24) (
      nmx (pI s2 56 ((s2.1 52 12).toNatClampNeg) v3) (fun s4 =>
      ck (inr (s4.1 52 12) 24) (
      nmx (pI s4 57 ((s4.1 52 12).toNatClampNeg) v4) (fun s6 =>
      some (1, pI s6 52 12 ((s6.1 52 12) + 1))
      )
      )
      )
      )
      )
      )
    else
      ck (inr v5 24) (
      if (lg_cmp (s.2 55 v5.toNatClampNeg) v1) = 0 then
        some (0, s)
      else
        (f_X4_addName_52_b14 n) v1 v3 v4 (v5 + 1) s
      )
set_option maxRecDepth 100000 in
theorem w_X4_addName_52_b14 {d : Nat} {Q : Qt} (n : Nat) : ∀ (v1 : Int64) (v3 : Int32) (v4 : Int32) (v5 : Int32) (s : Sg), OQ (f_X4_addName_52_b14 n v1 v3 v4 v5 s) (fun r9 s9 => Q (some (.int r9)) s9) → Y_X4_addName_52 d Q 14 [(0, .ref 52), (1, .long v1), (3, .int v3), (4, .int v4), (5, .int v5)] [] s := by
  induction n with
  | zero => intro v1 v3 v4 v5 s H; exact H.elim
  | succ n ih =>
    intro v1 v3 v4 v5 s H
    unfold f_X4_addName_52_b14 at H
    refine Wp.r_iload (pc := 14) o_X4_addName rfl rfl (Wp.f_al0_gfi (pc := 16) o_X4_addName rfl rfl rfl fk_C_52_12 (Wp.r_icmp_ge (pc := 20) o_X4_addName rfl (fun c9 => ?_) (fun c9 => ?_)))
    · have H := oq_t c9 H
      obtain ⟨hc1, H⟩ := oq_ck H
      refine Wp.f_al0_gfr (pc := 43) o_X4_addName rfl rfl rfl fk_C_52_0 (Wp.f_al0_gfi (pc := 47) o_X4_addName rfl rfl rfl fk_C_52_12 (Wp.r_lload_n1 (pc := 51) o_X4_addName rfl rfl (Wp.r_lastore (pc := 52) o_X4_addName rfl ak_C_55 (⟨hc1, ?_⟩))))
      revert H
      generalize pL s 55 ((s.1 52 12).toNatClampNeg) v1 = s2
      intro H
      have H := nmx_e H
      obtain ⟨hc3, H⟩ := oq_ck H
      refine Wp.f_al0_gfr (pc := 53) o_X4_addName rfl rfl rfl fk_C_52_1 (Wp.f_al0_gfi (pc := 57) o_X4_addName rfl rfl rfl fk_C_52_12 (Wp.r_iload_n3 (pc := 61) o_X4_addName rfl rfl (Wp.r_iastore (pc := 62) o_X4_addName rfl ak_C_56 (⟨hc3, ?_⟩))))
      revert H
      generalize pI s2 56 ((s2.1 52 12).toNatClampNeg) v3 = s4
      intro H
      have H := nmx_e H
      obtain ⟨hc5, H⟩ := oq_ck H
      refine Wp.f_al0_gfr (pc := 63) o_X4_addName rfl rfl rfl fk_C_52_2 (Wp.f_al0_gfi (pc := 67) o_X4_addName rfl rfl rfl fk_C_52_12 (Wp.r_iload (pc := 71) o_X4_addName rfl rfl (Wp.r_iastore (pc := 73) o_X4_addName rfl ak_C_57 (⟨hc5, ?_⟩))))
      revert H
      generalize pI s4 57 ((s4.1 52 12).toNatClampNeg) v4 = s6
      intro H
      have H := nmx_e H
      exact Wp.r_aload_n0 (pc := 74) o_X4_addName rfl rfl (Wp.r_dup_r (pc := 75) o_X4_addName rfl (Wp.r_gfi (pc := 76) o_X4_addName rfl fk_C_52_12 (Wp.r_iconst (pc := 79) o_X4_addName rfl (Wp.r_iadd (pc := 80) o_X4_addName rfl (Wp.r_pfi (pc := 81) o_X4_addName rfl fk_C_52_12 (Wp.r_iconst (pc := 84) o_X4_addName rfl (Wp.r_ireturn (pc := 85) o_X4_addName rfl (⟨rfl, H⟩))))))))
    · have H := oq_f c9 H
      obtain ⟨hc7, H⟩ := oq_ck H
      refine Wp.f_al0_gfr (pc := 23) o_X4_addName rfl rfl rfl fk_C_52_0 (Wp.r_iload (pc := 27) o_X4_addName rfl rfl (Wp.r_laload (pc := 29) o_X4_addName rfl ak_C_55 (⟨hc7, ?_⟩)))
      refine Wp.r_lload_n1 (pc := 30) o_X4_addName rfl rfl (Wp.r_lcmp (pc := 31) o_X4_addName rfl (Wp.r_if_ne (pc := 32) o_X4_addName rfl (fun c9 => ?_) (fun c9 => ?_)))
      · have H := oq_t c9 H
        exact Wp.r_iconst (pc := 35) o_X4_addName rfl (Wp.r_ireturn (pc := 36) o_X4_addName rfl (⟨rfl, H⟩))
      · have H := oq_f c9 H
        exact Wp.f_iinc_goto (pc := 37) o_X4_addName rfl rfl rfl (Wp.weak2 [1, 2, 3, 4, 0] (ih _ _ _ _ _ H) rfl)
noncomputable def f_X4_addName_52 (a1 : Int64) (a2 : Int32) (a3 : Int32) (s : Sg) : Option (Int32 × Sg) :=
  if (s.1 52 12) < 24 then
    f_X4_addName_52_b14 BIG a1 a2 a3 0 s
  else
    some (0, s)
set_option maxRecDepth 100000 in
theorem w_X4_addName_52 {d : Nat} {s : Sg} {Q : Qt} (a1 : Int64) (a2 : Int32) (a3 : Int32) (H : OQ (f_X4_addName_52 a1 a2 a3 s) (fun r9 s9 => Q (some (.int r9)) s9)) : WpM SHC MT (d + 1) 51 [.ref 52, .long a1, .int a2, .int a3] s Q := by
  refine WpM.enter me_X4_addName rfl rfl ?_
  show Y_X4_addName_52 d Q 0 [(0, .ref 52), (1, .long a1), (3, .int a2), (4, .int a3)] [] s
  unfold f_X4_addName_52 at H
  refine Wp.f_al0_gfi (pc := 0) o_X4_addName rfl rfl rfl fk_C_52_12 (Wp.r_bipush (pc := 4) o_X4_addName rfl (Wp.r_icmp_lt (pc := 6) o_X4_addName rfl (fun c9 => ?_) (fun c9 => ?_)))
  · have H := oq_t c9 H
    exact Wp.r_iconst (pc := 11) o_X4_addName rfl (Wp.r_istore (pc := 12) o_X4_addName rfl (Wp.weak2 [1, 2, 3, 4, 0] (w_X4_addName_52_b14 _ _ _ _ _ _ H) rfl))
  · have H := oq_f c9 H
    exact Wp.r_iconst (pc := 9) o_X4_addName rfl (Wp.r_ireturn (pc := 10) o_X4_addName rfl (⟨rfl, H⟩))
noncomputable abbrev Y_X7_wrong (d : Nat) (Q : Qt) : Xt := Wp SHC (WpM SHC MT (d + 0)) (flat2 cq_X7_wrong) (some .boolean) Q
noncomputable def f_X7_wrong (a1 : Int32) (s : Sg) : Option (Int32 × Sg) :=
  if (s.1 7 3) = 4 then
    nmx (pI (pI s 7 8 1) 7 9 ((pI s 7 8 1).1 7 4)) (fun s1 =>
    some (0, s1)
    )
  else
    nmx (pI (pI s 7 8 a1) 7 9 ((pI s 7 8 a1).1 7 4)) (fun s2 =>
    some (0, s2)
    )
set_option maxRecDepth 100000 in
theorem w_X7_wrong {d : Nat} {s : Sg} {Q : Qt} (a1 : Int32) (H : OQ (f_X7_wrong a1 s) (fun r9 s9 => Q (some (.int r9)) s9)) : WpM SHC MT (d + 1) 81 [.ref 7, .int a1] s Q := by
  refine WpM.enter me_X7_wrong rfl rfl ?_
  show Y_X7_wrong d Q 0 [(0, .ref 7), (1, .int a1)] [] s
  unfold f_X7_wrong at H
  refine Wp.r_aload_n0 (pc := 0) o_X7_wrong rfl rfl (Wp.f_al0_gfi (pc := 1) o_X7_wrong rfl rfl rfl fk_C_7_3 (Wp.r_iconst (pc := 5) o_X7_wrong rfl (Wp.r_icmp_ne (pc := 6) o_X7_wrong rfl (fun c9 => ?_) (fun c9 => ?_))))
  · have H := oq_t c9 H
    refine Wp.r_iconst (pc := 9) o_X7_wrong rfl (Wp.r_goto (pc := 10) o_X7_wrong rfl (Wp.r_pfi (pc := 14) o_X7_wrong rfl fk_C_7_8 (Wp.r_aload_n0 (pc := 17) o_X7_wrong rfl rfl (Wp.f_al0_gfi (pc := 18) o_X7_wrong rfl rfl rfl fk_C_7_4 (Wp.r_pfi (pc := 22) o_X7_wrong rfl fk_C_7_9 (show Y_X7_wrong d Q 25 [(0, .ref 7), (1, .int a1)] [] (pI (pI s 7 8 1) 7 9 ((pI s 7 8 1).1 7 4)) from ?_))))))
    revert H
    generalize pI (pI s 7 8 1) 7 9 ((pI s 7 8 1).1 7 4) = s1
    intro H
    have H := nmx_e H
    exact Wp.r_iconst (pc := 25) o_X7_wrong rfl (Wp.r_ireturn (pc := 26) o_X7_wrong rfl (⟨rfl, H⟩))
  · have H := oq_f c9 H
    refine Wp.r_iload_n1 (pc := 13) o_X7_wrong rfl rfl (Wp.r_pfi (pc := 14) o_X7_wrong rfl fk_C_7_8 (Wp.r_aload_n0 (pc := 17) o_X7_wrong rfl rfl (Wp.f_al0_gfi (pc := 18) o_X7_wrong rfl rfl rfl fk_C_7_4 (Wp.r_pfi (pc := 22) o_X7_wrong rfl fk_C_7_9 (show Y_X7_wrong d Q 25 [(0, .ref 7), (1, .int a1)] [] (pI (pI s 7 8 a1) 7 9 ((pI s 7 8 a1).1 7 4)) from ?_)))))
    revert H
    generalize pI (pI s 7 8 a1) 7 9 ((pI s 7 8 a1).1 7 4) = s2
    intro H
    have H := nmx_e H
    exact Wp.r_iconst (pc := 25) o_X7_wrong rfl (Wp.r_ireturn (pc := 26) o_X7_wrong rfl (⟨rfl, H⟩))
noncomputable abbrev Y_X6_takeNew (d : Nat) (Q : Qt) : Xt := Wp SHC (WpM SHC MT (d + 3)) (flat2 cq_X6_takeNew) (some .boolean) Q
noncomputable def f_X6_takeNew (a1 : Int32) (a2 : Int32) (a3 : Int32) (s : Sg) : Option (Int32 × Sg) :=
  if a2 < a3 then
    bd (f_X7_advance s) (fun _ s2 =>
    if (s2.1 7 3) = 1 then
      bd (f_X4_addName_52 (s2.2 7 6) a1 a2 s2) (fun r3 s4 =>
      if r3 = 0 then
        bd (f_X7_wrong 3 s4) (fun r5 s6 =>
        ck (r5 = 0 ∨ r5 = 1) (some (r5, s6))
        )
      else
        bd (f_X7_advance s4) (fun _ s8 =>
        some (1, s8)
        )
      )
    else
      bd (f_X7_wrong 2 s2) (fun r9 s10 =>
      ck (r9 = 0 ∨ r9 = 1) (some (r9, s10))
      )
    )
  else
    bd (f_X7_wrong 6 s) (fun r11 s12 =>
    ck (r11 = 0 ∨ r11 = 1) (some (r11, s12))
    )
set_option maxRecDepth 100000 in
theorem w_X6_takeNew {d : Nat} {s : Sg} {Q : Qt} (a1 : Int32) (a2 : Int32) (a3 : Int32) (H : OQ (f_X6_takeNew a1 a2 a3 s) (fun r9 s9 => Q (some (.int r9)) s9)) : WpM SHC MT (d + 4) 64 [.ref 8, .int a1, .int a2, .int a3] s Q := by
  refine WpM.enter me_X6_takeNew rfl rfl ?_
  show Y_X6_takeNew d Q 0 [(0, .ref 8), (1, .int a1), (2, .int a2), (3, .int a3)] [] s
  unfold f_X6_takeNew at H
  refine Wp.r_iload_n2 (pc := 0) o_X6_takeNew rfl rfl (Wp.r_iload_n3 (pc := 1) o_X6_takeNew rfl rfl (Wp.r_icmp_lt (pc := 2) o_X6_takeNew rfl (fun c9 => ?_) (fun c9 => ?_)))
  · have H := oq_t c9 H
    refine Wp.f_al0_gfr (pc := 15) o_X6_takeNew rfl rfl rfl fk_C_8_0 (Wp.r_cv1 (pc := 19) o_X6_takeNew rfl fk_C_7_0 (⟨rm8_ rfl, ?_⟩))
    refine w_X7_advance (d := d)  ?_
    refine oq_bd H (fun _ s2 H => ?_)
    refine Wp.f_al0_gfr (pc := 22) o_X6_takeNew rfl rfl rfl fk_C_8_0 (Wp.r_gfi (pc := 26) o_X6_takeNew rfl fk_C_7_3 (Wp.r_iconst (pc := 29) o_X6_takeNew rfl (Wp.r_icmp_eq (pc := 30) o_X6_takeNew rfl (fun c9 => ?_) (fun c9 => ?_))))
    · have H := oq_t c9 H
      refine Wp.f_al0_gfr (pc := 42) o_X6_takeNew rfl rfl rfl fk_C_8_2 (Wp.f_al0_gfr (pc := 46) o_X6_takeNew rfl rfl rfl fk_C_8_0 (Wp.r_gfl (pc := 50) o_X6_takeNew rfl fk_C_7_6 (Wp.r_iload_n1 (pc := 53) o_X6_takeNew rfl rfl (Wp.r_iload_n2 (pc := 54) o_X6_takeNew rfl rfl (Wp.r_cv4 (pc := 55) o_X6_takeNew rfl fk_C_52_0 (⟨rm8_ rfl, ?_⟩))))))
      refine w_X4_addName_52 (d := d + 2) _ _ _ ?_
      refine oq_bd H (fun r3 s4 H => ?_)
      refine Wp.r_if_ne (pc := 58) o_X6_takeNew rfl (fun c9 => ?_) (fun c9 => ?_)
      · have H := oq_t c9 H
        refine Wp.f_al0_gfr (pc := 61) o_X6_takeNew rfl rfl rfl fk_C_8_0 (Wp.r_iconst (pc := 65) o_X6_takeNew rfl (Wp.r_cv2 (pc := 66) o_X6_takeNew rfl fk_C_7_0 (⟨rm8_ rfl, ?_⟩)))
        refine w_X7_wrong (d := d + 2) _ ?_
        refine oq_bd H (fun r5 s6 H => ?_)
        obtain ⟨c9, H⟩ := oq_ck H
        exact Wp.r_ireturn (pc := 69) o_X6_takeNew rfl (⟨b01_n c9, H⟩)
      · have H := oq_f c9 H
        refine Wp.f_al0_gfr (pc := 70) o_X6_takeNew rfl rfl rfl fk_C_8_0 (Wp.r_cv1 (pc := 74) o_X6_takeNew rfl fk_C_7_0 (⟨rm8_ rfl, ?_⟩))
        refine w_X7_advance (d := d)  ?_
        refine oq_bd H (fun _ s8 H => ?_)
        exact Wp.r_iconst (pc := 77) o_X6_takeNew rfl (Wp.r_ireturn (pc := 78) o_X6_takeNew rfl (⟨rfl, H⟩))
    · have H := oq_f c9 H
      refine Wp.f_al0_gfr (pc := 33) o_X6_takeNew rfl rfl rfl fk_C_8_0 (Wp.r_iconst (pc := 37) o_X6_takeNew rfl (Wp.r_cv2 (pc := 38) o_X6_takeNew rfl fk_C_7_0 (⟨rm8_ rfl, ?_⟩)))
      refine w_X7_wrong (d := d + 2) _ ?_
      refine oq_bd H (fun r9 s10 H => ?_)
      obtain ⟨c9, H⟩ := oq_ck H
      exact Wp.r_ireturn (pc := 41) o_X6_takeNew rfl (⟨b01_n c9, H⟩)
  · have H := oq_f c9 H
    refine Wp.f_al0_gfr (pc := 5) o_X6_takeNew rfl rfl rfl fk_C_8_0 (Wp.r_bipush (pc := 9) o_X6_takeNew rfl (Wp.r_cv2 (pc := 11) o_X6_takeNew rfl fk_C_7_0 (⟨rm8_ rfl, ?_⟩)))
    refine w_X7_wrong (d := d + 2) _ ?_
    refine oq_bd H (fun r11 s12 H => ?_)
    obtain ⟨c9, H⟩ := oq_ck H
    exact Wp.r_ireturn (pc := 14) o_X6_takeNew rfl (⟨b01_n c9, H⟩)
noncomputable abbrev Y_X7_passNumber (d : Nat) (Q : Qt) : Xt := Wp SHC (WpM SHC MT (d + 3)) (flat2 cq_X7_passNumber) (some .boolean) Q
noncomputable def f_X7_passNumber (a1 : Int32) (a2 : Int32) (s : Sg) : Option (Int32 × Sg) :=
  if (s.1 7 3) = 3 then
    bd (f_X11_within (s.1 7 5) a1 a2 s) (fun r1 s2 =>
    if r1 = 0 then
      bd (f_X7_wrong 4 s2) (fun r3 s4 =>
      ck (r3 = 0 ∨ r3 = 1) (some (r3, s4))
      )
    else
      bd (f_X7_advance (pI s2 7 7 (s2.1 7 5))) (fun _ s6 =>
      some (1, s6)
      )
    )
  else
    bd (f_X7_wrong 2 s) (fun r7 s8 =>
    ck (r7 = 0 ∨ r7 = 1) (some (r7, s8))
    )
set_option maxRecDepth 100000 in
theorem w_X7_passNumber {d : Nat} {s : Sg} {Q : Qt} (a1 : Int32) (a2 : Int32) (H : OQ (f_X7_passNumber a1 a2 s) (fun r9 s9 => Q (some (.int r9)) s9)) : WpM SHC MT (d + 4) 83 [.ref 7, .int a1, .int a2] s Q := by
  refine WpM.enter me_X7_passNumber rfl rfl ?_
  show Y_X7_passNumber d Q 0 [(0, .ref 7), (1, .int a1), (2, .int a2)] [] s
  unfold f_X7_passNumber at H
  refine Wp.f_al0_gfi (pc := 0) o_X7_passNumber rfl rfl rfl fk_C_7_3 (Wp.r_iconst (pc := 4) o_X7_passNumber rfl (Wp.r_icmp_eq (pc := 5) o_X7_passNumber rfl (fun c9 => ?_) (fun c9 => ?_)))
  · have H := oq_t c9 H
    refine Wp.f_al0_gfi (pc := 14) o_X7_passNumber rfl rfl rfl fk_C_7_5 (Wp.r_iload_n1 (pc := 18) o_X7_passNumber rfl rfl (Wp.r_iload_n2 (pc := 19) o_X7_passNumber rfl rfl (Wp.r_cs3 (pc := 20) o_X7_passNumber rfl (⟨rm8_ rfl, ?_⟩))))
    refine w_X11_within (d := d + 2) _ _ _ ?_
    refine oq_bd H (fun r1 s2 H => ?_)
    refine Wp.r_if_ne (pc := 23) o_X7_passNumber rfl (fun c9 => ?_) (fun c9 => ?_)
    · have H := oq_t c9 H
      refine Wp.f_al0_iconst (pc := 26) o_X7_passNumber rfl rfl rfl (Wp.r_cv2 (pc := 28) o_X7_passNumber rfl fk_C_7_0 (⟨rm8_ rfl, ?_⟩))
      refine w_X7_wrong (d := d + 2) _ ?_
      refine oq_bd H (fun r3 s4 H => ?_)
      obtain ⟨c9, H⟩ := oq_ck H
      exact Wp.r_ireturn (pc := 31) o_X7_passNumber rfl (⟨b01_n c9, H⟩)
    · have H := oq_f c9 H
      refine Wp.r_aload_n0 (pc := 32) o_X7_passNumber rfl rfl (Wp.f_al0_gfi (pc := 33) o_X7_passNumber rfl rfl rfl fk_C_7_5 (Wp.r_pfi (pc := 37) o_X7_passNumber rfl fk_C_7_7 (Wp.r_aload_n0 (pc := 40) o_X7_passNumber rfl rfl (Wp.r_cv1 (pc := 41) o_X7_passNumber rfl fk_C_7_0 (⟨rm8_ rfl, ?_⟩)))))
      refine w_X7_advance (d := d)  ?_
      refine oq_bd H (fun _ s6 H => ?_)
      exact Wp.r_iconst (pc := 44) o_X7_passNumber rfl (Wp.r_ireturn (pc := 45) o_X7_passNumber rfl (⟨rfl, H⟩))
  · have H := oq_f c9 H
    refine Wp.f_al0_iconst (pc := 8) o_X7_passNumber rfl rfl rfl (Wp.r_cv2 (pc := 10) o_X7_passNumber rfl fk_C_7_0 (⟨rm8_ rfl, ?_⟩))
    refine w_X7_wrong (d := d + 2) _ ?_
    refine oq_bd H (fun r7 s8 H => ?_)
    obtain ⟨c9, H⟩ := oq_ck H
    exact Wp.r_ireturn (pc := 13) o_X7_passNumber rfl (⟨b01_n c9, H⟩)
noncomputable abbrev Y_X6_takeGrains_67 (d : Nat) (Q : Qt) : Xt := Wp SHC (WpM SHC MT (d + 4)) (flat2 cq_X6_takeGrains) (some .boolean) Q
noncomputable def f_X6_takeGrains_67 (a1 : Int32) (a3 : Int32) (s : Sg) : Option (Int32 × Sg) :=
  if (s.1 7 3) = a1 then
    bd (f_X7_advance s) (fun _ s2 =>
    bd (f_X7_passNumber 0 999 s2) (fun r3 s4 =>
    if r3 = 0 then
      some (0, s4)
    else
      ck (inr a3 8) (
      nmx (pI s4 67 a3.toNatClampNeg (s4.1 7 7)) (fun s6 =>
      some (1, s6)
      )
      )
    )
    )
  else
    some (1, s)
set_option maxRecDepth 100000 in
theorem w_X6_takeGrains_67 {d : Nat} {s : Sg} {Q : Qt} (a1 : Int32) (a3 : Int32) (H : OQ (f_X6_takeGrains_67 a1 a3 s) (fun r9 s9 => Q (some (.int r9)) s9)) : WpM SHC MT (d + 5) 66 [.ref 8, .int a1, .ref 67, .int a3] s Q := by
  refine WpM.enter me_X6_takeGrains rfl rfl ?_
  show Y_X6_takeGrains_67 d Q 0 [(0, .ref 8), (1, .int a1), (2, .ref 67), (3, .int a3)] [] s
  unfold f_X6_takeGrains_67 at H
  refine Wp.f_al0_gfr (pc := 0) o_X6_takeGrains rfl rfl rfl fk_C_8_0 (Wp.r_gfi (pc := 4) o_X6_takeGrains rfl fk_C_7_3 (Wp.r_iload_n1 (pc := 7) o_X6_takeGrains rfl rfl (Wp.r_icmp_eq (pc := 8) o_X6_takeGrains rfl (fun c9 => ?_) (fun c9 => ?_))))
  · have H := oq_t c9 H
    refine Wp.f_al0_gfr (pc := 13) o_X6_takeGrains rfl rfl rfl fk_C_8_0 (Wp.r_cv1 (pc := 17) o_X6_takeGrains rfl fk_C_7_0 (⟨rm8_ rfl, ?_⟩))
    refine w_X7_advance (d := d + 1)  ?_
    refine oq_bd H (fun _ s2 H => ?_)
    refine Wp.f_al0_gfr (pc := 20) o_X6_takeGrains rfl rfl rfl fk_C_8_0 (Wp.r_iconst (pc := 24) o_X6_takeGrains rfl (Wp.r_sipush (pc := 25) o_X6_takeGrains rfl (Wp.r_cv3 (pc := 28) o_X6_takeGrains rfl fk_C_7_0 (⟨rm8_ rfl, ?_⟩))))
    refine w_X7_passNumber (d := d) _ _ ?_
    refine oq_bd H (fun r3 s4 H => ?_)
    refine Wp.r_if_ne (pc := 31) o_X6_takeGrains rfl (fun c9 => ?_) (fun c9 => ?_)
    · have H := oq_t c9 H
      exact Wp.r_iconst (pc := 34) o_X6_takeGrains rfl (Wp.r_ireturn (pc := 35) o_X6_takeGrains rfl (⟨rfl, H⟩))
    · have H := oq_f c9 H
      obtain ⟨hc5, H⟩ := oq_ck H
      refine Wp.r_aload_n2 (pc := 36) o_X6_takeGrains rfl rfl (Wp.r_iload_n3 (pc := 37) o_X6_takeGrains rfl rfl (Wp.f_al0_gfr (pc := 38) o_X6_takeGrains rfl rfl rfl fk_C_8_0 (Wp.r_gfi (pc := 42) o_X6_takeGrains rfl fk_C_7_7 (Wp.r_iastore (pc := 45) o_X6_takeGrains rfl ak_C_67 (⟨hc5, ?_⟩)))))
      revert H
      generalize pI s4 67 a3.toNatClampNeg (s4.1 7 7) = s6
      intro H
      have H := nmx_e H
      exact Wp.r_iconst (pc := 46) o_X6_takeGrains rfl (Wp.r_ireturn (pc := 47) o_X6_takeGrains rfl (⟨rfl, H⟩))
  · have H := oq_f c9 H
    exact Wp.r_iconst (pc := 11) o_X6_takeGrains rfl (Wp.r_ireturn (pc := 12) o_X6_takeGrains rfl (⟨rfl, H⟩))
noncomputable abbrev Y_X6_takeGrains_68 (d : Nat) (Q : Qt) : Xt := Wp SHC (WpM SHC MT (d + 4)) (flat2 cq_X6_takeGrains) (some .boolean) Q
noncomputable def f_X6_takeGrains_68 (a1 : Int32) (a3 : Int32) (s : Sg) : Option (Int32 × Sg) :=
  if (s.1 7 3) = a1 then
    bd (f_X7_advance s) (fun _ s2 =>
    bd (f_X7_passNumber 0 999 s2) (fun r3 s4 =>
    if r3 = 0 then
      some (0, s4)
    else
      ck (inr a3 8) (
      nmx (pI s4 68 a3.toNatClampNeg (s4.1 7 7)) (fun s6 =>
      some (1, s6)
      )
      )
    )
    )
  else
    some (1, s)
set_option maxRecDepth 100000 in
theorem w_X6_takeGrains_68 {d : Nat} {s : Sg} {Q : Qt} (a1 : Int32) (a3 : Int32) (H : OQ (f_X6_takeGrains_68 a1 a3 s) (fun r9 s9 => Q (some (.int r9)) s9)) : WpM SHC MT (d + 5) 66 [.ref 8, .int a1, .ref 68, .int a3] s Q := by
  refine WpM.enter me_X6_takeGrains rfl rfl ?_
  show Y_X6_takeGrains_68 d Q 0 [(0, .ref 8), (1, .int a1), (2, .ref 68), (3, .int a3)] [] s
  unfold f_X6_takeGrains_68 at H
  refine Wp.f_al0_gfr (pc := 0) o_X6_takeGrains rfl rfl rfl fk_C_8_0 (Wp.r_gfi (pc := 4) o_X6_takeGrains rfl fk_C_7_3 (Wp.r_iload_n1 (pc := 7) o_X6_takeGrains rfl rfl (Wp.r_icmp_eq (pc := 8) o_X6_takeGrains rfl (fun c9 => ?_) (fun c9 => ?_))))
  · have H := oq_t c9 H
    refine Wp.f_al0_gfr (pc := 13) o_X6_takeGrains rfl rfl rfl fk_C_8_0 (Wp.r_cv1 (pc := 17) o_X6_takeGrains rfl fk_C_7_0 (⟨rm8_ rfl, ?_⟩))
    refine w_X7_advance (d := d + 1)  ?_
    refine oq_bd H (fun _ s2 H => ?_)
    refine Wp.f_al0_gfr (pc := 20) o_X6_takeGrains rfl rfl rfl fk_C_8_0 (Wp.r_iconst (pc := 24) o_X6_takeGrains rfl (Wp.r_sipush (pc := 25) o_X6_takeGrains rfl (Wp.r_cv3 (pc := 28) o_X6_takeGrains rfl fk_C_7_0 (⟨rm8_ rfl, ?_⟩))))
    refine w_X7_passNumber (d := d) _ _ ?_
    refine oq_bd H (fun r3 s4 H => ?_)
    refine Wp.r_if_ne (pc := 31) o_X6_takeGrains rfl (fun c9 => ?_) (fun c9 => ?_)
    · have H := oq_t c9 H
      exact Wp.r_iconst (pc := 34) o_X6_takeGrains rfl (Wp.r_ireturn (pc := 35) o_X6_takeGrains rfl (⟨rfl, H⟩))
    · have H := oq_f c9 H
      obtain ⟨hc5, H⟩ := oq_ck H
      refine Wp.r_aload_n2 (pc := 36) o_X6_takeGrains rfl rfl (Wp.r_iload_n3 (pc := 37) o_X6_takeGrains rfl rfl (Wp.f_al0_gfr (pc := 38) o_X6_takeGrains rfl rfl rfl fk_C_8_0 (Wp.r_gfi (pc := 42) o_X6_takeGrains rfl fk_C_7_7 (Wp.r_iastore (pc := 45) o_X6_takeGrains rfl ak_C_68 (⟨hc5, ?_⟩)))))
      revert H
      generalize pI s4 68 a3.toNatClampNeg (s4.1 7 7) = s6
      intro H
      have H := nmx_e H
      exact Wp.r_iconst (pc := 46) o_X6_takeGrains rfl (Wp.r_ireturn (pc := 47) o_X6_takeGrains rfl (⟨rfl, H⟩))
  · have H := oq_f c9 H
    exact Wp.r_iconst (pc := 11) o_X6_takeGrains rfl (Wp.r_ireturn (pc := 12) o_X6_takeGrains rfl (⟨rfl, H⟩))
noncomputable abbrev Y_X7_pass (d : Nat) (Q : Qt) : Xt := Wp SHC (WpM SHC MT (d + 3)) (flat2 cq_X7_pass) (some .boolean) Q
noncomputable def f_X7_pass (a1 : Int32) (s : Sg) : Option (Int32 × Sg) :=
  if (s.1 7 3) = a1 then
    bd (f_X7_advance s) (fun _ s2 =>
    some (1, s2)
    )
  else
    bd (f_X7_wrong 2 s) (fun r3 s4 =>
    ck (r3 = 0 ∨ r3 = 1) (some (r3, s4))
    )
set_option maxRecDepth 100000 in
theorem w_X7_pass {d : Nat} {s : Sg} {Q : Qt} (a1 : Int32) (H : OQ (f_X7_pass a1 s) (fun r9 s9 => Q (some (.int r9)) s9)) : WpM SHC MT (d + 4) 82 [.ref 7, .int a1] s Q := by
  refine WpM.enter me_X7_pass rfl rfl ?_
  show Y_X7_pass d Q 0 [(0, .ref 7), (1, .int a1)] [] s
  unfold f_X7_pass at H
  refine Wp.f_al0_gfi (pc := 0) o_X7_pass rfl rfl rfl fk_C_7_3 (Wp.r_iload_n1 (pc := 4) o_X7_pass rfl rfl (Wp.r_icmp_eq (pc := 5) o_X7_pass rfl (fun c9 => ?_) (fun c9 => ?_)))
  · have H := oq_t c9 H
    refine Wp.r_aload_n0 (pc := 14) o_X7_pass rfl rfl (Wp.r_cv1 (pc := 15) o_X7_pass rfl fk_C_7_0 (⟨rm8_ rfl, ?_⟩))
    refine w_X7_advance (d := d)  ?_
    refine oq_bd H (fun _ s2 H => ?_)
    exact Wp.r_iconst (pc := 18) o_X7_pass rfl (Wp.r_ireturn (pc := 19) o_X7_pass rfl (⟨rfl, H⟩))
  · have H := oq_f c9 H
    refine Wp.f_al0_iconst (pc := 8) o_X7_pass rfl rfl rfl (Wp.r_cv2 (pc := 10) o_X7_pass rfl fk_C_7_0 (⟨rm8_ rfl, ?_⟩))
    refine w_X7_wrong (d := d + 2) _ ?_
    refine oq_bd H (fun r3 s4 H => ?_)
    obtain ⟨c9, H⟩ := oq_ck H
    exact Wp.r_ireturn (pc := 13) o_X7_pass rfl (⟨b01_n c9, H⟩)
noncomputable abbrev Y_X6_takeHouse (d : Nat) (Q : Qt) : Xt := Wp SHC (WpM SHC MT (d + 5)) (flat2 cq_X6_takeHouse) (some .boolean) Q
noncomputable def f_X6_takeHouse_b64 (v1 : Int32) (t0 : Int32) (s : Sg) : Option (Int32 × Sg) :=
  bd (f_X6_takeGrains_67 101 v1 s) (fun r3 s4 =>
  if r3 = 0 then
    some (0, s4)
  else
    bd (f_X6_takeGrains_68 102 v1 s4) (fun r5 s6 =>
    if r5 = 0 then
      some (0, s6)
    else
      if (s6.1 7 3) = 103 then
        if t0 = 0 then
          nmx (pI s6 52 17 ((s6.1 52 17) ||| ((1 : Int32) <<< (v1 &&& 31)))) (fun s7 =>
          bd (f_X7_advance s7) (fun _ s9 =>
          bd (f_X7_pass 59 s9) (fun r10 s11 =>
          ck (r10 = 0 ∨ r10 = 1) (some (r10, s11))
          )
          )
          )
        else
          bd (f_X7_wrong 5 s6) (fun r12 s13 =>
          ck (r12 = 0 ∨ r12 = 1) (some (r12, s13))
          )
      else
        bd (f_X7_pass 59 s6) (fun r14 s15 =>
        ck (r14 = 0 ∨ r14 = 1) (some (r14, s15))
        )
    )
  )
set_option maxRecDepth 100000 in
theorem w_X6_takeHouse_b64 {d : Nat} {Q : Qt} (v1 : Int32) (t0 : Int32) (s : Sg) (H : OQ (f_X6_takeHouse_b64 v1 t0 s) (fun r9 s9 => Q (some (.int r9)) s9)) : Y_X6_takeHouse d Q 64 [(0, .ref 8), (1, .int v1)] [.int t0] s := by
  unfold f_X6_takeHouse_b64 at H
  refine Wp.r_istore_n2 (pc := 64) o_X6_takeHouse rfl (Wp.r_aload_n0 (pc := 65) o_X6_takeHouse rfl rfl (Wp.r_bipush (pc := 66) o_X6_takeHouse rfl (Wp.f_al0_gfr (pc := 68) o_X6_takeHouse rfl rfl rfl fk_C_8_1 (Wp.r_gfr (pc := 72) o_X6_takeHouse rfl fk_C_51_1 (Wp.r_gfr (pc := 75) o_X6_takeHouse rfl fk_C_53_0 (Wp.r_iload_n1 (pc := 78) o_X6_takeHouse rfl rfl (Wp.r_cv4 (pc := 79) o_X6_takeHouse rfl fk_C_8_0 (⟨rm8_ rfl, ?_⟩))))))))
  refine w_X6_takeGrains_67 (d := d) _ _ ?_
  refine oq_bd H (fun r3 s4 H => ?_)
  refine Wp.r_if_eq (pc := 82) o_X6_takeHouse rfl (fun c9 => ?_) (fun c9 => ?_)
  · have H := oq_t c9 H
    exact Wp.r_iconst (pc := 105) o_X6_takeHouse rfl (Wp.r_ireturn (pc := 106) o_X6_takeHouse rfl (⟨rfl, H⟩))
  · have H := oq_f c9 H
    refine Wp.r_aload_n0 (pc := 85) o_X6_takeHouse rfl rfl (Wp.r_bipush (pc := 86) o_X6_takeHouse rfl (Wp.f_al0_gfr (pc := 88) o_X6_takeHouse rfl rfl rfl fk_C_8_1 (Wp.r_gfr (pc := 92) o_X6_takeHouse rfl fk_C_51_1 (Wp.r_gfr (pc := 95) o_X6_takeHouse rfl fk_C_53_1 (Wp.r_iload_n1 (pc := 98) o_X6_takeHouse rfl rfl (Wp.r_cv4 (pc := 99) o_X6_takeHouse rfl fk_C_8_0 (⟨rm8_ rfl, ?_⟩)))))))
    refine w_X6_takeGrains_68 (d := d) _ _ ?_
    refine oq_bd H (fun r5 s6 H => ?_)
    refine Wp.r_if_ne (pc := 102) o_X6_takeHouse rfl (fun c9 => ?_) (fun c9 => ?_)
    · have H := oq_t c9 H
      exact Wp.r_iconst (pc := 105) o_X6_takeHouse rfl (Wp.r_ireturn (pc := 106) o_X6_takeHouse rfl (⟨rfl, H⟩))
    · have H := oq_f c9 H
      refine Wp.f_al0_gfr (pc := 107) o_X6_takeHouse rfl rfl rfl fk_C_8_0 (Wp.r_gfi (pc := 111) o_X6_takeHouse rfl fk_C_7_3 (Wp.r_bipush (pc := 114) o_X6_takeHouse rfl (Wp.r_icmp_ne (pc := 116) o_X6_takeHouse rfl (fun c9 => ?_) (fun c9 => ?_))))
      · have H := oq_t c9 H
        refine Wp.r_iload_n2 (pc := 119) o_X6_takeHouse rfl rfl (Wp.r_if_eq (pc := 120) o_X6_takeHouse rfl (fun c9 => ?_) (fun c9 => ?_))
        · have H := oq_t c9 H
          refine Wp.f_al0_gfr (pc := 132) o_X6_takeHouse rfl rfl rfl fk_C_8_2 (Wp.r_dup_r (pc := 136) o_X6_takeHouse rfl (Wp.r_gfi (pc := 137) o_X6_takeHouse rfl fk_C_52_17 (Wp.r_iconst (pc := 140) o_X6_takeHouse rfl (Wp.r_iload_n1 (pc := 141) o_X6_takeHouse rfl rfl (Wp.r_ishl (pc := 142) o_X6_takeHouse rfl (Wp.r_ior (pc := 143) o_X6_takeHouse rfl (Wp.r_pfi (pc := 144) o_X6_takeHouse rfl fk_C_52_17 (show Y_X6_takeHouse d Q 147 [(2, .int t0), (0, .ref 8), (1, .int v1)] [] (pI s6 52 17 ((s6.1 52 17) ||| ((1 : Int32) <<< (v1 &&& 31)))) from ?_))))))))
          revert H
          generalize pI s6 52 17 ((s6.1 52 17) ||| ((1 : Int32) <<< (v1 &&& 31))) = s7
          intro H
          have H := nmx_e H
          refine Wp.f_al0_gfr (pc := 147) o_X6_takeHouse rfl rfl rfl fk_C_8_0 (Wp.r_cv1 (pc := 151) o_X6_takeHouse rfl fk_C_7_0 (⟨rm8_ rfl, ?_⟩))
          refine w_X7_advance (d := d + 2)  ?_
          refine oq_bd H (fun _ s9 H => ?_)
          refine Wp.f_al0_gfr (pc := 154) o_X6_takeHouse rfl rfl rfl fk_C_8_0 (Wp.r_bipush (pc := 158) o_X6_takeHouse rfl (Wp.r_cv2 (pc := 160) o_X6_takeHouse rfl fk_C_7_0 (⟨rm8_ rfl, ?_⟩)))
          refine w_X7_pass (d := d + 1) _ ?_
          refine oq_bd H (fun r10 s11 H => ?_)
          obtain ⟨c9, H⟩ := oq_ck H
          exact Wp.r_ireturn (pc := 163) o_X6_takeHouse rfl (⟨b01_n c9, H⟩)
        · have H := oq_f c9 H
          refine Wp.f_al0_gfr (pc := 123) o_X6_takeHouse rfl rfl rfl fk_C_8_0 (Wp.r_iconst (pc := 127) o_X6_takeHouse rfl (Wp.r_cv2 (pc := 128) o_X6_takeHouse rfl fk_C_7_0 (⟨rm8_ rfl, ?_⟩)))
          refine w_X7_wrong (d := d + 4) _ ?_
          refine oq_bd H (fun r12 s13 H => ?_)
          obtain ⟨c9, H⟩ := oq_ck H
          exact Wp.r_ireturn (pc := 131) o_X6_takeHouse rfl (⟨b01_n c9, H⟩)
      · have H := oq_f c9 H
        refine Wp.f_al0_gfr (pc := 154) o_X6_takeHouse rfl rfl rfl fk_C_8_0 (Wp.r_bipush (pc := 158) o_X6_takeHouse rfl (Wp.r_cv2 (pc := 160) o_X6_takeHouse rfl fk_C_7_0 (⟨rm8_ rfl, ?_⟩)))
        refine w_X7_pass (d := d + 1) _ ?_
        refine oq_bd H (fun r14 s15 H => ?_)
        obtain ⟨c9, H⟩ := oq_ck H
        exact Wp.r_ireturn (pc := 163) o_X6_takeHouse rfl (⟨b01_n c9, H⟩)
noncomputable def f_X6_takeHouse_b59 (v1 : Int32) (s : Sg) : Option (Int32 × Sg) :=
  f_X6_takeHouse_b64 v1 1 s
set_option maxRecDepth 100000 in
theorem w_X6_takeHouse_b59 {d : Nat} {Q : Qt} (v1 : Int32) (s : Sg) (H : OQ (f_X6_takeHouse_b59 v1 s) (fun r9 s9 => Q (some (.int r9)) s9)) : Y_X6_takeHouse d Q 59 [(0, .ref 8), (1, .int v1)] [] s := by
  unfold f_X6_takeHouse_b59 at H
  exact Wp.r_iconst (pc := 59) o_X6_takeHouse rfl (Wp.r_goto (pc := 60) o_X6_takeHouse rfl (Wp.weak2 [0, 1] (w_X6_takeHouse_b64 _ _ _ H) rfl))
noncomputable def f_X6_takeHouse  (s : Sg) : Option (Int32 × Sg) :=
  bd (f_X6_takeNew 100 (s.1 52 13) 8 s) (fun r1 s2 =>
  if r1 = 0 then
    some (0, s2)
  else
    if ((pI s2 52 13 ((s2.1 52 13) + 1)).1 7 3) = 101 then
      f_X6_takeHouse_b59 (s.1 52 13) (pI s2 52 13 ((s2.1 52 13) + 1))
    else
      if ((pI s2 52 13 ((s2.1 52 13) + 1)).1 7 3) = 102 then
        f_X6_takeHouse_b59 (s.1 52 13) (pI s2 52 13 ((s2.1 52 13) + 1))
      else
        f_X6_takeHouse_b64 (s.1 52 13) 0 (pI s2 52 13 ((s2.1 52 13) + 1))
  )
set_option maxRecDepth 100000 in
theorem w_X6_takeHouse {d : Nat} {s : Sg} {Q : Qt}  (H : OQ (f_X6_takeHouse  s) (fun r9 s9 => Q (some (.int r9)) s9)) : WpM SHC MT (d + 6) 65 [.ref 8] s Q := by
  refine WpM.enter me_X6_takeHouse rfl rfl ?_
  show Y_X6_takeHouse d Q 0 [(0, .ref 8)] [] s
  unfold f_X6_takeHouse at H
  refine Wp.f_al0_gfr (pc := 0) o_X6_takeHouse rfl rfl rfl fk_C_8_2 (Wp.r_gfi (pc := 4) o_X6_takeHouse rfl fk_C_52_13 (Wp.r_istore_n1 (pc := 7) o_X6_takeHouse rfl (Wp.r_aload_n0 (pc := 8) o_X6_takeHouse rfl rfl (Wp.r_bipush (pc := 9) o_X6_takeHouse rfl (Wp.r_iload_n1 (pc := 11) o_X6_takeHouse rfl rfl (Wp.r_bipush (pc := 12) o_X6_takeHouse rfl (Wp.r_cv4 (pc := 14) o_X6_takeHouse rfl fk_C_8_0 (⟨rm8_ rfl, ?_⟩))))))))
  refine w_X6_takeNew (d := d + 1) _ _ _ ?_
  refine oq_bd H (fun r1 s2 H => ?_)
  refine Wp.r_if_ne (pc := 17) o_X6_takeHouse rfl (fun c9 => ?_) (fun c9 => ?_)
  · have H := oq_t c9 H
    exact Wp.r_iconst (pc := 20) o_X6_takeHouse rfl (Wp.r_ireturn (pc := 21) o_X6_takeHouse rfl (⟨rfl, H⟩))
  · have H := oq_f c9 H
    refine Wp.f_al0_gfr (pc := 22) o_X6_takeHouse rfl rfl rfl fk_C_8_2 (Wp.r_dup_r (pc := 26) o_X6_takeHouse rfl (Wp.r_gfi (pc := 27) o_X6_takeHouse rfl fk_C_52_13 (Wp.r_iconst (pc := 30) o_X6_takeHouse rfl (Wp.r_iadd (pc := 31) o_X6_takeHouse rfl (Wp.r_pfi (pc := 32) o_X6_takeHouse rfl fk_C_52_13 (Wp.f_al0_gfr (pc := 35) o_X6_takeHouse rfl rfl rfl fk_C_8_0 (Wp.r_gfi (pc := 39) o_X6_takeHouse rfl fk_C_7_3 (Wp.r_bipush (pc := 42) o_X6_takeHouse rfl (Wp.r_icmp_eq (pc := 44) o_X6_takeHouse rfl (fun c9 => ?_) (fun c9 => ?_))))))))))
    · have H := oq_t c9 H
      exact Wp.weak2 [1, 0] (w_X6_takeHouse_b59 _ _ H) rfl
    · have H := oq_f c9 H
      refine Wp.f_al0_gfr (pc := 47) o_X6_takeHouse rfl rfl rfl fk_C_8_0 (Wp.r_gfi (pc := 51) o_X6_takeHouse rfl fk_C_7_3 (Wp.r_bipush (pc := 54) o_X6_takeHouse rfl (Wp.r_icmp_ne (pc := 56) o_X6_takeHouse rfl (fun c9 => ?_) (fun c9 => ?_))))
      · have H := oq_t c9 H
        exact Wp.weak2 [1, 0] (w_X6_takeHouse_b59 _ _ H) rfl
      · have H := oq_f c9 H
        exact Wp.r_iconst (pc := 63) o_X6_takeHouse rfl (Wp.weak2 [1, 0] (w_X6_takeHouse_b64 _ _ _ H) rfl)
noncomputable abbrev Y_X6_takeCounts (d : Nat) (Q : Qt) : Xt := Wp SHC (WpM SHC MT (d + 4)) (flat2 cq_X6_takeCounts) (some .boolean) Q
noncomputable def f_X6_takeCounts_b35  (s : Sg) : Option (Int32 × Sg) :=
  bd (f_X7_pass 118 (pI (pI s 8 4 1) 52 19 1)) (fun r3 s4 =>
  if r3 = 0 then
    some (0, s4)
  else
    bd (f_X7_pass 59 s4) (fun r5 s6 =>
    if r5 = 0 then
      some (0, s6)
    else
      some (1, s6)
    )
  )
set_option maxRecDepth 100000 in
theorem w_X6_takeCounts_b35 {d : Nat} {Q : Qt}  (s : Sg) (H : OQ (f_X6_takeCounts_b35  s) (fun r9 s9 => Q (some (.int r9)) s9)) : Y_X6_takeCounts d Q 35 [(0, .ref 8)] [] s := by
  unfold f_X6_takeCounts_b35 at H
  refine Wp.f_al0_iconst (pc := 35) o_X6_takeCounts rfl rfl rfl (Wp.r_pfz (pc := 37) o_X6_takeCounts rfl fk_C_8_4 (show ((1 : Int32) = 0 ∨ 1 = 1) ∧ Y_X6_takeCounts d Q 40 [(0, .ref 8)] [] (pI s 8 4 1) from ⟨Or.inr rfl, ?_⟩))
  refine Wp.f_al0_gfr (pc := 40) o_X6_takeCounts rfl rfl rfl fk_C_8_2 (Wp.r_iconst (pc := 44) o_X6_takeCounts rfl (Wp.r_pfz (pc := 45) o_X6_takeCounts rfl fk_C_52_19 (show ((1 : Int32) = 0 ∨ 1 = 1) ∧ Y_X6_takeCounts d Q 48 [(0, .ref 8)] [] (pI (pI s 8 4 1) 52 19 1) from ⟨Or.inr rfl, ?_⟩)))
  refine Wp.f_al0_gfr (pc := 48) o_X6_takeCounts rfl rfl rfl fk_C_8_0 (Wp.r_bipush (pc := 52) o_X6_takeCounts rfl (Wp.r_cv2 (pc := 54) o_X6_takeCounts rfl fk_C_7_0 (⟨rm8_ rfl, ?_⟩)))
  refine w_X7_pass (d := d) _ ?_
  refine oq_bd H (fun r3 s4 H => ?_)
  refine Wp.r_if_eq (pc := 57) o_X6_takeCounts rfl (fun c9 => ?_) (fun c9 => ?_)
  · have H := oq_t c9 H
    exact Wp.r_iconst (pc := 76) o_X6_takeCounts rfl (Wp.r_ireturn (pc := 77) o_X6_takeCounts rfl (⟨rfl, H⟩))
  · have H := oq_f c9 H
    refine Wp.f_al0_gfr (pc := 60) o_X6_takeCounts rfl rfl rfl fk_C_8_0 (Wp.r_bipush (pc := 64) o_X6_takeCounts rfl (Wp.r_cv2 (pc := 66) o_X6_takeCounts rfl fk_C_7_0 (⟨rm8_ rfl, ?_⟩)))
    refine w_X7_pass (d := d) _ ?_
    refine oq_bd H (fun r5 s6 H => ?_)
    refine Wp.r_if_eq (pc := 69) o_X6_takeCounts rfl (fun c9 => ?_) (fun c9 => ?_)
    · have H := oq_t c9 H
      exact Wp.r_iconst (pc := 76) o_X6_takeCounts rfl (Wp.r_ireturn (pc := 77) o_X6_takeCounts rfl (⟨rfl, H⟩))
    · have H := oq_f c9 H
      exact Wp.r_iconst (pc := 72) o_X6_takeCounts rfl (Wp.r_goto (pc := 73) o_X6_takeCounts rfl (Wp.r_ireturn (pc := 77) o_X6_takeCounts rfl (⟨rfl, H⟩)))
noncomputable def f_X6_takeCounts  (s : Sg) : Option (Int32 × Sg) :=
  bd (f_X7_advance s) (fun _ s2 =>
  if (s2.1 7 3) = 118 then
    if (s2.1 8 4) = 0 then
      f_X6_takeCounts_b35 s2
    else
      bd (f_X7_wrong 5 s2) (fun r7 s8 =>
      ck (r7 = 0 ∨ r7 = 1) (some (r7, s8))
      )
  else
    f_X6_takeCounts_b35 s2
  )
set_option maxRecDepth 100000 in
theorem w_X6_takeCounts {d : Nat} {s : Sg} {Q : Qt}  (H : OQ (f_X6_takeCounts  s) (fun r9 s9 => Q (some (.int r9)) s9)) : WpM SHC MT (d + 5) 72 [.ref 8] s Q := by
  refine WpM.enter me_X6_takeCounts rfl rfl ?_
  show Y_X6_takeCounts d Q 0 [(0, .ref 8)] [] s
  unfold f_X6_takeCounts at H
  refine Wp.f_al0_gfr (pc := 0) o_X6_takeCounts rfl rfl rfl fk_C_8_0 (Wp.r_cv1 (pc := 4) o_X6_takeCounts rfl fk_C_7_0 (⟨rm8_ rfl, ?_⟩))
  refine w_X7_advance (d := d + 1)  ?_
  refine oq_bd H (fun _ s2 H => ?_)
  refine Wp.f_al0_gfr (pc := 7) o_X6_takeCounts rfl rfl rfl fk_C_8_0 (Wp.r_gfi (pc := 11) o_X6_takeCounts rfl fk_C_7_3 (Wp.r_bipush (pc := 14) o_X6_takeCounts rfl (Wp.r_icmp_ne (pc := 16) o_X6_takeCounts rfl (fun c9 => ?_) (fun c9 => ?_))))
  · have H := oq_t c9 H
    refine Wp.f_al0_gfi (pc := 19) o_X6_takeCounts rfl rfl rfl fk_C_8_4 (Wp.r_if_eq (pc := 23) o_X6_takeCounts rfl (fun c9 => ?_) (fun c9 => ?_))
    · have H := oq_t c9 H
      exact Wp.weak2 [0] (w_X6_takeCounts_b35 _ H) rfl
    · have H := oq_f c9 H
      refine Wp.f_al0_gfr (pc := 26) o_X6_takeCounts rfl rfl rfl fk_C_8_0 (Wp.r_iconst (pc := 30) o_X6_takeCounts rfl (Wp.r_cv2 (pc := 31) o_X6_takeCounts rfl fk_C_7_0 (⟨rm8_ rfl, ?_⟩)))
      refine w_X7_wrong (d := d + 3) _ ?_
      refine oq_bd H (fun r7 s8 H => ?_)
      obtain ⟨c9, H⟩ := oq_ck H
      exact Wp.r_ireturn (pc := 34) o_X6_takeCounts rfl (⟨b01_n c9, H⟩)
  · have H := oq_f c9 H
    exact Wp.weak2 [0] (w_X6_takeCounts_b35 _ H) rfl
noncomputable abbrev Y_X4_numberOf_52 (d : Nat) (Q : Qt) : Xt := Wp SHC (WpM SHC MT (d + 0)) (flat2 cq_X4_numberOf) (some .int) Q
noncomputable def f_X4_numberOf_52_b3 : Nat → Int64 → Int32 → Int32 → Sg → Option (Int32 × Sg)
  | 0, _, _, _, _ => none
  | n + 1, v1, v3, v4, s =>
    if (s.1 52 12) ≤ v4 then
      some ((-1), s)
    else
      ck (inr v4 24) (
      if (lg_cmp (s.2 55 v4.toNatClampNeg) v1) = 0 then
        if (s.1 56 v4.toNatClampNeg) = v3 then
          some (s.1 57 v4.toNatClampNeg, s)
        else
          (f_X4_numberOf_52_b3 n) v1 v3 (v4 + 1) s
      else
        (f_X4_numberOf_52_b3 n) v1 v3 (v4 + 1) s
      )
set_option maxRecDepth 100000 in
theorem w_X4_numberOf_52_b3 {d : Nat} {Q : Qt} (n : Nat) : ∀ (v1 : Int64) (v3 : Int32) (v4 : Int32) (s : Sg), OQ (f_X4_numberOf_52_b3 n v1 v3 v4 s) (fun r9 s9 => Q (some (.int r9)) s9) → Y_X4_numberOf_52 d Q 3 [(0, .ref 52), (1, .long v1), (3, .int v3), (4, .int v4)] [] s := by
  induction n with
  | zero => intro v1 v3 v4 s H; exact H.elim
  | succ n ih =>
    intro v1 v3 v4 s H
    unfold f_X4_numberOf_52_b3 at H
    refine Wp.r_iload (pc := 3) o_X4_numberOf rfl rfl (Wp.f_al0_gfi (pc := 5) o_X4_numberOf rfl rfl rfl fk_C_52_12 (Wp.r_icmp_ge (pc := 9) o_X4_numberOf rfl (fun c9 => ?_) (fun c9 => ?_)))
    · have H := oq_t c9 H
      exact Wp.r_iconst (pc := 49) o_X4_numberOf rfl (Wp.r_ireturn (pc := 50) o_X4_numberOf rfl (⟨rfl, H⟩))
    · have H := oq_f c9 H
      obtain ⟨hc1, H⟩ := oq_ck H
      refine Wp.f_al0_gfr (pc := 12) o_X4_numberOf rfl rfl rfl fk_C_52_0 (Wp.r_iload (pc := 16) o_X4_numberOf rfl rfl (Wp.r_laload (pc := 18) o_X4_numberOf rfl ak_C_55 (⟨hc1, ?_⟩)))
      refine Wp.r_lload_n1 (pc := 19) o_X4_numberOf rfl rfl (Wp.r_lcmp (pc := 20) o_X4_numberOf rfl (Wp.r_if_ne (pc := 21) o_X4_numberOf rfl (fun c9 => ?_) (fun c9 => ?_)))
      · have H := oq_t c9 H
        refine Wp.f_al0_gfr (pc := 24) o_X4_numberOf rfl rfl rfl fk_C_52_1 (Wp.r_iload (pc := 28) o_X4_numberOf rfl rfl (Wp.r_iaload (pc := 30) o_X4_numberOf rfl ak_C_56 (⟨hc1, ?_⟩)))
        refine Wp.r_iload_n3 (pc := 31) o_X4_numberOf rfl rfl (Wp.r_icmp_ne (pc := 32) o_X4_numberOf rfl (fun c9 => ?_) (fun c9 => ?_))
        · have H := oq_t c9 H
          refine Wp.f_al0_gfr (pc := 35) o_X4_numberOf rfl rfl rfl fk_C_52_2 (Wp.r_iload (pc := 39) o_X4_numberOf rfl rfl (Wp.r_iaload (pc := 41) o_X4_numberOf rfl ak_C_57 (⟨hc1, ?_⟩)))
          exact Wp.r_ireturn (pc := 42) o_X4_numberOf rfl (⟨rfl, H⟩)
        · have H := oq_f c9 H
          exact Wp.f_iinc_goto (pc := 43) o_X4_numberOf rfl rfl rfl (Wp.weak2 [1, 2, 3, 0] (ih _ _ _ _ H) rfl)
      · have H := oq_f c9 H
        exact Wp.f_iinc_goto (pc := 43) o_X4_numberOf rfl rfl rfl (Wp.weak2 [1, 2, 3, 0] (ih _ _ _ _ H) rfl)
noncomputable def f_X4_numberOf_52 (a1 : Int64) (a2 : Int32) (s : Sg) : Option (Int32 × Sg) :=
  f_X4_numberOf_52_b3 BIG a1 a2 0 s
set_option maxRecDepth 100000 in
theorem w_X4_numberOf_52 {d : Nat} {s : Sg} {Q : Qt} (a1 : Int64) (a2 : Int32) (H : OQ (f_X4_numberOf_52 a1 a2 s) (fun r9 s9 => Q (some (.int r9)) s9)) : WpM SHC MT (d + 1) 52 [.ref 52, .long a1, .int a2] s Q := by
  refine WpM.enter me_X4_numberOf rfl rfl ?_
  show Y_X4_numberOf_52 d Q 0 [(0, .ref 52), (1, .long a1), (3, .int a2)] [] s
  unfold f_X4_numberOf_52 at H
  exact Wp.r_iconst (pc := 0) o_X4_numberOf rfl (Wp.r_istore (pc := 1) o_X4_numberOf rfl (Wp.weak2 [1, 2, 3, 0] (w_X4_numberOf_52_b3 _ _ _ _ _ H) rfl))
noncomputable abbrev Y_X7_findName_52 (d : Nat) (Q : Qt) : Xt := Wp SHC (WpM SHC MT (d + 1)) (flat2 cq_X7_findName) (some .boolean) Q
noncomputable def f_X7_findName_52 (a2 : Int32) (s : Sg) : Option (Int32 × Sg) :=
  if (s.1 7 3) = 1 then
    bd (f_X4_numberOf_52 (s.2 7 6) a2 s) (fun r1 s2 =>
    if ((pI s2 7 7 r1).1 7 7) = (-1) then
      bd (f_X7_wrong 3 (pI s2 7 7 r1)) (fun r3 s4 =>
      if r3 = 0 then
        some (0, s4)
      else
        some (1, s4)
      )
    else
      some (1, pI s2 7 7 r1)
    )
  else
    bd (f_X7_wrong 2 s) (fun r5 s6 =>
    ck (r5 = 0 ∨ r5 = 1) (some (r5, s6))
    )
set_option maxRecDepth 100000 in
theorem w_X7_findName_52 {d : Nat} {s : Sg} {Q : Qt} (a2 : Int32) (H : OQ (f_X7_findName_52 a2 s) (fun r9 s9 => Q (some (.int r9)) s9)) : WpM SHC MT (d + 2) 84 [.ref 7, .ref 52, .int a2] s Q := by
  refine WpM.enter me_X7_findName rfl rfl ?_
  show Y_X7_findName_52 d Q 0 [(0, .ref 7), (1, .ref 52), (2, .int a2)] [] s
  unfold f_X7_findName_52 at H
  refine Wp.f_al0_gfi (pc := 0) o_X7_findName rfl rfl rfl fk_C_7_3 (Wp.r_iconst (pc := 4) o_X7_findName rfl (Wp.r_icmp_eq (pc := 5) o_X7_findName rfl (fun c9 => ?_) (fun c9 => ?_)))
  · have H := oq_t c9 H
    refine Wp.r_aload_n0 (pc := 14) o_X7_findName rfl rfl (Wp.r_aload_n1 (pc := 15) o_X7_findName rfl rfl (Wp.f_al0_gfl (pc := 16) o_X7_findName rfl rfl rfl fk_C_7_6 (Wp.r_iload_n2 (pc := 20) o_X7_findName rfl rfl (Wp.r_cv3 (pc := 21) o_X7_findName rfl fk_C_52_0 (⟨rm8_ rfl, ?_⟩)))))
    refine w_X4_numberOf_52 (d := d) _ _ ?_
    refine oq_bd H (fun r1 s2 H => ?_)
    refine Wp.r_pfi (pc := 24) o_X7_findName rfl fk_C_7_7 (Wp.f_al0_gfi (pc := 27) o_X7_findName rfl rfl rfl fk_C_7_7 (Wp.r_iconst (pc := 31) o_X7_findName rfl (Wp.r_icmp_ne (pc := 32) o_X7_findName rfl (fun c9 => ?_) (fun c9 => ?_))))
    · have H := oq_t c9 H
      refine Wp.f_al0_iconst (pc := 35) o_X7_findName rfl rfl rfl (Wp.r_cv2 (pc := 37) o_X7_findName rfl fk_C_7_0 (⟨rm8_ rfl, ?_⟩))
      refine w_X7_wrong (d := d) _ ?_
      refine oq_bd H (fun r3 s4 H => ?_)
      refine Wp.r_if_eq (pc := 40) o_X7_findName rfl (fun c9 => ?_) (fun c9 => ?_)
      · have H := oq_t c9 H
        exact Wp.r_iconst (pc := 47) o_X7_findName rfl (Wp.r_ireturn (pc := 48) o_X7_findName rfl (⟨rfl, H⟩))
      · have H := oq_f c9 H
        exact Wp.r_iconst (pc := 43) o_X7_findName rfl (Wp.r_goto (pc := 44) o_X7_findName rfl (Wp.r_ireturn (pc := 48) o_X7_findName rfl (⟨rfl, H⟩)))
    · have H := oq_f c9 H
      exact Wp.r_iconst (pc := 43) o_X7_findName rfl (Wp.r_goto (pc := 44) o_X7_findName rfl (Wp.r_ireturn (pc := 48) o_X7_findName rfl (⟨rfl, H⟩)))
  · have H := oq_f c9 H
    refine Wp.f_al0_iconst (pc := 8) o_X7_findName rfl rfl rfl (Wp.r_cv2 (pc := 10) o_X7_findName rfl fk_C_7_0 (⟨rm8_ rfl, ?_⟩))
    refine w_X7_wrong (d := d) _ ?_
    refine oq_bd H (fun r5 s6 H => ?_)
    obtain ⟨c9, H⟩ := oq_ck H
    exact Wp.r_ireturn (pc := 13) o_X7_findName rfl (⟨b01_n c9, H⟩)
noncomputable abbrev Y_X11_has (d : Nat) (Q : Qt) : Xt := Wp SHC (WpM SHC MT (d + 0)) (flat2 cq_X11_has) (some .boolean) Q
noncomputable def f_X11_has (a0 : Int32) (a1 : Int32) (s : Sg) : Option (Int32 × Sg) :=
  if ((a0 >>> (a1 &&& 31)) &&& 1) = 0 then
    some (0, s)
  else
    some (1, s)
set_option maxRecDepth 100000 in
theorem w_X11_has {d : Nat} {s : Sg} {Q : Qt} (a0 : Int32) (a1 : Int32) (H : OQ (f_X11_has a0 a1 s) (fun r9 s9 => Q (some (.int r9)) s9)) : WpM SHC MT (d + 1) 170 [.int a0, .int a1] s Q := by
  refine WpM.enter me_X11_has rfl rfl ?_
  show Y_X11_has d Q 0 [(0, .int a0), (1, .int a1)] [] s
  unfold f_X11_has at H
  refine Wp.r_iload_n0 (pc := 0) o_X11_has rfl rfl (Wp.r_iload_n1 (pc := 1) o_X11_has rfl rfl (Wp.r_ishr (pc := 2) o_X11_has rfl (Wp.r_iconst (pc := 3) o_X11_has rfl (Wp.r_iand (pc := 4) o_X11_has rfl (Wp.r_if_eq (pc := 5) o_X11_has rfl (fun c9 => ?_) (fun c9 => ?_))))))
  · have H := oq_t c9 H
    exact Wp.r_iconst (pc := 12) o_X11_has rfl (Wp.r_ireturn (pc := 13) o_X11_has rfl (⟨rfl, H⟩))
  · have H := oq_f c9 H
    exact Wp.r_iconst (pc := 8) o_X11_has rfl (Wp.r_goto (pc := 9) o_X11_has rfl (Wp.r_ireturn (pc := 13) o_X11_has rfl (⟨rfl, H⟩)))
noncomputable abbrev Y_X6_takeEnd_58 (d : Nat) (Q : Qt) : Xt := Wp SHC (WpM SHC MT (d + 3)) (flat2 cq_X6_takeEnd) (some .boolean) Q
noncomputable def f_X6_takeEnd_58 (a2 : Int32) (a3 : Int32) (a4 : Int32) (s : Sg) : Option (Int32 × Sg) :=
  bd (f_X7_findName_52 100 s) (fun r1 s2 =>
  if r1 = 0 then
    some (0, s2)
  else
    if (s2.1 7 7) = a3 then
      bd (f_X7_wrong 5 s2) (fun r3 s4 =>
      ck (r3 = 0 ∨ r3 = 1) (some (r3, s4))
      )
    else
      bd (f_X11_has a4 (s2.1 7 7) s2) (fun r5 s6 =>
      if r5 = 0 then
        ck (inr a2 8) (
        nmx (pI s6 58 a2.toNatClampNeg (s6.1 7 7)) (fun s8 =>
        bd (f_X7_advance s8) (fun _ s10 =>
        some (1, s10)
        )
        )
        )
      else
        bd (f_X7_wrong 5 s6) (fun r11 s12 =>
        ck (r11 = 0 ∨ r11 = 1) (some (r11, s12))
        )
      )
  )
set_option maxRecDepth 100000 in
theorem w_X6_takeEnd_58 {d : Nat} {s : Sg} {Q : Qt} (a2 : Int32) (a3 : Int32) (a4 : Int32) (H : OQ (f_X6_takeEnd_58 a2 a3 a4 s) (fun r9 s9 => Q (some (.int r9)) s9)) : WpM SHC MT (d + 4) 69 [.ref 8, .ref 58, .int a2, .int a3, .int a4] s Q := by
  refine WpM.enter me_X6_takeEnd rfl rfl ?_
  show Y_X6_takeEnd_58 d Q 0 [(0, .ref 8), (1, .ref 58), (2, .int a2), (3, .int a3), (4, .int a4)] [] s
  unfold f_X6_takeEnd_58 at H
  refine Wp.f_al0_gfr (pc := 0) o_X6_takeEnd rfl rfl rfl fk_C_8_0 (Wp.f_al0_gfr (pc := 4) o_X6_takeEnd rfl rfl rfl fk_C_8_2 (Wp.r_bipush (pc := 8) o_X6_takeEnd rfl (Wp.r_cv3 (pc := 10) o_X6_takeEnd rfl fk_C_7_0 (⟨rm8_ rfl, ?_⟩))))
  refine w_X7_findName_52 (d := d + 1) _ ?_
  refine oq_bd H (fun r1 s2 H => ?_)
  refine Wp.r_if_ne (pc := 13) o_X6_takeEnd rfl (fun c9 => ?_) (fun c9 => ?_)
  · have H := oq_t c9 H
    exact Wp.r_iconst (pc := 16) o_X6_takeEnd rfl (Wp.r_ireturn (pc := 17) o_X6_takeEnd rfl (⟨rfl, H⟩))
  · have H := oq_f c9 H
    refine Wp.f_al0_gfr (pc := 18) o_X6_takeEnd rfl rfl rfl fk_C_8_0 (Wp.r_gfi (pc := 22) o_X6_takeEnd rfl fk_C_7_7 (Wp.r_iload_n3 (pc := 25) o_X6_takeEnd rfl rfl (Wp.r_icmp_eq (pc := 26) o_X6_takeEnd rfl (fun c9 => ?_) (fun c9 => ?_))))
    · have H := oq_t c9 H
      refine Wp.f_al0_gfr (pc := 44) o_X6_takeEnd rfl rfl rfl fk_C_8_0 (Wp.r_iconst (pc := 48) o_X6_takeEnd rfl (Wp.r_cv2 (pc := 49) o_X6_takeEnd rfl fk_C_7_0 (⟨rm8_ rfl, ?_⟩)))
      refine w_X7_wrong (d := d + 2) _ ?_
      refine oq_bd H (fun r3 s4 H => ?_)
      obtain ⟨c9, H⟩ := oq_ck H
      exact Wp.r_ireturn (pc := 52) o_X6_takeEnd rfl (⟨b01_n c9, H⟩)
    · have H := oq_f c9 H
      refine Wp.r_iload (pc := 29) o_X6_takeEnd rfl rfl (Wp.f_al0_gfr (pc := 31) o_X6_takeEnd rfl rfl rfl fk_C_8_0 (Wp.r_gfi (pc := 35) o_X6_takeEnd rfl fk_C_7_7 (Wp.r_cs2 (pc := 38) o_X6_takeEnd rfl (⟨rm8_ rfl, ?_⟩))))
      refine w_X11_has (d := d + 2) _ _ ?_
      refine oq_bd H (fun r5 s6 H => ?_)
      refine Wp.r_if_eq (pc := 41) o_X6_takeEnd rfl (fun c9 => ?_) (fun c9 => ?_)
      · have H := oq_t c9 H
        obtain ⟨hc7, H⟩ := oq_ck H
        refine Wp.r_aload_n1 (pc := 53) o_X6_takeEnd rfl rfl (Wp.r_iload_n2 (pc := 54) o_X6_takeEnd rfl rfl (Wp.f_al0_gfr (pc := 55) o_X6_takeEnd rfl rfl rfl fk_C_8_0 (Wp.r_gfi (pc := 59) o_X6_takeEnd rfl fk_C_7_7 (Wp.r_iastore (pc := 62) o_X6_takeEnd rfl ak_C_58 (⟨hc7, ?_⟩)))))
        revert H
        generalize pI s6 58 a2.toNatClampNeg (s6.1 7 7) = s8
        intro H
        have H := nmx_e H
        refine Wp.f_al0_gfr (pc := 63) o_X6_takeEnd rfl rfl rfl fk_C_8_0 (Wp.r_cv1 (pc := 67) o_X6_takeEnd rfl fk_C_7_0 (⟨rm8_ rfl, ?_⟩))
        refine w_X7_advance (d := d)  ?_
        refine oq_bd H (fun _ s10 H => ?_)
        exact Wp.r_iconst (pc := 70) o_X6_takeEnd rfl (Wp.r_ireturn (pc := 71) o_X6_takeEnd rfl (⟨rfl, H⟩))
      · have H := oq_f c9 H
        refine Wp.f_al0_gfr (pc := 44) o_X6_takeEnd rfl rfl rfl fk_C_8_0 (Wp.r_iconst (pc := 48) o_X6_takeEnd rfl (Wp.r_cv2 (pc := 49) o_X6_takeEnd rfl fk_C_7_0 (⟨rm8_ rfl, ?_⟩)))
        refine w_X7_wrong (d := d + 2) _ ?_
        refine oq_bd H (fun r11 s12 H => ?_)
        obtain ⟨c9, H⟩ := oq_ck H
        exact Wp.r_ireturn (pc := 52) o_X6_takeEnd rfl (⟨b01_n c9, H⟩)
noncomputable abbrev Y_X6_takeEnd_59 (d : Nat) (Q : Qt) : Xt := Wp SHC (WpM SHC MT (d + 3)) (flat2 cq_X6_takeEnd) (some .boolean) Q
noncomputable def f_X6_takeEnd_59 (a2 : Int32) (a3 : Int32) (a4 : Int32) (s : Sg) : Option (Int32 × Sg) :=
  bd (f_X7_findName_52 100 s) (fun r1 s2 =>
  if r1 = 0 then
    some (0, s2)
  else
    if (s2.1 7 7) = a3 then
      bd (f_X7_wrong 5 s2) (fun r3 s4 =>
      ck (r3 = 0 ∨ r3 = 1) (some (r3, s4))
      )
    else
      bd (f_X11_has a4 (s2.1 7 7) s2) (fun r5 s6 =>
      if r5 = 0 then
        ck (inr a2 8) (
        nmx (pI s6 59 a2.toNatClampNeg (s6.1 7 7)) (fun s8 =>
        bd (f_X7_advance s8) (fun _ s10 =>
        some (1, s10)
        )
        )
        )
      else
        bd (f_X7_wrong 5 s6) (fun r11 s12 =>
        ck (r11 = 0 ∨ r11 = 1) (some (r11, s12))
        )
      )
  )
set_option maxRecDepth 100000 in
theorem w_X6_takeEnd_59 {d : Nat} {s : Sg} {Q : Qt} (a2 : Int32) (a3 : Int32) (a4 : Int32) (H : OQ (f_X6_takeEnd_59 a2 a3 a4 s) (fun r9 s9 => Q (some (.int r9)) s9)) : WpM SHC MT (d + 4) 69 [.ref 8, .ref 59, .int a2, .int a3, .int a4] s Q := by
  refine WpM.enter me_X6_takeEnd rfl rfl ?_
  show Y_X6_takeEnd_59 d Q 0 [(0, .ref 8), (1, .ref 59), (2, .int a2), (3, .int a3), (4, .int a4)] [] s
  unfold f_X6_takeEnd_59 at H
  refine Wp.f_al0_gfr (pc := 0) o_X6_takeEnd rfl rfl rfl fk_C_8_0 (Wp.f_al0_gfr (pc := 4) o_X6_takeEnd rfl rfl rfl fk_C_8_2 (Wp.r_bipush (pc := 8) o_X6_takeEnd rfl (Wp.r_cv3 (pc := 10) o_X6_takeEnd rfl fk_C_7_0 (⟨rm8_ rfl, ?_⟩))))
  refine w_X7_findName_52 (d := d + 1) _ ?_
  refine oq_bd H (fun r1 s2 H => ?_)
  refine Wp.r_if_ne (pc := 13) o_X6_takeEnd rfl (fun c9 => ?_) (fun c9 => ?_)
  · have H := oq_t c9 H
    exact Wp.r_iconst (pc := 16) o_X6_takeEnd rfl (Wp.r_ireturn (pc := 17) o_X6_takeEnd rfl (⟨rfl, H⟩))
  · have H := oq_f c9 H
    refine Wp.f_al0_gfr (pc := 18) o_X6_takeEnd rfl rfl rfl fk_C_8_0 (Wp.r_gfi (pc := 22) o_X6_takeEnd rfl fk_C_7_7 (Wp.r_iload_n3 (pc := 25) o_X6_takeEnd rfl rfl (Wp.r_icmp_eq (pc := 26) o_X6_takeEnd rfl (fun c9 => ?_) (fun c9 => ?_))))
    · have H := oq_t c9 H
      refine Wp.f_al0_gfr (pc := 44) o_X6_takeEnd rfl rfl rfl fk_C_8_0 (Wp.r_iconst (pc := 48) o_X6_takeEnd rfl (Wp.r_cv2 (pc := 49) o_X6_takeEnd rfl fk_C_7_0 (⟨rm8_ rfl, ?_⟩)))
      refine w_X7_wrong (d := d + 2) _ ?_
      refine oq_bd H (fun r3 s4 H => ?_)
      obtain ⟨c9, H⟩ := oq_ck H
      exact Wp.r_ireturn (pc := 52) o_X6_takeEnd rfl (⟨b01_n c9, H⟩)
    · have H := oq_f c9 H
      refine Wp.r_iload (pc := 29) o_X6_takeEnd rfl rfl (Wp.f_al0_gfr (pc := 31) o_X6_takeEnd rfl rfl rfl fk_C_8_0 (Wp.r_gfi (pc := 35) o_X6_takeEnd rfl fk_C_7_7 (Wp.r_cs2 (pc := 38) o_X6_takeEnd rfl (⟨rm8_ rfl, ?_⟩))))
      refine w_X11_has (d := d + 2) _ _ ?_
      refine oq_bd H (fun r5 s6 H => ?_)
      refine Wp.r_if_eq (pc := 41) o_X6_takeEnd rfl (fun c9 => ?_) (fun c9 => ?_)
      · have H := oq_t c9 H
        obtain ⟨hc7, H⟩ := oq_ck H
        refine Wp.r_aload_n1 (pc := 53) o_X6_takeEnd rfl rfl (Wp.r_iload_n2 (pc := 54) o_X6_takeEnd rfl rfl (Wp.f_al0_gfr (pc := 55) o_X6_takeEnd rfl rfl rfl fk_C_8_0 (Wp.r_gfi (pc := 59) o_X6_takeEnd rfl fk_C_7_7 (Wp.r_iastore (pc := 62) o_X6_takeEnd rfl ak_C_59 (⟨hc7, ?_⟩)))))
        revert H
        generalize pI s6 59 a2.toNatClampNeg (s6.1 7 7) = s8
        intro H
        have H := nmx_e H
        refine Wp.f_al0_gfr (pc := 63) o_X6_takeEnd rfl rfl rfl fk_C_8_0 (Wp.r_cv1 (pc := 67) o_X6_takeEnd rfl fk_C_7_0 (⟨rm8_ rfl, ?_⟩))
        refine w_X7_advance (d := d)  ?_
        refine oq_bd H (fun _ s10 H => ?_)
        exact Wp.r_iconst (pc := 70) o_X6_takeEnd rfl (Wp.r_ireturn (pc := 71) o_X6_takeEnd rfl (⟨rfl, H⟩))
      · have H := oq_f c9 H
        refine Wp.f_al0_gfr (pc := 44) o_X6_takeEnd rfl rfl rfl fk_C_8_0 (Wp.r_iconst (pc := 48) o_X6_takeEnd rfl (Wp.r_cv2 (pc := 49) o_X6_takeEnd rfl fk_C_7_0 (⟨rm8_ rfl, ?_⟩)))
        refine w_X7_wrong (d := d + 2) _ ?_
        refine oq_bd H (fun r11 s12 H => ?_)
        obtain ⟨c9, H⟩ := oq_ck H
        exact Wp.r_ireturn (pc := 52) o_X6_takeEnd rfl (⟨b01_n c9, H⟩)
noncomputable abbrev Y_X4_joinAt_52 (d : Nat) (Q : Qt) : Xt := Wp SHC (WpM SHC MT (d + 0)) (flat2 cq_X4_joinAt) (none) Q
noncomputable def f_X4_joinAt_52 (a1 : Int32) (s : Sg) : Option (Unit × Sg) :=
  ck (inr a1 8) (
  ck (inr (s.1 58 a1.toNatClampNeg) 8) (
  nmx (pI s 61 ((s.1 58 a1.toNatClampNeg).toNatClampNeg) ((s.1 61 ((s.1 58 a1.toNatClampNeg).toNatClampNeg)) ||| ((1 : Int32) <<< (a1 &&& 31)))) (fun s3 =>
  ck (inr (s3.1 59 a1.toNatClampNeg) 8) (
  nmx (pI s3 61 ((s3.1 59 a1.toNatClampNeg).toNatClampNeg) ((s3.1 61 ((s3.1 59 a1.toNatClampNeg).toNatClampNeg)) ||| ((1 : Int32) <<< (a1 &&& 31)))) (fun s5 =>
  some ((), s5)
  )
  )
  )
  )
  )
set_option maxRecDepth 100000 in
theorem w_X4_joinAt_52 {d : Nat} {s : Sg} {Q : Qt} (a1 : Int32) (H : OQ (f_X4_joinAt_52 a1 s) (fun _ s9 => Q none s9)) : WpM SHC MT (d + 1) 57 [.ref 52, .int a1] s Q := by
  refine WpM.enter me_X4_joinAt rfl rfl ?_
  show Y_X4_joinAt_52 d Q 0 [(0, .ref 52), (1, .int a1)] [] s
  unfold f_X4_joinAt_52 at H
  obtain ⟨hc1, H⟩ := oq_ck H
  refine Wp.f_al0_gfr (pc := 0) o_X4_joinAt rfl rfl rfl fk_C_52_6 (Wp.f_al0_gfr (pc := 4) o_X4_joinAt rfl rfl rfl fk_C_52_3 (Wp.r_iload_n1 (pc := 8) o_X4_joinAt rfl rfl (Wp.r_iaload (pc := 9) o_X4_joinAt rfl ak_C_58 (⟨hc1, ?_⟩))))
  obtain ⟨hc2, H⟩ := oq_ck H
  refine Wp.r_dup2 (pc := 10) o_X4_joinAt rfl (Wp.r_iaload (pc := 11) o_X4_joinAt rfl ak_C_61 (⟨hc2, ?_⟩))
  refine Wp.r_iconst (pc := 12) o_X4_joinAt rfl (Wp.r_iload_n1 (pc := 13) o_X4_joinAt rfl rfl (Wp.r_ishl (pc := 14) o_X4_joinAt rfl (Wp.r_ior (pc := 15) o_X4_joinAt rfl (Wp.r_iastore (pc := 16) o_X4_joinAt rfl ak_C_61 (⟨hc2, ?_⟩)))))
  revert H
  generalize pI s 61 ((s.1 58 a1.toNatClampNeg).toNatClampNeg) ((s.1 61 ((s.1 58 a1.toNatClampNeg).toNatClampNeg)) ||| ((1 : Int32) <<< (a1 &&& 31))) = s3
  intro H
  have H := nmx_e H
  refine Wp.f_al0_gfr (pc := 17) o_X4_joinAt rfl rfl rfl fk_C_52_6 (Wp.f_al0_gfr (pc := 21) o_X4_joinAt rfl rfl rfl fk_C_52_4 (Wp.r_iload_n1 (pc := 25) o_X4_joinAt rfl rfl (Wp.r_iaload (pc := 26) o_X4_joinAt rfl ak_C_59 (⟨hc1, ?_⟩))))
  obtain ⟨hc4, H⟩ := oq_ck H
  refine Wp.r_dup2 (pc := 27) o_X4_joinAt rfl (Wp.r_iaload (pc := 28) o_X4_joinAt rfl ak_C_61 (⟨hc4, ?_⟩))
  refine Wp.r_iconst (pc := 29) o_X4_joinAt rfl (Wp.r_iload_n1 (pc := 30) o_X4_joinAt rfl rfl (Wp.r_ishl (pc := 31) o_X4_joinAt rfl (Wp.r_ior (pc := 32) o_X4_joinAt rfl (Wp.r_iastore (pc := 33) o_X4_joinAt rfl ak_C_61 (⟨hc4, ?_⟩)))))
  revert H
  generalize pI s3 61 ((s3.1 59 a1.toNatClampNeg).toNatClampNeg) ((s3.1 61 ((s3.1 59 a1.toNatClampNeg).toNatClampNeg)) ||| ((1 : Int32) <<< (a1 &&& 31))) = s5
  intro H
  have H := nmx_e H
  exact Wp.r_return (pc := 34) o_X4_joinAt rfl (H)
noncomputable abbrev Y_X6_takeQuarrel (d : Nat) (Q : Qt) : Xt := Wp SHC (WpM SHC MT (d + 4)) (flat2 cq_X6_takeQuarrel) (some .boolean) Q
noncomputable def f_X6_takeQuarrel  (s : Sg) : Option (Int32 × Sg) :=
  bd (f_X6_takeNew 104 (s.1 52 14) 8 s) (fun r1 s2 =>
  if r1 = 0 then
    some (0, s2)
  else
    bd (f_X7_pass 105 s2) (fun r3 s4 =>
    if r3 = 0 then
      some (0, s4)
    else
      bd (f_X6_takeEnd_58 (s.1 52 14) (-1) 0 s4) (fun r5 s6 =>
      if r5 = 0 then
        some (0, s6)
      else
        bd (f_X7_pass 106 s6) (fun r7 s8 =>
        if r7 = 0 then
          some (0, s8)
        else
          ck (inr (s.1 52 14) 8) (
          bd (f_X6_takeEnd_59 (s.1 52 14) (s8.1 58 ((s.1 52 14).toNatClampNeg)) 0 s8) (fun r10 s11 =>
          if r10 = 0 then
            some (0, s11)
          else
            bd (f_X7_pass 107 s11) (fun r12 s13 =>
            if r12 = 0 then
              some (0, s13)
            else
              bd (f_X7_passNumber 1 99 s13) (fun r14 s15 =>
              if r14 = 0 then
                some (0, s15)
              else
                nmx (pI s15 60 ((s.1 52 14).toNatClampNeg) (s15.1 7 7)) (fun s16 =>
                bd (f_X4_joinAt_52 (s.1 52 14) s16) (fun _ s18 =>
                nmx (pI s18 52 14 ((s18.1 52 14) + 1)) (fun s19 =>
                bd (f_X7_pass 59 s19) (fun r20 s21 =>
                ck (r20 = 0 ∨ r20 = 1) (some (r20, s21))
                )
                )
                )
                )
              )
            )
          )
          )
        )
      )
    )
  )
set_option maxRecDepth 100000 in
theorem w_X6_takeQuarrel {d : Nat} {s : Sg} {Q : Qt}  (H : OQ (f_X6_takeQuarrel  s) (fun r9 s9 => Q (some (.int r9)) s9)) : WpM SHC MT (d + 5) 67 [.ref 8] s Q := by
  refine WpM.enter me_X6_takeQuarrel rfl rfl ?_
  show Y_X6_takeQuarrel d Q 0 [(0, .ref 8)] [] s
  unfold f_X6_takeQuarrel at H
  refine Wp.f_al0_gfr (pc := 0) o_X6_takeQuarrel rfl rfl rfl fk_C_8_2 (Wp.r_gfi (pc := 4) o_X6_takeQuarrel rfl fk_C_52_14 (Wp.r_istore_n1 (pc := 7) o_X6_takeQuarrel rfl (Wp.r_aload_n0 (pc := 8) o_X6_takeQuarrel rfl rfl (Wp.r_bipush (pc := 9) o_X6_takeQuarrel rfl (Wp.r_iload_n1 (pc := 11) o_X6_takeQuarrel rfl rfl (Wp.r_bipush (pc := 12) o_X6_takeQuarrel rfl (Wp.r_cv4 (pc := 14) o_X6_takeQuarrel rfl fk_C_8_0 (⟨rm8_ rfl, ?_⟩))))))))
  refine w_X6_takeNew (d := d) _ _ _ ?_
  refine oq_bd H (fun r1 s2 H => ?_)
  refine Wp.r_if_ne (pc := 17) o_X6_takeQuarrel rfl (fun c9 => ?_) (fun c9 => ?_)
  · have H := oq_t c9 H
    exact Wp.r_iconst (pc := 20) o_X6_takeQuarrel rfl (Wp.r_ireturn (pc := 21) o_X6_takeQuarrel rfl (⟨rfl, H⟩))
  · have H := oq_f c9 H
    refine Wp.f_al0_gfr (pc := 22) o_X6_takeQuarrel rfl rfl rfl fk_C_8_0 (Wp.r_bipush (pc := 26) o_X6_takeQuarrel rfl (Wp.r_cv2 (pc := 28) o_X6_takeQuarrel rfl fk_C_7_0 (⟨rm8_ rfl, ?_⟩)))
    refine w_X7_pass (d := d) _ ?_
    refine oq_bd H (fun r3 s4 H => ?_)
    refine Wp.r_if_eq (pc := 31) o_X6_takeQuarrel rfl (fun c9 => ?_) (fun c9 => ?_)
    · have H := oq_t c9 H
      exact Wp.r_iconst (pc := 51) o_X6_takeQuarrel rfl (Wp.r_ireturn (pc := 52) o_X6_takeQuarrel rfl (⟨rfl, H⟩))
    · have H := oq_f c9 H
      refine Wp.r_aload_n0 (pc := 34) o_X6_takeQuarrel rfl rfl (Wp.f_al0_gfr (pc := 35) o_X6_takeQuarrel rfl rfl rfl fk_C_8_2 (Wp.r_gfr (pc := 39) o_X6_takeQuarrel rfl fk_C_52_3 (Wp.r_iload_n1 (pc := 42) o_X6_takeQuarrel rfl rfl (Wp.r_iconst (pc := 43) o_X6_takeQuarrel rfl (Wp.r_iconst (pc := 44) o_X6_takeQuarrel rfl (Wp.r_cv5 (pc := 45) o_X6_takeQuarrel rfl fk_C_8_0 (⟨rm8_ rfl, ?_⟩)))))))
      refine w_X6_takeEnd_58 (d := d) _ _ _ ?_
      refine oq_bd H (fun r5 s6 H => ?_)
      refine Wp.r_if_ne (pc := 48) o_X6_takeQuarrel rfl (fun c9 => ?_) (fun c9 => ?_)
      · have H := oq_t c9 H
        exact Wp.r_iconst (pc := 51) o_X6_takeQuarrel rfl (Wp.r_ireturn (pc := 52) o_X6_takeQuarrel rfl (⟨rfl, H⟩))
      · have H := oq_f c9 H
        refine Wp.f_al0_gfr (pc := 53) o_X6_takeQuarrel rfl rfl rfl fk_C_8_0 (Wp.r_bipush (pc := 57) o_X6_takeQuarrel rfl (Wp.r_cv2 (pc := 59) o_X6_takeQuarrel rfl fk_C_7_0 (⟨rm8_ rfl, ?_⟩)))
        refine w_X7_pass (d := d) _ ?_
        refine oq_bd H (fun r7 s8 H => ?_)
        refine Wp.r_if_eq (pc := 62) o_X6_takeQuarrel rfl (fun c9 => ?_) (fun c9 => ?_)
        · have H := oq_t c9 H
          exact Wp.r_iconst (pc := 90) o_X6_takeQuarrel rfl (Wp.r_ireturn (pc := 91) o_X6_takeQuarrel rfl (⟨rfl, H⟩))
        · have H := oq_f c9 H
          obtain ⟨hc9, H⟩ := oq_ck H
          refine Wp.r_aload_n0 (pc := 65) o_X6_takeQuarrel rfl rfl (Wp.f_al0_gfr (pc := 66) o_X6_takeQuarrel rfl rfl rfl fk_C_8_2 (Wp.r_gfr (pc := 70) o_X6_takeQuarrel rfl fk_C_52_4 (Wp.r_iload_n1 (pc := 73) o_X6_takeQuarrel rfl rfl (Wp.f_al0_gfr (pc := 74) o_X6_takeQuarrel rfl rfl rfl fk_C_8_2 (Wp.r_gfr (pc := 78) o_X6_takeQuarrel rfl fk_C_52_3 (Wp.r_iload_n1 (pc := 81) o_X6_takeQuarrel rfl rfl (Wp.r_iaload (pc := 82) o_X6_takeQuarrel rfl ak_C_58 (⟨hc9, ?_⟩))))))))
          refine Wp.r_iconst (pc := 83) o_X6_takeQuarrel rfl (Wp.r_cv5 (pc := 84) o_X6_takeQuarrel rfl fk_C_8_0 (⟨rm8_ rfl, ?_⟩))
          refine w_X6_takeEnd_59 (d := d) _ _ _ ?_
          refine oq_bd H (fun r10 s11 H => ?_)
          refine Wp.r_if_ne (pc := 87) o_X6_takeQuarrel rfl (fun c9 => ?_) (fun c9 => ?_)
          · have H := oq_t c9 H
            exact Wp.r_iconst (pc := 90) o_X6_takeQuarrel rfl (Wp.r_ireturn (pc := 91) o_X6_takeQuarrel rfl (⟨rfl, H⟩))
          · have H := oq_f c9 H
            refine Wp.f_al0_gfr (pc := 92) o_X6_takeQuarrel rfl rfl rfl fk_C_8_0 (Wp.r_bipush (pc := 96) o_X6_takeQuarrel rfl (Wp.r_cv2 (pc := 98) o_X6_takeQuarrel rfl fk_C_7_0 (⟨rm8_ rfl, ?_⟩)))
            refine w_X7_pass (d := d) _ ?_
            refine oq_bd H (fun r12 s13 H => ?_)
            refine Wp.r_if_eq (pc := 101) o_X6_takeQuarrel rfl (fun c9 => ?_) (fun c9 => ?_)
            · have H := oq_t c9 H
              exact Wp.r_iconst (pc := 117) o_X6_takeQuarrel rfl (Wp.r_ireturn (pc := 118) o_X6_takeQuarrel rfl (⟨rfl, H⟩))
            · have H := oq_f c9 H
              refine Wp.f_al0_gfr (pc := 104) o_X6_takeQuarrel rfl rfl rfl fk_C_8_0 (Wp.r_iconst (pc := 108) o_X6_takeQuarrel rfl (Wp.r_bipush (pc := 109) o_X6_takeQuarrel rfl (Wp.r_cv3 (pc := 111) o_X6_takeQuarrel rfl fk_C_7_0 (⟨rm8_ rfl, ?_⟩))))
              refine w_X7_passNumber (d := d) _ _ ?_
              refine oq_bd H (fun r14 s15 H => ?_)
              refine Wp.r_if_ne (pc := 114) o_X6_takeQuarrel rfl (fun c9 => ?_) (fun c9 => ?_)
              · have H := oq_t c9 H
                exact Wp.r_iconst (pc := 117) o_X6_takeQuarrel rfl (Wp.r_ireturn (pc := 118) o_X6_takeQuarrel rfl (⟨rfl, H⟩))
              · have H := oq_f c9 H
                refine Wp.f_al0_gfr (pc := 119) o_X6_takeQuarrel rfl rfl rfl fk_C_8_2 (Wp.r_gfr (pc := 123) o_X6_takeQuarrel rfl fk_C_52_5 (Wp.r_iload_n1 (pc := 126) o_X6_takeQuarrel rfl rfl (Wp.f_al0_gfr (pc := 127) o_X6_takeQuarrel rfl rfl rfl fk_C_8_0 (Wp.r_gfi (pc := 131) o_X6_takeQuarrel rfl fk_C_7_7 (Wp.r_iastore (pc := 134) o_X6_takeQuarrel rfl ak_C_60 (⟨hc9, ?_⟩))))))
                revert H
                generalize pI s15 60 ((s.1 52 14).toNatClampNeg) (s15.1 7 7) = s16
                intro H
                have H := nmx_e H
                refine Wp.f_al0_gfr (pc := 135) o_X6_takeQuarrel rfl rfl rfl fk_C_8_2 (Wp.r_iload_n1 (pc := 139) o_X6_takeQuarrel rfl rfl (Wp.r_cv2 (pc := 140) o_X6_takeQuarrel rfl fk_C_52_0 (⟨rm8_ rfl, ?_⟩)))
                refine w_X4_joinAt_52 (d := d + 3) _ ?_
                refine oq_bd H (fun _ s18 H => ?_)
                refine Wp.f_al0_gfr (pc := 143) o_X6_takeQuarrel rfl rfl rfl fk_C_8_2 (Wp.r_dup_r (pc := 147) o_X6_takeQuarrel rfl (Wp.r_gfi (pc := 148) o_X6_takeQuarrel rfl fk_C_52_14 (Wp.r_iconst (pc := 151) o_X6_takeQuarrel rfl (Wp.r_iadd (pc := 152) o_X6_takeQuarrel rfl (Wp.r_pfi (pc := 153) o_X6_takeQuarrel rfl fk_C_52_14 (show Y_X6_takeQuarrel d Q 156 [(1, .int (s.1 52 14)), (0, .ref 8)] [] (pI s18 52 14 ((s18.1 52 14) + 1)) from ?_))))))
                revert H
                generalize pI s18 52 14 ((s18.1 52 14) + 1) = s19
                intro H
                have H := nmx_e H
                refine Wp.f_al0_gfr (pc := 156) o_X6_takeQuarrel rfl rfl rfl fk_C_8_0 (Wp.r_bipush (pc := 160) o_X6_takeQuarrel rfl (Wp.r_cv2 (pc := 162) o_X6_takeQuarrel rfl fk_C_7_0 (⟨rm8_ rfl, ?_⟩)))
                refine w_X7_pass (d := d) _ ?_
                refine oq_bd H (fun r20 s21 H => ?_)
                obtain ⟨c9, H⟩ := oq_ck H
                exact Wp.r_ireturn (pc := 165) o_X6_takeQuarrel rfl (⟨b01_n c9, H⟩)
noncomputable abbrev Y_X6_takeEnd_62 (d : Nat) (Q : Qt) : Xt := Wp SHC (WpM SHC MT (d + 3)) (flat2 cq_X6_takeEnd) (some .boolean) Q
noncomputable def f_X6_takeEnd_62 (a2 : Int32) (a3 : Int32) (a4 : Int32) (s : Sg) : Option (Int32 × Sg) :=
  bd (f_X7_findName_52 100 s) (fun r1 s2 =>
  if r1 = 0 then
    some (0, s2)
  else
    if (s2.1 7 7) = a3 then
      bd (f_X7_wrong 5 s2) (fun r3 s4 =>
      ck (r3 = 0 ∨ r3 = 1) (some (r3, s4))
      )
    else
      bd (f_X11_has a4 (s2.1 7 7) s2) (fun r5 s6 =>
      if r5 = 0 then
        ck (inr a2 4) (
        nmx (pI s6 62 a2.toNatClampNeg (s6.1 7 7)) (fun s8 =>
        bd (f_X7_advance s8) (fun _ s10 =>
        some (1, s10)
        )
        )
        )
      else
        bd (f_X7_wrong 5 s6) (fun r11 s12 =>
        ck (r11 = 0 ∨ r11 = 1) (some (r11, s12))
        )
      )
  )
set_option maxRecDepth 100000 in
theorem w_X6_takeEnd_62 {d : Nat} {s : Sg} {Q : Qt} (a2 : Int32) (a3 : Int32) (a4 : Int32) (H : OQ (f_X6_takeEnd_62 a2 a3 a4 s) (fun r9 s9 => Q (some (.int r9)) s9)) : WpM SHC MT (d + 4) 69 [.ref 8, .ref 62, .int a2, .int a3, .int a4] s Q := by
  refine WpM.enter me_X6_takeEnd rfl rfl ?_
  show Y_X6_takeEnd_62 d Q 0 [(0, .ref 8), (1, .ref 62), (2, .int a2), (3, .int a3), (4, .int a4)] [] s
  unfold f_X6_takeEnd_62 at H
  refine Wp.f_al0_gfr (pc := 0) o_X6_takeEnd rfl rfl rfl fk_C_8_0 (Wp.f_al0_gfr (pc := 4) o_X6_takeEnd rfl rfl rfl fk_C_8_2 (Wp.r_bipush (pc := 8) o_X6_takeEnd rfl (Wp.r_cv3 (pc := 10) o_X6_takeEnd rfl fk_C_7_0 (⟨rm8_ rfl, ?_⟩))))
  refine w_X7_findName_52 (d := d + 1) _ ?_
  refine oq_bd H (fun r1 s2 H => ?_)
  refine Wp.r_if_ne (pc := 13) o_X6_takeEnd rfl (fun c9 => ?_) (fun c9 => ?_)
  · have H := oq_t c9 H
    exact Wp.r_iconst (pc := 16) o_X6_takeEnd rfl (Wp.r_ireturn (pc := 17) o_X6_takeEnd rfl (⟨rfl, H⟩))
  · have H := oq_f c9 H
    refine Wp.f_al0_gfr (pc := 18) o_X6_takeEnd rfl rfl rfl fk_C_8_0 (Wp.r_gfi (pc := 22) o_X6_takeEnd rfl fk_C_7_7 (Wp.r_iload_n3 (pc := 25) o_X6_takeEnd rfl rfl (Wp.r_icmp_eq (pc := 26) o_X6_takeEnd rfl (fun c9 => ?_) (fun c9 => ?_))))
    · have H := oq_t c9 H
      refine Wp.f_al0_gfr (pc := 44) o_X6_takeEnd rfl rfl rfl fk_C_8_0 (Wp.r_iconst (pc := 48) o_X6_takeEnd rfl (Wp.r_cv2 (pc := 49) o_X6_takeEnd rfl fk_C_7_0 (⟨rm8_ rfl, ?_⟩)))
      refine w_X7_wrong (d := d + 2) _ ?_
      refine oq_bd H (fun r3 s4 H => ?_)
      obtain ⟨c9, H⟩ := oq_ck H
      exact Wp.r_ireturn (pc := 52) o_X6_takeEnd rfl (⟨b01_n c9, H⟩)
    · have H := oq_f c9 H
      refine Wp.r_iload (pc := 29) o_X6_takeEnd rfl rfl (Wp.f_al0_gfr (pc := 31) o_X6_takeEnd rfl rfl rfl fk_C_8_0 (Wp.r_gfi (pc := 35) o_X6_takeEnd rfl fk_C_7_7 (Wp.r_cs2 (pc := 38) o_X6_takeEnd rfl (⟨rm8_ rfl, ?_⟩))))
      refine w_X11_has (d := d + 2) _ _ ?_
      refine oq_bd H (fun r5 s6 H => ?_)
      refine Wp.r_if_eq (pc := 41) o_X6_takeEnd rfl (fun c9 => ?_) (fun c9 => ?_)
      · have H := oq_t c9 H
        obtain ⟨hc7, H⟩ := oq_ck H
        refine Wp.r_aload_n1 (pc := 53) o_X6_takeEnd rfl rfl (Wp.r_iload_n2 (pc := 54) o_X6_takeEnd rfl rfl (Wp.f_al0_gfr (pc := 55) o_X6_takeEnd rfl rfl rfl fk_C_8_0 (Wp.r_gfi (pc := 59) o_X6_takeEnd rfl fk_C_7_7 (Wp.r_iastore (pc := 62) o_X6_takeEnd rfl ak_C_62 (⟨hc7, ?_⟩)))))
        revert H
        generalize pI s6 62 a2.toNatClampNeg (s6.1 7 7) = s8
        intro H
        have H := nmx_e H
        refine Wp.f_al0_gfr (pc := 63) o_X6_takeEnd rfl rfl rfl fk_C_8_0 (Wp.r_cv1 (pc := 67) o_X6_takeEnd rfl fk_C_7_0 (⟨rm8_ rfl, ?_⟩))
        refine w_X7_advance (d := d)  ?_
        refine oq_bd H (fun _ s10 H => ?_)
        exact Wp.r_iconst (pc := 70) o_X6_takeEnd rfl (Wp.r_ireturn (pc := 71) o_X6_takeEnd rfl (⟨rfl, H⟩))
      · have H := oq_f c9 H
        refine Wp.f_al0_gfr (pc := 44) o_X6_takeEnd rfl rfl rfl fk_C_8_0 (Wp.r_iconst (pc := 48) o_X6_takeEnd rfl (Wp.r_cv2 (pc := 49) o_X6_takeEnd rfl fk_C_7_0 (⟨rm8_ rfl, ?_⟩)))
        refine w_X7_wrong (d := d + 2) _ ?_
        refine oq_bd H (fun r11 s12 H => ?_)
        obtain ⟨c9, H⟩ := oq_ck H
        exact Wp.r_ireturn (pc := 52) o_X6_takeEnd rfl (⟨b01_n c9, H⟩)
noncomputable abbrev Y_X6_takeEnd_63 (d : Nat) (Q : Qt) : Xt := Wp SHC (WpM SHC MT (d + 3)) (flat2 cq_X6_takeEnd) (some .boolean) Q
noncomputable def f_X6_takeEnd_63 (a2 : Int32) (a3 : Int32) (a4 : Int32) (s : Sg) : Option (Int32 × Sg) :=
  bd (f_X7_findName_52 100 s) (fun r1 s2 =>
  if r1 = 0 then
    some (0, s2)
  else
    if (s2.1 7 7) = a3 then
      bd (f_X7_wrong 5 s2) (fun r3 s4 =>
      ck (r3 = 0 ∨ r3 = 1) (some (r3, s4))
      )
    else
      bd (f_X11_has a4 (s2.1 7 7) s2) (fun r5 s6 =>
      if r5 = 0 then
        ck (inr a2 4) (
        nmx (pI s6 63 a2.toNatClampNeg (s6.1 7 7)) (fun s8 =>
        bd (f_X7_advance s8) (fun _ s10 =>
        some (1, s10)
        )
        )
        )
      else
        bd (f_X7_wrong 5 s6) (fun r11 s12 =>
        ck (r11 = 0 ∨ r11 = 1) (some (r11, s12))
        )
      )
  )
set_option maxRecDepth 100000 in
theorem w_X6_takeEnd_63 {d : Nat} {s : Sg} {Q : Qt} (a2 : Int32) (a3 : Int32) (a4 : Int32) (H : OQ (f_X6_takeEnd_63 a2 a3 a4 s) (fun r9 s9 => Q (some (.int r9)) s9)) : WpM SHC MT (d + 4) 69 [.ref 8, .ref 63, .int a2, .int a3, .int a4] s Q := by
  refine WpM.enter me_X6_takeEnd rfl rfl ?_
  show Y_X6_takeEnd_63 d Q 0 [(0, .ref 8), (1, .ref 63), (2, .int a2), (3, .int a3), (4, .int a4)] [] s
  unfold f_X6_takeEnd_63 at H
  refine Wp.f_al0_gfr (pc := 0) o_X6_takeEnd rfl rfl rfl fk_C_8_0 (Wp.f_al0_gfr (pc := 4) o_X6_takeEnd rfl rfl rfl fk_C_8_2 (Wp.r_bipush (pc := 8) o_X6_takeEnd rfl (Wp.r_cv3 (pc := 10) o_X6_takeEnd rfl fk_C_7_0 (⟨rm8_ rfl, ?_⟩))))
  refine w_X7_findName_52 (d := d + 1) _ ?_
  refine oq_bd H (fun r1 s2 H => ?_)
  refine Wp.r_if_ne (pc := 13) o_X6_takeEnd rfl (fun c9 => ?_) (fun c9 => ?_)
  · have H := oq_t c9 H
    exact Wp.r_iconst (pc := 16) o_X6_takeEnd rfl (Wp.r_ireturn (pc := 17) o_X6_takeEnd rfl (⟨rfl, H⟩))
  · have H := oq_f c9 H
    refine Wp.f_al0_gfr (pc := 18) o_X6_takeEnd rfl rfl rfl fk_C_8_0 (Wp.r_gfi (pc := 22) o_X6_takeEnd rfl fk_C_7_7 (Wp.r_iload_n3 (pc := 25) o_X6_takeEnd rfl rfl (Wp.r_icmp_eq (pc := 26) o_X6_takeEnd rfl (fun c9 => ?_) (fun c9 => ?_))))
    · have H := oq_t c9 H
      refine Wp.f_al0_gfr (pc := 44) o_X6_takeEnd rfl rfl rfl fk_C_8_0 (Wp.r_iconst (pc := 48) o_X6_takeEnd rfl (Wp.r_cv2 (pc := 49) o_X6_takeEnd rfl fk_C_7_0 (⟨rm8_ rfl, ?_⟩)))
      refine w_X7_wrong (d := d + 2) _ ?_
      refine oq_bd H (fun r3 s4 H => ?_)
      obtain ⟨c9, H⟩ := oq_ck H
      exact Wp.r_ireturn (pc := 52) o_X6_takeEnd rfl (⟨b01_n c9, H⟩)
    · have H := oq_f c9 H
      refine Wp.r_iload (pc := 29) o_X6_takeEnd rfl rfl (Wp.f_al0_gfr (pc := 31) o_X6_takeEnd rfl rfl rfl fk_C_8_0 (Wp.r_gfi (pc := 35) o_X6_takeEnd rfl fk_C_7_7 (Wp.r_cs2 (pc := 38) o_X6_takeEnd rfl (⟨rm8_ rfl, ?_⟩))))
      refine w_X11_has (d := d + 2) _ _ ?_
      refine oq_bd H (fun r5 s6 H => ?_)
      refine Wp.r_if_eq (pc := 41) o_X6_takeEnd rfl (fun c9 => ?_) (fun c9 => ?_)
      · have H := oq_t c9 H
        obtain ⟨hc7, H⟩ := oq_ck H
        refine Wp.r_aload_n1 (pc := 53) o_X6_takeEnd rfl rfl (Wp.r_iload_n2 (pc := 54) o_X6_takeEnd rfl rfl (Wp.f_al0_gfr (pc := 55) o_X6_takeEnd rfl rfl rfl fk_C_8_0 (Wp.r_gfi (pc := 59) o_X6_takeEnd rfl fk_C_7_7 (Wp.r_iastore (pc := 62) o_X6_takeEnd rfl ak_C_63 (⟨hc7, ?_⟩)))))
        revert H
        generalize pI s6 63 a2.toNatClampNeg (s6.1 7 7) = s8
        intro H
        have H := nmx_e H
        refine Wp.f_al0_gfr (pc := 63) o_X6_takeEnd rfl rfl rfl fk_C_8_0 (Wp.r_cv1 (pc := 67) o_X6_takeEnd rfl fk_C_7_0 (⟨rm8_ rfl, ?_⟩))
        refine w_X7_advance (d := d)  ?_
        refine oq_bd H (fun _ s10 H => ?_)
        exact Wp.r_iconst (pc := 70) o_X6_takeEnd rfl (Wp.r_ireturn (pc := 71) o_X6_takeEnd rfl (⟨rfl, H⟩))
      · have H := oq_f c9 H
        refine Wp.f_al0_gfr (pc := 44) o_X6_takeEnd rfl rfl rfl fk_C_8_0 (Wp.r_iconst (pc := 48) o_X6_takeEnd rfl (Wp.r_cv2 (pc := 49) o_X6_takeEnd rfl fk_C_7_0 (⟨rm8_ rfl, ?_⟩)))
        refine w_X7_wrong (d := d + 2) _ ?_
        refine oq_bd H (fun r11 s12 H => ?_)
        obtain ⟨c9, H⟩ := oq_ck H
        exact Wp.r_ireturn (pc := 52) o_X6_takeEnd rfl (⟨b01_n c9, H⟩)
noncomputable abbrev Y_X6_takeCat (d : Nat) (Q : Qt) : Xt := Wp SHC (WpM SHC MT (d + 4)) (flat2 cq_X6_takeCat) (some .boolean) Q
noncomputable def f_X6_takeCat  (s : Sg) : Option (Int32 × Sg) :=
  bd (f_X6_takeNew 108 (s.1 52 15) 4 s) (fun r1 s2 =>
  if r1 = 0 then
    some (0, s2)
  else
    bd (f_X7_pass 109 s2) (fun r3 s4 =>
    if r3 = 0 then
      some (0, s4)
    else
      bd (f_X6_takeEnd_62 (s.1 52 15) (-1) (s4.1 52 17) s4) (fun r5 s6 =>
      if r5 = 0 then
        some (0, s6)
      else
        bd (f_X7_pass 110 s6) (fun r7 s8 =>
        if r7 = 0 then
          some (0, s8)
        else
          ck (inr (s.1 52 15) 4) (
          bd (f_X6_takeEnd_63 (s.1 52 15) (s8.1 62 ((s.1 52 15).toNatClampNeg)) (s8.1 52 17) s8) (fun r10 s11 =>
          if r10 = 0 then
            some (0, s11)
          else
            bd (f_X7_pass 111 s11) (fun r12 s13 =>
            if r12 = 0 then
              some (0, s13)
            else
              bd (f_X7_passNumber 1 99 s13) (fun r14 s15 =>
              if r14 = 0 then
                some (0, s15)
              else
                nmx (pI s15 64 ((s.1 52 15).toNatClampNeg) (s15.1 7 7)) (fun s16 =>
                nmx (pI s16 52 15 ((s16.1 52 15) + 1)) (fun s17 =>
                bd (f_X7_pass 59 s17) (fun r18 s19 =>
                ck (r18 = 0 ∨ r18 = 1) (some (r18, s19))
                )
                )
                )
              )
            )
          )
          )
        )
      )
    )
  )
set_option maxRecDepth 100000 in
theorem w_X6_takeCat {d : Nat} {s : Sg} {Q : Qt}  (H : OQ (f_X6_takeCat  s) (fun r9 s9 => Q (some (.int r9)) s9)) : WpM SHC MT (d + 5) 68 [.ref 8] s Q := by
  refine WpM.enter me_X6_takeCat rfl rfl ?_
  show Y_X6_takeCat d Q 0 [(0, .ref 8)] [] s
  unfold f_X6_takeCat at H
  refine Wp.f_al0_gfr (pc := 0) o_X6_takeCat rfl rfl rfl fk_C_8_2 (Wp.r_gfi (pc := 4) o_X6_takeCat rfl fk_C_52_15 (Wp.r_istore_n1 (pc := 7) o_X6_takeCat rfl (Wp.r_aload_n0 (pc := 8) o_X6_takeCat rfl rfl (Wp.r_bipush (pc := 9) o_X6_takeCat rfl (Wp.r_iload_n1 (pc := 11) o_X6_takeCat rfl rfl (Wp.r_iconst (pc := 12) o_X6_takeCat rfl (Wp.r_cv4 (pc := 13) o_X6_takeCat rfl fk_C_8_0 (⟨rm8_ rfl, ?_⟩))))))))
  refine w_X6_takeNew (d := d) _ _ _ ?_
  refine oq_bd H (fun r1 s2 H => ?_)
  refine Wp.r_if_ne (pc := 16) o_X6_takeCat rfl (fun c9 => ?_) (fun c9 => ?_)
  · have H := oq_t c9 H
    exact Wp.r_iconst (pc := 19) o_X6_takeCat rfl (Wp.r_ireturn (pc := 20) o_X6_takeCat rfl (⟨rfl, H⟩))
  · have H := oq_f c9 H
    refine Wp.f_al0_gfr (pc := 21) o_X6_takeCat rfl rfl rfl fk_C_8_0 (Wp.r_bipush (pc := 25) o_X6_takeCat rfl (Wp.r_cv2 (pc := 27) o_X6_takeCat rfl fk_C_7_0 (⟨rm8_ rfl, ?_⟩)))
    refine w_X7_pass (d := d) _ ?_
    refine oq_bd H (fun r3 s4 H => ?_)
    refine Wp.r_if_eq (pc := 30) o_X6_takeCat rfl (fun c9 => ?_) (fun c9 => ?_)
    · have H := oq_t c9 H
      exact Wp.r_iconst (pc := 56) o_X6_takeCat rfl (Wp.r_ireturn (pc := 57) o_X6_takeCat rfl (⟨rfl, H⟩))
    · have H := oq_f c9 H
      refine Wp.r_aload_n0 (pc := 33) o_X6_takeCat rfl rfl (Wp.f_al0_gfr (pc := 34) o_X6_takeCat rfl rfl rfl fk_C_8_2 (Wp.r_gfr (pc := 38) o_X6_takeCat rfl fk_C_52_7 (Wp.r_iload_n1 (pc := 41) o_X6_takeCat rfl rfl (Wp.r_iconst (pc := 42) o_X6_takeCat rfl (Wp.f_al0_gfr (pc := 43) o_X6_takeCat rfl rfl rfl fk_C_8_2 (Wp.r_gfi (pc := 47) o_X6_takeCat rfl fk_C_52_17 (Wp.r_cv5 (pc := 50) o_X6_takeCat rfl fk_C_8_0 (⟨rm8_ rfl, ?_⟩))))))))
      refine w_X6_takeEnd_62 (d := d) _ _ _ ?_
      refine oq_bd H (fun r5 s6 H => ?_)
      refine Wp.r_if_ne (pc := 53) o_X6_takeCat rfl (fun c9 => ?_) (fun c9 => ?_)
      · have H := oq_t c9 H
        exact Wp.r_iconst (pc := 56) o_X6_takeCat rfl (Wp.r_ireturn (pc := 57) o_X6_takeCat rfl (⟨rfl, H⟩))
      · have H := oq_f c9 H
        refine Wp.f_al0_gfr (pc := 58) o_X6_takeCat rfl rfl rfl fk_C_8_0 (Wp.r_bipush (pc := 62) o_X6_takeCat rfl (Wp.r_cv2 (pc := 64) o_X6_takeCat rfl fk_C_7_0 (⟨rm8_ rfl, ?_⟩)))
        refine w_X7_pass (d := d) _ ?_
        refine oq_bd H (fun r7 s8 H => ?_)
        refine Wp.r_if_eq (pc := 67) o_X6_takeCat rfl (fun c9 => ?_) (fun c9 => ?_)
        · have H := oq_t c9 H
          exact Wp.r_iconst (pc := 101) o_X6_takeCat rfl (Wp.r_ireturn (pc := 102) o_X6_takeCat rfl (⟨rfl, H⟩))
        · have H := oq_f c9 H
          obtain ⟨hc9, H⟩ := oq_ck H
          refine Wp.r_aload_n0 (pc := 70) o_X6_takeCat rfl rfl (Wp.f_al0_gfr (pc := 71) o_X6_takeCat rfl rfl rfl fk_C_8_2 (Wp.r_gfr (pc := 75) o_X6_takeCat rfl fk_C_52_8 (Wp.r_iload_n1 (pc := 78) o_X6_takeCat rfl rfl (Wp.f_al0_gfr (pc := 79) o_X6_takeCat rfl rfl rfl fk_C_8_2 (Wp.r_gfr (pc := 83) o_X6_takeCat rfl fk_C_52_7 (Wp.r_iload_n1 (pc := 86) o_X6_takeCat rfl rfl (Wp.r_iaload (pc := 87) o_X6_takeCat rfl ak_C_62 (⟨hc9, ?_⟩))))))))
          refine Wp.f_al0_gfr (pc := 88) o_X6_takeCat rfl rfl rfl fk_C_8_2 (Wp.r_gfi (pc := 92) o_X6_takeCat rfl fk_C_52_17 (Wp.r_cv5 (pc := 95) o_X6_takeCat rfl fk_C_8_0 (⟨rm8_ rfl, ?_⟩)))
          refine w_X6_takeEnd_63 (d := d) _ _ _ ?_
          refine oq_bd H (fun r10 s11 H => ?_)
          refine Wp.r_if_ne (pc := 98) o_X6_takeCat rfl (fun c9 => ?_) (fun c9 => ?_)
          · have H := oq_t c9 H
            exact Wp.r_iconst (pc := 101) o_X6_takeCat rfl (Wp.r_ireturn (pc := 102) o_X6_takeCat rfl (⟨rfl, H⟩))
          · have H := oq_f c9 H
            refine Wp.f_al0_gfr (pc := 103) o_X6_takeCat rfl rfl rfl fk_C_8_0 (Wp.r_bipush (pc := 107) o_X6_takeCat rfl (Wp.r_cv2 (pc := 109) o_X6_takeCat rfl fk_C_7_0 (⟨rm8_ rfl, ?_⟩)))
            refine w_X7_pass (d := d) _ ?_
            refine oq_bd H (fun r12 s13 H => ?_)
            refine Wp.r_if_eq (pc := 112) o_X6_takeCat rfl (fun c9 => ?_) (fun c9 => ?_)
            · have H := oq_t c9 H
              exact Wp.r_iconst (pc := 128) o_X6_takeCat rfl (Wp.r_ireturn (pc := 129) o_X6_takeCat rfl (⟨rfl, H⟩))
            · have H := oq_f c9 H
              refine Wp.f_al0_gfr (pc := 115) o_X6_takeCat rfl rfl rfl fk_C_8_0 (Wp.r_iconst (pc := 119) o_X6_takeCat rfl (Wp.r_bipush (pc := 120) o_X6_takeCat rfl (Wp.r_cv3 (pc := 122) o_X6_takeCat rfl fk_C_7_0 (⟨rm8_ rfl, ?_⟩))))
              refine w_X7_passNumber (d := d) _ _ ?_
              refine oq_bd H (fun r14 s15 H => ?_)
              refine Wp.r_if_ne (pc := 125) o_X6_takeCat rfl (fun c9 => ?_) (fun c9 => ?_)
              · have H := oq_t c9 H
                exact Wp.r_iconst (pc := 128) o_X6_takeCat rfl (Wp.r_ireturn (pc := 129) o_X6_takeCat rfl (⟨rfl, H⟩))
              · have H := oq_f c9 H
                refine Wp.f_al0_gfr (pc := 130) o_X6_takeCat rfl rfl rfl fk_C_8_2 (Wp.r_gfr (pc := 134) o_X6_takeCat rfl fk_C_52_9 (Wp.r_iload_n1 (pc := 137) o_X6_takeCat rfl rfl (Wp.f_al0_gfr (pc := 138) o_X6_takeCat rfl rfl rfl fk_C_8_0 (Wp.r_gfi (pc := 142) o_X6_takeCat rfl fk_C_7_7 (Wp.r_iastore (pc := 145) o_X6_takeCat rfl ak_C_64 (⟨hc9, ?_⟩))))))
                revert H
                generalize pI s15 64 ((s.1 52 15).toNatClampNeg) (s15.1 7 7) = s16
                intro H
                have H := nmx_e H
                refine Wp.f_al0_gfr (pc := 146) o_X6_takeCat rfl rfl rfl fk_C_8_2 (Wp.r_dup_r (pc := 150) o_X6_takeCat rfl (Wp.r_gfi (pc := 151) o_X6_takeCat rfl fk_C_52_15 (Wp.r_iconst (pc := 154) o_X6_takeCat rfl (Wp.r_iadd (pc := 155) o_X6_takeCat rfl (Wp.r_pfi (pc := 156) o_X6_takeCat rfl fk_C_52_15 (show Y_X6_takeCat d Q 159 [(1, .int (s.1 52 15)), (0, .ref 8)] [] (pI s16 52 15 ((s16.1 52 15) + 1)) from ?_))))))
                revert H
                generalize pI s16 52 15 ((s16.1 52 15) + 1) = s17
                intro H
                have H := nmx_e H
                refine Wp.f_al0_gfr (pc := 159) o_X6_takeCat rfl rfl rfl fk_C_8_0 (Wp.r_bipush (pc := 163) o_X6_takeCat rfl (Wp.r_cv2 (pc := 165) o_X6_takeCat rfl fk_C_7_0 (⟨rm8_ rfl, ?_⟩)))
                refine w_X7_pass (d := d) _ ?_
                refine oq_bd H (fun r18 s19 H => ?_)
                obtain ⟨c9, H⟩ := oq_ck H
                exact Wp.r_ireturn (pc := 168) o_X6_takeCat rfl (⟨b01_n c9, H⟩)
noncomputable abbrev Y_X6_takeGrocer (d : Nat) (Q : Qt) : Xt := Wp SHC (WpM SHC MT (d + 4)) (flat2 cq_X6_takeGrocer) (some .boolean) Q
noncomputable def f_X6_takeGrocer_b171  (s : Sg) : Option (Int32 × Sg) :=
  bd (f_X7_pass 59 (pI s 52 16 ((s.1 52 16) + 1))) (fun r20 s21 =>
  ck (r20 = 0 ∨ r20 = 1) (some (r20, s21))
  )
set_option maxRecDepth 100000 in
theorem w_X6_takeGrocer_b171 {d : Nat} {Q : Qt}  (s : Sg) (H : OQ (f_X6_takeGrocer_b171  s) (fun r9 s9 => Q (some (.int r9)) s9)) : Y_X6_takeGrocer d Q 171 [(0, .ref 8)] [] s := by
  unfold f_X6_takeGrocer_b171 at H
  refine Wp.f_al0_gfr (pc := 171) o_X6_takeGrocer rfl rfl rfl fk_C_8_2 (Wp.r_dup_r (pc := 175) o_X6_takeGrocer rfl (Wp.r_gfi (pc := 176) o_X6_takeGrocer rfl fk_C_52_16 (Wp.r_iconst (pc := 179) o_X6_takeGrocer rfl (Wp.r_iadd (pc := 180) o_X6_takeGrocer rfl (Wp.r_pfi (pc := 181) o_X6_takeGrocer rfl fk_C_52_16 (Wp.f_al0_gfr (pc := 184) o_X6_takeGrocer rfl rfl rfl fk_C_8_0 (Wp.r_bipush (pc := 188) o_X6_takeGrocer rfl (Wp.r_cv2 (pc := 190) o_X6_takeGrocer rfl fk_C_7_0 (⟨rm8_ rfl, ?_⟩)))))))))
  refine w_X7_pass (d := d) _ ?_
  refine oq_bd H (fun r20 s21 H => ?_)
  obtain ⟨c9, H⟩ := oq_ck H
  exact Wp.r_ireturn (pc := 193) o_X6_takeGrocer rfl (⟨b01_n c9, H⟩)
noncomputable def f_X6_takeGrocer  (s : Sg) : Option (Int32 × Sg) :=
  bd (f_X6_takeNew 112 (s.1 52 16) 4 s) (fun r1 s2 =>
  if r1 = 0 then
    some (0, s2)
  else
    bd (f_X7_pass 113 s2) (fun r3 s4 =>
    if r3 = 0 then
      some (0, s4)
    else
      bd (f_X7_passNumber 0 999 s4) (fun r5 s6 =>
      if r5 = 0 then
        some (0, s6)
      else
        ck (inr (s.1 52 16) 4) (
        nmx (pI s6 71 ((s.1 52 16).toNatClampNeg) (s6.1 7 7)) (fun s8 =>
        bd (f_X7_pass 114 s8) (fun r9 s10 =>
        if r9 = 0 then
          some (0, s10)
        else
          bd (f_X7_passNumber 1 99 s10) (fun r11 s12 =>
          if r11 = 0 then
            some (0, s12)
          else
            nmx (pI s12 65 ((s.1 52 16).toNatClampNeg) (s12.1 7 7)) (fun s13 =>
            nmx (pI s13 66 ((s.1 52 16).toNatClampNeg) 0) (fun s14 =>
            if (s14.1 7 3) = 115 then
              bd (f_X7_advance s14) (fun _ s16 =>
              bd (f_X7_passNumber 0 16 s16) (fun r17 s18 =>
              if r17 = 0 then
                some (0, s18)
              else
                nmx (pI s18 66 ((s.1 52 16).toNatClampNeg) (s18.1 7 7)) (fun s19 =>
                f_X6_takeGrocer_b171 s19
                )
              )
              )
            else
              f_X6_takeGrocer_b171 s14
            )
            )
          )
        )
        )
        )
      )
    )
  )
set_option maxRecDepth 100000 in
theorem w_X6_takeGrocer {d : Nat} {s : Sg} {Q : Qt}  (H : OQ (f_X6_takeGrocer  s) (fun r9 s9 => Q (some (.int r9)) s9)) : WpM SHC MT (d + 5) 70 [.ref 8] s Q := by
  refine WpM.enter me_X6_takeGrocer rfl rfl ?_
  show Y_X6_takeGrocer d Q 0 [(0, .ref 8)] [] s
  unfold f_X6_takeGrocer at H
  refine Wp.f_al0_gfr (pc := 0) o_X6_takeGrocer rfl rfl rfl fk_C_8_2 (Wp.r_gfi (pc := 4) o_X6_takeGrocer rfl fk_C_52_16 (Wp.r_istore_n1 (pc := 7) o_X6_takeGrocer rfl (Wp.r_aload_n0 (pc := 8) o_X6_takeGrocer rfl rfl (Wp.r_bipush (pc := 9) o_X6_takeGrocer rfl (Wp.r_iload_n1 (pc := 11) o_X6_takeGrocer rfl rfl (Wp.r_iconst (pc := 12) o_X6_takeGrocer rfl (Wp.r_cv4 (pc := 13) o_X6_takeGrocer rfl fk_C_8_0 (⟨rm8_ rfl, ?_⟩))))))))
  refine w_X6_takeNew (d := d) _ _ _ ?_
  refine oq_bd H (fun r1 s2 H => ?_)
  refine Wp.r_if_ne (pc := 16) o_X6_takeGrocer rfl (fun c9 => ?_) (fun c9 => ?_)
  · have H := oq_t c9 H
    exact Wp.r_iconst (pc := 19) o_X6_takeGrocer rfl (Wp.r_ireturn (pc := 20) o_X6_takeGrocer rfl (⟨rfl, H⟩))
  · have H := oq_f c9 H
    refine Wp.f_al0_gfr (pc := 21) o_X6_takeGrocer rfl rfl rfl fk_C_8_0 (Wp.r_bipush (pc := 25) o_X6_takeGrocer rfl (Wp.r_cv2 (pc := 27) o_X6_takeGrocer rfl fk_C_7_0 (⟨rm8_ rfl, ?_⟩)))
    refine w_X7_pass (d := d) _ ?_
    refine oq_bd H (fun r3 s4 H => ?_)
    refine Wp.r_if_eq (pc := 30) o_X6_takeGrocer rfl (fun c9 => ?_) (fun c9 => ?_)
    · have H := oq_t c9 H
      exact Wp.r_iconst (pc := 47) o_X6_takeGrocer rfl (Wp.r_ireturn (pc := 48) o_X6_takeGrocer rfl (⟨rfl, H⟩))
    · have H := oq_f c9 H
      refine Wp.f_al0_gfr (pc := 33) o_X6_takeGrocer rfl rfl rfl fk_C_8_0 (Wp.r_iconst (pc := 37) o_X6_takeGrocer rfl (Wp.r_sipush (pc := 38) o_X6_takeGrocer rfl (Wp.r_cv3 (pc := 41) o_X6_takeGrocer rfl fk_C_7_0 (⟨rm8_ rfl, ?_⟩))))
      refine w_X7_passNumber (d := d) _ _ ?_
      refine oq_bd H (fun r5 s6 H => ?_)
      refine Wp.r_if_ne (pc := 44) o_X6_takeGrocer rfl (fun c9 => ?_) (fun c9 => ?_)
      · have H := oq_t c9 H
        exact Wp.r_iconst (pc := 47) o_X6_takeGrocer rfl (Wp.r_ireturn (pc := 48) o_X6_takeGrocer rfl (⟨rfl, H⟩))
      · have H := oq_f c9 H
        obtain ⟨hc7, H⟩ := oq_ck H
        refine Wp.f_al0_gfr (pc := 49) o_X6_takeGrocer rfl rfl rfl fk_C_8_1 (Wp.r_gfr (pc := 53) o_X6_takeGrocer rfl fk_C_51_1 (Wp.r_gfr (pc := 56) o_X6_takeGrocer rfl fk_C_53_4 (Wp.r_iload_n1 (pc := 59) o_X6_takeGrocer rfl rfl (Wp.f_al0_gfr (pc := 60) o_X6_takeGrocer rfl rfl rfl fk_C_8_0 (Wp.r_gfi (pc := 64) o_X6_takeGrocer rfl fk_C_7_7 (Wp.r_iastore (pc := 67) o_X6_takeGrocer rfl ak_C_71 (⟨hc7, ?_⟩)))))))
        revert H
        generalize pI s6 71 ((s.1 52 16).toNatClampNeg) (s6.1 7 7) = s8
        intro H
        have H := nmx_e H
        refine Wp.f_al0_gfr (pc := 68) o_X6_takeGrocer rfl rfl rfl fk_C_8_0 (Wp.r_bipush (pc := 72) o_X6_takeGrocer rfl (Wp.r_cv2 (pc := 74) o_X6_takeGrocer rfl fk_C_7_0 (⟨rm8_ rfl, ?_⟩)))
        refine w_X7_pass (d := d) _ ?_
        refine oq_bd H (fun r9 s10 H => ?_)
        refine Wp.r_if_eq (pc := 77) o_X6_takeGrocer rfl (fun c9 => ?_) (fun c9 => ?_)
        · have H := oq_t c9 H
          exact Wp.r_iconst (pc := 93) o_X6_takeGrocer rfl (Wp.r_ireturn (pc := 94) o_X6_takeGrocer rfl (⟨rfl, H⟩))
        · have H := oq_f c9 H
          refine Wp.f_al0_gfr (pc := 80) o_X6_takeGrocer rfl rfl rfl fk_C_8_0 (Wp.r_iconst (pc := 84) o_X6_takeGrocer rfl (Wp.r_bipush (pc := 85) o_X6_takeGrocer rfl (Wp.r_cv3 (pc := 87) o_X6_takeGrocer rfl fk_C_7_0 (⟨rm8_ rfl, ?_⟩))))
          refine w_X7_passNumber (d := d) _ _ ?_
          refine oq_bd H (fun r11 s12 H => ?_)
          refine Wp.r_if_ne (pc := 90) o_X6_takeGrocer rfl (fun c9 => ?_) (fun c9 => ?_)
          · have H := oq_t c9 H
            exact Wp.r_iconst (pc := 93) o_X6_takeGrocer rfl (Wp.r_ireturn (pc := 94) o_X6_takeGrocer rfl (⟨rfl, H⟩))
          · have H := oq_f c9 H
            refine Wp.f_al0_gfr (pc := 95) o_X6_takeGrocer rfl rfl rfl fk_C_8_2 (Wp.r_gfr (pc := 99) o_X6_takeGrocer rfl fk_C_52_10 (Wp.r_iload_n1 (pc := 102) o_X6_takeGrocer rfl rfl (Wp.f_al0_gfr (pc := 103) o_X6_takeGrocer rfl rfl rfl fk_C_8_0 (Wp.r_gfi (pc := 107) o_X6_takeGrocer rfl fk_C_7_7 (Wp.r_iastore (pc := 110) o_X6_takeGrocer rfl ak_C_65 (⟨hc7, ?_⟩))))))
            revert H
            generalize pI s12 65 ((s.1 52 16).toNatClampNeg) (s12.1 7 7) = s13
            intro H
            have H := nmx_e H
            refine Wp.f_al0_gfr (pc := 111) o_X6_takeGrocer rfl rfl rfl fk_C_8_2 (Wp.r_gfr (pc := 115) o_X6_takeGrocer rfl fk_C_52_11 (Wp.r_iload_n1 (pc := 118) o_X6_takeGrocer rfl rfl (Wp.r_iconst (pc := 119) o_X6_takeGrocer rfl (Wp.r_iastore (pc := 120) o_X6_takeGrocer rfl ak_C_66 (⟨hc7, ?_⟩)))))
            revert H
            generalize pI s13 66 ((s.1 52 16).toNatClampNeg) 0 = s14
            intro H
            have H := nmx_e H
            refine Wp.f_al0_gfr (pc := 121) o_X6_takeGrocer rfl rfl rfl fk_C_8_0 (Wp.r_gfi (pc := 125) o_X6_takeGrocer rfl fk_C_7_3 (Wp.r_bipush (pc := 128) o_X6_takeGrocer rfl (Wp.r_icmp_ne (pc := 130) o_X6_takeGrocer rfl (fun c9 => ?_) (fun c9 => ?_))))
            · have H := oq_t c9 H
              refine Wp.f_al0_gfr (pc := 133) o_X6_takeGrocer rfl rfl rfl fk_C_8_0 (Wp.r_cv1 (pc := 137) o_X6_takeGrocer rfl fk_C_7_0 (⟨rm8_ rfl, ?_⟩))
              refine w_X7_advance (d := d + 1)  ?_
              refine oq_bd H (fun _ s16 H => ?_)
              refine Wp.f_al0_gfr (pc := 140) o_X6_takeGrocer rfl rfl rfl fk_C_8_0 (Wp.r_iconst (pc := 144) o_X6_takeGrocer rfl (Wp.r_bipush (pc := 145) o_X6_takeGrocer rfl (Wp.r_cv3 (pc := 147) o_X6_takeGrocer rfl fk_C_7_0 (⟨rm8_ rfl, ?_⟩))))
              refine w_X7_passNumber (d := d) _ _ ?_
              refine oq_bd H (fun r17 s18 H => ?_)
              refine Wp.r_if_ne (pc := 150) o_X6_takeGrocer rfl (fun c9 => ?_) (fun c9 => ?_)
              · have H := oq_t c9 H
                exact Wp.r_iconst (pc := 153) o_X6_takeGrocer rfl (Wp.r_ireturn (pc := 154) o_X6_takeGrocer rfl (⟨rfl, H⟩))
              · have H := oq_f c9 H
                refine Wp.f_al0_gfr (pc := 155) o_X6_takeGrocer rfl rfl rfl fk_C_8_2 (Wp.r_gfr (pc := 159) o_X6_takeGrocer rfl fk_C_52_11 (Wp.r_iload_n1 (pc := 162) o_X6_takeGrocer rfl rfl (Wp.f_al0_gfr (pc := 163) o_X6_takeGrocer rfl rfl rfl fk_C_8_0 (Wp.r_gfi (pc := 167) o_X6_takeGrocer rfl fk_C_7_7 (Wp.r_iastore (pc := 170) o_X6_takeGrocer rfl ak_C_66 (⟨hc7, ?_⟩))))))
                revert H
                generalize pI s18 66 ((s.1 52 16).toNatClampNeg) (s18.1 7 7) = s19
                intro H
                have H := nmx_e H
                exact Wp.weak2 [1] (w_X6_takeGrocer_b171 _ H) rfl
            · have H := oq_f c9 H
              exact Wp.weak2 [1] (w_X6_takeGrocer_b171 _ H) rfl
noncomputable abbrev Y_X6_takeWashes (d : Nat) (Q : Qt) : Xt := Wp SHC (WpM SHC MT (d + 4)) (flat2 cq_X6_takeWashes) (some .boolean) Q
noncomputable def f_X6_takeWashes_b35  (s : Sg) : Option (Int32 × Sg) :=
  bd (f_X7_pass 117 s) (fun r3 s4 =>
  if r3 = 0 then
    some (0, s4)
  else
    bd (f_X7_passNumber 0 99 s4) (fun r5 s6 =>
    if r5 = 0 then
      some (0, s6)
    else
      nmx (pI (pI s6 8 3 1) 52 18 ((pI s6 8 3 1).1 7 7)) (fun s7 =>
      bd (f_X7_pass 59 s7) (fun r8 s9 =>
      ck (r8 = 0 ∨ r8 = 1) (some (r8, s9))
      )
      )
    )
  )
set_option maxRecDepth 100000 in
theorem w_X6_takeWashes_b35 {d : Nat} {Q : Qt}  (s : Sg) (H : OQ (f_X6_takeWashes_b35  s) (fun r9 s9 => Q (some (.int r9)) s9)) : Y_X6_takeWashes d Q 35 [(0, .ref 8)] [] s := by
  unfold f_X6_takeWashes_b35 at H
  refine Wp.f_al0_gfr (pc := 35) o_X6_takeWashes rfl rfl rfl fk_C_8_0 (Wp.r_bipush (pc := 39) o_X6_takeWashes rfl (Wp.r_cv2 (pc := 41) o_X6_takeWashes rfl fk_C_7_0 (⟨rm8_ rfl, ?_⟩)))
  refine w_X7_pass (d := d) _ ?_
  refine oq_bd H (fun r3 s4 H => ?_)
  refine Wp.r_if_eq (pc := 44) o_X6_takeWashes rfl (fun c9 => ?_) (fun c9 => ?_)
  · have H := oq_t c9 H
    exact Wp.r_iconst (pc := 60) o_X6_takeWashes rfl (Wp.r_ireturn (pc := 61) o_X6_takeWashes rfl (⟨rfl, H⟩))
  · have H := oq_f c9 H
    refine Wp.f_al0_gfr (pc := 47) o_X6_takeWashes rfl rfl rfl fk_C_8_0 (Wp.r_iconst (pc := 51) o_X6_takeWashes rfl (Wp.r_bipush (pc := 52) o_X6_takeWashes rfl (Wp.r_cv3 (pc := 54) o_X6_takeWashes rfl fk_C_7_0 (⟨rm8_ rfl, ?_⟩))))
    refine w_X7_passNumber (d := d) _ _ ?_
    refine oq_bd H (fun r5 s6 H => ?_)
    refine Wp.r_if_ne (pc := 57) o_X6_takeWashes rfl (fun c9 => ?_) (fun c9 => ?_)
    · have H := oq_t c9 H
      exact Wp.r_iconst (pc := 60) o_X6_takeWashes rfl (Wp.r_ireturn (pc := 61) o_X6_takeWashes rfl (⟨rfl, H⟩))
    · have H := oq_f c9 H
      refine Wp.f_al0_iconst (pc := 62) o_X6_takeWashes rfl rfl rfl (Wp.r_pfz (pc := 64) o_X6_takeWashes rfl fk_C_8_3 (show ((1 : Int32) = 0 ∨ 1 = 1) ∧ Y_X6_takeWashes d Q 67 [(0, .ref 8)] [] (pI s6 8 3 1) from ⟨Or.inr rfl, ?_⟩))
      refine Wp.f_al0_gfr (pc := 67) o_X6_takeWashes rfl rfl rfl fk_C_8_2 (Wp.f_al0_gfr (pc := 71) o_X6_takeWashes rfl rfl rfl fk_C_8_0 (Wp.r_gfi (pc := 75) o_X6_takeWashes rfl fk_C_7_7 (Wp.r_pfi (pc := 78) o_X6_takeWashes rfl fk_C_52_18 (show Y_X6_takeWashes d Q 81 [(0, .ref 8)] [] (pI (pI s6 8 3 1) 52 18 ((pI s6 8 3 1).1 7 7)) from ?_))))
      revert H
      generalize pI (pI s6 8 3 1) 52 18 ((pI s6 8 3 1).1 7 7) = s7
      intro H
      have H := nmx_e H
      refine Wp.f_al0_gfr (pc := 81) o_X6_takeWashes rfl rfl rfl fk_C_8_0 (Wp.r_bipush (pc := 85) o_X6_takeWashes rfl (Wp.r_cv2 (pc := 87) o_X6_takeWashes rfl fk_C_7_0 (⟨rm8_ rfl, ?_⟩)))
      refine w_X7_pass (d := d) _ ?_
      refine oq_bd H (fun r8 s9 H => ?_)
      obtain ⟨c9, H⟩ := oq_ck H
      exact Wp.r_ireturn (pc := 90) o_X6_takeWashes rfl (⟨b01_n c9, H⟩)
noncomputable def f_X6_takeWashes  (s : Sg) : Option (Int32 × Sg) :=
  bd (f_X7_advance s) (fun _ s2 =>
  if (s2.1 7 3) = 117 then
    if (s2.1 8 3) = 0 then
      f_X6_takeWashes_b35 s2
    else
      bd (f_X7_wrong 5 s2) (fun r10 s11 =>
      ck (r10 = 0 ∨ r10 = 1) (some (r10, s11))
      )
  else
    f_X6_takeWashes_b35 s2
  )
set_option maxRecDepth 100000 in
theorem w_X6_takeWashes {d : Nat} {s : Sg} {Q : Qt}  (H : OQ (f_X6_takeWashes  s) (fun r9 s9 => Q (some (.int r9)) s9)) : WpM SHC MT (d + 5) 71 [.ref 8] s Q := by
  refine WpM.enter me_X6_takeWashes rfl rfl ?_
  show Y_X6_takeWashes d Q 0 [(0, .ref 8)] [] s
  unfold f_X6_takeWashes at H
  refine Wp.f_al0_gfr (pc := 0) o_X6_takeWashes rfl rfl rfl fk_C_8_0 (Wp.r_cv1 (pc := 4) o_X6_takeWashes rfl fk_C_7_0 (⟨rm8_ rfl, ?_⟩))
  refine w_X7_advance (d := d + 1)  ?_
  refine oq_bd H (fun _ s2 H => ?_)
  refine Wp.f_al0_gfr (pc := 7) o_X6_takeWashes rfl rfl rfl fk_C_8_0 (Wp.r_gfi (pc := 11) o_X6_takeWashes rfl fk_C_7_3 (Wp.r_bipush (pc := 14) o_X6_takeWashes rfl (Wp.r_icmp_ne (pc := 16) o_X6_takeWashes rfl (fun c9 => ?_) (fun c9 => ?_))))
  · have H := oq_t c9 H
    refine Wp.f_al0_gfi (pc := 19) o_X6_takeWashes rfl rfl rfl fk_C_8_3 (Wp.r_if_eq (pc := 23) o_X6_takeWashes rfl (fun c9 => ?_) (fun c9 => ?_))
    · have H := oq_t c9 H
      exact Wp.weak2 [0] (w_X6_takeWashes_b35 _ H) rfl
    · have H := oq_f c9 H
      refine Wp.f_al0_gfr (pc := 26) o_X6_takeWashes rfl rfl rfl fk_C_8_0 (Wp.r_iconst (pc := 30) o_X6_takeWashes rfl (Wp.r_cv2 (pc := 31) o_X6_takeWashes rfl fk_C_7_0 (⟨rm8_ rfl, ?_⟩)))
      refine w_X7_wrong (d := d + 3) _ ?_
      refine oq_bd H (fun r10 s11 H => ?_)
      obtain ⟨c9, H⟩ := oq_ck H
      exact Wp.r_ireturn (pc := 34) o_X6_takeWashes rfl (⟨b01_n c9, H⟩)
  · have H := oq_f c9 H
    exact Wp.weak2 [0] (w_X6_takeWashes_b35 _ H) rfl
noncomputable abbrev Y_X6_takeText (d : Nat) (Q : Qt) : Xt := Wp SHC (WpM SHC MT (d + 6)) (flat2 cq_X6_takeText) (some .boolean) Q
noncomputable def f_X6_takeText_b21 : Nat → Int32 → Int32 → Sg → Option (Int32 × Sg)
  | 0, _, _, _ => none
  | n + 1, v1, v2, s =>
    if 900 < v2 then
      ck (v1 = 0 ∨ v1 = 1) (some (v1, s))
    else
      if v1 = 0 then
        ck (v1 = 0 ∨ v1 = 1) (some (v1, s))
      else
        if (s.1 7 3) = 0 then
          ck (v1 = 0 ∨ v1 = 1) (some (v1, s))
        else
          if (s.1 7 3) = 100 then
            bd (f_X6_takeHouse s) (fun r3 s4 =>
            (f_X6_takeText_b21 n) r3 (v2 + 1) s4
            )
          else
          if (s.1 7 3) = 101 then
            bd (f_X7_wrong 2 s) (fun r5 s6 =>
            (f_X6_takeText_b21 n) r5 (v2 + 1) s6
            )
          else
          if (s.1 7 3) = 102 then
            bd (f_X7_wrong 2 s) (fun r7 s8 =>
            (f_X6_takeText_b21 n) r7 (v2 + 1) s8
            )
          else
          if (s.1 7 3) = 103 then
            bd (f_X6_takeCounts s) (fun r9 s10 =>
            (f_X6_takeText_b21 n) r9 (v2 + 1) s10
            )
          else
          if (s.1 7 3) = 104 then
            bd (f_X6_takeQuarrel s) (fun r11 s12 =>
            (f_X6_takeText_b21 n) r11 (v2 + 1) s12
            )
          else
          if (s.1 7 3) = 105 then
            bd (f_X7_wrong 2 s) (fun r13 s14 =>
            (f_X6_takeText_b21 n) r13 (v2 + 1) s14
            )
          else
          if (s.1 7 3) = 106 then
            bd (f_X7_wrong 2 s) (fun r15 s16 =>
            (f_X6_takeText_b21 n) r15 (v2 + 1) s16
            )
          else
          if (s.1 7 3) = 107 then
            bd (f_X7_wrong 2 s) (fun r17 s18 =>
            (f_X6_takeText_b21 n) r17 (v2 + 1) s18
            )
          else
          if (s.1 7 3) = 108 then
            bd (f_X6_takeCat s) (fun r19 s20 =>
            (f_X6_takeText_b21 n) r19 (v2 + 1) s20
            )
          else
          if (s.1 7 3) = 109 then
            bd (f_X7_wrong 2 s) (fun r21 s22 =>
            (f_X6_takeText_b21 n) r21 (v2 + 1) s22
            )
          else
          if (s.1 7 3) = 110 then
            bd (f_X7_wrong 2 s) (fun r23 s24 =>
            (f_X6_takeText_b21 n) r23 (v2 + 1) s24
            )
          else
          if (s.1 7 3) = 111 then
            bd (f_X7_wrong 2 s) (fun r25 s26 =>
            (f_X6_takeText_b21 n) r25 (v2 + 1) s26
            )
          else
          if (s.1 7 3) = 112 then
            bd (f_X6_takeGrocer s) (fun r27 s28 =>
            (f_X6_takeText_b21 n) r27 (v2 + 1) s28
            )
          else
          if (s.1 7 3) = 113 then
            bd (f_X7_wrong 2 s) (fun r29 s30 =>
            (f_X6_takeText_b21 n) r29 (v2 + 1) s30
            )
          else
          if (s.1 7 3) = 114 then
            bd (f_X7_wrong 2 s) (fun r31 s32 =>
            (f_X6_takeText_b21 n) r31 (v2 + 1) s32
            )
          else
          if (s.1 7 3) = 115 then
            bd (f_X7_wrong 2 s) (fun r33 s34 =>
            (f_X6_takeText_b21 n) r33 (v2 + 1) s34
            )
          else
          if (s.1 7 3) = 116 then
            bd (f_X6_takeWashes s) (fun r35 s36 =>
            (f_X6_takeText_b21 n) r35 (v2 + 1) s36
            )
          else
            bd (f_X7_wrong 2 s) (fun r37 s38 =>
            (f_X6_takeText_b21 n) r37 (v2 + 1) s38
            )
set_option maxRecDepth 100000 in
theorem w_X6_takeText_b21 {d : Nat} {Q : Qt} (n : Nat) : ∀ (v1 : Int32) (v2 : Int32) (s : Sg), OQ (f_X6_takeText_b21 n v1 v2 s) (fun r9 s9 => Q (some (.int r9)) s9) → Y_X6_takeText d Q 21 [(0, .ref 8), (1, .int v1), (2, .int v2)] [] s := by
  induction n with
  | zero => intro v1 v2 s H; exact H.elim
  | succ n ih =>
    intro v1 v2 s H
    unfold f_X6_takeText_b21 at H
    refine Wp.r_iload_n2 (pc := 21) o_X6_takeText rfl rfl (Wp.r_sipush (pc := 22) o_X6_takeText rfl (Wp.r_icmp_gt (pc := 25) o_X6_takeText rfl (fun c9 => ?_) (fun c9 => ?_)))
    · have H := oq_t c9 H
      obtain ⟨c9, H⟩ := oq_ck H
      exact Wp.r_iload_n1 (pc := 195) o_X6_takeText rfl rfl (Wp.r_ireturn (pc := 196) o_X6_takeText rfl (⟨b01_n c9, H⟩))
    · have H := oq_f c9 H
      refine Wp.r_iload_n1 (pc := 28) o_X6_takeText rfl rfl (Wp.r_if_eq (pc := 29) o_X6_takeText rfl (fun c9 => ?_) (fun c9 => ?_))
      · have H := oq_t c9 H
        obtain ⟨c9, H⟩ := oq_ck H
        exact Wp.r_iload_n1 (pc := 195) o_X6_takeText rfl rfl (Wp.r_ireturn (pc := 196) o_X6_takeText rfl (⟨b01_n c9, H⟩))
      · have H := oq_f c9 H
        refine Wp.f_al0_gfr (pc := 32) o_X6_takeText rfl rfl rfl fk_C_8_0 (Wp.r_gfi (pc := 36) o_X6_takeText rfl fk_C_7_3 (Wp.r_if_eq (pc := 39) o_X6_takeText rfl (fun c9 => ?_) (fun c9 => ?_)))
        · have H := oq_t c9 H
          obtain ⟨c9, H⟩ := oq_ck H
          exact Wp.r_iload_n1 (pc := 195) o_X6_takeText rfl rfl (Wp.r_ireturn (pc := 196) o_X6_takeText rfl (⟨b01_n c9, H⟩))
        · have H := oq_f c9 H
          refine Wp.f_al0_gfr (pc := 42) o_X6_takeText rfl rfl rfl fk_C_8_0 (Wp.r_gfi (pc := 46) o_X6_takeText rfl fk_C_7_3 (show Y_X6_takeText d Q 49 [(0, .ref 8), (1, .int v1), (2, .int v2)] [.int (s.1 7 3)] s from ?_))
          refine Wp.tsw2 (l := [(100, 132), (101, 180), (102, 180), (103, 172), (104, 140), (105, 180), (106, 180), (107, 180), (108, 148), (109, 180), (110, 180), (111, 180), (112, 156), (113, 180), (114, 180), (115, 180), (116, 164)]) o_X6_takeText rfl (by decide +kernel) ?_
          show sw [(100, 132), (101, 180), (102, 180), (103, 172), (104, 140), (105, 180), (106, 180), (107, 180), (108, 148), (109, 180), (110, 180), (111, 180), (112, 156), (113, 180), (114, 180), (115, 180), (116, 164)] 180 (s.1 7 3) (fun t9 => Y_X6_takeText d Q t9 [(0, .ref 8), (1, .int v1), (2, .int v2)] [] s)
          refine sw_c (fun e9 => ?_) (fun c9_0 => (sw_c (fun e9 => ?_) (fun c9_1 => (sw_c (fun e9 => ?_) (fun c9_2 => (sw_c (fun e9 => ?_) (fun c9_3 => (sw_c (fun e9 => ?_) (fun c9_4 => (sw_c (fun e9 => ?_) (fun c9_5 => (sw_c (fun e9 => ?_) (fun c9_6 => (sw_c (fun e9 => ?_) (fun c9_7 => (sw_c (fun e9 => ?_) (fun c9_8 => (sw_c (fun e9 => ?_) (fun c9_9 => (sw_c (fun e9 => ?_) (fun c9_10 => (sw_c (fun e9 => ?_) (fun c9_11 => (sw_c (fun e9 => ?_) (fun c9_12 => (sw_c (fun e9 => ?_) (fun c9_13 => (sw_c (fun e9 => ?_) (fun c9_14 => (sw_c (fun e9 => ?_) (fun c9_15 => (sw_c (fun e9 => ?_) (fun c9_16 => ?_)))))))))))))))))))))))))))))))))
          · have H := oq_t e9 H
            refine Wp.r_aload_n0 (pc := 132) o_X6_takeText rfl rfl (Wp.r_cv1 (pc := 133) o_X6_takeText rfl fk_C_8_0 (⟨rm8_ rfl, ?_⟩))
            refine w_X6_takeHouse (d := d)  ?_
            refine oq_bd H (fun r3 s4 H => ?_)
            exact Wp.r_istore_n1 (pc := 136) o_X6_takeText rfl (Wp.r_goto (pc := 137) o_X6_takeText rfl (Wp.f_iinc_goto (pc := 189) o_X6_takeText rfl rfl rfl (Wp.weak2 [2, 1, 0] (ih _ _ _ H) rfl)))
          · have H := oq_f c9_0 H; have H := oq_t e9 H
            refine Wp.f_al0_gfr (pc := 180) o_X6_takeText rfl rfl rfl fk_C_8_0 (Wp.r_iconst (pc := 184) o_X6_takeText rfl (Wp.r_cv2 (pc := 185) o_X6_takeText rfl fk_C_7_0 (⟨rm8_ rfl, ?_⟩)))
            refine w_X7_wrong (d := d + 5) _ ?_
            refine oq_bd H (fun r5 s6 H => ?_)
            exact Wp.r_istore_n1 (pc := 188) o_X6_takeText rfl (Wp.f_iinc_goto (pc := 189) o_X6_takeText rfl rfl rfl (Wp.weak2 [2, 1, 0] (ih _ _ _ H) rfl))
          · have H := oq_f c9_0 H; have H := oq_f c9_1 H; have H := oq_t e9 H
            refine Wp.f_al0_gfr (pc := 180) o_X6_takeText rfl rfl rfl fk_C_8_0 (Wp.r_iconst (pc := 184) o_X6_takeText rfl (Wp.r_cv2 (pc := 185) o_X6_takeText rfl fk_C_7_0 (⟨rm8_ rfl, ?_⟩)))
            refine w_X7_wrong (d := d + 5) _ ?_
            refine oq_bd H (fun r7 s8 H => ?_)
            exact Wp.r_istore_n1 (pc := 188) o_X6_takeText rfl (Wp.f_iinc_goto (pc := 189) o_X6_takeText rfl rfl rfl (Wp.weak2 [2, 1, 0] (ih _ _ _ H) rfl))
          · have H := oq_f c9_0 H; have H := oq_f c9_1 H; have H := oq_f c9_2 H; have H := oq_t e9 H
            refine Wp.r_aload_n0 (pc := 172) o_X6_takeText rfl rfl (Wp.r_cv1 (pc := 173) o_X6_takeText rfl fk_C_8_0 (⟨rm8_ rfl, ?_⟩))
            refine w_X6_takeCounts (d := d + 1)  ?_
            refine oq_bd H (fun r9 s10 H => ?_)
            exact Wp.r_istore_n1 (pc := 176) o_X6_takeText rfl (Wp.r_goto (pc := 177) o_X6_takeText rfl (Wp.f_iinc_goto (pc := 189) o_X6_takeText rfl rfl rfl (Wp.weak2 [2, 1, 0] (ih _ _ _ H) rfl)))
          · have H := oq_f c9_0 H; have H := oq_f c9_1 H; have H := oq_f c9_2 H; have H := oq_f c9_3 H; have H := oq_t e9 H
            refine Wp.r_aload_n0 (pc := 140) o_X6_takeText rfl rfl (Wp.r_cv1 (pc := 141) o_X6_takeText rfl fk_C_8_0 (⟨rm8_ rfl, ?_⟩))
            refine w_X6_takeQuarrel (d := d + 1)  ?_
            refine oq_bd H (fun r11 s12 H => ?_)
            exact Wp.r_istore_n1 (pc := 144) o_X6_takeText rfl (Wp.r_goto (pc := 145) o_X6_takeText rfl (Wp.f_iinc_goto (pc := 189) o_X6_takeText rfl rfl rfl (Wp.weak2 [2, 1, 0] (ih _ _ _ H) rfl)))
          · have H := oq_f c9_0 H; have H := oq_f c9_1 H; have H := oq_f c9_2 H; have H := oq_f c9_3 H; have H := oq_f c9_4 H; have H := oq_t e9 H
            refine Wp.f_al0_gfr (pc := 180) o_X6_takeText rfl rfl rfl fk_C_8_0 (Wp.r_iconst (pc := 184) o_X6_takeText rfl (Wp.r_cv2 (pc := 185) o_X6_takeText rfl fk_C_7_0 (⟨rm8_ rfl, ?_⟩)))
            refine w_X7_wrong (d := d + 5) _ ?_
            refine oq_bd H (fun r13 s14 H => ?_)
            exact Wp.r_istore_n1 (pc := 188) o_X6_takeText rfl (Wp.f_iinc_goto (pc := 189) o_X6_takeText rfl rfl rfl (Wp.weak2 [2, 1, 0] (ih _ _ _ H) rfl))
          · have H := oq_f c9_0 H; have H := oq_f c9_1 H; have H := oq_f c9_2 H; have H := oq_f c9_3 H; have H := oq_f c9_4 H; have H := oq_f c9_5 H; have H := oq_t e9 H
            refine Wp.f_al0_gfr (pc := 180) o_X6_takeText rfl rfl rfl fk_C_8_0 (Wp.r_iconst (pc := 184) o_X6_takeText rfl (Wp.r_cv2 (pc := 185) o_X6_takeText rfl fk_C_7_0 (⟨rm8_ rfl, ?_⟩)))
            refine w_X7_wrong (d := d + 5) _ ?_
            refine oq_bd H (fun r15 s16 H => ?_)
            exact Wp.r_istore_n1 (pc := 188) o_X6_takeText rfl (Wp.f_iinc_goto (pc := 189) o_X6_takeText rfl rfl rfl (Wp.weak2 [2, 1, 0] (ih _ _ _ H) rfl))
          · have H := oq_f c9_0 H; have H := oq_f c9_1 H; have H := oq_f c9_2 H; have H := oq_f c9_3 H; have H := oq_f c9_4 H; have H := oq_f c9_5 H; have H := oq_f c9_6 H; have H := oq_t e9 H
            refine Wp.f_al0_gfr (pc := 180) o_X6_takeText rfl rfl rfl fk_C_8_0 (Wp.r_iconst (pc := 184) o_X6_takeText rfl (Wp.r_cv2 (pc := 185) o_X6_takeText rfl fk_C_7_0 (⟨rm8_ rfl, ?_⟩)))
            refine w_X7_wrong (d := d + 5) _ ?_
            refine oq_bd H (fun r17 s18 H => ?_)
            exact Wp.r_istore_n1 (pc := 188) o_X6_takeText rfl (Wp.f_iinc_goto (pc := 189) o_X6_takeText rfl rfl rfl (Wp.weak2 [2, 1, 0] (ih _ _ _ H) rfl))
          · have H := oq_f c9_0 H; have H := oq_f c9_1 H; have H := oq_f c9_2 H; have H := oq_f c9_3 H; have H := oq_f c9_4 H; have H := oq_f c9_5 H; have H := oq_f c9_6 H; have H := oq_f c9_7 H; have H := oq_t e9 H
            refine Wp.r_aload_n0 (pc := 148) o_X6_takeText rfl rfl (Wp.r_cv1 (pc := 149) o_X6_takeText rfl fk_C_8_0 (⟨rm8_ rfl, ?_⟩))
            refine w_X6_takeCat (d := d + 1)  ?_
            refine oq_bd H (fun r19 s20 H => ?_)
            exact Wp.r_istore_n1 (pc := 152) o_X6_takeText rfl (Wp.r_goto (pc := 153) o_X6_takeText rfl (Wp.f_iinc_goto (pc := 189) o_X6_takeText rfl rfl rfl (Wp.weak2 [2, 1, 0] (ih _ _ _ H) rfl)))
          · have H := oq_f c9_0 H; have H := oq_f c9_1 H; have H := oq_f c9_2 H; have H := oq_f c9_3 H; have H := oq_f c9_4 H; have H := oq_f c9_5 H; have H := oq_f c9_6 H; have H := oq_f c9_7 H; have H := oq_f c9_8 H; have H := oq_t e9 H
            refine Wp.f_al0_gfr (pc := 180) o_X6_takeText rfl rfl rfl fk_C_8_0 (Wp.r_iconst (pc := 184) o_X6_takeText rfl (Wp.r_cv2 (pc := 185) o_X6_takeText rfl fk_C_7_0 (⟨rm8_ rfl, ?_⟩)))
            refine w_X7_wrong (d := d + 5) _ ?_
            refine oq_bd H (fun r21 s22 H => ?_)
            exact Wp.r_istore_n1 (pc := 188) o_X6_takeText rfl (Wp.f_iinc_goto (pc := 189) o_X6_takeText rfl rfl rfl (Wp.weak2 [2, 1, 0] (ih _ _ _ H) rfl))
          · have H := oq_f c9_0 H; have H := oq_f c9_1 H; have H := oq_f c9_2 H; have H := oq_f c9_3 H; have H := oq_f c9_4 H; have H := oq_f c9_5 H; have H := oq_f c9_6 H; have H := oq_f c9_7 H; have H := oq_f c9_8 H; have H := oq_f c9_9 H; have H := oq_t e9 H
            refine Wp.f_al0_gfr (pc := 180) o_X6_takeText rfl rfl rfl fk_C_8_0 (Wp.r_iconst (pc := 184) o_X6_takeText rfl (Wp.r_cv2 (pc := 185) o_X6_takeText rfl fk_C_7_0 (⟨rm8_ rfl, ?_⟩)))
            refine w_X7_wrong (d := d + 5) _ ?_
            refine oq_bd H (fun r23 s24 H => ?_)
            exact Wp.r_istore_n1 (pc := 188) o_X6_takeText rfl (Wp.f_iinc_goto (pc := 189) o_X6_takeText rfl rfl rfl (Wp.weak2 [2, 1, 0] (ih _ _ _ H) rfl))
          · have H := oq_f c9_0 H; have H := oq_f c9_1 H; have H := oq_f c9_2 H; have H := oq_f c9_3 H; have H := oq_f c9_4 H; have H := oq_f c9_5 H; have H := oq_f c9_6 H; have H := oq_f c9_7 H; have H := oq_f c9_8 H; have H := oq_f c9_9 H; have H := oq_f c9_10 H; have H := oq_t e9 H
            refine Wp.f_al0_gfr (pc := 180) o_X6_takeText rfl rfl rfl fk_C_8_0 (Wp.r_iconst (pc := 184) o_X6_takeText rfl (Wp.r_cv2 (pc := 185) o_X6_takeText rfl fk_C_7_0 (⟨rm8_ rfl, ?_⟩)))
            refine w_X7_wrong (d := d + 5) _ ?_
            refine oq_bd H (fun r25 s26 H => ?_)
            exact Wp.r_istore_n1 (pc := 188) o_X6_takeText rfl (Wp.f_iinc_goto (pc := 189) o_X6_takeText rfl rfl rfl (Wp.weak2 [2, 1, 0] (ih _ _ _ H) rfl))
          · have H := oq_f c9_0 H; have H := oq_f c9_1 H; have H := oq_f c9_2 H; have H := oq_f c9_3 H; have H := oq_f c9_4 H; have H := oq_f c9_5 H; have H := oq_f c9_6 H; have H := oq_f c9_7 H; have H := oq_f c9_8 H; have H := oq_f c9_9 H; have H := oq_f c9_10 H; have H := oq_f c9_11 H; have H := oq_t e9 H
            refine Wp.r_aload_n0 (pc := 156) o_X6_takeText rfl rfl (Wp.r_cv1 (pc := 157) o_X6_takeText rfl fk_C_8_0 (⟨rm8_ rfl, ?_⟩))
            refine w_X6_takeGrocer (d := d + 1)  ?_
            refine oq_bd H (fun r27 s28 H => ?_)
            exact Wp.r_istore_n1 (pc := 160) o_X6_takeText rfl (Wp.r_goto (pc := 161) o_X6_takeText rfl (Wp.f_iinc_goto (pc := 189) o_X6_takeText rfl rfl rfl (Wp.weak2 [2, 1, 0] (ih _ _ _ H) rfl)))
          · have H := oq_f c9_0 H; have H := oq_f c9_1 H; have H := oq_f c9_2 H; have H := oq_f c9_3 H; have H := oq_f c9_4 H; have H := oq_f c9_5 H; have H := oq_f c9_6 H; have H := oq_f c9_7 H; have H := oq_f c9_8 H; have H := oq_f c9_9 H; have H := oq_f c9_10 H; have H := oq_f c9_11 H; have H := oq_f c9_12 H; have H := oq_t e9 H
            refine Wp.f_al0_gfr (pc := 180) o_X6_takeText rfl rfl rfl fk_C_8_0 (Wp.r_iconst (pc := 184) o_X6_takeText rfl (Wp.r_cv2 (pc := 185) o_X6_takeText rfl fk_C_7_0 (⟨rm8_ rfl, ?_⟩)))
            refine w_X7_wrong (d := d + 5) _ ?_
            refine oq_bd H (fun r29 s30 H => ?_)
            exact Wp.r_istore_n1 (pc := 188) o_X6_takeText rfl (Wp.f_iinc_goto (pc := 189) o_X6_takeText rfl rfl rfl (Wp.weak2 [2, 1, 0] (ih _ _ _ H) rfl))
          · have H := oq_f c9_0 H; have H := oq_f c9_1 H; have H := oq_f c9_2 H; have H := oq_f c9_3 H; have H := oq_f c9_4 H; have H := oq_f c9_5 H; have H := oq_f c9_6 H; have H := oq_f c9_7 H; have H := oq_f c9_8 H; have H := oq_f c9_9 H; have H := oq_f c9_10 H; have H := oq_f c9_11 H; have H := oq_f c9_12 H; have H := oq_f c9_13 H; have H := oq_t e9 H
            refine Wp.f_al0_gfr (pc := 180) o_X6_takeText rfl rfl rfl fk_C_8_0 (Wp.r_iconst (pc := 184) o_X6_takeText rfl (Wp.r_cv2 (pc := 185) o_X6_takeText rfl fk_C_7_0 (⟨rm8_ rfl, ?_⟩)))
            refine w_X7_wrong (d := d + 5) _ ?_
            refine oq_bd H (fun r31 s32 H => ?_)
            exact Wp.r_istore_n1 (pc := 188) o_X6_takeText rfl (Wp.f_iinc_goto (pc := 189) o_X6_takeText rfl rfl rfl (Wp.weak2 [2, 1, 0] (ih _ _ _ H) rfl))
          · have H := oq_f c9_0 H; have H := oq_f c9_1 H; have H := oq_f c9_2 H; have H := oq_f c9_3 H; have H := oq_f c9_4 H; have H := oq_f c9_5 H; have H := oq_f c9_6 H; have H := oq_f c9_7 H; have H := oq_f c9_8 H; have H := oq_f c9_9 H; have H := oq_f c9_10 H; have H := oq_f c9_11 H; have H := oq_f c9_12 H; have H := oq_f c9_13 H; have H := oq_f c9_14 H; have H := oq_t e9 H
            refine Wp.f_al0_gfr (pc := 180) o_X6_takeText rfl rfl rfl fk_C_8_0 (Wp.r_iconst (pc := 184) o_X6_takeText rfl (Wp.r_cv2 (pc := 185) o_X6_takeText rfl fk_C_7_0 (⟨rm8_ rfl, ?_⟩)))
            refine w_X7_wrong (d := d + 5) _ ?_
            refine oq_bd H (fun r33 s34 H => ?_)
            exact Wp.r_istore_n1 (pc := 188) o_X6_takeText rfl (Wp.f_iinc_goto (pc := 189) o_X6_takeText rfl rfl rfl (Wp.weak2 [2, 1, 0] (ih _ _ _ H) rfl))
          · have H := oq_f c9_0 H; have H := oq_f c9_1 H; have H := oq_f c9_2 H; have H := oq_f c9_3 H; have H := oq_f c9_4 H; have H := oq_f c9_5 H; have H := oq_f c9_6 H; have H := oq_f c9_7 H; have H := oq_f c9_8 H; have H := oq_f c9_9 H; have H := oq_f c9_10 H; have H := oq_f c9_11 H; have H := oq_f c9_12 H; have H := oq_f c9_13 H; have H := oq_f c9_14 H; have H := oq_f c9_15 H; have H := oq_t e9 H
            refine Wp.r_aload_n0 (pc := 164) o_X6_takeText rfl rfl (Wp.r_cv1 (pc := 165) o_X6_takeText rfl fk_C_8_0 (⟨rm8_ rfl, ?_⟩))
            refine w_X6_takeWashes (d := d + 1)  ?_
            refine oq_bd H (fun r35 s36 H => ?_)
            exact Wp.r_istore_n1 (pc := 168) o_X6_takeText rfl (Wp.r_goto (pc := 169) o_X6_takeText rfl (Wp.f_iinc_goto (pc := 189) o_X6_takeText rfl rfl rfl (Wp.weak2 [2, 1, 0] (ih _ _ _ H) rfl)))
          · have H := oq_f c9_0 H; have H := oq_f c9_1 H; have H := oq_f c9_2 H; have H := oq_f c9_3 H; have H := oq_f c9_4 H; have H := oq_f c9_5 H; have H := oq_f c9_6 H; have H := oq_f c9_7 H; have H := oq_f c9_8 H; have H := oq_f c9_9 H; have H := oq_f c9_10 H; have H := oq_f c9_11 H; have H := oq_f c9_12 H; have H := oq_f c9_13 H; have H := oq_f c9_14 H; have H := oq_f c9_15 H; have H := oq_f c9_16 H
            refine Wp.f_al0_gfr (pc := 180) o_X6_takeText rfl rfl rfl fk_C_8_0 (Wp.r_iconst (pc := 184) o_X6_takeText rfl (Wp.r_cv2 (pc := 185) o_X6_takeText rfl fk_C_7_0 (⟨rm8_ rfl, ?_⟩)))
            refine w_X7_wrong (d := d + 5) _ ?_
            refine oq_bd H (fun r37 s38 H => ?_)
            exact Wp.r_istore_n1 (pc := 188) o_X6_takeText rfl (Wp.f_iinc_goto (pc := 189) o_X6_takeText rfl rfl rfl (Wp.weak2 [2, 1, 0] (ih _ _ _ H) rfl))
noncomputable def f_X6_takeText  (s : Sg) : Option (Int32 × Sg) :=
  bd (f_X10_clear_51 s) (fun _ s2 =>
  f_X6_takeText_b21 BIG 1 0 (pI (pI s2 8 3 0) 8 4 0)
  )
set_option maxRecDepth 100000 in
theorem w_X6_takeText {d : Nat} {s : Sg} {Q : Qt}  (H : OQ (f_X6_takeText  s) (fun r9 s9 => Q (some (.int r9)) s9)) : WpM SHC MT (d + 7) 63 [.ref 8] s Q := by
  refine WpM.enter me_X6_takeText rfl rfl ?_
  show Y_X6_takeText d Q 0 [(0, .ref 8)] [] s
  unfold f_X6_takeText at H
  refine Wp.f_al0_gfr (pc := 0) o_X6_takeText rfl rfl rfl fk_C_8_1 (Wp.r_cv1 (pc := 4) o_X6_takeText rfl fk_C_51_0 (⟨rm8_ rfl, ?_⟩))
  refine w_X10_clear_51 (d := d + 3)  ?_
  refine oq_bd H (fun _ s2 H => ?_)
  refine Wp.f_al0_iconst (pc := 7) o_X6_takeText rfl rfl rfl (Wp.r_pfz (pc := 9) o_X6_takeText rfl fk_C_8_3 (show ((0 : Int32) = 0 ∨ 0 = 1) ∧ Y_X6_takeText d Q 12 [(0, .ref 8)] [] (pI s2 8 3 0) from ⟨Or.inl rfl, ?_⟩))
  refine Wp.f_al0_iconst (pc := 12) o_X6_takeText rfl rfl rfl (Wp.r_pfz (pc := 14) o_X6_takeText rfl fk_C_8_4 (show ((0 : Int32) = 0 ∨ 0 = 1) ∧ Y_X6_takeText d Q 17 [(0, .ref 8)] [] (pI (pI s2 8 3 0) 8 4 0) from ⟨Or.inl rfl, ?_⟩))
  exact Wp.r_iconst (pc := 17) o_X6_takeText rfl (Wp.r_istore_n1 (pc := 18) o_X6_takeText rfl (Wp.r_iconst (pc := 19) o_X6_takeText rfl (Wp.r_istore_n2 (pc := 20) o_X6_takeText rfl (Wp.weak2 [2, 1, 0] (w_X6_takeText_b21 _ _ _ _ H) rfl))))
