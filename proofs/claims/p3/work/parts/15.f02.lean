noncomputable abbrev Y_X11_closeText (d : Nat) (Q : Qt) : Xt := Wp SHC (WpM SHC MT (d + 0)) (flat2 cq_X11_closeText) (none) Q
noncomputable def f_X11_closeText  (s : Sg) : Option (Unit × Sg) :=
  nmx (pI (pI s 0 13 0) 0 18 ((pI s 0 13 0).1 7 8)) (fun s1 =>
  some ((), pI s1 0 19 (s1.1 7 9))
  )
set_option maxRecDepth 100000 in
theorem w_X11_closeText {d : Nat} {s : Sg} {Q : Qt}  (H : OQ (f_X11_closeText  s) (fun _ s9 => Q none s9)) : WpM SHC MT (d + 1) 179 [.ref 0] s Q := by
  refine WpM.enter me_X11_closeText rfl rfl ?_
  show Y_X11_closeText d Q 0 [(0, .ref 0)] [] s
  unfold f_X11_closeText at H
  refine Wp.f_al0_iconst (pc := 0) o_X11_closeText rfl rfl rfl (Wp.r_pfi (pc := 2) o_X11_closeText rfl fk_C_0_13 (Wp.r_aload_n0 (pc := 5) o_X11_closeText rfl rfl (Wp.f_al0_gfr (pc := 6) o_X11_closeText rfl rfl rfl fk_C_0_10 (Wp.r_gfi (pc := 10) o_X11_closeText rfl fk_C_7_8 (Wp.r_pfi (pc := 13) o_X11_closeText rfl fk_C_0_18 (show Y_X11_closeText d Q 16 [(0, .ref 0)] [] (pI (pI s 0 13 0) 0 18 ((pI s 0 13 0).1 7 8)) from ?_))))))
  revert H
  generalize pI (pI s 0 13 0) 0 18 ((pI s 0 13 0).1 7 8) = s1
  intro H
  have H := nmx_e H
  exact Wp.r_aload_n0 (pc := 16) o_X11_closeText rfl rfl (Wp.f_al0_gfr (pc := 17) o_X11_closeText rfl rfl rfl fk_C_0_10 (Wp.r_gfi (pc := 21) o_X11_closeText rfl fk_C_7_9 (Wp.r_pfi (pc := 24) o_X11_closeText rfl fk_C_0_19 (Wp.r_return (pc := 27) o_X11_closeText rfl (H)))))
noncomputable abbrev Y_X11_copyRow_29_56 (d : Nat) (Q : Qt) : Xt := Wp SHC (WpM SHC MT (d + 0)) (flat2 cq_X11_copyRow) (none) Q
noncomputable def f_X11_copyRow_29_56  (s : Sg) : Option (Unit × Sg) :=
  ck (¬ (0 : Int32) < 0 ∧ ¬ (0 : Int32) < 0 ∧ ¬ (if 24 < (24 : Int32) then 24 else (24 : Int32)) < 0 ∧ 0 + (if 24 < (24 : Int32) then 24 else (24 : Int32)).toNatClampNeg ≤ 24 ∧ 0 + (if 24 < (24 : Int32) then 24 else (24 : Int32)).toNatClampNeg ≤ 24) (
  some ((), pA s 29 (va_cpy (s.1 56) (s.1 29) 0 0 (if 24 < (24 : Int32) then 24 else (24 : Int32)).toNatClampNeg))
  )
set_option maxRecDepth 100000 in
theorem w_X11_copyRow_29_56 {d : Nat} {s : Sg} {Q : Qt}  (H : OQ (f_X11_copyRow_29_56  s) (fun _ s9 => Q none s9)) : WpM SHC MT (d + 1) 184 [.ref 56, .ref 29] s Q := by
  refine WpM.enter me_X11_copyRow rfl rfl ?_
  show Y_X11_copyRow_29_56 d Q 0 [(0, .ref 56), (1, .ref 29)] [] s
  unfold f_X11_copyRow_29_56 at H
  refine Wp.f_al0_iconst (pc := 0) o_X11_copyRow rfl rfl rfl (Wp.f_al1_iconst (pc := 2) o_X11_copyRow rfl rfl rfl (Wp.f_al0_alen (pc := 4) o_X11_copyRow rfl rfl rfl lk_C_56 (Wp.f_al1_alen (pc := 6) o_X11_copyRow rfl rfl rfl lk_C_29 (Wp.r_min (pc := 8) o_X11_copyRow rfl (⟨rm8_ rfl, ?_⟩)))))
  obtain ⟨c9, H⟩ := oq_ck H
  refine Wp.run 1 (show room8 [] ∧ (¬ (0 : Int32) < 0 ∧ ¬ (0 : Int32) < 0 ∧ ¬ (if 24 < (24 : Int32) then 24 else (24 : Int32)) < 0 ∧ 0 + (if 24 < (24 : Int32) then 24 else (24 : Int32)).toNatClampNeg ≤ 24 ∧ 0 + (if 24 < (24 : Int32) then 24 else (24 : Int32)).toNatClampNeg ≤ 24) ∧ Y_X11_copyRow_29_56 d Q 14 [(0, .ref 56), (1, .ref 29)] [] (pA s 29 (va_cpy (s.1 56) (s.1 29) 0 0 (if 24 < (24 : Int32) then 24 else (24 : Int32)).toNatClampNeg)) from ⟨rm8_ rfl, c9, ?_⟩)
  exact Wp.r_return (pc := 14) o_X11_copyRow rfl (H)
noncomputable abbrev Y_X11_copyRow_30_57 (d : Nat) (Q : Qt) : Xt := Wp SHC (WpM SHC MT (d + 0)) (flat2 cq_X11_copyRow) (none) Q
noncomputable def f_X11_copyRow_30_57  (s : Sg) : Option (Unit × Sg) :=
  ck (¬ (0 : Int32) < 0 ∧ ¬ (0 : Int32) < 0 ∧ ¬ (if 24 < (24 : Int32) then 24 else (24 : Int32)) < 0 ∧ 0 + (if 24 < (24 : Int32) then 24 else (24 : Int32)).toNatClampNeg ≤ 24 ∧ 0 + (if 24 < (24 : Int32) then 24 else (24 : Int32)).toNatClampNeg ≤ 24) (
  some ((), pA s 30 (va_cpy (s.1 57) (s.1 30) 0 0 (if 24 < (24 : Int32) then 24 else (24 : Int32)).toNatClampNeg))
  )
set_option maxRecDepth 100000 in
theorem w_X11_copyRow_30_57 {d : Nat} {s : Sg} {Q : Qt}  (H : OQ (f_X11_copyRow_30_57  s) (fun _ s9 => Q none s9)) : WpM SHC MT (d + 1) 184 [.ref 57, .ref 30] s Q := by
  refine WpM.enter me_X11_copyRow rfl rfl ?_
  show Y_X11_copyRow_30_57 d Q 0 [(0, .ref 57), (1, .ref 30)] [] s
  unfold f_X11_copyRow_30_57 at H
  refine Wp.f_al0_iconst (pc := 0) o_X11_copyRow rfl rfl rfl (Wp.f_al1_iconst (pc := 2) o_X11_copyRow rfl rfl rfl (Wp.f_al0_alen (pc := 4) o_X11_copyRow rfl rfl rfl lk_C_57 (Wp.f_al1_alen (pc := 6) o_X11_copyRow rfl rfl rfl lk_C_30 (Wp.r_min (pc := 8) o_X11_copyRow rfl (⟨rm8_ rfl, ?_⟩)))))
  obtain ⟨c9, H⟩ := oq_ck H
  refine Wp.run 1 (show room8 [] ∧ (¬ (0 : Int32) < 0 ∧ ¬ (0 : Int32) < 0 ∧ ¬ (if 24 < (24 : Int32) then 24 else (24 : Int32)) < 0 ∧ 0 + (if 24 < (24 : Int32) then 24 else (24 : Int32)).toNatClampNeg ≤ 24 ∧ 0 + (if 24 < (24 : Int32) then 24 else (24 : Int32)).toNatClampNeg ≤ 24) ∧ Y_X11_copyRow_30_57 d Q 14 [(0, .ref 57), (1, .ref 30)] [] (pA s 30 (va_cpy (s.1 57) (s.1 30) 0 0 (if 24 < (24 : Int32) then 24 else (24 : Int32)).toNatClampNeg)) from ⟨rm8_ rfl, c9, ?_⟩)
  exact Wp.r_return (pc := 14) o_X11_copyRow rfl (H)
noncomputable abbrev Y_X11_copyRow_31_58 (d : Nat) (Q : Qt) : Xt := Wp SHC (WpM SHC MT (d + 0)) (flat2 cq_X11_copyRow) (none) Q
noncomputable def f_X11_copyRow_31_58  (s : Sg) : Option (Unit × Sg) :=
  ck (¬ (0 : Int32) < 0 ∧ ¬ (0 : Int32) < 0 ∧ ¬ (if 8 < (8 : Int32) then 8 else (8 : Int32)) < 0 ∧ 0 + (if 8 < (8 : Int32) then 8 else (8 : Int32)).toNatClampNeg ≤ 8 ∧ 0 + (if 8 < (8 : Int32) then 8 else (8 : Int32)).toNatClampNeg ≤ 8) (
  some ((), pA s 31 (va_cpy (s.1 58) (s.1 31) 0 0 (if 8 < (8 : Int32) then 8 else (8 : Int32)).toNatClampNeg))
  )
set_option maxRecDepth 100000 in
theorem w_X11_copyRow_31_58 {d : Nat} {s : Sg} {Q : Qt}  (H : OQ (f_X11_copyRow_31_58  s) (fun _ s9 => Q none s9)) : WpM SHC MT (d + 1) 184 [.ref 58, .ref 31] s Q := by
  refine WpM.enter me_X11_copyRow rfl rfl ?_
  show Y_X11_copyRow_31_58 d Q 0 [(0, .ref 58), (1, .ref 31)] [] s
  unfold f_X11_copyRow_31_58 at H
  refine Wp.f_al0_iconst (pc := 0) o_X11_copyRow rfl rfl rfl (Wp.f_al1_iconst (pc := 2) o_X11_copyRow rfl rfl rfl (Wp.f_al0_alen (pc := 4) o_X11_copyRow rfl rfl rfl lk_C_58 (Wp.f_al1_alen (pc := 6) o_X11_copyRow rfl rfl rfl lk_C_31 (Wp.r_min (pc := 8) o_X11_copyRow rfl (⟨rm8_ rfl, ?_⟩)))))
  obtain ⟨c9, H⟩ := oq_ck H
  refine Wp.run 1 (show room8 [] ∧ (¬ (0 : Int32) < 0 ∧ ¬ (0 : Int32) < 0 ∧ ¬ (if 8 < (8 : Int32) then 8 else (8 : Int32)) < 0 ∧ 0 + (if 8 < (8 : Int32) then 8 else (8 : Int32)).toNatClampNeg ≤ 8 ∧ 0 + (if 8 < (8 : Int32) then 8 else (8 : Int32)).toNatClampNeg ≤ 8) ∧ Y_X11_copyRow_31_58 d Q 14 [(0, .ref 58), (1, .ref 31)] [] (pA s 31 (va_cpy (s.1 58) (s.1 31) 0 0 (if 8 < (8 : Int32) then 8 else (8 : Int32)).toNatClampNeg)) from ⟨rm8_ rfl, c9, ?_⟩)
  exact Wp.r_return (pc := 14) o_X11_copyRow rfl (H)
noncomputable abbrev Y_X11_copyRow_32_59 (d : Nat) (Q : Qt) : Xt := Wp SHC (WpM SHC MT (d + 0)) (flat2 cq_X11_copyRow) (none) Q
noncomputable def f_X11_copyRow_32_59  (s : Sg) : Option (Unit × Sg) :=
  ck (¬ (0 : Int32) < 0 ∧ ¬ (0 : Int32) < 0 ∧ ¬ (if 8 < (8 : Int32) then 8 else (8 : Int32)) < 0 ∧ 0 + (if 8 < (8 : Int32) then 8 else (8 : Int32)).toNatClampNeg ≤ 8 ∧ 0 + (if 8 < (8 : Int32) then 8 else (8 : Int32)).toNatClampNeg ≤ 8) (
  some ((), pA s 32 (va_cpy (s.1 59) (s.1 32) 0 0 (if 8 < (8 : Int32) then 8 else (8 : Int32)).toNatClampNeg))
  )
set_option maxRecDepth 100000 in
theorem w_X11_copyRow_32_59 {d : Nat} {s : Sg} {Q : Qt}  (H : OQ (f_X11_copyRow_32_59  s) (fun _ s9 => Q none s9)) : WpM SHC MT (d + 1) 184 [.ref 59, .ref 32] s Q := by
  refine WpM.enter me_X11_copyRow rfl rfl ?_
  show Y_X11_copyRow_32_59 d Q 0 [(0, .ref 59), (1, .ref 32)] [] s
  unfold f_X11_copyRow_32_59 at H
  refine Wp.f_al0_iconst (pc := 0) o_X11_copyRow rfl rfl rfl (Wp.f_al1_iconst (pc := 2) o_X11_copyRow rfl rfl rfl (Wp.f_al0_alen (pc := 4) o_X11_copyRow rfl rfl rfl lk_C_59 (Wp.f_al1_alen (pc := 6) o_X11_copyRow rfl rfl rfl lk_C_32 (Wp.r_min (pc := 8) o_X11_copyRow rfl (⟨rm8_ rfl, ?_⟩)))))
  obtain ⟨c9, H⟩ := oq_ck H
  refine Wp.run 1 (show room8 [] ∧ (¬ (0 : Int32) < 0 ∧ ¬ (0 : Int32) < 0 ∧ ¬ (if 8 < (8 : Int32) then 8 else (8 : Int32)) < 0 ∧ 0 + (if 8 < (8 : Int32) then 8 else (8 : Int32)).toNatClampNeg ≤ 8 ∧ 0 + (if 8 < (8 : Int32) then 8 else (8 : Int32)).toNatClampNeg ≤ 8) ∧ Y_X11_copyRow_32_59 d Q 14 [(0, .ref 59), (1, .ref 32)] [] (pA s 32 (va_cpy (s.1 59) (s.1 32) 0 0 (if 8 < (8 : Int32) then 8 else (8 : Int32)).toNatClampNeg)) from ⟨rm8_ rfl, c9, ?_⟩)
  exact Wp.r_return (pc := 14) o_X11_copyRow rfl (H)
noncomputable abbrev Y_X11_copyRow_33_60 (d : Nat) (Q : Qt) : Xt := Wp SHC (WpM SHC MT (d + 0)) (flat2 cq_X11_copyRow) (none) Q
noncomputable def f_X11_copyRow_33_60  (s : Sg) : Option (Unit × Sg) :=
  ck (¬ (0 : Int32) < 0 ∧ ¬ (0 : Int32) < 0 ∧ ¬ (if 8 < (8 : Int32) then 8 else (8 : Int32)) < 0 ∧ 0 + (if 8 < (8 : Int32) then 8 else (8 : Int32)).toNatClampNeg ≤ 8 ∧ 0 + (if 8 < (8 : Int32) then 8 else (8 : Int32)).toNatClampNeg ≤ 8) (
  some ((), pA s 33 (va_cpy (s.1 60) (s.1 33) 0 0 (if 8 < (8 : Int32) then 8 else (8 : Int32)).toNatClampNeg))
  )
set_option maxRecDepth 100000 in
theorem w_X11_copyRow_33_60 {d : Nat} {s : Sg} {Q : Qt}  (H : OQ (f_X11_copyRow_33_60  s) (fun _ s9 => Q none s9)) : WpM SHC MT (d + 1) 184 [.ref 60, .ref 33] s Q := by
  refine WpM.enter me_X11_copyRow rfl rfl ?_
  show Y_X11_copyRow_33_60 d Q 0 [(0, .ref 60), (1, .ref 33)] [] s
  unfold f_X11_copyRow_33_60 at H
  refine Wp.f_al0_iconst (pc := 0) o_X11_copyRow rfl rfl rfl (Wp.f_al1_iconst (pc := 2) o_X11_copyRow rfl rfl rfl (Wp.f_al0_alen (pc := 4) o_X11_copyRow rfl rfl rfl lk_C_60 (Wp.f_al1_alen (pc := 6) o_X11_copyRow rfl rfl rfl lk_C_33 (Wp.r_min (pc := 8) o_X11_copyRow rfl (⟨rm8_ rfl, ?_⟩)))))
  obtain ⟨c9, H⟩ := oq_ck H
  refine Wp.run 1 (show room8 [] ∧ (¬ (0 : Int32) < 0 ∧ ¬ (0 : Int32) < 0 ∧ ¬ (if 8 < (8 : Int32) then 8 else (8 : Int32)) < 0 ∧ 0 + (if 8 < (8 : Int32) then 8 else (8 : Int32)).toNatClampNeg ≤ 8 ∧ 0 + (if 8 < (8 : Int32) then 8 else (8 : Int32)).toNatClampNeg ≤ 8) ∧ Y_X11_copyRow_33_60 d Q 14 [(0, .ref 60), (1, .ref 33)] [] (pA s 33 (va_cpy (s.1 60) (s.1 33) 0 0 (if 8 < (8 : Int32) then 8 else (8 : Int32)).toNatClampNeg)) from ⟨rm8_ rfl, c9, ?_⟩)
  exact Wp.r_return (pc := 14) o_X11_copyRow rfl (H)
noncomputable abbrev Y_X11_copyRow_34_61 (d : Nat) (Q : Qt) : Xt := Wp SHC (WpM SHC MT (d + 0)) (flat2 cq_X11_copyRow) (none) Q
noncomputable def f_X11_copyRow_34_61  (s : Sg) : Option (Unit × Sg) :=
  ck (¬ (0 : Int32) < 0 ∧ ¬ (0 : Int32) < 0 ∧ ¬ (if 8 < (8 : Int32) then 8 else (8 : Int32)) < 0 ∧ 0 + (if 8 < (8 : Int32) then 8 else (8 : Int32)).toNatClampNeg ≤ 8 ∧ 0 + (if 8 < (8 : Int32) then 8 else (8 : Int32)).toNatClampNeg ≤ 8) (
  some ((), pA s 34 (va_cpy (s.1 61) (s.1 34) 0 0 (if 8 < (8 : Int32) then 8 else (8 : Int32)).toNatClampNeg))
  )
set_option maxRecDepth 100000 in
theorem w_X11_copyRow_34_61 {d : Nat} {s : Sg} {Q : Qt}  (H : OQ (f_X11_copyRow_34_61  s) (fun _ s9 => Q none s9)) : WpM SHC MT (d + 1) 184 [.ref 61, .ref 34] s Q := by
  refine WpM.enter me_X11_copyRow rfl rfl ?_
  show Y_X11_copyRow_34_61 d Q 0 [(0, .ref 61), (1, .ref 34)] [] s
  unfold f_X11_copyRow_34_61 at H
  refine Wp.f_al0_iconst (pc := 0) o_X11_copyRow rfl rfl rfl (Wp.f_al1_iconst (pc := 2) o_X11_copyRow rfl rfl rfl (Wp.f_al0_alen (pc := 4) o_X11_copyRow rfl rfl rfl lk_C_61 (Wp.f_al1_alen (pc := 6) o_X11_copyRow rfl rfl rfl lk_C_34 (Wp.r_min (pc := 8) o_X11_copyRow rfl (⟨rm8_ rfl, ?_⟩)))))
  obtain ⟨c9, H⟩ := oq_ck H
  refine Wp.run 1 (show room8 [] ∧ (¬ (0 : Int32) < 0 ∧ ¬ (0 : Int32) < 0 ∧ ¬ (if 8 < (8 : Int32) then 8 else (8 : Int32)) < 0 ∧ 0 + (if 8 < (8 : Int32) then 8 else (8 : Int32)).toNatClampNeg ≤ 8 ∧ 0 + (if 8 < (8 : Int32) then 8 else (8 : Int32)).toNatClampNeg ≤ 8) ∧ Y_X11_copyRow_34_61 d Q 14 [(0, .ref 61), (1, .ref 34)] [] (pA s 34 (va_cpy (s.1 61) (s.1 34) 0 0 (if 8 < (8 : Int32) then 8 else (8 : Int32)).toNatClampNeg)) from ⟨rm8_ rfl, c9, ?_⟩)
  exact Wp.r_return (pc := 14) o_X11_copyRow rfl (H)
noncomputable abbrev Y_X11_copyRow_35_62 (d : Nat) (Q : Qt) : Xt := Wp SHC (WpM SHC MT (d + 0)) (flat2 cq_X11_copyRow) (none) Q
noncomputable def f_X11_copyRow_35_62  (s : Sg) : Option (Unit × Sg) :=
  ck (¬ (0 : Int32) < 0 ∧ ¬ (0 : Int32) < 0 ∧ ¬ (if 4 < (4 : Int32) then 4 else (4 : Int32)) < 0 ∧ 0 + (if 4 < (4 : Int32) then 4 else (4 : Int32)).toNatClampNeg ≤ 4 ∧ 0 + (if 4 < (4 : Int32) then 4 else (4 : Int32)).toNatClampNeg ≤ 4) (
  some ((), pA s 35 (va_cpy (s.1 62) (s.1 35) 0 0 (if 4 < (4 : Int32) then 4 else (4 : Int32)).toNatClampNeg))
  )
set_option maxRecDepth 100000 in
theorem w_X11_copyRow_35_62 {d : Nat} {s : Sg} {Q : Qt}  (H : OQ (f_X11_copyRow_35_62  s) (fun _ s9 => Q none s9)) : WpM SHC MT (d + 1) 184 [.ref 62, .ref 35] s Q := by
  refine WpM.enter me_X11_copyRow rfl rfl ?_
  show Y_X11_copyRow_35_62 d Q 0 [(0, .ref 62), (1, .ref 35)] [] s
  unfold f_X11_copyRow_35_62 at H
  refine Wp.f_al0_iconst (pc := 0) o_X11_copyRow rfl rfl rfl (Wp.f_al1_iconst (pc := 2) o_X11_copyRow rfl rfl rfl (Wp.f_al0_alen (pc := 4) o_X11_copyRow rfl rfl rfl lk_C_62 (Wp.f_al1_alen (pc := 6) o_X11_copyRow rfl rfl rfl lk_C_35 (Wp.r_min (pc := 8) o_X11_copyRow rfl (⟨rm8_ rfl, ?_⟩)))))
  obtain ⟨c9, H⟩ := oq_ck H
  refine Wp.run 1 (show room8 [] ∧ (¬ (0 : Int32) < 0 ∧ ¬ (0 : Int32) < 0 ∧ ¬ (if 4 < (4 : Int32) then 4 else (4 : Int32)) < 0 ∧ 0 + (if 4 < (4 : Int32) then 4 else (4 : Int32)).toNatClampNeg ≤ 4 ∧ 0 + (if 4 < (4 : Int32) then 4 else (4 : Int32)).toNatClampNeg ≤ 4) ∧ Y_X11_copyRow_35_62 d Q 14 [(0, .ref 62), (1, .ref 35)] [] (pA s 35 (va_cpy (s.1 62) (s.1 35) 0 0 (if 4 < (4 : Int32) then 4 else (4 : Int32)).toNatClampNeg)) from ⟨rm8_ rfl, c9, ?_⟩)
  exact Wp.r_return (pc := 14) o_X11_copyRow rfl (H)
noncomputable abbrev Y_X11_copyRow_36_63 (d : Nat) (Q : Qt) : Xt := Wp SHC (WpM SHC MT (d + 0)) (flat2 cq_X11_copyRow) (none) Q
noncomputable def f_X11_copyRow_36_63  (s : Sg) : Option (Unit × Sg) :=
  ck (¬ (0 : Int32) < 0 ∧ ¬ (0 : Int32) < 0 ∧ ¬ (if 4 < (4 : Int32) then 4 else (4 : Int32)) < 0 ∧ 0 + (if 4 < (4 : Int32) then 4 else (4 : Int32)).toNatClampNeg ≤ 4 ∧ 0 + (if 4 < (4 : Int32) then 4 else (4 : Int32)).toNatClampNeg ≤ 4) (
  some ((), pA s 36 (va_cpy (s.1 63) (s.1 36) 0 0 (if 4 < (4 : Int32) then 4 else (4 : Int32)).toNatClampNeg))
  )
set_option maxRecDepth 100000 in
theorem w_X11_copyRow_36_63 {d : Nat} {s : Sg} {Q : Qt}  (H : OQ (f_X11_copyRow_36_63  s) (fun _ s9 => Q none s9)) : WpM SHC MT (d + 1) 184 [.ref 63, .ref 36] s Q := by
  refine WpM.enter me_X11_copyRow rfl rfl ?_
  show Y_X11_copyRow_36_63 d Q 0 [(0, .ref 63), (1, .ref 36)] [] s
  unfold f_X11_copyRow_36_63 at H
  refine Wp.f_al0_iconst (pc := 0) o_X11_copyRow rfl rfl rfl (Wp.f_al1_iconst (pc := 2) o_X11_copyRow rfl rfl rfl (Wp.f_al0_alen (pc := 4) o_X11_copyRow rfl rfl rfl lk_C_63 (Wp.f_al1_alen (pc := 6) o_X11_copyRow rfl rfl rfl lk_C_36 (Wp.r_min (pc := 8) o_X11_copyRow rfl (⟨rm8_ rfl, ?_⟩)))))
  obtain ⟨c9, H⟩ := oq_ck H
  refine Wp.run 1 (show room8 [] ∧ (¬ (0 : Int32) < 0 ∧ ¬ (0 : Int32) < 0 ∧ ¬ (if 4 < (4 : Int32) then 4 else (4 : Int32)) < 0 ∧ 0 + (if 4 < (4 : Int32) then 4 else (4 : Int32)).toNatClampNeg ≤ 4 ∧ 0 + (if 4 < (4 : Int32) then 4 else (4 : Int32)).toNatClampNeg ≤ 4) ∧ Y_X11_copyRow_36_63 d Q 14 [(0, .ref 63), (1, .ref 36)] [] (pA s 36 (va_cpy (s.1 63) (s.1 36) 0 0 (if 4 < (4 : Int32) then 4 else (4 : Int32)).toNatClampNeg)) from ⟨rm8_ rfl, c9, ?_⟩)
  exact Wp.r_return (pc := 14) o_X11_copyRow rfl (H)
noncomputable abbrev Y_X11_copyRow_37_64 (d : Nat) (Q : Qt) : Xt := Wp SHC (WpM SHC MT (d + 0)) (flat2 cq_X11_copyRow) (none) Q
noncomputable def f_X11_copyRow_37_64  (s : Sg) : Option (Unit × Sg) :=
  ck (¬ (0 : Int32) < 0 ∧ ¬ (0 : Int32) < 0 ∧ ¬ (if 4 < (4 : Int32) then 4 else (4 : Int32)) < 0 ∧ 0 + (if 4 < (4 : Int32) then 4 else (4 : Int32)).toNatClampNeg ≤ 4 ∧ 0 + (if 4 < (4 : Int32) then 4 else (4 : Int32)).toNatClampNeg ≤ 4) (
  some ((), pA s 37 (va_cpy (s.1 64) (s.1 37) 0 0 (if 4 < (4 : Int32) then 4 else (4 : Int32)).toNatClampNeg))
  )
set_option maxRecDepth 100000 in
theorem w_X11_copyRow_37_64 {d : Nat} {s : Sg} {Q : Qt}  (H : OQ (f_X11_copyRow_37_64  s) (fun _ s9 => Q none s9)) : WpM SHC MT (d + 1) 184 [.ref 64, .ref 37] s Q := by
  refine WpM.enter me_X11_copyRow rfl rfl ?_
  show Y_X11_copyRow_37_64 d Q 0 [(0, .ref 64), (1, .ref 37)] [] s
  unfold f_X11_copyRow_37_64 at H
  refine Wp.f_al0_iconst (pc := 0) o_X11_copyRow rfl rfl rfl (Wp.f_al1_iconst (pc := 2) o_X11_copyRow rfl rfl rfl (Wp.f_al0_alen (pc := 4) o_X11_copyRow rfl rfl rfl lk_C_64 (Wp.f_al1_alen (pc := 6) o_X11_copyRow rfl rfl rfl lk_C_37 (Wp.r_min (pc := 8) o_X11_copyRow rfl (⟨rm8_ rfl, ?_⟩)))))
  obtain ⟨c9, H⟩ := oq_ck H
  refine Wp.run 1 (show room8 [] ∧ (¬ (0 : Int32) < 0 ∧ ¬ (0 : Int32) < 0 ∧ ¬ (if 4 < (4 : Int32) then 4 else (4 : Int32)) < 0 ∧ 0 + (if 4 < (4 : Int32) then 4 else (4 : Int32)).toNatClampNeg ≤ 4 ∧ 0 + (if 4 < (4 : Int32) then 4 else (4 : Int32)).toNatClampNeg ≤ 4) ∧ Y_X11_copyRow_37_64 d Q 14 [(0, .ref 64), (1, .ref 37)] [] (pA s 37 (va_cpy (s.1 64) (s.1 37) 0 0 (if 4 < (4 : Int32) then 4 else (4 : Int32)).toNatClampNeg)) from ⟨rm8_ rfl, c9, ?_⟩)
  exact Wp.r_return (pc := 14) o_X11_copyRow rfl (H)
noncomputable abbrev Y_X11_copyRow_38_65 (d : Nat) (Q : Qt) : Xt := Wp SHC (WpM SHC MT (d + 0)) (flat2 cq_X11_copyRow) (none) Q
noncomputable def f_X11_copyRow_38_65  (s : Sg) : Option (Unit × Sg) :=
  ck (¬ (0 : Int32) < 0 ∧ ¬ (0 : Int32) < 0 ∧ ¬ (if 4 < (4 : Int32) then 4 else (4 : Int32)) < 0 ∧ 0 + (if 4 < (4 : Int32) then 4 else (4 : Int32)).toNatClampNeg ≤ 4 ∧ 0 + (if 4 < (4 : Int32) then 4 else (4 : Int32)).toNatClampNeg ≤ 4) (
  some ((), pA s 38 (va_cpy (s.1 65) (s.1 38) 0 0 (if 4 < (4 : Int32) then 4 else (4 : Int32)).toNatClampNeg))
  )
set_option maxRecDepth 100000 in
theorem w_X11_copyRow_38_65 {d : Nat} {s : Sg} {Q : Qt}  (H : OQ (f_X11_copyRow_38_65  s) (fun _ s9 => Q none s9)) : WpM SHC MT (d + 1) 184 [.ref 65, .ref 38] s Q := by
  refine WpM.enter me_X11_copyRow rfl rfl ?_
  show Y_X11_copyRow_38_65 d Q 0 [(0, .ref 65), (1, .ref 38)] [] s
  unfold f_X11_copyRow_38_65 at H
  refine Wp.f_al0_iconst (pc := 0) o_X11_copyRow rfl rfl rfl (Wp.f_al1_iconst (pc := 2) o_X11_copyRow rfl rfl rfl (Wp.f_al0_alen (pc := 4) o_X11_copyRow rfl rfl rfl lk_C_65 (Wp.f_al1_alen (pc := 6) o_X11_copyRow rfl rfl rfl lk_C_38 (Wp.r_min (pc := 8) o_X11_copyRow rfl (⟨rm8_ rfl, ?_⟩)))))
  obtain ⟨c9, H⟩ := oq_ck H
  refine Wp.run 1 (show room8 [] ∧ (¬ (0 : Int32) < 0 ∧ ¬ (0 : Int32) < 0 ∧ ¬ (if 4 < (4 : Int32) then 4 else (4 : Int32)) < 0 ∧ 0 + (if 4 < (4 : Int32) then 4 else (4 : Int32)).toNatClampNeg ≤ 4 ∧ 0 + (if 4 < (4 : Int32) then 4 else (4 : Int32)).toNatClampNeg ≤ 4) ∧ Y_X11_copyRow_38_65 d Q 14 [(0, .ref 65), (1, .ref 38)] [] (pA s 38 (va_cpy (s.1 65) (s.1 38) 0 0 (if 4 < (4 : Int32) then 4 else (4 : Int32)).toNatClampNeg)) from ⟨rm8_ rfl, c9, ?_⟩)
  exact Wp.r_return (pc := 14) o_X11_copyRow rfl (H)
noncomputable abbrev Y_X11_copyRow_39_66 (d : Nat) (Q : Qt) : Xt := Wp SHC (WpM SHC MT (d + 0)) (flat2 cq_X11_copyRow) (none) Q
noncomputable def f_X11_copyRow_39_66  (s : Sg) : Option (Unit × Sg) :=
  ck (¬ (0 : Int32) < 0 ∧ ¬ (0 : Int32) < 0 ∧ ¬ (if 4 < (4 : Int32) then 4 else (4 : Int32)) < 0 ∧ 0 + (if 4 < (4 : Int32) then 4 else (4 : Int32)).toNatClampNeg ≤ 4 ∧ 0 + (if 4 < (4 : Int32) then 4 else (4 : Int32)).toNatClampNeg ≤ 4) (
  some ((), pA s 39 (va_cpy (s.1 66) (s.1 39) 0 0 (if 4 < (4 : Int32) then 4 else (4 : Int32)).toNatClampNeg))
  )
set_option maxRecDepth 100000 in
theorem w_X11_copyRow_39_66 {d : Nat} {s : Sg} {Q : Qt}  (H : OQ (f_X11_copyRow_39_66  s) (fun _ s9 => Q none s9)) : WpM SHC MT (d + 1) 184 [.ref 66, .ref 39] s Q := by
  refine WpM.enter me_X11_copyRow rfl rfl ?_
  show Y_X11_copyRow_39_66 d Q 0 [(0, .ref 66), (1, .ref 39)] [] s
  unfold f_X11_copyRow_39_66 at H
  refine Wp.f_al0_iconst (pc := 0) o_X11_copyRow rfl rfl rfl (Wp.f_al1_iconst (pc := 2) o_X11_copyRow rfl rfl rfl (Wp.f_al0_alen (pc := 4) o_X11_copyRow rfl rfl rfl lk_C_66 (Wp.f_al1_alen (pc := 6) o_X11_copyRow rfl rfl rfl lk_C_39 (Wp.r_min (pc := 8) o_X11_copyRow rfl (⟨rm8_ rfl, ?_⟩)))))
  obtain ⟨c9, H⟩ := oq_ck H
  refine Wp.run 1 (show room8 [] ∧ (¬ (0 : Int32) < 0 ∧ ¬ (0 : Int32) < 0 ∧ ¬ (if 4 < (4 : Int32) then 4 else (4 : Int32)) < 0 ∧ 0 + (if 4 < (4 : Int32) then 4 else (4 : Int32)).toNatClampNeg ≤ 4 ∧ 0 + (if 4 < (4 : Int32) then 4 else (4 : Int32)).toNatClampNeg ≤ 4) ∧ Y_X11_copyRow_39_66 d Q 14 [(0, .ref 66), (1, .ref 39)] [] (pA s 39 (va_cpy (s.1 66) (s.1 39) 0 0 (if 4 < (4 : Int32) then 4 else (4 : Int32)).toNatClampNeg)) from ⟨rm8_ rfl, c9, ?_⟩)
  exact Wp.r_return (pc := 14) o_X11_copyRow rfl (H)
noncomputable abbrev Y_X4_copyFrom_52 (d : Nat) (Q : Qt) : Xt := Wp SHC (WpM SHC MT (d + 1)) (flat2 cq_X4_copyFrom) (none) Q
noncomputable def f_X4_copyFrom_52  (s : Sg) : Option (Unit × Sg) :=
  bd (f_X11_copyRow_29_56 (pB s 28 (va_cpy (s.2 55) (s.2 28) 0 0 24))) (fun _ s2 =>
  bd (f_X11_copyRow_30_57 s2) (fun _ s4 =>
  bd (f_X11_copyRow_31_58 s4) (fun _ s6 =>
  bd (f_X11_copyRow_32_59 s6) (fun _ s8 =>
  bd (f_X11_copyRow_33_60 s8) (fun _ s10 =>
  bd (f_X11_copyRow_34_61 s10) (fun _ s12 =>
  bd (f_X11_copyRow_35_62 s12) (fun _ s14 =>
  bd (f_X11_copyRow_36_63 s14) (fun _ s16 =>
  bd (f_X11_copyRow_37_64 s16) (fun _ s18 =>
  bd (f_X11_copyRow_38_65 s18) (fun _ s20 =>
  bd (f_X11_copyRow_39_66 s20) (fun _ s22 =>
  nmx (pI (pI s22 25 12 (s22.1 52 12)) 25 13 ((pI s22 25 12 (s22.1 52 12)).1 52 13)) (fun s23 =>
  nmx (pI (pI s23 25 14 (s23.1 52 14)) 25 15 ((pI s23 25 14 (s23.1 52 14)).1 52 15)) (fun s24 =>
  nmx (pI (pI s24 25 16 (s24.1 52 16)) 25 17 ((pI s24 25 16 (s24.1 52 16)).1 52 17)) (fun s25 =>
  ck (((pI s25 25 18 (s25.1 52 18)).1 52 19) = 0 ∨ ((pI s25 25 18 (s25.1 52 18)).1 52 19) = 1) (
  some ((), pI (pI s25 25 18 (s25.1 52 18)) 25 19 ((pI s25 25 18 (s25.1 52 18)).1 52 19))
  )
  )
  )
  )
  )
  )
  )
  )
  )
  )
  )
  )
  )
  )
  )
set_option maxRecDepth 100000 in
theorem w_X4_copyFrom_52 {d : Nat} {s : Sg} {Q : Qt}  (H : OQ (f_X4_copyFrom_52  s) (fun _ s9 => Q none s9)) : WpM SHC MT (d + 2) 50 [.ref 25, .ref 52] s Q := by
  refine WpM.enter me_X4_copyFrom rfl rfl ?_
  show Y_X4_copyFrom_52 d Q 0 [(0, .ref 25), (1, .ref 52)] [] s
  unfold f_X4_copyFrom_52 at H
  refine Wp.f_al1_gfr (pc := 0) o_X4_copyFrom rfl rfl rfl fk_C_52_0 (Wp.r_iconst (pc := 4) o_X4_copyFrom rfl (Wp.f_al0_gfr (pc := 5) o_X4_copyFrom rfl rfl rfl fk_C_25_0 (Wp.r_iconst (pc := 9) o_X4_copyFrom rfl (Wp.r_bipush (pc := 10) o_X4_copyFrom rfl (Wp.run 1 (show room8 [] ∧ (¬ (0 : Int32) < 0 ∧ ¬ (0 : Int32) < 0 ∧ ¬ (24 : Int32) < 0 ∧ 0 + 24 ≤ 24 ∧ 0 + 24 ≤ 24) ∧ Y_X4_copyFrom_52 d Q 15 [(0, .ref 25), (1, .ref 52)] [] (pB s 28 (va_cpy (s.2 55) (s.2 28) 0 0 24)) from ⟨rm8_ rfl, by decide, ?_⟩))))))
  refine Wp.f_al1_gfr (pc := 15) o_X4_copyFrom rfl rfl rfl fk_C_52_1 (Wp.f_al0_gfr (pc := 19) o_X4_copyFrom rfl rfl rfl fk_C_25_1 (Wp.r_cs2 (pc := 23) o_X4_copyFrom rfl (⟨rm8_ rfl, ?_⟩)))
  refine w_X11_copyRow_29_56 (d := d)  ?_
  refine oq_bd H (fun _ s2 H => ?_)
  refine Wp.f_al1_gfr (pc := 26) o_X4_copyFrom rfl rfl rfl fk_C_52_2 (Wp.f_al0_gfr (pc := 30) o_X4_copyFrom rfl rfl rfl fk_C_25_2 (Wp.r_cs2 (pc := 34) o_X4_copyFrom rfl (⟨rm8_ rfl, ?_⟩)))
  refine w_X11_copyRow_30_57 (d := d)  ?_
  refine oq_bd H (fun _ s4 H => ?_)
  refine Wp.f_al1_gfr (pc := 37) o_X4_copyFrom rfl rfl rfl fk_C_52_3 (Wp.f_al0_gfr (pc := 41) o_X4_copyFrom rfl rfl rfl fk_C_25_3 (Wp.r_cs2 (pc := 45) o_X4_copyFrom rfl (⟨rm8_ rfl, ?_⟩)))
  refine w_X11_copyRow_31_58 (d := d)  ?_
  refine oq_bd H (fun _ s6 H => ?_)
  refine Wp.f_al1_gfr (pc := 48) o_X4_copyFrom rfl rfl rfl fk_C_52_4 (Wp.f_al0_gfr (pc := 52) o_X4_copyFrom rfl rfl rfl fk_C_25_4 (Wp.r_cs2 (pc := 56) o_X4_copyFrom rfl (⟨rm8_ rfl, ?_⟩)))
  refine w_X11_copyRow_32_59 (d := d)  ?_
  refine oq_bd H (fun _ s8 H => ?_)
  refine Wp.f_al1_gfr (pc := 59) o_X4_copyFrom rfl rfl rfl fk_C_52_5 (Wp.f_al0_gfr (pc := 63) o_X4_copyFrom rfl rfl rfl fk_C_25_5 (Wp.r_cs2 (pc := 67) o_X4_copyFrom rfl (⟨rm8_ rfl, ?_⟩)))
  refine w_X11_copyRow_33_60 (d := d)  ?_
  refine oq_bd H (fun _ s10 H => ?_)
  refine Wp.f_al1_gfr (pc := 70) o_X4_copyFrom rfl rfl rfl fk_C_52_6 (Wp.f_al0_gfr (pc := 74) o_X4_copyFrom rfl rfl rfl fk_C_25_6 (Wp.r_cs2 (pc := 78) o_X4_copyFrom rfl (⟨rm8_ rfl, ?_⟩)))
  refine w_X11_copyRow_34_61 (d := d)  ?_
  refine oq_bd H (fun _ s12 H => ?_)
  refine Wp.f_al1_gfr (pc := 81) o_X4_copyFrom rfl rfl rfl fk_C_52_7 (Wp.f_al0_gfr (pc := 85) o_X4_copyFrom rfl rfl rfl fk_C_25_7 (Wp.r_cs2 (pc := 89) o_X4_copyFrom rfl (⟨rm8_ rfl, ?_⟩)))
  refine w_X11_copyRow_35_62 (d := d)  ?_
  refine oq_bd H (fun _ s14 H => ?_)
  refine Wp.f_al1_gfr (pc := 92) o_X4_copyFrom rfl rfl rfl fk_C_52_8 (Wp.f_al0_gfr (pc := 96) o_X4_copyFrom rfl rfl rfl fk_C_25_8 (Wp.r_cs2 (pc := 100) o_X4_copyFrom rfl (⟨rm8_ rfl, ?_⟩)))
  refine w_X11_copyRow_36_63 (d := d)  ?_
  refine oq_bd H (fun _ s16 H => ?_)
  refine Wp.f_al1_gfr (pc := 103) o_X4_copyFrom rfl rfl rfl fk_C_52_9 (Wp.f_al0_gfr (pc := 107) o_X4_copyFrom rfl rfl rfl fk_C_25_9 (Wp.r_cs2 (pc := 111) o_X4_copyFrom rfl (⟨rm8_ rfl, ?_⟩)))
  refine w_X11_copyRow_37_64 (d := d)  ?_
  refine oq_bd H (fun _ s18 H => ?_)
  refine Wp.f_al1_gfr (pc := 114) o_X4_copyFrom rfl rfl rfl fk_C_52_10 (Wp.f_al0_gfr (pc := 118) o_X4_copyFrom rfl rfl rfl fk_C_25_10 (Wp.r_cs2 (pc := 122) o_X4_copyFrom rfl (⟨rm8_ rfl, ?_⟩)))
  refine w_X11_copyRow_38_65 (d := d)  ?_
  refine oq_bd H (fun _ s20 H => ?_)
  refine Wp.f_al1_gfr (pc := 125) o_X4_copyFrom rfl rfl rfl fk_C_52_11 (Wp.f_al0_gfr (pc := 129) o_X4_copyFrom rfl rfl rfl fk_C_25_11 (Wp.r_cs2 (pc := 133) o_X4_copyFrom rfl (⟨rm8_ rfl, ?_⟩)))
  refine w_X11_copyRow_39_66 (d := d)  ?_
  refine oq_bd H (fun _ s22 H => ?_)
  refine Wp.r_aload_n0 (pc := 136) o_X4_copyFrom rfl rfl (Wp.f_al1_gfi (pc := 137) o_X4_copyFrom rfl rfl rfl fk_C_52_12 (Wp.r_pfi (pc := 141) o_X4_copyFrom rfl fk_C_25_12 (Wp.r_aload_n0 (pc := 144) o_X4_copyFrom rfl rfl (Wp.f_al1_gfi (pc := 145) o_X4_copyFrom rfl rfl rfl fk_C_52_13 (Wp.r_pfi (pc := 149) o_X4_copyFrom rfl fk_C_25_13 (show Y_X4_copyFrom_52 d Q 152 [(0, .ref 25), (1, .ref 52)] [] (pI (pI s22 25 12 (s22.1 52 12)) 25 13 ((pI s22 25 12 (s22.1 52 12)).1 52 13)) from ?_))))))
  revert H
  generalize pI (pI s22 25 12 (s22.1 52 12)) 25 13 ((pI s22 25 12 (s22.1 52 12)).1 52 13) = s23
  intro H
  have H := nmx_e H
  refine Wp.r_aload_n0 (pc := 152) o_X4_copyFrom rfl rfl (Wp.f_al1_gfi (pc := 153) o_X4_copyFrom rfl rfl rfl fk_C_52_14 (Wp.r_pfi (pc := 157) o_X4_copyFrom rfl fk_C_25_14 (Wp.r_aload_n0 (pc := 160) o_X4_copyFrom rfl rfl (Wp.f_al1_gfi (pc := 161) o_X4_copyFrom rfl rfl rfl fk_C_52_15 (Wp.r_pfi (pc := 165) o_X4_copyFrom rfl fk_C_25_15 (show Y_X4_copyFrom_52 d Q 168 [(0, .ref 25), (1, .ref 52)] [] (pI (pI s23 25 14 (s23.1 52 14)) 25 15 ((pI s23 25 14 (s23.1 52 14)).1 52 15)) from ?_))))))
  revert H
  generalize pI (pI s23 25 14 (s23.1 52 14)) 25 15 ((pI s23 25 14 (s23.1 52 14)).1 52 15) = s24
  intro H
  have H := nmx_e H
  refine Wp.r_aload_n0 (pc := 168) o_X4_copyFrom rfl rfl (Wp.f_al1_gfi (pc := 169) o_X4_copyFrom rfl rfl rfl fk_C_52_16 (Wp.r_pfi (pc := 173) o_X4_copyFrom rfl fk_C_25_16 (Wp.r_aload_n0 (pc := 176) o_X4_copyFrom rfl rfl (Wp.f_al1_gfi (pc := 177) o_X4_copyFrom rfl rfl rfl fk_C_52_17 (Wp.r_pfi (pc := 181) o_X4_copyFrom rfl fk_C_25_17 (show Y_X4_copyFrom_52 d Q 184 [(0, .ref 25), (1, .ref 52)] [] (pI (pI s24 25 16 (s24.1 52 16)) 25 17 ((pI s24 25 16 (s24.1 52 16)).1 52 17)) from ?_))))))
  revert H
  generalize pI (pI s24 25 16 (s24.1 52 16)) 25 17 ((pI s24 25 16 (s24.1 52 16)).1 52 17) = s25
  intro H
  have H := nmx_e H
  obtain ⟨hc26, H⟩ := oq_ck H
  refine Wp.r_aload_n0 (pc := 184) o_X4_copyFrom rfl rfl (Wp.f_al1_gfi (pc := 185) o_X4_copyFrom rfl rfl rfl fk_C_52_18 (Wp.r_pfi (pc := 189) o_X4_copyFrom rfl fk_C_25_18 (Wp.r_aload_n0 (pc := 192) o_X4_copyFrom rfl rfl (Wp.f_al1_gfi (pc := 193) o_X4_copyFrom rfl rfl rfl fk_C_52_19 (Wp.r_pfz (pc := 197) o_X4_copyFrom rfl fk_C_25_19 (⟨hc26, ?_⟩))))))
  exact Wp.r_return (pc := 200) o_X4_copyFrom rfl (H)
noncomputable abbrev Y_X11_copyRow_40_67 (d : Nat) (Q : Qt) : Xt := Wp SHC (WpM SHC MT (d + 0)) (flat2 cq_X11_copyRow) (none) Q
noncomputable def f_X11_copyRow_40_67  (s : Sg) : Option (Unit × Sg) :=
  ck (¬ (0 : Int32) < 0 ∧ ¬ (0 : Int32) < 0 ∧ ¬ (if 8 < (8 : Int32) then 8 else (8 : Int32)) < 0 ∧ 0 + (if 8 < (8 : Int32) then 8 else (8 : Int32)).toNatClampNeg ≤ 8 ∧ 0 + (if 8 < (8 : Int32) then 8 else (8 : Int32)).toNatClampNeg ≤ 8) (
  some ((), pA s 40 (va_cpy (s.1 67) (s.1 40) 0 0 (if 8 < (8 : Int32) then 8 else (8 : Int32)).toNatClampNeg))
  )
set_option maxRecDepth 100000 in
theorem w_X11_copyRow_40_67 {d : Nat} {s : Sg} {Q : Qt}  (H : OQ (f_X11_copyRow_40_67  s) (fun _ s9 => Q none s9)) : WpM SHC MT (d + 1) 184 [.ref 67, .ref 40] s Q := by
  refine WpM.enter me_X11_copyRow rfl rfl ?_
  show Y_X11_copyRow_40_67 d Q 0 [(0, .ref 67), (1, .ref 40)] [] s
  unfold f_X11_copyRow_40_67 at H
  refine Wp.f_al0_iconst (pc := 0) o_X11_copyRow rfl rfl rfl (Wp.f_al1_iconst (pc := 2) o_X11_copyRow rfl rfl rfl (Wp.f_al0_alen (pc := 4) o_X11_copyRow rfl rfl rfl lk_C_67 (Wp.f_al1_alen (pc := 6) o_X11_copyRow rfl rfl rfl lk_C_40 (Wp.r_min (pc := 8) o_X11_copyRow rfl (⟨rm8_ rfl, ?_⟩)))))
  obtain ⟨c9, H⟩ := oq_ck H
  refine Wp.run 1 (show room8 [] ∧ (¬ (0 : Int32) < 0 ∧ ¬ (0 : Int32) < 0 ∧ ¬ (if 8 < (8 : Int32) then 8 else (8 : Int32)) < 0 ∧ 0 + (if 8 < (8 : Int32) then 8 else (8 : Int32)).toNatClampNeg ≤ 8 ∧ 0 + (if 8 < (8 : Int32) then 8 else (8 : Int32)).toNatClampNeg ≤ 8) ∧ Y_X11_copyRow_40_67 d Q 14 [(0, .ref 67), (1, .ref 40)] [] (pA s 40 (va_cpy (s.1 67) (s.1 40) 0 0 (if 8 < (8 : Int32) then 8 else (8 : Int32)).toNatClampNeg)) from ⟨rm8_ rfl, c9, ?_⟩)
  exact Wp.r_return (pc := 14) o_X11_copyRow rfl (H)
noncomputable abbrev Y_X11_copyRow_41_68 (d : Nat) (Q : Qt) : Xt := Wp SHC (WpM SHC MT (d + 0)) (flat2 cq_X11_copyRow) (none) Q
noncomputable def f_X11_copyRow_41_68  (s : Sg) : Option (Unit × Sg) :=
  ck (¬ (0 : Int32) < 0 ∧ ¬ (0 : Int32) < 0 ∧ ¬ (if 8 < (8 : Int32) then 8 else (8 : Int32)) < 0 ∧ 0 + (if 8 < (8 : Int32) then 8 else (8 : Int32)).toNatClampNeg ≤ 8 ∧ 0 + (if 8 < (8 : Int32) then 8 else (8 : Int32)).toNatClampNeg ≤ 8) (
  some ((), pA s 41 (va_cpy (s.1 68) (s.1 41) 0 0 (if 8 < (8 : Int32) then 8 else (8 : Int32)).toNatClampNeg))
  )
set_option maxRecDepth 100000 in
theorem w_X11_copyRow_41_68 {d : Nat} {s : Sg} {Q : Qt}  (H : OQ (f_X11_copyRow_41_68  s) (fun _ s9 => Q none s9)) : WpM SHC MT (d + 1) 184 [.ref 68, .ref 41] s Q := by
  refine WpM.enter me_X11_copyRow rfl rfl ?_
  show Y_X11_copyRow_41_68 d Q 0 [(0, .ref 68), (1, .ref 41)] [] s
  unfold f_X11_copyRow_41_68 at H
  refine Wp.f_al0_iconst (pc := 0) o_X11_copyRow rfl rfl rfl (Wp.f_al1_iconst (pc := 2) o_X11_copyRow rfl rfl rfl (Wp.f_al0_alen (pc := 4) o_X11_copyRow rfl rfl rfl lk_C_68 (Wp.f_al1_alen (pc := 6) o_X11_copyRow rfl rfl rfl lk_C_41 (Wp.r_min (pc := 8) o_X11_copyRow rfl (⟨rm8_ rfl, ?_⟩)))))
  obtain ⟨c9, H⟩ := oq_ck H
  refine Wp.run 1 (show room8 [] ∧ (¬ (0 : Int32) < 0 ∧ ¬ (0 : Int32) < 0 ∧ ¬ (if 8 < (8 : Int32) then 8 else (8 : Int32)) < 0 ∧ 0 + (if 8 < (8 : Int32) then 8 else (8 : Int32)).toNatClampNeg ≤ 8 ∧ 0 + (if 8 < (8 : Int32) then 8 else (8 : Int32)).toNatClampNeg ≤ 8) ∧ Y_X11_copyRow_41_68 d Q 14 [(0, .ref 68), (1, .ref 41)] [] (pA s 41 (va_cpy (s.1 68) (s.1 41) 0 0 (if 8 < (8 : Int32) then 8 else (8 : Int32)).toNatClampNeg)) from ⟨rm8_ rfl, c9, ?_⟩)
  exact Wp.r_return (pc := 14) o_X11_copyRow rfl (H)
noncomputable abbrev Y_X11_copyRow_42_69 (d : Nat) (Q : Qt) : Xt := Wp SHC (WpM SHC MT (d + 0)) (flat2 cq_X11_copyRow) (none) Q
noncomputable def f_X11_copyRow_42_69  (s : Sg) : Option (Unit × Sg) :=
  ck (¬ (0 : Int32) < 0 ∧ ¬ (0 : Int32) < 0 ∧ ¬ (if 8 < (8 : Int32) then 8 else (8 : Int32)) < 0 ∧ 0 + (if 8 < (8 : Int32) then 8 else (8 : Int32)).toNatClampNeg ≤ 8 ∧ 0 + (if 8 < (8 : Int32) then 8 else (8 : Int32)).toNatClampNeg ≤ 8) (
  some ((), pA s 42 (va_cpy (s.1 69) (s.1 42) 0 0 (if 8 < (8 : Int32) then 8 else (8 : Int32)).toNatClampNeg))
  )
set_option maxRecDepth 100000 in
theorem w_X11_copyRow_42_69 {d : Nat} {s : Sg} {Q : Qt}  (H : OQ (f_X11_copyRow_42_69  s) (fun _ s9 => Q none s9)) : WpM SHC MT (d + 1) 184 [.ref 69, .ref 42] s Q := by
  refine WpM.enter me_X11_copyRow rfl rfl ?_
  show Y_X11_copyRow_42_69 d Q 0 [(0, .ref 69), (1, .ref 42)] [] s
  unfold f_X11_copyRow_42_69 at H
  refine Wp.f_al0_iconst (pc := 0) o_X11_copyRow rfl rfl rfl (Wp.f_al1_iconst (pc := 2) o_X11_copyRow rfl rfl rfl (Wp.f_al0_alen (pc := 4) o_X11_copyRow rfl rfl rfl lk_C_69 (Wp.f_al1_alen (pc := 6) o_X11_copyRow rfl rfl rfl lk_C_42 (Wp.r_min (pc := 8) o_X11_copyRow rfl (⟨rm8_ rfl, ?_⟩)))))
  obtain ⟨c9, H⟩ := oq_ck H
  refine Wp.run 1 (show room8 [] ∧ (¬ (0 : Int32) < 0 ∧ ¬ (0 : Int32) < 0 ∧ ¬ (if 8 < (8 : Int32) then 8 else (8 : Int32)) < 0 ∧ 0 + (if 8 < (8 : Int32) then 8 else (8 : Int32)).toNatClampNeg ≤ 8 ∧ 0 + (if 8 < (8 : Int32) then 8 else (8 : Int32)).toNatClampNeg ≤ 8) ∧ Y_X11_copyRow_42_69 d Q 14 [(0, .ref 69), (1, .ref 42)] [] (pA s 42 (va_cpy (s.1 69) (s.1 42) 0 0 (if 8 < (8 : Int32) then 8 else (8 : Int32)).toNatClampNeg)) from ⟨rm8_ rfl, c9, ?_⟩)
  exact Wp.r_return (pc := 14) o_X11_copyRow rfl (H)
noncomputable abbrev Y_X11_copyRow_43_70 (d : Nat) (Q : Qt) : Xt := Wp SHC (WpM SHC MT (d + 0)) (flat2 cq_X11_copyRow) (none) Q
noncomputable def f_X11_copyRow_43_70  (s : Sg) : Option (Unit × Sg) :=
  ck (¬ (0 : Int32) < 0 ∧ ¬ (0 : Int32) < 0 ∧ ¬ (if 8 < (8 : Int32) then 8 else (8 : Int32)) < 0 ∧ 0 + (if 8 < (8 : Int32) then 8 else (8 : Int32)).toNatClampNeg ≤ 8 ∧ 0 + (if 8 < (8 : Int32) then 8 else (8 : Int32)).toNatClampNeg ≤ 8) (
  some ((), pA s 43 (va_cpy (s.1 70) (s.1 43) 0 0 (if 8 < (8 : Int32) then 8 else (8 : Int32)).toNatClampNeg))
  )
set_option maxRecDepth 100000 in
theorem w_X11_copyRow_43_70 {d : Nat} {s : Sg} {Q : Qt}  (H : OQ (f_X11_copyRow_43_70  s) (fun _ s9 => Q none s9)) : WpM SHC MT (d + 1) 184 [.ref 70, .ref 43] s Q := by
  refine WpM.enter me_X11_copyRow rfl rfl ?_
  show Y_X11_copyRow_43_70 d Q 0 [(0, .ref 70), (1, .ref 43)] [] s
  unfold f_X11_copyRow_43_70 at H
  refine Wp.f_al0_iconst (pc := 0) o_X11_copyRow rfl rfl rfl (Wp.f_al1_iconst (pc := 2) o_X11_copyRow rfl rfl rfl (Wp.f_al0_alen (pc := 4) o_X11_copyRow rfl rfl rfl lk_C_70 (Wp.f_al1_alen (pc := 6) o_X11_copyRow rfl rfl rfl lk_C_43 (Wp.r_min (pc := 8) o_X11_copyRow rfl (⟨rm8_ rfl, ?_⟩)))))
  obtain ⟨c9, H⟩ := oq_ck H
  refine Wp.run 1 (show room8 [] ∧ (¬ (0 : Int32) < 0 ∧ ¬ (0 : Int32) < 0 ∧ ¬ (if 8 < (8 : Int32) then 8 else (8 : Int32)) < 0 ∧ 0 + (if 8 < (8 : Int32) then 8 else (8 : Int32)).toNatClampNeg ≤ 8 ∧ 0 + (if 8 < (8 : Int32) then 8 else (8 : Int32)).toNatClampNeg ≤ 8) ∧ Y_X11_copyRow_43_70 d Q 14 [(0, .ref 70), (1, .ref 43)] [] (pA s 43 (va_cpy (s.1 70) (s.1 43) 0 0 (if 8 < (8 : Int32) then 8 else (8 : Int32)).toNatClampNeg)) from ⟨rm8_ rfl, c9, ?_⟩)
  exact Wp.r_return (pc := 14) o_X11_copyRow rfl (H)
noncomputable abbrev Y_X11_copyRow_44_71 (d : Nat) (Q : Qt) : Xt := Wp SHC (WpM SHC MT (d + 0)) (flat2 cq_X11_copyRow) (none) Q
noncomputable def f_X11_copyRow_44_71  (s : Sg) : Option (Unit × Sg) :=
  ck (¬ (0 : Int32) < 0 ∧ ¬ (0 : Int32) < 0 ∧ ¬ (if 4 < (4 : Int32) then 4 else (4 : Int32)) < 0 ∧ 0 + (if 4 < (4 : Int32) then 4 else (4 : Int32)).toNatClampNeg ≤ 4 ∧ 0 + (if 4 < (4 : Int32) then 4 else (4 : Int32)).toNatClampNeg ≤ 4) (
  some ((), pA s 44 (va_cpy (s.1 71) (s.1 44) 0 0 (if 4 < (4 : Int32) then 4 else (4 : Int32)).toNatClampNeg))
  )
set_option maxRecDepth 100000 in
theorem w_X11_copyRow_44_71 {d : Nat} {s : Sg} {Q : Qt}  (H : OQ (f_X11_copyRow_44_71  s) (fun _ s9 => Q none s9)) : WpM SHC MT (d + 1) 184 [.ref 71, .ref 44] s Q := by
  refine WpM.enter me_X11_copyRow rfl rfl ?_
  show Y_X11_copyRow_44_71 d Q 0 [(0, .ref 71), (1, .ref 44)] [] s
  unfold f_X11_copyRow_44_71 at H
  refine Wp.f_al0_iconst (pc := 0) o_X11_copyRow rfl rfl rfl (Wp.f_al1_iconst (pc := 2) o_X11_copyRow rfl rfl rfl (Wp.f_al0_alen (pc := 4) o_X11_copyRow rfl rfl rfl lk_C_71 (Wp.f_al1_alen (pc := 6) o_X11_copyRow rfl rfl rfl lk_C_44 (Wp.r_min (pc := 8) o_X11_copyRow rfl (⟨rm8_ rfl, ?_⟩)))))
  obtain ⟨c9, H⟩ := oq_ck H
  refine Wp.run 1 (show room8 [] ∧ (¬ (0 : Int32) < 0 ∧ ¬ (0 : Int32) < 0 ∧ ¬ (if 4 < (4 : Int32) then 4 else (4 : Int32)) < 0 ∧ 0 + (if 4 < (4 : Int32) then 4 else (4 : Int32)).toNatClampNeg ≤ 4 ∧ 0 + (if 4 < (4 : Int32) then 4 else (4 : Int32)).toNatClampNeg ≤ 4) ∧ Y_X11_copyRow_44_71 d Q 14 [(0, .ref 71), (1, .ref 44)] [] (pA s 44 (va_cpy (s.1 71) (s.1 44) 0 0 (if 4 < (4 : Int32) then 4 else (4 : Int32)).toNatClampNeg)) from ⟨rm8_ rfl, c9, ?_⟩)
  exact Wp.r_return (pc := 14) o_X11_copyRow rfl (H)
noncomputable abbrev Y_X2_copyFrom_53 (d : Nat) (Q : Qt) : Xt := Wp SHC (WpM SHC MT (d + 1)) (flat2 cq_X2_copyFrom) (none) Q
noncomputable def f_X2_copyFrom_53  (s : Sg) : Option (Unit × Sg) :=
  bd (f_X11_copyRow_40_67 s) (fun _ s2 =>
  bd (f_X11_copyRow_41_68 s2) (fun _ s4 =>
  bd (f_X11_copyRow_42_69 s4) (fun _ s6 =>
  bd (f_X11_copyRow_43_70 s6) (fun _ s8 =>
  bd (f_X11_copyRow_44_71 s8) (fun _ s10 =>
  nmx (pI (pI s10 26 5 (s10.1 53 5)) 26 6 ((pI s10 26 5 (s10.1 53 5)).1 53 6)) (fun s11 =>
  ck ((s11.1 53 7) = 0 ∨ (s11.1 53 7) = 1) (
  nmx (pI (pI s11 26 7 (s11.1 53 7)) 26 8 ((pI s11 26 7 (s11.1 53 7)).1 53 8)) (fun s13 =>
  nmx (pI (pI s13 26 9 (s13.1 53 9)) 26 10 ((pI s13 26 9 (s13.1 53 9)).1 53 10)) (fun s14 =>
  nmx (pI (pI s14 26 11 (s14.1 53 11)) 26 12 ((pI s14 26 11 (s14.1 53 11)).1 53 12)) (fun s15 =>
  some ((), s15)
  )
  )
  )
  )
  )
  )
  )
  )
  )
  )
set_option maxRecDepth 100000 in
theorem w_X2_copyFrom_53 {d : Nat} {s : Sg} {Q : Qt}  (H : OQ (f_X2_copyFrom_53  s) (fun _ s9 => Q none s9)) : WpM SHC MT (d + 2) 21 [.ref 26, .ref 53] s Q := by
  refine WpM.enter me_X2_copyFrom rfl rfl ?_
  show Y_X2_copyFrom_53 d Q 0 [(0, .ref 26), (1, .ref 53)] [] s
  unfold f_X2_copyFrom_53 at H
  refine Wp.f_al1_gfr (pc := 0) o_X2_copyFrom rfl rfl rfl fk_C_53_0 (Wp.f_al0_gfr (pc := 4) o_X2_copyFrom rfl rfl rfl fk_C_26_0 (Wp.r_cs2 (pc := 8) o_X2_copyFrom rfl (⟨rm8_ rfl, ?_⟩)))
  refine w_X11_copyRow_40_67 (d := d)  ?_
  refine oq_bd H (fun _ s2 H => ?_)
  refine Wp.f_al1_gfr (pc := 11) o_X2_copyFrom rfl rfl rfl fk_C_53_1 (Wp.f_al0_gfr (pc := 15) o_X2_copyFrom rfl rfl rfl fk_C_26_1 (Wp.r_cs2 (pc := 19) o_X2_copyFrom rfl (⟨rm8_ rfl, ?_⟩)))
  refine w_X11_copyRow_41_68 (d := d)  ?_
  refine oq_bd H (fun _ s4 H => ?_)
  refine Wp.f_al1_gfr (pc := 22) o_X2_copyFrom rfl rfl rfl fk_C_53_2 (Wp.f_al0_gfr (pc := 26) o_X2_copyFrom rfl rfl rfl fk_C_26_2 (Wp.r_cs2 (pc := 30) o_X2_copyFrom rfl (⟨rm8_ rfl, ?_⟩)))
  refine w_X11_copyRow_42_69 (d := d)  ?_
  refine oq_bd H (fun _ s6 H => ?_)
  refine Wp.f_al1_gfr (pc := 33) o_X2_copyFrom rfl rfl rfl fk_C_53_3 (Wp.f_al0_gfr (pc := 37) o_X2_copyFrom rfl rfl rfl fk_C_26_3 (Wp.r_cs2 (pc := 41) o_X2_copyFrom rfl (⟨rm8_ rfl, ?_⟩)))
  refine w_X11_copyRow_43_70 (d := d)  ?_
  refine oq_bd H (fun _ s8 H => ?_)
  refine Wp.f_al1_gfr (pc := 44) o_X2_copyFrom rfl rfl rfl fk_C_53_4 (Wp.f_al0_gfr (pc := 48) o_X2_copyFrom rfl rfl rfl fk_C_26_4 (Wp.r_cs2 (pc := 52) o_X2_copyFrom rfl (⟨rm8_ rfl, ?_⟩)))
  refine w_X11_copyRow_44_71 (d := d)  ?_
  refine oq_bd H (fun _ s10 H => ?_)
  refine Wp.r_aload_n0 (pc := 55) o_X2_copyFrom rfl rfl (Wp.f_al1_gfi (pc := 56) o_X2_copyFrom rfl rfl rfl fk_C_53_5 (Wp.r_pfi (pc := 60) o_X2_copyFrom rfl fk_C_26_5 (Wp.r_aload_n0 (pc := 63) o_X2_copyFrom rfl rfl (Wp.f_al1_gfi (pc := 64) o_X2_copyFrom rfl rfl rfl fk_C_53_6 (Wp.r_pfi (pc := 68) o_X2_copyFrom rfl fk_C_26_6 (show Y_X2_copyFrom_53 d Q 71 [(0, .ref 26), (1, .ref 53)] [] (pI (pI s10 26 5 (s10.1 53 5)) 26 6 ((pI s10 26 5 (s10.1 53 5)).1 53 6)) from ?_))))))
  revert H
  generalize pI (pI s10 26 5 (s10.1 53 5)) 26 6 ((pI s10 26 5 (s10.1 53 5)).1 53 6) = s11
  intro H
  have H := nmx_e H
  obtain ⟨hc12, H⟩ := oq_ck H
  refine Wp.r_aload_n0 (pc := 71) o_X2_copyFrom rfl rfl (Wp.f_al1_gfi (pc := 72) o_X2_copyFrom rfl rfl rfl fk_C_53_7 (Wp.r_pfz (pc := 76) o_X2_copyFrom rfl fk_C_26_7 (⟨hc12, ?_⟩)))
  refine Wp.r_aload_n0 (pc := 79) o_X2_copyFrom rfl rfl (Wp.f_al1_gfi (pc := 80) o_X2_copyFrom rfl rfl rfl fk_C_53_8 (Wp.r_pfi (pc := 84) o_X2_copyFrom rfl fk_C_26_8 (show Y_X2_copyFrom_53 d Q 87 [(0, .ref 26), (1, .ref 53)] [] (pI (pI s11 26 7 (s11.1 53 7)) 26 8 ((pI s11 26 7 (s11.1 53 7)).1 53 8)) from ?_)))
  revert H
  generalize pI (pI s11 26 7 (s11.1 53 7)) 26 8 ((pI s11 26 7 (s11.1 53 7)).1 53 8) = s13
  intro H
  have H := nmx_e H
  refine Wp.r_aload_n0 (pc := 87) o_X2_copyFrom rfl rfl (Wp.f_al1_gfi (pc := 88) o_X2_copyFrom rfl rfl rfl fk_C_53_9 (Wp.r_pfi (pc := 92) o_X2_copyFrom rfl fk_C_26_9 (Wp.r_aload_n0 (pc := 95) o_X2_copyFrom rfl rfl (Wp.f_al1_gfi (pc := 96) o_X2_copyFrom rfl rfl rfl fk_C_53_10 (Wp.r_pfi (pc := 100) o_X2_copyFrom rfl fk_C_26_10 (show Y_X2_copyFrom_53 d Q 103 [(0, .ref 26), (1, .ref 53)] [] (pI (pI s13 26 9 (s13.1 53 9)) 26 10 ((pI s13 26 9 (s13.1 53 9)).1 53 10)) from ?_))))))
  revert H
  generalize pI (pI s13 26 9 (s13.1 53 9)) 26 10 ((pI s13 26 9 (s13.1 53 9)).1 53 10) = s14
  intro H
  have H := nmx_e H
  refine Wp.r_aload_n0 (pc := 103) o_X2_copyFrom rfl rfl (Wp.f_al1_gfi (pc := 104) o_X2_copyFrom rfl rfl rfl fk_C_53_11 (Wp.r_pfi (pc := 108) o_X2_copyFrom rfl fk_C_26_11 (Wp.r_aload_n0 (pc := 111) o_X2_copyFrom rfl rfl (Wp.f_al1_gfi (pc := 112) o_X2_copyFrom rfl rfl rfl fk_C_53_12 (Wp.r_pfi (pc := 116) o_X2_copyFrom rfl fk_C_26_12 (show Y_X2_copyFrom_53 d Q 119 [(0, .ref 26), (1, .ref 53)] [] (pI (pI s14 26 11 (s14.1 53 11)) 26 12 ((pI s14 26 11 (s14.1 53 11)).1 53 12)) from ?_))))))
  revert H
  generalize pI (pI s14 26 11 (s14.1 53 11)) 26 12 ((pI s14 26 11 (s14.1 53 11)).1 53 12) = s15
  intro H
  have H := nmx_e H
  exact Wp.r_return (pc := 119) o_X2_copyFrom rfl (H)
noncomputable abbrev Y_X11_copyRow_45_72 (d : Nat) (Q : Qt) : Xt := Wp SHC (WpM SHC MT (d + 0)) (flat2 cq_X11_copyRow) (none) Q
noncomputable def f_X11_copyRow_45_72  (s : Sg) : Option (Unit × Sg) :=
  ck (¬ (0 : Int32) < 0 ∧ ¬ (0 : Int32) < 0 ∧ ¬ (if 60 < (60 : Int32) then 60 else (60 : Int32)) < 0 ∧ 0 + (if 60 < (60 : Int32) then 60 else (60 : Int32)).toNatClampNeg ≤ 60 ∧ 0 + (if 60 < (60 : Int32) then 60 else (60 : Int32)).toNatClampNeg ≤ 60) (
  some ((), pA s 45 (va_cpy (s.1 72) (s.1 45) 0 0 (if 60 < (60 : Int32) then 60 else (60 : Int32)).toNatClampNeg))
  )
set_option maxRecDepth 100000 in
theorem w_X11_copyRow_45_72 {d : Nat} {s : Sg} {Q : Qt}  (H : OQ (f_X11_copyRow_45_72  s) (fun _ s9 => Q none s9)) : WpM SHC MT (d + 1) 184 [.ref 72, .ref 45] s Q := by
  refine WpM.enter me_X11_copyRow rfl rfl ?_
  show Y_X11_copyRow_45_72 d Q 0 [(0, .ref 72), (1, .ref 45)] [] s
  unfold f_X11_copyRow_45_72 at H
  refine Wp.f_al0_iconst (pc := 0) o_X11_copyRow rfl rfl rfl (Wp.f_al1_iconst (pc := 2) o_X11_copyRow rfl rfl rfl (Wp.f_al0_alen (pc := 4) o_X11_copyRow rfl rfl rfl lk_C_72 (Wp.f_al1_alen (pc := 6) o_X11_copyRow rfl rfl rfl lk_C_45 (Wp.r_min (pc := 8) o_X11_copyRow rfl (⟨rm8_ rfl, ?_⟩)))))
  obtain ⟨c9, H⟩ := oq_ck H
  refine Wp.run 1 (show room8 [] ∧ (¬ (0 : Int32) < 0 ∧ ¬ (0 : Int32) < 0 ∧ ¬ (if 60 < (60 : Int32) then 60 else (60 : Int32)) < 0 ∧ 0 + (if 60 < (60 : Int32) then 60 else (60 : Int32)).toNatClampNeg ≤ 60 ∧ 0 + (if 60 < (60 : Int32) then 60 else (60 : Int32)).toNatClampNeg ≤ 60) ∧ Y_X11_copyRow_45_72 d Q 14 [(0, .ref 72), (1, .ref 45)] [] (pA s 45 (va_cpy (s.1 72) (s.1 45) 0 0 (if 60 < (60 : Int32) then 60 else (60 : Int32)).toNatClampNeg)) from ⟨rm8_ rfl, c9, ?_⟩)
  exact Wp.r_return (pc := 14) o_X11_copyRow rfl (H)
noncomputable abbrev Y_X11_copyRow_46_73 (d : Nat) (Q : Qt) : Xt := Wp SHC (WpM SHC MT (d + 0)) (flat2 cq_X11_copyRow) (none) Q
noncomputable def f_X11_copyRow_46_73  (s : Sg) : Option (Unit × Sg) :=
  ck (¬ (0 : Int32) < 0 ∧ ¬ (0 : Int32) < 0 ∧ ¬ (if 60 < (60 : Int32) then 60 else (60 : Int32)) < 0 ∧ 0 + (if 60 < (60 : Int32) then 60 else (60 : Int32)).toNatClampNeg ≤ 60 ∧ 0 + (if 60 < (60 : Int32) then 60 else (60 : Int32)).toNatClampNeg ≤ 60) (
  some ((), pA s 46 (va_cpy (s.1 73) (s.1 46) 0 0 (if 60 < (60 : Int32) then 60 else (60 : Int32)).toNatClampNeg))
  )
set_option maxRecDepth 100000 in
theorem w_X11_copyRow_46_73 {d : Nat} {s : Sg} {Q : Qt}  (H : OQ (f_X11_copyRow_46_73  s) (fun _ s9 => Q none s9)) : WpM SHC MT (d + 1) 184 [.ref 73, .ref 46] s Q := by
  refine WpM.enter me_X11_copyRow rfl rfl ?_
  show Y_X11_copyRow_46_73 d Q 0 [(0, .ref 73), (1, .ref 46)] [] s
  unfold f_X11_copyRow_46_73 at H
  refine Wp.f_al0_iconst (pc := 0) o_X11_copyRow rfl rfl rfl (Wp.f_al1_iconst (pc := 2) o_X11_copyRow rfl rfl rfl (Wp.f_al0_alen (pc := 4) o_X11_copyRow rfl rfl rfl lk_C_73 (Wp.f_al1_alen (pc := 6) o_X11_copyRow rfl rfl rfl lk_C_46 (Wp.r_min (pc := 8) o_X11_copyRow rfl (⟨rm8_ rfl, ?_⟩)))))
  obtain ⟨c9, H⟩ := oq_ck H
  refine Wp.run 1 (show room8 [] ∧ (¬ (0 : Int32) < 0 ∧ ¬ (0 : Int32) < 0 ∧ ¬ (if 60 < (60 : Int32) then 60 else (60 : Int32)) < 0 ∧ 0 + (if 60 < (60 : Int32) then 60 else (60 : Int32)).toNatClampNeg ≤ 60 ∧ 0 + (if 60 < (60 : Int32) then 60 else (60 : Int32)).toNatClampNeg ≤ 60) ∧ Y_X11_copyRow_46_73 d Q 14 [(0, .ref 73), (1, .ref 46)] [] (pA s 46 (va_cpy (s.1 73) (s.1 46) 0 0 (if 60 < (60 : Int32) then 60 else (60 : Int32)).toNatClampNeg)) from ⟨rm8_ rfl, c9, ?_⟩)
  exact Wp.r_return (pc := 14) o_X11_copyRow rfl (H)
noncomputable abbrev Y_X11_copyRow_47_74 (d : Nat) (Q : Qt) : Xt := Wp SHC (WpM SHC MT (d + 0)) (flat2 cq_X11_copyRow) (none) Q
noncomputable def f_X11_copyRow_47_74  (s : Sg) : Option (Unit × Sg) :=
  ck (¬ (0 : Int32) < 0 ∧ ¬ (0 : Int32) < 0 ∧ ¬ (if 60 < (60 : Int32) then 60 else (60 : Int32)) < 0 ∧ 0 + (if 60 < (60 : Int32) then 60 else (60 : Int32)).toNatClampNeg ≤ 60 ∧ 0 + (if 60 < (60 : Int32) then 60 else (60 : Int32)).toNatClampNeg ≤ 60) (
  some ((), pA s 47 (va_cpy (s.1 74) (s.1 47) 0 0 (if 60 < (60 : Int32) then 60 else (60 : Int32)).toNatClampNeg))
  )
set_option maxRecDepth 100000 in
theorem w_X11_copyRow_47_74 {d : Nat} {s : Sg} {Q : Qt}  (H : OQ (f_X11_copyRow_47_74  s) (fun _ s9 => Q none s9)) : WpM SHC MT (d + 1) 184 [.ref 74, .ref 47] s Q := by
  refine WpM.enter me_X11_copyRow rfl rfl ?_
  show Y_X11_copyRow_47_74 d Q 0 [(0, .ref 74), (1, .ref 47)] [] s
  unfold f_X11_copyRow_47_74 at H
  refine Wp.f_al0_iconst (pc := 0) o_X11_copyRow rfl rfl rfl (Wp.f_al1_iconst (pc := 2) o_X11_copyRow rfl rfl rfl (Wp.f_al0_alen (pc := 4) o_X11_copyRow rfl rfl rfl lk_C_74 (Wp.f_al1_alen (pc := 6) o_X11_copyRow rfl rfl rfl lk_C_47 (Wp.r_min (pc := 8) o_X11_copyRow rfl (⟨rm8_ rfl, ?_⟩)))))
  obtain ⟨c9, H⟩ := oq_ck H
  refine Wp.run 1 (show room8 [] ∧ (¬ (0 : Int32) < 0 ∧ ¬ (0 : Int32) < 0 ∧ ¬ (if 60 < (60 : Int32) then 60 else (60 : Int32)) < 0 ∧ 0 + (if 60 < (60 : Int32) then 60 else (60 : Int32)).toNatClampNeg ≤ 60 ∧ 0 + (if 60 < (60 : Int32) then 60 else (60 : Int32)).toNatClampNeg ≤ 60) ∧ Y_X11_copyRow_47_74 d Q 14 [(0, .ref 74), (1, .ref 47)] [] (pA s 47 (va_cpy (s.1 74) (s.1 47) 0 0 (if 60 < (60 : Int32) then 60 else (60 : Int32)).toNatClampNeg)) from ⟨rm8_ rfl, c9, ?_⟩)
  exact Wp.r_return (pc := 14) o_X11_copyRow rfl (H)
noncomputable abbrev Y_X11_copyRow_48_75 (d : Nat) (Q : Qt) : Xt := Wp SHC (WpM SHC MT (d + 0)) (flat2 cq_X11_copyRow) (none) Q
noncomputable def f_X11_copyRow_48_75  (s : Sg) : Option (Unit × Sg) :=
  ck (¬ (0 : Int32) < 0 ∧ ¬ (0 : Int32) < 0 ∧ ¬ (if 60 < (60 : Int32) then 60 else (60 : Int32)) < 0 ∧ 0 + (if 60 < (60 : Int32) then 60 else (60 : Int32)).toNatClampNeg ≤ 60 ∧ 0 + (if 60 < (60 : Int32) then 60 else (60 : Int32)).toNatClampNeg ≤ 60) (
  some ((), pA s 48 (va_cpy (s.1 75) (s.1 48) 0 0 (if 60 < (60 : Int32) then 60 else (60 : Int32)).toNatClampNeg))
  )
set_option maxRecDepth 100000 in
theorem w_X11_copyRow_48_75 {d : Nat} {s : Sg} {Q : Qt}  (H : OQ (f_X11_copyRow_48_75  s) (fun _ s9 => Q none s9)) : WpM SHC MT (d + 1) 184 [.ref 75, .ref 48] s Q := by
  refine WpM.enter me_X11_copyRow rfl rfl ?_
  show Y_X11_copyRow_48_75 d Q 0 [(0, .ref 75), (1, .ref 48)] [] s
  unfold f_X11_copyRow_48_75 at H
  refine Wp.f_al0_iconst (pc := 0) o_X11_copyRow rfl rfl rfl (Wp.f_al1_iconst (pc := 2) o_X11_copyRow rfl rfl rfl (Wp.f_al0_alen (pc := 4) o_X11_copyRow rfl rfl rfl lk_C_75 (Wp.f_al1_alen (pc := 6) o_X11_copyRow rfl rfl rfl lk_C_48 (Wp.r_min (pc := 8) o_X11_copyRow rfl (⟨rm8_ rfl, ?_⟩)))))
  obtain ⟨c9, H⟩ := oq_ck H
  refine Wp.run 1 (show room8 [] ∧ (¬ (0 : Int32) < 0 ∧ ¬ (0 : Int32) < 0 ∧ ¬ (if 60 < (60 : Int32) then 60 else (60 : Int32)) < 0 ∧ 0 + (if 60 < (60 : Int32) then 60 else (60 : Int32)).toNatClampNeg ≤ 60 ∧ 0 + (if 60 < (60 : Int32) then 60 else (60 : Int32)).toNatClampNeg ≤ 60) ∧ Y_X11_copyRow_48_75 d Q 14 [(0, .ref 75), (1, .ref 48)] [] (pA s 48 (va_cpy (s.1 75) (s.1 48) 0 0 (if 60 < (60 : Int32) then 60 else (60 : Int32)).toNatClampNeg)) from ⟨rm8_ rfl, c9, ?_⟩)
  exact Wp.r_return (pc := 14) o_X11_copyRow rfl (H)
noncomputable abbrev Y_X11_copyRow_49_76 (d : Nat) (Q : Qt) : Xt := Wp SHC (WpM SHC MT (d + 0)) (flat2 cq_X11_copyRow) (none) Q
noncomputable def f_X11_copyRow_49_76  (s : Sg) : Option (Unit × Sg) :=
  ck (¬ (0 : Int32) < 0 ∧ ¬ (0 : Int32) < 0 ∧ ¬ (if 60 < (60 : Int32) then 60 else (60 : Int32)) < 0 ∧ 0 + (if 60 < (60 : Int32) then 60 else (60 : Int32)).toNatClampNeg ≤ 60 ∧ 0 + (if 60 < (60 : Int32) then 60 else (60 : Int32)).toNatClampNeg ≤ 60) (
  some ((), pA s 49 (va_cpy (s.1 76) (s.1 49) 0 0 (if 60 < (60 : Int32) then 60 else (60 : Int32)).toNatClampNeg))
  )
set_option maxRecDepth 100000 in
theorem w_X11_copyRow_49_76 {d : Nat} {s : Sg} {Q : Qt}  (H : OQ (f_X11_copyRow_49_76  s) (fun _ s9 => Q none s9)) : WpM SHC MT (d + 1) 184 [.ref 76, .ref 49] s Q := by
  refine WpM.enter me_X11_copyRow rfl rfl ?_
  show Y_X11_copyRow_49_76 d Q 0 [(0, .ref 76), (1, .ref 49)] [] s
  unfold f_X11_copyRow_49_76 at H
  refine Wp.f_al0_iconst (pc := 0) o_X11_copyRow rfl rfl rfl (Wp.f_al1_iconst (pc := 2) o_X11_copyRow rfl rfl rfl (Wp.f_al0_alen (pc := 4) o_X11_copyRow rfl rfl rfl lk_C_76 (Wp.f_al1_alen (pc := 6) o_X11_copyRow rfl rfl rfl lk_C_49 (Wp.r_min (pc := 8) o_X11_copyRow rfl (⟨rm8_ rfl, ?_⟩)))))
  obtain ⟨c9, H⟩ := oq_ck H
  refine Wp.run 1 (show room8 [] ∧ (¬ (0 : Int32) < 0 ∧ ¬ (0 : Int32) < 0 ∧ ¬ (if 60 < (60 : Int32) then 60 else (60 : Int32)) < 0 ∧ 0 + (if 60 < (60 : Int32) then 60 else (60 : Int32)).toNatClampNeg ≤ 60 ∧ 0 + (if 60 < (60 : Int32) then 60 else (60 : Int32)).toNatClampNeg ≤ 60) ∧ Y_X11_copyRow_49_76 d Q 14 [(0, .ref 76), (1, .ref 49)] [] (pA s 49 (va_cpy (s.1 76) (s.1 49) 0 0 (if 60 < (60 : Int32) then 60 else (60 : Int32)).toNatClampNeg)) from ⟨rm8_ rfl, c9, ?_⟩)
  exact Wp.r_return (pc := 14) o_X11_copyRow rfl (H)
noncomputable abbrev Y_X11_copyRow_50_77 (d : Nat) (Q : Qt) : Xt := Wp SHC (WpM SHC MT (d + 0)) (flat2 cq_X11_copyRow) (none) Q
noncomputable def f_X11_copyRow_50_77  (s : Sg) : Option (Unit × Sg) :=
  ck (¬ (0 : Int32) < 0 ∧ ¬ (0 : Int32) < 0 ∧ ¬ (if 60 < (60 : Int32) then 60 else (60 : Int32)) < 0 ∧ 0 + (if 60 < (60 : Int32) then 60 else (60 : Int32)).toNatClampNeg ≤ 60 ∧ 0 + (if 60 < (60 : Int32) then 60 else (60 : Int32)).toNatClampNeg ≤ 60) (
  some ((), pA s 50 (va_cpy (s.1 77) (s.1 50) 0 0 (if 60 < (60 : Int32) then 60 else (60 : Int32)).toNatClampNeg))
  )
set_option maxRecDepth 100000 in
theorem w_X11_copyRow_50_77 {d : Nat} {s : Sg} {Q : Qt}  (H : OQ (f_X11_copyRow_50_77  s) (fun _ s9 => Q none s9)) : WpM SHC MT (d + 1) 184 [.ref 77, .ref 50] s Q := by
  refine WpM.enter me_X11_copyRow rfl rfl ?_
  show Y_X11_copyRow_50_77 d Q 0 [(0, .ref 77), (1, .ref 50)] [] s
  unfold f_X11_copyRow_50_77 at H
  refine Wp.f_al0_iconst (pc := 0) o_X11_copyRow rfl rfl rfl (Wp.f_al1_iconst (pc := 2) o_X11_copyRow rfl rfl rfl (Wp.f_al0_alen (pc := 4) o_X11_copyRow rfl rfl rfl lk_C_77 (Wp.f_al1_alen (pc := 6) o_X11_copyRow rfl rfl rfl lk_C_50 (Wp.r_min (pc := 8) o_X11_copyRow rfl (⟨rm8_ rfl, ?_⟩)))))
  obtain ⟨c9, H⟩ := oq_ck H
  refine Wp.run 1 (show room8 [] ∧ (¬ (0 : Int32) < 0 ∧ ¬ (0 : Int32) < 0 ∧ ¬ (if 60 < (60 : Int32) then 60 else (60 : Int32)) < 0 ∧ 0 + (if 60 < (60 : Int32) then 60 else (60 : Int32)).toNatClampNeg ≤ 60 ∧ 0 + (if 60 < (60 : Int32) then 60 else (60 : Int32)).toNatClampNeg ≤ 60) ∧ Y_X11_copyRow_50_77 d Q 14 [(0, .ref 77), (1, .ref 50)] [] (pA s 50 (va_cpy (s.1 77) (s.1 50) 0 0 (if 60 < (60 : Int32) then 60 else (60 : Int32)).toNatClampNeg)) from ⟨rm8_ rfl, c9, ?_⟩)
  exact Wp.r_return (pc := 14) o_X11_copyRow rfl (H)
noncomputable abbrev Y_X5_copyFrom_54 (d : Nat) (Q : Qt) : Xt := Wp SHC (WpM SHC MT (d + 1)) (flat2 cq_X5_copyFrom) (none) Q
noncomputable def f_X5_copyFrom_54  (s : Sg) : Option (Unit × Sg) :=
  bd (f_X11_copyRow_45_72 s) (fun _ s2 =>
  bd (f_X11_copyRow_46_73 s2) (fun _ s4 =>
  bd (f_X11_copyRow_47_74 s4) (fun _ s6 =>
  bd (f_X11_copyRow_48_75 s6) (fun _ s8 =>
  bd (f_X11_copyRow_49_76 s8) (fun _ s10 =>
  bd (f_X11_copyRow_50_77 s10) (fun _ s12 =>
  ck ((s12.1 54 6) = 0 ∨ (s12.1 54 6) = 1) (
  nmx (pI (pI s12 27 6 (s12.1 54 6)) 27 7 ((pI s12 27 6 (s12.1 54 6)).1 54 7)) (fun s14 =>
  some ((), pI s14 27 8 (s14.1 54 8))
  )
  )
  )
  )
  )
  )
  )
  )
set_option maxRecDepth 100000 in
theorem w_X5_copyFrom_54 {d : Nat} {s : Sg} {Q : Qt}  (H : OQ (f_X5_copyFrom_54  s) (fun _ s9 => Q none s9)) : WpM SHC MT (d + 2) 62 [.ref 27, .ref 54] s Q := by
  refine WpM.enter me_X5_copyFrom rfl rfl ?_
  show Y_X5_copyFrom_54 d Q 0 [(0, .ref 27), (1, .ref 54)] [] s
  unfold f_X5_copyFrom_54 at H
  refine Wp.f_al1_gfr (pc := 0) o_X5_copyFrom rfl rfl rfl fk_C_54_0 (Wp.f_al0_gfr (pc := 4) o_X5_copyFrom rfl rfl rfl fk_C_27_0 (Wp.r_cs2 (pc := 8) o_X5_copyFrom rfl (⟨rm8_ rfl, ?_⟩)))
  refine w_X11_copyRow_45_72 (d := d)  ?_
  refine oq_bd H (fun _ s2 H => ?_)
  refine Wp.f_al1_gfr (pc := 11) o_X5_copyFrom rfl rfl rfl fk_C_54_1 (Wp.f_al0_gfr (pc := 15) o_X5_copyFrom rfl rfl rfl fk_C_27_1 (Wp.r_cs2 (pc := 19) o_X5_copyFrom rfl (⟨rm8_ rfl, ?_⟩)))
  refine w_X11_copyRow_46_73 (d := d)  ?_
  refine oq_bd H (fun _ s4 H => ?_)
  refine Wp.f_al1_gfr (pc := 22) o_X5_copyFrom rfl rfl rfl fk_C_54_2 (Wp.f_al0_gfr (pc := 26) o_X5_copyFrom rfl rfl rfl fk_C_27_2 (Wp.r_cs2 (pc := 30) o_X5_copyFrom rfl (⟨rm8_ rfl, ?_⟩)))
  refine w_X11_copyRow_47_74 (d := d)  ?_
  refine oq_bd H (fun _ s6 H => ?_)
  refine Wp.f_al1_gfr (pc := 33) o_X5_copyFrom rfl rfl rfl fk_C_54_3 (Wp.f_al0_gfr (pc := 37) o_X5_copyFrom rfl rfl rfl fk_C_27_3 (Wp.r_cs2 (pc := 41) o_X5_copyFrom rfl (⟨rm8_ rfl, ?_⟩)))
  refine w_X11_copyRow_48_75 (d := d)  ?_
  refine oq_bd H (fun _ s8 H => ?_)
  refine Wp.f_al1_gfr (pc := 44) o_X5_copyFrom rfl rfl rfl fk_C_54_4 (Wp.f_al0_gfr (pc := 48) o_X5_copyFrom rfl rfl rfl fk_C_27_4 (Wp.r_cs2 (pc := 52) o_X5_copyFrom rfl (⟨rm8_ rfl, ?_⟩)))
  refine w_X11_copyRow_49_76 (d := d)  ?_
  refine oq_bd H (fun _ s10 H => ?_)
  refine Wp.f_al1_gfr (pc := 55) o_X5_copyFrom rfl rfl rfl fk_C_54_5 (Wp.f_al0_gfr (pc := 59) o_X5_copyFrom rfl rfl rfl fk_C_27_5 (Wp.r_cs2 (pc := 63) o_X5_copyFrom rfl (⟨rm8_ rfl, ?_⟩)))
  refine w_X11_copyRow_50_77 (d := d)  ?_
  refine oq_bd H (fun _ s12 H => ?_)
  obtain ⟨hc13, H⟩ := oq_ck H
  refine Wp.r_aload_n0 (pc := 66) o_X5_copyFrom rfl rfl (Wp.f_al1_gfi (pc := 67) o_X5_copyFrom rfl rfl rfl fk_C_54_6 (Wp.r_pfz (pc := 71) o_X5_copyFrom rfl fk_C_27_6 (⟨hc13, ?_⟩)))
  refine Wp.r_aload_n0 (pc := 74) o_X5_copyFrom rfl rfl (Wp.f_al1_gfi (pc := 75) o_X5_copyFrom rfl rfl rfl fk_C_54_7 (Wp.r_pfi (pc := 79) o_X5_copyFrom rfl fk_C_27_7 (show Y_X5_copyFrom_54 d Q 82 [(0, .ref 27), (1, .ref 54)] [] (pI (pI s12 27 6 (s12.1 54 6)) 27 7 ((pI s12 27 6 (s12.1 54 6)).1 54 7)) from ?_)))
  revert H
  generalize pI (pI s12 27 6 (s12.1 54 6)) 27 7 ((pI s12 27 6 (s12.1 54 6)).1 54 7) = s14
  intro H
  have H := nmx_e H
  exact Wp.r_aload_n0 (pc := 82) o_X5_copyFrom rfl rfl (Wp.f_al1_gfi (pc := 83) o_X5_copyFrom rfl rfl rfl fk_C_54_8 (Wp.r_pfi (pc := 87) o_X5_copyFrom rfl fk_C_27_8 (Wp.r_return (pc := 90) o_X5_copyFrom rfl (H))))
noncomputable abbrev Y_X10_copyFrom_51 (d : Nat) (Q : Qt) : Xt := Wp SHC (WpM SHC MT (d + 2)) (flat2 cq_X10_copyFrom) (none) Q
noncomputable def f_X10_copyFrom_51  (s : Sg) : Option (Unit × Sg) :=
  bd (f_X4_copyFrom_52 s) (fun _ s2 =>
  bd (f_X2_copyFrom_53 s2) (fun _ s4 =>
  bd (f_X5_copyFrom_54 s4) (fun _ s6 =>
  some ((), s6)
  )
  )
  )
set_option maxRecDepth 100000 in
theorem w_X10_copyFrom_51 {d : Nat} {s : Sg} {Q : Qt}  (H : OQ (f_X10_copyFrom_51  s) (fun _ s9 => Q none s9)) : WpM SHC MT (d + 3) 101 [.ref 24, .ref 51] s Q := by
  refine WpM.enter me_X10_copyFrom rfl rfl ?_
  show Y_X10_copyFrom_51 d Q 0 [(0, .ref 24), (1, .ref 51)] [] s
  unfold f_X10_copyFrom_51 at H
  refine Wp.f_al0_gfr (pc := 0) o_X10_copyFrom rfl rfl rfl fk_C_24_0 (Wp.f_al1_gfr (pc := 4) o_X10_copyFrom rfl rfl rfl fk_C_51_0 (Wp.r_cv2 (pc := 8) o_X10_copyFrom rfl fk_C_25_0 (⟨rm8_ rfl, ?_⟩)))
  refine w_X4_copyFrom_52 (d := d)  ?_
  refine oq_bd H (fun _ s2 H => ?_)
  refine Wp.f_al0_gfr (pc := 11) o_X10_copyFrom rfl rfl rfl fk_C_24_1 (Wp.f_al1_gfr (pc := 15) o_X10_copyFrom rfl rfl rfl fk_C_51_1 (Wp.r_cv2 (pc := 19) o_X10_copyFrom rfl fk_C_26_0 (⟨rm8_ rfl, ?_⟩)))
  refine w_X2_copyFrom_53 (d := d)  ?_
  refine oq_bd H (fun _ s4 H => ?_)
  refine Wp.f_al0_gfr (pc := 22) o_X10_copyFrom rfl rfl rfl fk_C_24_2 (Wp.f_al1_gfr (pc := 26) o_X10_copyFrom rfl rfl rfl fk_C_51_2 (Wp.r_cv2 (pc := 30) o_X10_copyFrom rfl fk_C_27_0 (⟨rm8_ rfl, ?_⟩)))
  refine w_X5_copyFrom_54 (d := d)  ?_
  refine oq_bd H (fun _ s6 H => ?_)
  exact Wp.r_return (pc := 33) o_X10_copyFrom rfl (H)
noncomputable abbrev Y_X11_answer (d : Nat) (Q : Qt) : Xt := Wp SHC (WpM SHC MT (d + 0)) (flat2 cq_X11_answer) (some .int) Q
noncomputable def f_X11_answer (a1 : Int32) (s : Sg) : Option (Int32 × Sg) :=
  some (a1, pI s 0 15 0)
set_option maxRecDepth 100000 in
theorem w_X11_answer {d : Nat} {s : Sg} {Q : Qt} (a1 : Int32) (H : OQ (f_X11_answer a1 s) (fun r9 s9 => Q (some (.int r9)) s9)) : WpM SHC MT (d + 1) 164 [.ref 0, .int a1] s Q := by
  refine WpM.enter me_X11_answer rfl rfl ?_
  show Y_X11_answer d Q 0 [(0, .ref 0), (1, .int a1)] [] s
  unfold f_X11_answer at H
  exact Wp.f_al0_iconst (pc := 0) o_X11_answer rfl rfl rfl (Wp.r_pfi (pc := 2) o_X11_answer rfl fk_C_0_15 (Wp.r_iload_n1 (pc := 5) o_X11_answer rfl rfl (Wp.r_ireturn (pc := 6) o_X11_answer rfl (⟨rfl, H⟩))))
noncomputable abbrev Y_X11_street (d : Nat) (Q : Qt) : Xt := Wp SHC (WpM SHC MT (d + 7)) (flat2 cq_X11_street) (some .int) Q
noncomputable def f_X11_street (a1 : Int32) (s : Sg) : Option (Int32 × Sg) :=
  bd (f_X11_within a1 0 (s.1 0 13) s) (fun r1 s2 =>
  if r1 = 0 then
    bd (f_X11_refuse 1 s2) (fun r3 s4 =>
    some (r3, s4)
    )
  else
    bd (f_X7_begin a1 s2) (fun _ s6 =>
    bd (f_X6_takeText s6) (fun r7 s8 =>
    bd (f_X11_closeText s8) (fun _ s10 =>
    if r7 = 0 then
      bd (f_X11_refuse 9 s10) (fun r11 s12 =>
      some (r11, s12)
      )
    else
      bd (f_X10_copyFrom_51 s10) (fun _ s14 =>
      bd (f_X11_answer (s14.1 25 14) s14) (fun r15 s16 =>
      some (r15, s16)
      )
      )
    )
    )
    )
  )
set_option maxRecDepth 100000 in
theorem w_X11_street {d : Nat} {s : Sg} {Q : Qt} (a1 : Int32) (H : OQ (f_X11_street a1 s) (fun r9 s9 => Q (some (.int r9)) s9)) : WpM SHC MT (d + 8) 110 [.ref 0, .int a1] s Q := by
  refine WpM.enter me_X11_street rfl rfl ?_
  show Y_X11_street d Q 0 [(0, .ref 0), (1, .int a1)] [] s
  unfold f_X11_street at H
  refine Wp.r_iload_n1 (pc := 0) o_X11_street rfl rfl (Wp.r_iconst (pc := 1) o_X11_street rfl (Wp.f_al0_gfi (pc := 2) o_X11_street rfl rfl rfl fk_C_0_13 (Wp.r_cs3 (pc := 6) o_X11_street rfl (⟨rm8_ rfl, ?_⟩))))
  refine w_X11_within (d := d + 6) _ _ _ ?_
  refine oq_bd H (fun r1 s2 H => ?_)
  refine Wp.r_if_ne (pc := 9) o_X11_street rfl (fun c9 => ?_) (fun c9 => ?_)
  · have H := oq_t c9 H
    refine Wp.f_al0_iconst (pc := 12) o_X11_street rfl rfl rfl (Wp.r_cv2 (pc := 14) o_X11_street rfl fk_C_0_0 (⟨rm8_ rfl, ?_⟩))
    refine w_X11_refuse (d := d + 6) _ ?_
    refine oq_bd H (fun r3 s4 H => ?_)
    exact Wp.r_ireturn (pc := 17) o_X11_street rfl (⟨rfl, H⟩)
  · have H := oq_f c9 H
    refine Wp.f_al0_gfr (pc := 18) o_X11_street rfl rfl rfl fk_C_0_10 (Wp.r_iload_n1 (pc := 22) o_X11_street rfl rfl (Wp.r_cv2 (pc := 23) o_X11_street rfl fk_C_7_0 (⟨rm8_ rfl, ?_⟩)))
    refine w_X7_begin (d := d + 3) _ ?_
    refine oq_bd H (fun _ s6 H => ?_)
    refine Wp.f_al0_gfr (pc := 26) o_X11_street rfl rfl rfl fk_C_0_11 (Wp.r_cv1 (pc := 30) o_X11_street rfl fk_C_8_0 (⟨rm8_ rfl, ?_⟩))
    refine w_X6_takeText (d := d)  ?_
    refine oq_bd H (fun r7 s8 H => ?_)
    refine Wp.r_istore_n2 (pc := 33) o_X11_street rfl (Wp.r_aload_n0 (pc := 34) o_X11_street rfl rfl (Wp.r_cv1 (pc := 35) o_X11_street rfl fk_C_0_0 (⟨rm8_ rfl, ?_⟩)))
    refine w_X11_closeText (d := d + 6)  ?_
    refine oq_bd H (fun _ s10 H => ?_)
    refine Wp.r_iload_n2 (pc := 38) o_X11_street rfl rfl (Wp.r_if_ne (pc := 39) o_X11_street rfl (fun c9 => ?_) (fun c9 => ?_))
    · have H := oq_t c9 H
      refine Wp.r_aload_n0 (pc := 42) o_X11_street rfl rfl (Wp.r_bipush (pc := 43) o_X11_street rfl (Wp.r_cv2 (pc := 45) o_X11_street rfl fk_C_0_0 (⟨rm8_ rfl, ?_⟩)))
      refine w_X11_refuse (d := d + 6) _ ?_
      refine oq_bd H (fun r11 s12 H => ?_)
      exact Wp.r_ireturn (pc := 48) o_X11_street rfl (⟨rfl, H⟩)
    · have H := oq_f c9 H
      refine Wp.f_al0_gfr (pc := 49) o_X11_street rfl rfl rfl fk_C_0_2 (Wp.f_al0_gfr (pc := 53) o_X11_street rfl rfl rfl fk_C_0_3 (Wp.r_cv2 (pc := 57) o_X11_street rfl fk_C_24_0 (⟨rm8_ rfl, ?_⟩)))
      refine w_X10_copyFrom_51 (d := d + 4)  ?_
      refine oq_bd H (fun _ s14 H => ?_)
      refine Wp.r_aload_n0 (pc := 60) o_X11_street rfl rfl (Wp.f_al0_gfr (pc := 61) o_X11_street rfl rfl rfl fk_C_0_5 (Wp.r_gfi (pc := 65) o_X11_street rfl fk_C_25_14 (Wp.r_cv2 (pc := 68) o_X11_street rfl fk_C_0_0 (⟨rm8_ rfl, ?_⟩))))
      refine w_X11_answer (d := d + 6) _ ?_
      refine oq_bd H (fun r15 s16 H => ?_)
      exact Wp.r_ireturn (pc := 71) o_X11_street rfl (⟨rfl, H⟩)
noncomputable abbrev Y_X1_takeEnd (d : Nat) (Q : Qt) : Xt := Wp SHC (WpM SHC MT (d + 4)) (flat2 cq_X1_takeEnd) (some .boolean) Q
noncomputable def f_X1_takeEnd  (s : Sg) : Option (Int32 × Sg) :=
  if (s.1 9 4) = 0 then
    bd (f_X7_wrong 2 s) (fun r1 s2 =>
    ck (r1 = 0 ∨ r1 = 1) (some (r1, s2))
    )
  else
    if (s.1 54 7) < 60 then
      ck (inr ((pI s 9 4 ((s.1 9 4) - 1)).1 9 4) 3) (
      nmx ((pI s 9 4 ((s.1 9 4) - 1)).1 23 (((pI s 9 4 ((s.1 9 4) - 1)).1 9 4).toNatClampNeg) : Int32) (fun x4 =>
      ck (inr ((pI s 9 4 ((s.1 9 4) - 1)).1 54 7) 60) (
      nmx (pI (pI s 9 4 ((s.1 9 4) - 1)) 72 (((pI s 9 4 ((s.1 9 4) - 1)).1 54 7).toNatClampNeg) 129) (fun s6 =>
      ck (inr (s6.1 54 7) 60) (
      nmx (pI s6 77 ((s6.1 54 7).toNatClampNeg) x4) (fun s8 =>
      ck (inr x4 60) (
      nmx (pI s8 77 x4.toNatClampNeg (s8.1 54 7)) (fun s10 =>
      bd (f_X7_advance (pI s10 54 7 ((s10.1 54 7) + 1))) (fun _ s12 =>
      bd (f_X7_pass 59 s12) (fun r13 s14 =>
      ck (r13 = 0 ∨ r13 = 1) (some (r13, s14))
      )
      )
      )
      )
      )
      )
      )
      )
      )
      )
    else
      bd (f_X7_wrong 2 s) (fun r15 s16 =>
      ck (r15 = 0 ∨ r15 = 1) (some (r15, s16))
      )
set_option maxRecDepth 100000 in
theorem w_X1_takeEnd {d : Nat} {s : Sg} {Q : Qt}  (H : OQ (f_X1_takeEnd  s) (fun r9 s9 => Q (some (.int r9)) s9)) : WpM SHC MT (d + 5) 12 [.ref 9] s Q := by
  refine WpM.enter me_X1_takeEnd rfl rfl ?_
  show Y_X1_takeEnd d Q 0 [(0, .ref 9)] [] s
  unfold f_X1_takeEnd at H
  refine Wp.f_al0_gfi (pc := 0) o_X1_takeEnd rfl rfl rfl fk_C_9_4 (Wp.r_if_eq (pc := 4) o_X1_takeEnd rfl (fun c9 => ?_) (fun c9 => ?_))
  · have H := oq_t c9 H
    refine Wp.f_al0_gfr (pc := 19) o_X1_takeEnd rfl rfl rfl fk_C_9_0 (Wp.r_iconst (pc := 23) o_X1_takeEnd rfl (Wp.r_cv2 (pc := 24) o_X1_takeEnd rfl fk_C_7_0 (⟨rm8_ rfl, ?_⟩)))
    refine w_X7_wrong (d := d + 3) _ ?_
    refine oq_bd H (fun r1 s2 H => ?_)
    obtain ⟨c9, H⟩ := oq_ck H
    exact Wp.r_ireturn (pc := 27) o_X1_takeEnd rfl (⟨b01_n c9, H⟩)
  · have H := oq_f c9 H
    refine Wp.f_al0_gfr (pc := 7) o_X1_takeEnd rfl rfl rfl fk_C_9_2 (Wp.r_gfi (pc := 11) o_X1_takeEnd rfl fk_C_54_7 (Wp.r_bipush (pc := 14) o_X1_takeEnd rfl (Wp.r_icmp_lt (pc := 16) o_X1_takeEnd rfl (fun c9 => ?_) (fun c9 => ?_))))
    · have H := oq_t c9 H
      obtain ⟨hc3, H⟩ := oq_ck H
      refine Wp.r_aload_n0 (pc := 28) o_X1_takeEnd rfl rfl (Wp.r_dup_r (pc := 29) o_X1_takeEnd rfl (Wp.r_gfi (pc := 30) o_X1_takeEnd rfl fk_C_9_4 (Wp.r_iconst (pc := 33) o_X1_takeEnd rfl (Wp.r_isub (pc := 34) o_X1_takeEnd rfl (Wp.r_pfi (pc := 35) o_X1_takeEnd rfl fk_C_9_4 (Wp.f_al0_gfr (pc := 38) o_X1_takeEnd rfl rfl rfl fk_C_9_3 (Wp.f_al0_gfi (pc := 42) o_X1_takeEnd rfl rfl rfl fk_C_9_4 (Wp.r_iaload (pc := 46) o_X1_takeEnd rfl ak_C_23 (⟨hc3, ?_⟩)))))))))
      refine Wp.r_istore_n1 (pc := 47) o_X1_takeEnd rfl (show Y_X1_takeEnd d Q 48 [(1, .int ((pI s 9 4 ((s.1 9 4) - 1)).1 23 (((pI s 9 4 ((s.1 9 4) - 1)).1 9 4).toNatClampNeg))), (0, .ref 9)] [] (pI s 9 4 ((s.1 9 4) - 1)) from ?_)
      revert H
      generalize ((pI s 9 4 ((s.1 9 4) - 1)).1 23 (((pI s 9 4 ((s.1 9 4) - 1)).1 9 4).toNatClampNeg) : Int32) = x4
      intro H
      have H := nmx_e H
      obtain ⟨hc5, H⟩ := oq_ck H
      refine Wp.f_al0_gfr (pc := 48) o_X1_takeEnd rfl rfl rfl fk_C_9_2 (Wp.r_gfr (pc := 52) o_X1_takeEnd rfl fk_C_54_0 (Wp.f_al0_gfr (pc := 55) o_X1_takeEnd rfl rfl rfl fk_C_9_2 (Wp.r_gfi (pc := 59) o_X1_takeEnd rfl fk_C_54_7 (Wp.r_sipush (pc := 62) o_X1_takeEnd rfl (Wp.r_iastore (pc := 65) o_X1_takeEnd rfl ak_C_72 (⟨hc5, ?_⟩))))))
      revert H
      generalize pI (pI s 9 4 ((s.1 9 4) - 1)) 72 (((pI s 9 4 ((s.1 9 4) - 1)).1 54 7).toNatClampNeg) 129 = s6
      intro H
      have H := nmx_e H
      obtain ⟨hc7, H⟩ := oq_ck H
      refine Wp.f_al0_gfr (pc := 66) o_X1_takeEnd rfl rfl rfl fk_C_9_2 (Wp.r_gfr (pc := 70) o_X1_takeEnd rfl fk_C_54_5 (Wp.f_al0_gfr (pc := 73) o_X1_takeEnd rfl rfl rfl fk_C_9_2 (Wp.r_gfi (pc := 77) o_X1_takeEnd rfl fk_C_54_7 (Wp.r_iload_n1 (pc := 80) o_X1_takeEnd rfl rfl (Wp.r_iastore (pc := 81) o_X1_takeEnd rfl ak_C_77 (⟨hc7, ?_⟩))))))
      revert H
      generalize pI s6 77 ((s6.1 54 7).toNatClampNeg) x4 = s8
      intro H
      have H := nmx_e H
      obtain ⟨hc9, H⟩ := oq_ck H
      refine Wp.f_al0_gfr (pc := 82) o_X1_takeEnd rfl rfl rfl fk_C_9_2 (Wp.r_gfr (pc := 86) o_X1_takeEnd rfl fk_C_54_5 (Wp.r_iload_n1 (pc := 89) o_X1_takeEnd rfl rfl (Wp.f_al0_gfr (pc := 90) o_X1_takeEnd rfl rfl rfl fk_C_9_2 (Wp.r_gfi (pc := 94) o_X1_takeEnd rfl fk_C_54_7 (Wp.r_iastore (pc := 97) o_X1_takeEnd rfl ak_C_77 (⟨hc9, ?_⟩))))))
      revert H
      generalize pI s8 77 x4.toNatClampNeg (s8.1 54 7) = s10
      intro H
      have H := nmx_e H
      refine Wp.f_al0_gfr (pc := 98) o_X1_takeEnd rfl rfl rfl fk_C_9_2 (Wp.r_dup_r (pc := 102) o_X1_takeEnd rfl (Wp.r_gfi (pc := 103) o_X1_takeEnd rfl fk_C_54_7 (Wp.r_iconst (pc := 106) o_X1_takeEnd rfl (Wp.r_iadd (pc := 107) o_X1_takeEnd rfl (Wp.r_pfi (pc := 108) o_X1_takeEnd rfl fk_C_54_7 (Wp.f_al0_gfr (pc := 111) o_X1_takeEnd rfl rfl rfl fk_C_9_0 (Wp.r_cv1 (pc := 115) o_X1_takeEnd rfl fk_C_7_0 (⟨rm8_ rfl, ?_⟩))))))))
      refine w_X7_advance (d := d + 1)  ?_
      refine oq_bd H (fun _ s12 H => ?_)
      refine Wp.f_al0_gfr (pc := 118) o_X1_takeEnd rfl rfl rfl fk_C_9_0 (Wp.r_bipush (pc := 122) o_X1_takeEnd rfl (Wp.r_cv2 (pc := 124) o_X1_takeEnd rfl fk_C_7_0 (⟨rm8_ rfl, ?_⟩)))
      refine w_X7_pass (d := d) _ ?_
      refine oq_bd H (fun r13 s14 H => ?_)
      obtain ⟨c9, H⟩ := oq_ck H
      exact Wp.r_ireturn (pc := 127) o_X1_takeEnd rfl (⟨b01_n c9, H⟩)
    · have H := oq_f c9 H
      refine Wp.f_al0_gfr (pc := 19) o_X1_takeEnd rfl rfl rfl fk_C_9_0 (Wp.r_iconst (pc := 23) o_X1_takeEnd rfl (Wp.r_cv2 (pc := 24) o_X1_takeEnd rfl fk_C_7_0 (⟨rm8_ rfl, ?_⟩)))
      refine w_X7_wrong (d := d + 3) _ ?_
      refine oq_bd H (fun r15 s16 H => ?_)
      obtain ⟨c9, H⟩ := oq_ck H
      exact Wp.r_ireturn (pc := 27) o_X1_takeEnd rfl (⟨b01_n c9, H⟩)
noncomputable abbrev Y_X1_isStepWord (d : Nat) (Q : Qt) : Xt := Wp SHC (WpM SHC MT (d + 1)) (flat2 cq_X1_isStepWord) (some .boolean) Q
noncomputable def f_X1_isStepWord (a0 : Int32) (s : Sg) : Option (Int32 × Sg) :=
  if a0 = 116 then
    some (1, s)
  else
    if a0 = 130 then
      some (1, s)
    else
      if a0 = 128 then
        some (1, s)
      else
        bd (f_X11_within a0 119 124 s) (fun r1 s2 =>
        if r1 = 0 then
          some (0, s2)
        else
          some (1, s2)
        )
set_option maxRecDepth 100000 in
theorem w_X1_isStepWord {d : Nat} {s : Sg} {Q : Qt} (a0 : Int32) (H : OQ (f_X1_isStepWord a0 s) (fun r9 s9 => Q (some (.int r9)) s9)) : WpM SHC MT (d + 2) 15 [.int a0] s Q := by
  refine WpM.enter me_X1_isStepWord rfl rfl ?_
  show Y_X1_isStepWord d Q 0 [(0, .int a0)] [] s
  unfold f_X1_isStepWord at H
  refine Wp.r_iload_n0 (pc := 0) o_X1_isStepWord rfl rfl (Wp.r_bipush (pc := 1) o_X1_isStepWord rfl (Wp.r_icmp_eq (pc := 3) o_X1_isStepWord rfl (fun c9 => ?_) (fun c9 => ?_)))
  · have H := oq_t c9 H
    exact Wp.r_iconst (pc := 31) o_X1_isStepWord rfl (Wp.r_goto (pc := 32) o_X1_isStepWord rfl (Wp.r_ireturn (pc := 36) o_X1_isStepWord rfl (⟨rfl, H⟩)))
  · have H := oq_f c9 H
    refine Wp.r_iload_n0 (pc := 6) o_X1_isStepWord rfl rfl (Wp.r_sipush (pc := 7) o_X1_isStepWord rfl (Wp.r_icmp_eq (pc := 10) o_X1_isStepWord rfl (fun c9 => ?_) (fun c9 => ?_)))
    · have H := oq_t c9 H
      exact Wp.r_iconst (pc := 31) o_X1_isStepWord rfl (Wp.r_goto (pc := 32) o_X1_isStepWord rfl (Wp.r_ireturn (pc := 36) o_X1_isStepWord rfl (⟨rfl, H⟩)))
    · have H := oq_f c9 H
      refine Wp.r_iload_n0 (pc := 13) o_X1_isStepWord rfl rfl (Wp.r_sipush (pc := 14) o_X1_isStepWord rfl (Wp.r_icmp_eq (pc := 17) o_X1_isStepWord rfl (fun c9 => ?_) (fun c9 => ?_)))
      · have H := oq_t c9 H
        exact Wp.r_iconst (pc := 31) o_X1_isStepWord rfl (Wp.r_goto (pc := 32) o_X1_isStepWord rfl (Wp.r_ireturn (pc := 36) o_X1_isStepWord rfl (⟨rfl, H⟩)))
      · have H := oq_f c9 H
        refine Wp.r_iload_n0 (pc := 20) o_X1_isStepWord rfl rfl (Wp.r_bipush (pc := 21) o_X1_isStepWord rfl (Wp.r_bipush (pc := 23) o_X1_isStepWord rfl (Wp.r_cs3 (pc := 25) o_X1_isStepWord rfl (⟨rm8_ rfl, ?_⟩))))
        refine w_X11_within (d := d) _ _ _ ?_
        refine oq_bd H (fun r1 s2 H => ?_)
        refine Wp.r_if_eq (pc := 28) o_X1_isStepWord rfl (fun c9 => ?_) (fun c9 => ?_)
        · have H := oq_t c9 H
          exact Wp.r_iconst (pc := 35) o_X1_isStepWord rfl (Wp.r_ireturn (pc := 36) o_X1_isStepWord rfl (⟨rfl, H⟩))
        · have H := oq_f c9 H
          exact Wp.r_iconst (pc := 31) o_X1_isStepWord rfl (Wp.r_goto (pc := 32) o_X1_isStepWord rfl (Wp.r_ireturn (pc := 36) o_X1_isStepWord rfl (⟨rfl, H⟩)))
noncomputable abbrev Y_X1_beginStep (d : Nat) (Q : Qt) : Xt := Wp SHC (WpM SHC MT (d + 3)) (flat2 cq_X1_beginStep) (some .boolean) Q
noncomputable def f_X1_beginStep_b129 (v1 : Int32) (s : Sg) : Option (Int32 × Sg) :=
  ck (inr (s.1 54 7) 60) (
  nmx (pI s 72 ((s.1 54 7).toNatClampNeg) v1) (fun s8 =>
  nmx (pI (pI s8 54 7 ((s8.1 54 7) + 1)) 54 8 (((pI s8 54 7 ((s8.1 54 7) + 1)).1 54 8) + 1)) (fun s9 =>
  bd (f_X7_advance s9) (fun _ s11 =>
  some (1, s11)
  )
  )
  )
  )
set_option maxRecDepth 100000 in
theorem w_X1_beginStep_b129 {d : Nat} {Q : Qt} (v1 : Int32) (s : Sg) (H : OQ (f_X1_beginStep_b129 v1 s) (fun r9 s9 => Q (some (.int r9)) s9)) : Y_X1_beginStep d Q 129 [(0, .ref 9), (1, .int v1)] [] s := by
  unfold f_X1_beginStep_b129 at H
  obtain ⟨hc7, H⟩ := oq_ck H
  refine Wp.f_al0_gfr (pc := 129) o_X1_beginStep rfl rfl rfl fk_C_9_2 (Wp.r_gfr (pc := 133) o_X1_beginStep rfl fk_C_54_0 (Wp.f_al0_gfr (pc := 136) o_X1_beginStep rfl rfl rfl fk_C_9_2 (Wp.r_gfi (pc := 140) o_X1_beginStep rfl fk_C_54_7 (Wp.r_iload_n1 (pc := 143) o_X1_beginStep rfl rfl (Wp.r_iastore (pc := 144) o_X1_beginStep rfl ak_C_72 (⟨hc7, ?_⟩))))))
  revert H
  generalize pI s 72 ((s.1 54 7).toNatClampNeg) v1 = s8
  intro H
  have H := nmx_e H
  refine Wp.f_al0_gfr (pc := 145) o_X1_beginStep rfl rfl rfl fk_C_9_2 (Wp.r_dup_r (pc := 149) o_X1_beginStep rfl (Wp.r_gfi (pc := 150) o_X1_beginStep rfl fk_C_54_7 (Wp.r_iconst (pc := 153) o_X1_beginStep rfl (Wp.r_iadd (pc := 154) o_X1_beginStep rfl (Wp.r_pfi (pc := 155) o_X1_beginStep rfl fk_C_54_7 (Wp.f_al0_gfr (pc := 158) o_X1_beginStep rfl rfl rfl fk_C_9_2 (Wp.r_dup_r (pc := 162) o_X1_beginStep rfl (Wp.r_gfi (pc := 163) o_X1_beginStep rfl fk_C_54_8 (Wp.r_iconst (pc := 166) o_X1_beginStep rfl (Wp.r_iadd (pc := 167) o_X1_beginStep rfl (Wp.r_pfi (pc := 168) o_X1_beginStep rfl fk_C_54_8 (show Y_X1_beginStep d Q 171 [(0, .ref 9), (1, .int v1)] [] (pI (pI s8 54 7 ((s8.1 54 7) + 1)) 54 8 (((pI s8 54 7 ((s8.1 54 7) + 1)).1 54 8) + 1)) from ?_))))))))))))
  revert H
  generalize pI (pI s8 54 7 ((s8.1 54 7) + 1)) 54 8 (((pI s8 54 7 ((s8.1 54 7) + 1)).1 54 8) + 1) = s9
  intro H
  have H := nmx_e H
  refine Wp.f_al0_gfr (pc := 171) o_X1_beginStep rfl rfl rfl fk_C_9_0 (Wp.r_cv1 (pc := 175) o_X1_beginStep rfl fk_C_7_0 (⟨rm8_ rfl, ?_⟩))
  refine w_X7_advance (d := d)  ?_
  refine oq_bd H (fun _ s11 H => ?_)
  exact Wp.r_iconst (pc := 178) o_X1_beginStep rfl (Wp.r_ireturn (pc := 179) o_X1_beginStep rfl (⟨rfl, H⟩))
noncomputable def f_X1_beginStep_b99 (v1 : Int32) (v2 : Int32) (s : Sg) : Option (Int32 × Sg) :=
  if v2 = 0 then
    f_X1_beginStep_b129 v1 s
  else
    ck (inr (s.1 9 4) 3) (
    nmx (pI s 23 ((s.1 9 4).toNatClampNeg) (s.1 54 7)) (fun s13 =>
    f_X1_beginStep_b129 v1 (pI s13 9 4 ((s13.1 9 4) + 1))
    )
    )
set_option maxRecDepth 100000 in
theorem w_X1_beginStep_b99 {d : Nat} {Q : Qt} (v1 : Int32) (v2 : Int32) (s : Sg) (H : OQ (f_X1_beginStep_b99 v1 v2 s) (fun r9 s9 => Q (some (.int r9)) s9)) : Y_X1_beginStep d Q 99 [(0, .ref 9), (1, .int v1), (2, .int v2)] [] s := by
  unfold f_X1_beginStep_b99 at H
  refine Wp.r_iload_n2 (pc := 99) o_X1_beginStep rfl rfl (Wp.r_if_eq (pc := 100) o_X1_beginStep rfl (fun c9 => ?_) (fun c9 => ?_))
  · have H := oq_t c9 H
    exact Wp.weak2 [0, 1] (w_X1_beginStep_b129 _ _ H) rfl
  · have H := oq_f c9 H
    obtain ⟨hc12, H⟩ := oq_ck H
    refine Wp.f_al0_gfr (pc := 103) o_X1_beginStep rfl rfl rfl fk_C_9_3 (Wp.f_al0_gfi (pc := 107) o_X1_beginStep rfl rfl rfl fk_C_9_4 (Wp.f_al0_gfr (pc := 111) o_X1_beginStep rfl rfl rfl fk_C_9_2 (Wp.r_gfi (pc := 115) o_X1_beginStep rfl fk_C_54_7 (Wp.r_iastore (pc := 118) o_X1_beginStep rfl ak_C_23 (⟨hc12, ?_⟩)))))
    revert H
    generalize pI s 23 ((s.1 9 4).toNatClampNeg) (s.1 54 7) = s13
    intro H
    have H := nmx_e H
    exact Wp.r_aload_n0 (pc := 119) o_X1_beginStep rfl rfl (Wp.r_dup_r (pc := 120) o_X1_beginStep rfl (Wp.r_gfi (pc := 121) o_X1_beginStep rfl fk_C_9_4 (Wp.r_iconst (pc := 124) o_X1_beginStep rfl (Wp.r_iadd (pc := 125) o_X1_beginStep rfl (Wp.r_pfi (pc := 126) o_X1_beginStep rfl fk_C_9_4 (Wp.weak2 [0, 1] (w_X1_beginStep_b129 _ _ H) rfl))))))
noncomputable def f_X1_beginStep_b26 (v1 : Int32) (t0 : Int32) (s : Sg) : Option (Int32 × Sg) :=
  bd (f_X1_isStepWord v1 s) (fun r1 s2 =>
  if r1 = 0 then
    bd (f_X7_wrong 2 s2) (fun r3 s4 =>
    ck (r3 = 0 ∨ r3 = 1) (some (r3, s4))
    )
  else
    if 30 ≤ (s2.1 54 8) then
      bd (f_X7_wrong 6 s2) (fun r5 s6 =>
      ck (r5 = 0 ∨ r5 = 1) (some (r5, s6))
      )
    else
      if (s2.1 54 7) < 60 then
        if t0 = 0 then
          f_X1_beginStep_b99 v1 t0 s2
        else
          if (s2.1 9 4) < 3 then
            f_X1_beginStep_b99 v1 t0 s2
          else
            bd (f_X7_wrong 7 s2) (fun r14 s15 =>
            ck (r14 = 0 ∨ r14 = 1) (some (r14, s15))
            )
      else
        bd (f_X7_wrong 6 s2) (fun r16 s17 =>
        ck (r16 = 0 ∨ r16 = 1) (some (r16, s17))
        )
  )
set_option maxRecDepth 100000 in
theorem w_X1_beginStep_b26 {d : Nat} {Q : Qt} (v1 : Int32) (t0 : Int32) (s : Sg) (H : OQ (f_X1_beginStep_b26 v1 t0 s) (fun r9 s9 => Q (some (.int r9)) s9)) : Y_X1_beginStep d Q 26 [(0, .ref 9), (1, .int v1)] [.int t0] s := by
  unfold f_X1_beginStep_b26 at H
  refine Wp.r_istore_n2 (pc := 26) o_X1_beginStep rfl (Wp.r_iload_n1 (pc := 27) o_X1_beginStep rfl rfl (Wp.r_cs1 (pc := 28) o_X1_beginStep rfl (⟨rm8_ rfl, ?_⟩)))
  refine w_X1_isStepWord (d := d + 1) _ ?_
  refine oq_bd H (fun r1 s2 H => ?_)
  refine Wp.r_if_ne (pc := 31) o_X1_beginStep rfl (fun c9 => ?_) (fun c9 => ?_)
  · have H := oq_t c9 H
    refine Wp.f_al0_gfr (pc := 34) o_X1_beginStep rfl rfl rfl fk_C_9_0 (Wp.r_iconst (pc := 38) o_X1_beginStep rfl (Wp.r_cv2 (pc := 39) o_X1_beginStep rfl fk_C_7_0 (⟨rm8_ rfl, ?_⟩)))
    refine w_X7_wrong (d := d + 2) _ ?_
    refine oq_bd H (fun r3 s4 H => ?_)
    obtain ⟨c9, H⟩ := oq_ck H
    exact Wp.r_ireturn (pc := 42) o_X1_beginStep rfl (⟨b01_n c9, H⟩)
  · have H := oq_f c9 H
    refine Wp.f_al0_gfr (pc := 43) o_X1_beginStep rfl rfl rfl fk_C_9_2 (Wp.r_gfi (pc := 47) o_X1_beginStep rfl fk_C_54_8 (Wp.r_bipush (pc := 50) o_X1_beginStep rfl (Wp.r_icmp_ge (pc := 52) o_X1_beginStep rfl (fun c9 => ?_) (fun c9 => ?_))))
    · have H := oq_t c9 H
      refine Wp.f_al0_gfr (pc := 67) o_X1_beginStep rfl rfl rfl fk_C_9_0 (Wp.r_bipush (pc := 71) o_X1_beginStep rfl (Wp.r_cv2 (pc := 73) o_X1_beginStep rfl fk_C_7_0 (⟨rm8_ rfl, ?_⟩)))
      refine w_X7_wrong (d := d + 2) _ ?_
      refine oq_bd H (fun r5 s6 H => ?_)
      obtain ⟨c9, H⟩ := oq_ck H
      exact Wp.r_ireturn (pc := 76) o_X1_beginStep rfl (⟨b01_n c9, H⟩)
    · have H := oq_f c9 H
      refine Wp.f_al0_gfr (pc := 55) o_X1_beginStep rfl rfl rfl fk_C_9_2 (Wp.r_gfi (pc := 59) o_X1_beginStep rfl fk_C_54_7 (Wp.r_bipush (pc := 62) o_X1_beginStep rfl (Wp.r_icmp_lt (pc := 64) o_X1_beginStep rfl (fun c9 => ?_) (fun c9 => ?_))))
      · have H := oq_t c9 H
        refine Wp.r_iload_n2 (pc := 77) o_X1_beginStep rfl rfl (Wp.r_if_eq (pc := 78) o_X1_beginStep rfl (fun c9 => ?_) (fun c9 => ?_))
        · have H := oq_t c9 H
          exact Wp.weak2 [1, 2, 0] (w_X1_beginStep_b99 _ _ _ H) rfl
        · have H := oq_f c9 H
          refine Wp.f_al0_gfi (pc := 81) o_X1_beginStep rfl rfl rfl fk_C_9_4 (Wp.r_iconst (pc := 85) o_X1_beginStep rfl (Wp.r_icmp_lt (pc := 86) o_X1_beginStep rfl (fun c9 => ?_) (fun c9 => ?_)))
          · have H := oq_t c9 H
            exact Wp.weak2 [1, 2, 0] (w_X1_beginStep_b99 _ _ _ H) rfl
          · have H := oq_f c9 H
            refine Wp.f_al0_gfr (pc := 89) o_X1_beginStep rfl rfl rfl fk_C_9_0 (Wp.r_bipush (pc := 93) o_X1_beginStep rfl (Wp.r_cv2 (pc := 95) o_X1_beginStep rfl fk_C_7_0 (⟨rm8_ rfl, ?_⟩)))
            refine w_X7_wrong (d := d + 2) _ ?_
            refine oq_bd H (fun r14 s15 H => ?_)
            obtain ⟨c9, H⟩ := oq_ck H
            exact Wp.r_ireturn (pc := 98) o_X1_beginStep rfl (⟨b01_n c9, H⟩)
      · have H := oq_f c9 H
        refine Wp.f_al0_gfr (pc := 67) o_X1_beginStep rfl rfl rfl fk_C_9_0 (Wp.r_bipush (pc := 71) o_X1_beginStep rfl (Wp.r_cv2 (pc := 73) o_X1_beginStep rfl fk_C_7_0 (⟨rm8_ rfl, ?_⟩)))
        refine w_X7_wrong (d := d + 2) _ ?_
        refine oq_bd H (fun r16 s17 H => ?_)
        obtain ⟨c9, H⟩ := oq_ck H
        exact Wp.r_ireturn (pc := 76) o_X1_beginStep rfl (⟨b01_n c9, H⟩)
noncomputable def f_X1_beginStep_b21 (v1 : Int32) (s : Sg) : Option (Int32 × Sg) :=
  f_X1_beginStep_b26 v1 1 s
set_option maxRecDepth 100000 in
theorem w_X1_beginStep_b21 {d : Nat} {Q : Qt} (v1 : Int32) (s : Sg) (H : OQ (f_X1_beginStep_b21 v1 s) (fun r9 s9 => Q (some (.int r9)) s9)) : Y_X1_beginStep d Q 21 [(0, .ref 9), (1, .int v1)] [] s := by
  unfold f_X1_beginStep_b21 at H
  exact Wp.r_iconst (pc := 21) o_X1_beginStep rfl (Wp.r_goto (pc := 22) o_X1_beginStep rfl (Wp.weak2 [0, 1] (w_X1_beginStep_b26 _ _ _ H) rfl))
noncomputable def f_X1_beginStep  (s : Sg) : Option (Int32 × Sg) :=
  if (s.1 7 3) = 124 then
    f_X1_beginStep_b21 (s.1 7 3) s
  else
    if (s.1 7 3) = 128 then
      f_X1_beginStep_b21 (s.1 7 3) s
    else
      f_X1_beginStep_b26 (s.1 7 3) 0 s
set_option maxRecDepth 100000 in
theorem w_X1_beginStep {d : Nat} {s : Sg} {Q : Qt}  (H : OQ (f_X1_beginStep  s) (fun r9 s9 => Q (some (.int r9)) s9)) : WpM SHC MT (d + 4) 14 [.ref 9] s Q := by
  refine WpM.enter me_X1_beginStep rfl rfl ?_
  show Y_X1_beginStep d Q 0 [(0, .ref 9)] [] s
  unfold f_X1_beginStep at H
  refine Wp.f_al0_gfr (pc := 0) o_X1_beginStep rfl rfl rfl fk_C_9_0 (Wp.r_gfi (pc := 4) o_X1_beginStep rfl fk_C_7_3 (Wp.r_istore_n1 (pc := 7) o_X1_beginStep rfl (Wp.r_iload_n1 (pc := 8) o_X1_beginStep rfl rfl (Wp.r_bipush (pc := 9) o_X1_beginStep rfl (Wp.r_icmp_eq (pc := 11) o_X1_beginStep rfl (fun c9 => ?_) (fun c9 => ?_))))))
  · have H := oq_t c9 H
    exact Wp.weak2 [1, 0] (w_X1_beginStep_b21 _ _ H) rfl
  · have H := oq_f c9 H
    refine Wp.r_iload_n1 (pc := 14) o_X1_beginStep rfl rfl (Wp.r_sipush (pc := 15) o_X1_beginStep rfl (Wp.r_icmp_ne (pc := 18) o_X1_beginStep rfl (fun c9 => ?_) (fun c9 => ?_)))
    · have H := oq_t c9 H
      exact Wp.weak2 [1, 0] (w_X1_beginStep_b21 _ _ H) rfl
    · have H := oq_f c9 H
      exact Wp.r_iconst (pc := 25) o_X1_beginStep rfl (Wp.weak2 [1, 0] (w_X1_beginStep_b26 _ _ _ H) rfl)
noncomputable abbrev Y_X1_takeNumber (d : Nat) (Q : Qt) : Xt := Wp SHC (WpM SHC MT (d + 4)) (flat2 cq_X1_takeNumber) (some .boolean) Q
noncomputable def f_X1_takeNumber (a1 : Int32) (a2 : Int32) (a3 : Int32) (s : Sg) : Option (Int32 × Sg) :=
  bd (f_X7_passNumber a2 a3 s) (fun r1 s2 =>
  if r1 = 0 then
    some (0, s2)
  else
    ck (inr a1 60) (
    nmx (pI s2 74 a1.toNatClampNeg (s2.1 7 7)) (fun s4 =>
    some (1, s4)
    )
    )
  )
set_option maxRecDepth 100000 in
theorem w_X1_takeNumber {d : Nat} {s : Sg} {Q : Qt} (a1 : Int32) (a2 : Int32) (a3 : Int32) (H : OQ (f_X1_takeNumber a1 a2 a3 s) (fun r9 s9 => Q (some (.int r9)) s9)) : WpM SHC MT (d + 5) 19 [.ref 9, .int a1, .int a2, .int a3] s Q := by
  refine WpM.enter me_X1_takeNumber rfl rfl ?_
  show Y_X1_takeNumber d Q 0 [(0, .ref 9), (1, .int a1), (2, .int a2), (3, .int a3)] [] s
  unfold f_X1_takeNumber at H
  refine Wp.f_al0_gfr (pc := 0) o_X1_takeNumber rfl rfl rfl fk_C_9_0 (Wp.r_iload_n2 (pc := 4) o_X1_takeNumber rfl rfl (Wp.r_iload_n3 (pc := 5) o_X1_takeNumber rfl rfl (Wp.r_cv3 (pc := 6) o_X1_takeNumber rfl fk_C_7_0 (⟨rm8_ rfl, ?_⟩))))
  refine w_X7_passNumber (d := d) _ _ ?_
  refine oq_bd H (fun r1 s2 H => ?_)
  refine Wp.r_if_ne (pc := 9) o_X1_takeNumber rfl (fun c9 => ?_) (fun c9 => ?_)
  · have H := oq_t c9 H
    exact Wp.r_iconst (pc := 12) o_X1_takeNumber rfl (Wp.r_ireturn (pc := 13) o_X1_takeNumber rfl (⟨rfl, H⟩))
  · have H := oq_f c9 H
    obtain ⟨hc3, H⟩ := oq_ck H
    refine Wp.f_al0_gfr (pc := 14) o_X1_takeNumber rfl rfl rfl fk_C_9_2 (Wp.r_gfr (pc := 18) o_X1_takeNumber rfl fk_C_54_2 (Wp.r_iload_n1 (pc := 21) o_X1_takeNumber rfl rfl (Wp.f_al0_gfr (pc := 22) o_X1_takeNumber rfl rfl rfl fk_C_9_0 (Wp.r_gfi (pc := 26) o_X1_takeNumber rfl fk_C_7_7 (Wp.r_iastore (pc := 29) o_X1_takeNumber rfl ak_C_74 (⟨hc3, ?_⟩))))))
    revert H
    generalize pI s2 74 a1.toNatClampNeg (s2.1 7 7) = s4
    intro H
    have H := nmx_e H
    exact Wp.r_iconst (pc := 30) o_X1_takeNumber rfl (Wp.r_ireturn (pc := 31) o_X1_takeNumber rfl (⟨rfl, H⟩))
noncomputable abbrev Y_X4_numberOf (d : Nat) (Q : Qt) : Xt := Wp SHC (WpM SHC MT (d + 0)) (flat2 cq_X4_numberOf) (some .int) Q
noncomputable def f_X4_numberOf_b3 : Nat → Int64 → Int32 → Int32 → Sg → Option (Int32 × Sg)
  | 0, _, _, _, _ => none
  | n + 1, v1, v3, v4, s =>
    if (s.1 25 12) ≤ v4 then
      some ((-1), s)
    else
      ck (inr v4 24) (
      if (lg_cmp (s.2 28 v4.toNatClampNeg) v1) = 0 then
        if (s.1 29 v4.toNatClampNeg) = v3 then
          some (s.1 30 v4.toNatClampNeg, s)
        else
          (f_X4_numberOf_b3 n) v1 v3 (v4 + 1) s
      else
        (f_X4_numberOf_b3 n) v1 v3 (v4 + 1) s
      )
set_option maxRecDepth 100000 in
theorem w_X4_numberOf_b3 {d : Nat} {Q : Qt} (n : Nat) : ∀ (v1 : Int64) (v3 : Int32) (v4 : Int32) (s : Sg), OQ (f_X4_numberOf_b3 n v1 v3 v4 s) (fun r9 s9 => Q (some (.int r9)) s9) → Y_X4_numberOf d Q 3 [(0, .ref 25), (1, .long v1), (3, .int v3), (4, .int v4)] [] s := by
  induction n with
  | zero => intro v1 v3 v4 s H; exact H.elim
  | succ n ih =>
    intro v1 v3 v4 s H
    unfold f_X4_numberOf_b3 at H
    refine Wp.r_iload (pc := 3) o_X4_numberOf rfl rfl (Wp.f_al0_gfi (pc := 5) o_X4_numberOf rfl rfl rfl fk_C_25_12 (Wp.r_icmp_ge (pc := 9) o_X4_numberOf rfl (fun c9 => ?_) (fun c9 => ?_)))
    · have H := oq_t c9 H
      exact Wp.r_iconst (pc := 49) o_X4_numberOf rfl (Wp.r_ireturn (pc := 50) o_X4_numberOf rfl (⟨rfl, H⟩))
    · have H := oq_f c9 H
      obtain ⟨hc1, H⟩ := oq_ck H
      refine Wp.f_al0_gfr (pc := 12) o_X4_numberOf rfl rfl rfl fk_C_25_0 (Wp.r_iload (pc := 16) o_X4_numberOf rfl rfl (Wp.r_laload (pc := 18) o_X4_numberOf rfl ak_C_28 (⟨hc1, ?_⟩)))
      refine Wp.r_lload_n1 (pc := 19) o_X4_numberOf rfl rfl (Wp.r_lcmp (pc := 20) o_X4_numberOf rfl (Wp.r_if_ne (pc := 21) o_X4_numberOf rfl (fun c9 => ?_) (fun c9 => ?_)))
      · have H := oq_t c9 H
        refine Wp.f_al0_gfr (pc := 24) o_X4_numberOf rfl rfl rfl fk_C_25_1 (Wp.r_iload (pc := 28) o_X4_numberOf rfl rfl (Wp.r_iaload (pc := 30) o_X4_numberOf rfl ak_C_29 (⟨hc1, ?_⟩)))
        refine Wp.r_iload_n3 (pc := 31) o_X4_numberOf rfl rfl (Wp.r_icmp_ne (pc := 32) o_X4_numberOf rfl (fun c9 => ?_) (fun c9 => ?_))
        · have H := oq_t c9 H
          refine Wp.f_al0_gfr (pc := 35) o_X4_numberOf rfl rfl rfl fk_C_25_2 (Wp.r_iload (pc := 39) o_X4_numberOf rfl rfl (Wp.r_iaload (pc := 41) o_X4_numberOf rfl ak_C_30 (⟨hc1, ?_⟩)))
          exact Wp.r_ireturn (pc := 42) o_X4_numberOf rfl (⟨rfl, H⟩)
        · have H := oq_f c9 H
          exact Wp.f_iinc_goto (pc := 43) o_X4_numberOf rfl rfl rfl (Wp.weak2 [1, 2, 3, 0] (ih _ _ _ _ H) rfl)
      · have H := oq_f c9 H
        exact Wp.f_iinc_goto (pc := 43) o_X4_numberOf rfl rfl rfl (Wp.weak2 [1, 2, 3, 0] (ih _ _ _ _ H) rfl)
noncomputable def f_X4_numberOf (a1 : Int64) (a2 : Int32) (s : Sg) : Option (Int32 × Sg) :=
  f_X4_numberOf_b3 BIG a1 a2 0 s
set_option maxRecDepth 100000 in
theorem w_X4_numberOf {d : Nat} {s : Sg} {Q : Qt} (a1 : Int64) (a2 : Int32) (H : OQ (f_X4_numberOf a1 a2 s) (fun r9 s9 => Q (some (.int r9)) s9)) : WpM SHC MT (d + 1) 52 [.ref 25, .long a1, .int a2] s Q := by
  refine WpM.enter me_X4_numberOf rfl rfl ?_
  show Y_X4_numberOf d Q 0 [(0, .ref 25), (1, .long a1), (3, .int a2)] [] s
  unfold f_X4_numberOf at H
  exact Wp.r_iconst (pc := 0) o_X4_numberOf rfl (Wp.r_istore (pc := 1) o_X4_numberOf rfl (Wp.weak2 [1, 2, 3, 0] (w_X4_numberOf_b3 _ _ _ _ _ H) rfl))
noncomputable abbrev Y_X7_findName_25 (d : Nat) (Q : Qt) : Xt := Wp SHC (WpM SHC MT (d + 1)) (flat2 cq_X7_findName) (some .boolean) Q
noncomputable def f_X7_findName_25 (a2 : Int32) (s : Sg) : Option (Int32 × Sg) :=
  if (s.1 7 3) = 1 then
    bd (f_X4_numberOf (s.2 7 6) a2 s) (fun r1 s2 =>
    if ((pI s2 7 7 r1).1 7 7) = (-1) then
      bd (f_X7_wrong 3 (pI s2 7 7 r1)) (fun r3 s4 =>
      if r3 = 0 then
        some (0, s4)
      else
        some (1, s4)
      )
    else
      some (1, pI s2 7 7 r1)
    )
  else
    bd (f_X7_wrong 2 s) (fun r5 s6 =>
    ck (r5 = 0 ∨ r5 = 1) (some (r5, s6))
    )
set_option maxRecDepth 100000 in
theorem w_X7_findName_25 {d : Nat} {s : Sg} {Q : Qt} (a2 : Int32) (H : OQ (f_X7_findName_25 a2 s) (fun r9 s9 => Q (some (.int r9)) s9)) : WpM SHC MT (d + 2) 84 [.ref 7, .ref 25, .int a2] s Q := by
  refine WpM.enter me_X7_findName rfl rfl ?_
  show Y_X7_findName_25 d Q 0 [(0, .ref 7), (1, .ref 25), (2, .int a2)] [] s
  unfold f_X7_findName_25 at H
  refine Wp.f_al0_gfi (pc := 0) o_X7_findName rfl rfl rfl fk_C_7_3 (Wp.r_iconst (pc := 4) o_X7_findName rfl (Wp.r_icmp_eq (pc := 5) o_X7_findName rfl (fun c9 => ?_) (fun c9 => ?_)))
  · have H := oq_t c9 H
    refine Wp.r_aload_n0 (pc := 14) o_X7_findName rfl rfl (Wp.r_aload_n1 (pc := 15) o_X7_findName rfl rfl (Wp.f_al0_gfl (pc := 16) o_X7_findName rfl rfl rfl fk_C_7_6 (Wp.r_iload_n2 (pc := 20) o_X7_findName rfl rfl (Wp.r_cv3 (pc := 21) o_X7_findName rfl fk_C_25_0 (⟨rm8_ rfl, ?_⟩)))))
    refine w_X4_numberOf (d := d) _ _ ?_
    refine oq_bd H (fun r1 s2 H => ?_)
    refine Wp.r_pfi (pc := 24) o_X7_findName rfl fk_C_7_7 (Wp.f_al0_gfi (pc := 27) o_X7_findName rfl rfl rfl fk_C_7_7 (Wp.r_iconst (pc := 31) o_X7_findName rfl (Wp.r_icmp_ne (pc := 32) o_X7_findName rfl (fun c9 => ?_) (fun c9 => ?_))))
    · have H := oq_t c9 H
      refine Wp.f_al0_iconst (pc := 35) o_X7_findName rfl rfl rfl (Wp.r_cv2 (pc := 37) o_X7_findName rfl fk_C_7_0 (⟨rm8_ rfl, ?_⟩))
      refine w_X7_wrong (d := d) _ ?_
      refine oq_bd H (fun r3 s4 H => ?_)
      refine Wp.r_if_eq (pc := 40) o_X7_findName rfl (fun c9 => ?_) (fun c9 => ?_)
      · have H := oq_t c9 H
        exact Wp.r_iconst (pc := 47) o_X7_findName rfl (Wp.r_ireturn (pc := 48) o_X7_findName rfl (⟨rfl, H⟩))
      · have H := oq_f c9 H
        exact Wp.r_iconst (pc := 43) o_X7_findName rfl (Wp.r_goto (pc := 44) o_X7_findName rfl (Wp.r_ireturn (pc := 48) o_X7_findName rfl (⟨rfl, H⟩)))
    · have H := oq_f c9 H
      exact Wp.r_iconst (pc := 43) o_X7_findName rfl (Wp.r_goto (pc := 44) o_X7_findName rfl (Wp.r_ireturn (pc := 48) o_X7_findName rfl (⟨rfl, H⟩)))
  · have H := oq_f c9 H
    refine Wp.f_al0_iconst (pc := 8) o_X7_findName rfl rfl rfl (Wp.r_cv2 (pc := 10) o_X7_findName rfl fk_C_7_0 (⟨rm8_ rfl, ?_⟩))
    refine w_X7_wrong (d := d) _ ?_
    refine oq_bd H (fun r5 s6 H => ?_)
    obtain ⟨c9, H⟩ := oq_ck H
    exact Wp.r_ireturn (pc := 13) o_X7_findName rfl (⟨b01_n c9, H⟩)
noncomputable abbrev Y_X1_takeGrocer (d : Nat) (Q : Qt) : Xt := Wp SHC (WpM SHC MT (d + 3)) (flat2 cq_X1_takeGrocer) (some .boolean) Q
noncomputable def f_X1_takeGrocer (a1 : Int32) (s : Sg) : Option (Int32 × Sg) :=
  bd (f_X7_findName_25 112 s) (fun r1 s2 =>
  if r1 = 0 then
    some (0, s2)
  else
    ck (inr a1 60) (
    nmx (pI s2 73 a1.toNatClampNeg (s2.1 7 7)) (fun s4 =>
    bd (f_X7_advance s4) (fun _ s6 =>
    some (1, s6)
    )
    )
    )
  )
set_option maxRecDepth 100000 in
theorem w_X1_takeGrocer {d : Nat} {s : Sg} {Q : Qt} (a1 : Int32) (H : OQ (f_X1_takeGrocer a1 s) (fun r9 s9 => Q (some (.int r9)) s9)) : WpM SHC MT (d + 4) 18 [.ref 9, .int a1] s Q := by
  refine WpM.enter me_X1_takeGrocer rfl rfl ?_
  show Y_X1_takeGrocer d Q 0 [(0, .ref 9), (1, .int a1)] [] s
  unfold f_X1_takeGrocer at H
  refine Wp.f_al0_gfr (pc := 0) o_X1_takeGrocer rfl rfl rfl fk_C_9_0 (Wp.f_al0_gfr (pc := 4) o_X1_takeGrocer rfl rfl rfl fk_C_9_1 (Wp.r_bipush (pc := 8) o_X1_takeGrocer rfl (Wp.r_cv3 (pc := 10) o_X1_takeGrocer rfl fk_C_7_0 (⟨rm8_ rfl, ?_⟩))))
  refine w_X7_findName_25 (d := d + 1) _ ?_
  refine oq_bd H (fun r1 s2 H => ?_)
  refine Wp.r_if_ne (pc := 13) o_X1_takeGrocer rfl (fun c9 => ?_) (fun c9 => ?_)
  · have H := oq_t c9 H
    exact Wp.r_iconst (pc := 16) o_X1_takeGrocer rfl (Wp.r_ireturn (pc := 17) o_X1_takeGrocer rfl (⟨rfl, H⟩))
  · have H := oq_f c9 H
    obtain ⟨hc3, H⟩ := oq_ck H
    refine Wp.f_al0_gfr (pc := 18) o_X1_takeGrocer rfl rfl rfl fk_C_9_2 (Wp.r_gfr (pc := 22) o_X1_takeGrocer rfl fk_C_54_1 (Wp.r_iload_n1 (pc := 25) o_X1_takeGrocer rfl rfl (Wp.f_al0_gfr (pc := 26) o_X1_takeGrocer rfl rfl rfl fk_C_9_0 (Wp.r_gfi (pc := 30) o_X1_takeGrocer rfl fk_C_7_7 (Wp.r_iastore (pc := 33) o_X1_takeGrocer rfl ak_C_73 (⟨hc3, ?_⟩))))))
    revert H
    generalize pI s2 73 a1.toNatClampNeg (s2.1 7 7) = s4
    intro H
    have H := nmx_e H
    refine Wp.f_al0_gfr (pc := 34) o_X1_takeGrocer rfl rfl rfl fk_C_9_0 (Wp.r_cv1 (pc := 38) o_X1_takeGrocer rfl fk_C_7_0 (⟨rm8_ rfl, ?_⟩))
    refine w_X7_advance (d := d)  ?_
    refine oq_bd H (fun _ s6 H => ?_)
    exact Wp.r_iconst (pc := 41) o_X1_takeGrocer rfl (Wp.r_ireturn (pc := 42) o_X1_takeGrocer rfl (⟨rfl, H⟩))
noncomputable abbrev Y_X4_isGone (d : Nat) (Q : Qt) : Xt := Wp SHC (WpM SHC MT (d + 0)) (flat2 cq_X4_isGone) (some .boolean) Q
noncomputable def f_X4_isGone (a1 : Int32) (s : Sg) : Option (Int32 × Sg) :=
  if (((s.1 25 17) >>> (a1 &&& 31)) &&& 1) = 0 then
    some (0, s)
  else
    some (1, s)
set_option maxRecDepth 100000 in
theorem w_X4_isGone {d : Nat} {s : Sg} {Q : Qt} (a1 : Int32) (H : OQ (f_X4_isGone a1 s) (fun r9 s9 => Q (some (.int r9)) s9)) : WpM SHC MT (d + 1) 55 [.ref 25, .int a1] s Q := by
  refine WpM.enter me_X4_isGone rfl rfl ?_
  show Y_X4_isGone d Q 0 [(0, .ref 25), (1, .int a1)] [] s
  unfold f_X4_isGone at H
  refine Wp.f_al0_gfi (pc := 0) o_X4_isGone rfl rfl rfl fk_C_25_17 (Wp.r_iload_n1 (pc := 4) o_X4_isGone rfl rfl (Wp.r_ishr (pc := 5) o_X4_isGone rfl (Wp.r_iconst (pc := 6) o_X4_isGone rfl (Wp.r_iand (pc := 7) o_X4_isGone rfl (Wp.r_if_eq (pc := 8) o_X4_isGone rfl (fun c9 => ?_) (fun c9 => ?_))))))
  · have H := oq_t c9 H
    exact Wp.r_iconst (pc := 15) o_X4_isGone rfl (Wp.r_ireturn (pc := 16) o_X4_isGone rfl (⟨rfl, H⟩))
  · have H := oq_f c9 H
    exact Wp.r_iconst (pc := 11) o_X4_isGone rfl (Wp.r_goto (pc := 12) o_X4_isGone rfl (Wp.r_ireturn (pc := 16) o_X4_isGone rfl (⟨rfl, H⟩)))
noncomputable abbrev Y_X1_takeHouse_75 (d : Nat) (Q : Qt) : Xt := Wp SHC (WpM SHC MT (d + 3)) (flat2 cq_X1_takeHouse) (some .boolean) Q
noncomputable def f_X1_takeHouse_75 (a2 : Int32) (s : Sg) : Option (Int32 × Sg) :=
  bd (f_X7_findName_25 100 s) (fun r1 s2 =>
  if r1 = 0 then
    some (0, s2)
  else
    bd (f_X4_isGone (s2.1 7 7) s2) (fun r3 s4 =>
    if r3 = 0 then
      ck (inr a2 60) (
      nmx (pI s4 75 a2.toNatClampNeg (s4.1 7 7)) (fun s6 =>
      bd (f_X7_advance s6) (fun _ s8 =>
      some (1, s8)
      )
      )
      )
    else
      bd (f_X7_wrong 5 s4) (fun r9 s10 =>
      ck (r9 = 0 ∨ r9 = 1) (some (r9, s10))
      )
    )
  )
set_option maxRecDepth 100000 in
theorem w_X1_takeHouse_75 {d : Nat} {s : Sg} {Q : Qt} (a2 : Int32) (H : OQ (f_X1_takeHouse_75 a2 s) (fun r9 s9 => Q (some (.int r9)) s9)) : WpM SHC MT (d + 4) 17 [.ref 9, .ref 75, .int a2] s Q := by
  refine WpM.enter me_X1_takeHouse rfl rfl ?_
  show Y_X1_takeHouse_75 d Q 0 [(0, .ref 9), (1, .ref 75), (2, .int a2)] [] s
  unfold f_X1_takeHouse_75 at H
  refine Wp.f_al0_gfr (pc := 0) o_X1_takeHouse rfl rfl rfl fk_C_9_0 (Wp.f_al0_gfr (pc := 4) o_X1_takeHouse rfl rfl rfl fk_C_9_1 (Wp.r_bipush (pc := 8) o_X1_takeHouse rfl (Wp.r_cv3 (pc := 10) o_X1_takeHouse rfl fk_C_7_0 (⟨rm8_ rfl, ?_⟩))))
  refine w_X7_findName_25 (d := d + 1) _ ?_
  refine oq_bd H (fun r1 s2 H => ?_)
  refine Wp.r_if_ne (pc := 13) o_X1_takeHouse rfl (fun c9 => ?_) (fun c9 => ?_)
  · have H := oq_t c9 H
    exact Wp.r_iconst (pc := 16) o_X1_takeHouse rfl (Wp.r_ireturn (pc := 17) o_X1_takeHouse rfl (⟨rfl, H⟩))
  · have H := oq_f c9 H
    refine Wp.f_al0_gfr (pc := 18) o_X1_takeHouse rfl rfl rfl fk_C_9_1 (Wp.f_al0_gfr (pc := 22) o_X1_takeHouse rfl rfl rfl fk_C_9_0 (Wp.r_gfi (pc := 26) o_X1_takeHouse rfl fk_C_7_7 (Wp.r_cv2 (pc := 29) o_X1_takeHouse rfl fk_C_25_0 (⟨rm8_ rfl, ?_⟩))))
    refine w_X4_isGone (d := d + 2) _ ?_
    refine oq_bd H (fun r3 s4 H => ?_)
    refine Wp.r_if_eq (pc := 32) o_X1_takeHouse rfl (fun c9 => ?_) (fun c9 => ?_)
    · have H := oq_t c9 H
      obtain ⟨hc5, H⟩ := oq_ck H
      refine Wp.r_aload_n1 (pc := 44) o_X1_takeHouse rfl rfl (Wp.r_iload_n2 (pc := 45) o_X1_takeHouse rfl rfl (Wp.f_al0_gfr (pc := 46) o_X1_takeHouse rfl rfl rfl fk_C_9_0 (Wp.r_gfi (pc := 50) o_X1_takeHouse rfl fk_C_7_7 (Wp.r_iastore (pc := 53) o_X1_takeHouse rfl ak_C_75 (⟨hc5, ?_⟩)))))
      revert H
      generalize pI s4 75 a2.toNatClampNeg (s4.1 7 7) = s6
      intro H
      have H := nmx_e H
      refine Wp.f_al0_gfr (pc := 54) o_X1_takeHouse rfl rfl rfl fk_C_9_0 (Wp.r_cv1 (pc := 58) o_X1_takeHouse rfl fk_C_7_0 (⟨rm8_ rfl, ?_⟩))
      refine w_X7_advance (d := d)  ?_
      refine oq_bd H (fun _ s8 H => ?_)
      exact Wp.r_iconst (pc := 61) o_X1_takeHouse rfl (Wp.r_ireturn (pc := 62) o_X1_takeHouse rfl (⟨rfl, H⟩))
    · have H := oq_f c9 H
      refine Wp.f_al0_gfr (pc := 35) o_X1_takeHouse rfl rfl rfl fk_C_9_0 (Wp.r_iconst (pc := 39) o_X1_takeHouse rfl (Wp.r_cv2 (pc := 40) o_X1_takeHouse rfl fk_C_7_0 (⟨rm8_ rfl, ?_⟩)))
      refine w_X7_wrong (d := d + 2) _ ?_
      refine oq_bd H (fun r9 s10 H => ?_)
      obtain ⟨c9, H⟩ := oq_ck H
      exact Wp.r_ireturn (pc := 43) o_X1_takeHouse rfl (⟨b01_n c9, H⟩)
noncomputable abbrev Y_X1_takeHouse_73 (d : Nat) (Q : Qt) : Xt := Wp SHC (WpM SHC MT (d + 3)) (flat2 cq_X1_takeHouse) (some .boolean) Q
noncomputable def f_X1_takeHouse_73 (a2 : Int32) (s : Sg) : Option (Int32 × Sg) :=
  bd (f_X7_findName_25 100 s) (fun r1 s2 =>
  if r1 = 0 then
    some (0, s2)
  else
    bd (f_X4_isGone (s2.1 7 7) s2) (fun r3 s4 =>
    if r3 = 0 then
      ck (inr a2 60) (
      nmx (pI s4 73 a2.toNatClampNeg (s4.1 7 7)) (fun s6 =>
      bd (f_X7_advance s6) (fun _ s8 =>
      some (1, s8)
      )
      )
      )
    else
      bd (f_X7_wrong 5 s4) (fun r9 s10 =>
      ck (r9 = 0 ∨ r9 = 1) (some (r9, s10))
      )
    )
  )
set_option maxRecDepth 100000 in
theorem w_X1_takeHouse_73 {d : Nat} {s : Sg} {Q : Qt} (a2 : Int32) (H : OQ (f_X1_takeHouse_73 a2 s) (fun r9 s9 => Q (some (.int r9)) s9)) : WpM SHC MT (d + 4) 17 [.ref 9, .ref 73, .int a2] s Q := by
  refine WpM.enter me_X1_takeHouse rfl rfl ?_
  show Y_X1_takeHouse_73 d Q 0 [(0, .ref 9), (1, .ref 73), (2, .int a2)] [] s
  unfold f_X1_takeHouse_73 at H
  refine Wp.f_al0_gfr (pc := 0) o_X1_takeHouse rfl rfl rfl fk_C_9_0 (Wp.f_al0_gfr (pc := 4) o_X1_takeHouse rfl rfl rfl fk_C_9_1 (Wp.r_bipush (pc := 8) o_X1_takeHouse rfl (Wp.r_cv3 (pc := 10) o_X1_takeHouse rfl fk_C_7_0 (⟨rm8_ rfl, ?_⟩))))
  refine w_X7_findName_25 (d := d + 1) _ ?_
  refine oq_bd H (fun r1 s2 H => ?_)
  refine Wp.r_if_ne (pc := 13) o_X1_takeHouse rfl (fun c9 => ?_) (fun c9 => ?_)
  · have H := oq_t c9 H
    exact Wp.r_iconst (pc := 16) o_X1_takeHouse rfl (Wp.r_ireturn (pc := 17) o_X1_takeHouse rfl (⟨rfl, H⟩))
  · have H := oq_f c9 H
    refine Wp.f_al0_gfr (pc := 18) o_X1_takeHouse rfl rfl rfl fk_C_9_1 (Wp.f_al0_gfr (pc := 22) o_X1_takeHouse rfl rfl rfl fk_C_9_0 (Wp.r_gfi (pc := 26) o_X1_takeHouse rfl fk_C_7_7 (Wp.r_cv2 (pc := 29) o_X1_takeHouse rfl fk_C_25_0 (⟨rm8_ rfl, ?_⟩))))
    refine w_X4_isGone (d := d + 2) _ ?_
    refine oq_bd H (fun r3 s4 H => ?_)
    refine Wp.r_if_eq (pc := 32) o_X1_takeHouse rfl (fun c9 => ?_) (fun c9 => ?_)
    · have H := oq_t c9 H
      obtain ⟨hc5, H⟩ := oq_ck H
      refine Wp.r_aload_n1 (pc := 44) o_X1_takeHouse rfl rfl (Wp.r_iload_n2 (pc := 45) o_X1_takeHouse rfl rfl (Wp.f_al0_gfr (pc := 46) o_X1_takeHouse rfl rfl rfl fk_C_9_0 (Wp.r_gfi (pc := 50) o_X1_takeHouse rfl fk_C_7_7 (Wp.r_iastore (pc := 53) o_X1_takeHouse rfl ak_C_73 (⟨hc5, ?_⟩)))))
      revert H
      generalize pI s4 73 a2.toNatClampNeg (s4.1 7 7) = s6
      intro H
      have H := nmx_e H
      refine Wp.f_al0_gfr (pc := 54) o_X1_takeHouse rfl rfl rfl fk_C_9_0 (Wp.r_cv1 (pc := 58) o_X1_takeHouse rfl fk_C_7_0 (⟨rm8_ rfl, ?_⟩))
      refine w_X7_advance (d := d)  ?_
      refine oq_bd H (fun _ s8 H => ?_)
      exact Wp.r_iconst (pc := 61) o_X1_takeHouse rfl (Wp.r_ireturn (pc := 62) o_X1_takeHouse rfl (⟨rfl, H⟩))
    · have H := oq_f c9 H
      refine Wp.f_al0_gfr (pc := 35) o_X1_takeHouse rfl rfl rfl fk_C_9_0 (Wp.r_iconst (pc := 39) o_X1_takeHouse rfl (Wp.r_cv2 (pc := 40) o_X1_takeHouse rfl fk_C_7_0 (⟨rm8_ rfl, ?_⟩)))
      refine w_X7_wrong (d := d + 2) _ ?_
      refine oq_bd H (fun r9 s10 H => ?_)
      obtain ⟨c9, H⟩ := oq_ck H
      exact Wp.r_ireturn (pc := 43) o_X1_takeHouse rfl (⟨b01_n c9, H⟩)
noncomputable abbrev Y_X1_takeTest (d : Nat) (Q : Qt) : Xt := Wp SHC (WpM SHC MT (d + 4)) (flat2 cq_X1_takeTest) (some .boolean) Q
noncomputable def f_X1_takeTest_b40 (v1 : Int32) (s : Sg) : Option (Int32 × Sg) :=
  bd (f_X7_advance s) (fun _ s4 =>
  bd (f_X7_findName_25 104 s4) (fun r5 s6 =>
  if r5 = 0 then
    some (0, s6)
  else
    ck (inr v1 60) (
    nmx (pI s6 73 v1.toNatClampNeg (s6.1 7 7)) (fun s8 =>
    bd (f_X7_advance s8) (fun _ s10 =>
    some (1, s10)
    )
    )
    )
  )
  )
set_option maxRecDepth 100000 in
theorem w_X1_takeTest_b40 {d : Nat} {Q : Qt} (v1 : Int32) (s : Sg) (H : OQ (f_X1_takeTest_b40 v1 s) (fun r9 s9 => Q (some (.int r9)) s9)) : Y_X1_takeTest d Q 40 [(0, .ref 9), (1, .int v1)] [] s := by
  unfold f_X1_takeTest_b40 at H
  refine Wp.f_al0_gfr (pc := 40) o_X1_takeTest rfl rfl rfl fk_C_9_0 (Wp.r_cv1 (pc := 44) o_X1_takeTest rfl fk_C_7_0 (⟨rm8_ rfl, ?_⟩))
  refine w_X7_advance (d := d + 1)  ?_
  refine oq_bd H (fun _ s4 H => ?_)
  refine Wp.f_al0_gfr (pc := 47) o_X1_takeTest rfl rfl rfl fk_C_9_0 (Wp.f_al0_gfr (pc := 51) o_X1_takeTest rfl rfl rfl fk_C_9_1 (Wp.r_bipush (pc := 55) o_X1_takeTest rfl (Wp.r_cv3 (pc := 57) o_X1_takeTest rfl fk_C_7_0 (⟨rm8_ rfl, ?_⟩))))
  refine w_X7_findName_25 (d := d + 2) _ ?_
  refine oq_bd H (fun r5 s6 H => ?_)
  refine Wp.r_if_ne (pc := 60) o_X1_takeTest rfl (fun c9 => ?_) (fun c9 => ?_)
  · have H := oq_t c9 H
    exact Wp.r_iconst (pc := 63) o_X1_takeTest rfl (Wp.r_ireturn (pc := 64) o_X1_takeTest rfl (⟨rfl, H⟩))
  · have H := oq_f c9 H
    obtain ⟨hc7, H⟩ := oq_ck H
    refine Wp.f_al0_gfr (pc := 65) o_X1_takeTest rfl rfl rfl fk_C_9_2 (Wp.r_gfr (pc := 69) o_X1_takeTest rfl fk_C_54_1 (Wp.r_iload_n1 (pc := 72) o_X1_takeTest rfl rfl (Wp.f_al0_gfr (pc := 73) o_X1_takeTest rfl rfl rfl fk_C_9_0 (Wp.r_gfi (pc := 77) o_X1_takeTest rfl fk_C_7_7 (Wp.r_iastore (pc := 80) o_X1_takeTest rfl ak_C_73 (⟨hc7, ?_⟩))))))
    revert H
    generalize pI s6 73 v1.toNatClampNeg (s6.1 7 7) = s8
    intro H
    have H := nmx_e H
    refine Wp.f_al0_gfr (pc := 81) o_X1_takeTest rfl rfl rfl fk_C_9_0 (Wp.r_cv1 (pc := 85) o_X1_takeTest rfl fk_C_7_0 (⟨rm8_ rfl, ?_⟩))
    refine w_X7_advance (d := d + 1)  ?_
    refine oq_bd H (fun _ s10 H => ?_)
    exact Wp.r_iconst (pc := 88) o_X1_takeTest rfl (Wp.r_ireturn (pc := 89) o_X1_takeTest rfl (⟨rfl, H⟩))
noncomputable def f_X1_takeTest_b180 (v1 : Int32) (s : Sg) : Option (Int32 × Sg) :=
  bd (f_X7_advance s) (fun _ s17 =>
  bd (f_X7_passNumber 0 9999 s17) (fun r18 s19 =>
  ck (inr v1 60) (
  nmx (pI s19 74 v1.toNatClampNeg (s19.1 7 7)) (fun s21 =>
  ck (r18 = 0 ∨ r18 = 1) (some (r18, s21))
  )
  )
  )
  )
set_option maxRecDepth 100000 in
theorem w_X1_takeTest_b180 {d : Nat} {Q : Qt} (v1 : Int32) (s : Sg) (H : OQ (f_X1_takeTest_b180 v1 s) (fun r9 s9 => Q (some (.int r9)) s9)) : Y_X1_takeTest d Q 180 [(0, .ref 9), (1, .int v1)] [] s := by
  unfold f_X1_takeTest_b180 at H
  refine Wp.f_al0_gfr (pc := 180) o_X1_takeTest rfl rfl rfl fk_C_9_0 (Wp.r_cv1 (pc := 184) o_X1_takeTest rfl fk_C_7_0 (⟨rm8_ rfl, ?_⟩))
  refine w_X7_advance (d := d + 1)  ?_
  refine oq_bd H (fun _ s17 H => ?_)
  refine Wp.f_al0_gfr (pc := 187) o_X1_takeTest rfl rfl rfl fk_C_9_0 (Wp.r_iconst (pc := 191) o_X1_takeTest rfl (Wp.r_sipush (pc := 192) o_X1_takeTest rfl (Wp.r_cv3 (pc := 195) o_X1_takeTest rfl fk_C_7_0 (⟨rm8_ rfl, ?_⟩))))
  refine w_X7_passNumber (d := d) _ _ ?_
  refine oq_bd H (fun r18 s19 H => ?_)
  obtain ⟨hc20, H⟩ := oq_ck H
  refine Wp.r_istore_n2 (pc := 198) o_X1_takeTest rfl (Wp.f_al0_gfr (pc := 199) o_X1_takeTest rfl rfl rfl fk_C_9_2 (Wp.r_gfr (pc := 203) o_X1_takeTest rfl fk_C_54_2 (Wp.r_iload_n1 (pc := 206) o_X1_takeTest rfl rfl (Wp.f_al0_gfr (pc := 207) o_X1_takeTest rfl rfl rfl fk_C_9_0 (Wp.r_gfi (pc := 211) o_X1_takeTest rfl fk_C_7_7 (Wp.r_iastore (pc := 214) o_X1_takeTest rfl ak_C_74 (⟨hc20, ?_⟩)))))))
  revert H
  generalize pI s19 74 v1.toNatClampNeg (s19.1 7 7) = s21
  intro H
  have H := nmx_e H
  obtain ⟨c9, H⟩ := oq_ck H
  exact Wp.r_iload_n2 (pc := 215) o_X1_takeTest rfl rfl (Wp.r_ireturn (pc := 216) o_X1_takeTest rfl (⟨b01_n c9, H⟩))
noncomputable def f_X1_takeTest (a1 : Int32) (s : Sg) : Option (Int32 × Sg) :=
  ck (inr a1 60) (
  nmx (pI s 76 a1.toNatClampNeg (s.1 7 3)) (fun s2 =>
  if (s2.1 7 3) = 125 then
    f_X1_takeTest_b40 a1 s2
  else
    if (s2.1 7 3) = 126 then
      f_X1_takeTest_b40 a1 s2
    else
      bd (f_X7_pass 127 s2) (fun r11 s12 =>
      if r11 = 0 then
        some (0, s12)
      else
        bd (f_X1_takeHouse_73 a1 s12) (fun r13 s14 =>
        if r13 = 0 then
          some (0, s14)
        else
          nmx (pI s14 76 a1.toNatClampNeg (s14.1 7 3)) (fun s15 =>
          if (s15.1 7 3) = 60 then
            f_X1_takeTest_b180 a1 s15
          else
            if (s15.1 7 3) = 62 then
              f_X1_takeTest_b180 a1 s15
            else
              if (s15.1 7 3) = 61 then
                f_X1_takeTest_b180 a1 s15
              else
                bd (f_X7_wrong 2 s15) (fun r22 s23 =>
                ck (r22 = 0 ∨ r22 = 1) (some (r22, s23))
                )
          )
        )
      )
  )
  )
set_option maxRecDepth 100000 in
theorem w_X1_takeTest {d : Nat} {s : Sg} {Q : Qt} (a1 : Int32) (H : OQ (f_X1_takeTest a1 s) (fun r9 s9 => Q (some (.int r9)) s9)) : WpM SHC MT (d + 5) 16 [.ref 9, .int a1] s Q := by
  refine WpM.enter me_X1_takeTest rfl rfl ?_
  show Y_X1_takeTest d Q 0 [(0, .ref 9), (1, .int a1)] [] s
  unfold f_X1_takeTest at H
  obtain ⟨hc1, H⟩ := oq_ck H
  refine Wp.f_al0_gfr (pc := 0) o_X1_takeTest rfl rfl rfl fk_C_9_2 (Wp.r_gfr (pc := 4) o_X1_takeTest rfl fk_C_54_4 (Wp.r_iload_n1 (pc := 7) o_X1_takeTest rfl rfl (Wp.f_al0_gfr (pc := 8) o_X1_takeTest rfl rfl rfl fk_C_9_0 (Wp.r_gfi (pc := 12) o_X1_takeTest rfl fk_C_7_3 (Wp.r_iastore (pc := 15) o_X1_takeTest rfl ak_C_76 (⟨hc1, ?_⟩))))))
  revert H
  generalize pI s 76 a1.toNatClampNeg (s.1 7 3) = s2
  intro H
  have H := nmx_e H
  refine Wp.f_al0_gfr (pc := 16) o_X1_takeTest rfl rfl rfl fk_C_9_0 (Wp.r_gfi (pc := 20) o_X1_takeTest rfl fk_C_7_3 (Wp.r_bipush (pc := 23) o_X1_takeTest rfl (Wp.r_icmp_eq (pc := 25) o_X1_takeTest rfl (fun c9 => ?_) (fun c9 => ?_))))
  · have H := oq_t c9 H
    exact Wp.weak2 [0, 1] (w_X1_takeTest_b40 _ _ H) rfl
  · have H := oq_f c9 H
    refine Wp.f_al0_gfr (pc := 28) o_X1_takeTest rfl rfl rfl fk_C_9_0 (Wp.r_gfi (pc := 32) o_X1_takeTest rfl fk_C_7_3 (Wp.r_bipush (pc := 35) o_X1_takeTest rfl (Wp.r_icmp_ne (pc := 37) o_X1_takeTest rfl (fun c9 => ?_) (fun c9 => ?_))))
    · have H := oq_t c9 H
      exact Wp.weak2 [0, 1] (w_X1_takeTest_b40 _ _ H) rfl
    · have H := oq_f c9 H
      refine Wp.f_al0_gfr (pc := 90) o_X1_takeTest rfl rfl rfl fk_C_9_0 (Wp.r_bipush (pc := 94) o_X1_takeTest rfl (Wp.r_cv2 (pc := 96) o_X1_takeTest rfl fk_C_7_0 (⟨rm8_ rfl, ?_⟩)))
      refine w_X7_pass (d := d) _ ?_
      refine oq_bd H (fun r11 s12 H => ?_)
      refine Wp.r_if_eq (pc := 99) o_X1_takeTest rfl (fun c9 => ?_) (fun c9 => ?_)
      · have H := oq_t c9 H
        exact Wp.r_iconst (pc := 117) o_X1_takeTest rfl (Wp.r_ireturn (pc := 118) o_X1_takeTest rfl (⟨rfl, H⟩))
      · have H := oq_f c9 H
        refine Wp.r_aload_n0 (pc := 102) o_X1_takeTest rfl rfl (Wp.f_al0_gfr (pc := 103) o_X1_takeTest rfl rfl rfl fk_C_9_2 (Wp.r_gfr (pc := 107) o_X1_takeTest rfl fk_C_54_1 (Wp.r_iload_n1 (pc := 110) o_X1_takeTest rfl rfl (Wp.r_cv3 (pc := 111) o_X1_takeTest rfl fk_C_9_0 (⟨rm8_ rfl, ?_⟩)))))
        refine w_X1_takeHouse_73 (d := d) _ ?_
        refine oq_bd H (fun r13 s14 H => ?_)
        refine Wp.r_if_ne (pc := 114) o_X1_takeTest rfl (fun c9 => ?_) (fun c9 => ?_)
        · have H := oq_t c9 H
          exact Wp.r_iconst (pc := 117) o_X1_takeTest rfl (Wp.r_ireturn (pc := 118) o_X1_takeTest rfl (⟨rfl, H⟩))
        · have H := oq_f c9 H
          refine Wp.f_al0_gfr (pc := 119) o_X1_takeTest rfl rfl rfl fk_C_9_2 (Wp.r_gfr (pc := 123) o_X1_takeTest rfl fk_C_54_4 (Wp.r_iload_n1 (pc := 126) o_X1_takeTest rfl rfl (Wp.f_al0_gfr (pc := 127) o_X1_takeTest rfl rfl rfl fk_C_9_0 (Wp.r_gfi (pc := 131) o_X1_takeTest rfl fk_C_7_3 (Wp.r_iastore (pc := 134) o_X1_takeTest rfl ak_C_76 (⟨hc1, ?_⟩))))))
          revert H
          generalize pI s14 76 a1.toNatClampNeg (s14.1 7 3) = s15
          intro H
          have H := nmx_e H
          refine Wp.f_al0_gfr (pc := 135) o_X1_takeTest rfl rfl rfl fk_C_9_0 (Wp.r_gfi (pc := 139) o_X1_takeTest rfl fk_C_7_3 (Wp.r_bipush (pc := 142) o_X1_takeTest rfl (Wp.r_icmp_eq (pc := 144) o_X1_takeTest rfl (fun c9 => ?_) (fun c9 => ?_))))
          · have H := oq_t c9 H
            exact Wp.weak2 [0, 1] (w_X1_takeTest_b180 _ _ H) rfl
          · have H := oq_f c9 H
            refine Wp.f_al0_gfr (pc := 147) o_X1_takeTest rfl rfl rfl fk_C_9_0 (Wp.r_gfi (pc := 151) o_X1_takeTest rfl fk_C_7_3 (Wp.r_bipush (pc := 154) o_X1_takeTest rfl (Wp.r_icmp_eq (pc := 156) o_X1_takeTest rfl (fun c9 => ?_) (fun c9 => ?_))))
            · have H := oq_t c9 H
              exact Wp.weak2 [0, 1] (w_X1_takeTest_b180 _ _ H) rfl
            · have H := oq_f c9 H
              refine Wp.f_al0_gfr (pc := 159) o_X1_takeTest rfl rfl rfl fk_C_9_0 (Wp.r_gfi (pc := 163) o_X1_takeTest rfl fk_C_7_3 (Wp.r_bipush (pc := 166) o_X1_takeTest rfl (Wp.r_icmp_eq (pc := 168) o_X1_takeTest rfl (fun c9 => ?_) (fun c9 => ?_))))
              · have H := oq_t c9 H
                exact Wp.weak2 [0, 1] (w_X1_takeTest_b180 _ _ H) rfl
              · have H := oq_f c9 H
                refine Wp.f_al0_gfr (pc := 171) o_X1_takeTest rfl rfl rfl fk_C_9_0 (Wp.r_iconst (pc := 175) o_X1_takeTest rfl (Wp.r_cv2 (pc := 176) o_X1_takeTest rfl fk_C_7_0 (⟨rm8_ rfl, ?_⟩)))
                refine w_X7_wrong (d := d + 3) _ ?_
                refine oq_bd H (fun r22 s23 H => ?_)
                obtain ⟨c9, H⟩ := oq_ck H
                exact Wp.r_ireturn (pc := 179) o_X1_takeTest rfl (⟨b01_n c9, H⟩)
noncomputable abbrev Y_X1_takeStep (d : Nat) (Q : Qt) : Xt := Wp SHC (WpM SHC MT (d + 5)) (flat2 cq_X1_takeStep) (some .boolean) Q
noncomputable def f_X1_takeStep_b249 (v2 : Int32) (s : Sg) : Option (Int32 × Sg) :=
  if v2 = 0 then
    some (0, s)
  else
    bd (f_X7_pass 59 s) (fun r6 s7 =>
    if r6 = 0 then
      some (0, s7)
    else
      some (1, s7)
    )
set_option maxRecDepth 100000 in
theorem w_X1_takeStep_b249 {d : Nat} {Q : Qt} (v2 : Int32) (s : Sg) (H : OQ (f_X1_takeStep_b249 v2 s) (fun r9 s9 => Q (some (.int r9)) s9)) : Y_X1_takeStep d Q 249 [(0, .ref 9), (2, .int v2)] [] s := by
  unfold f_X1_takeStep_b249 at H
  refine Wp.r_iload_n2 (pc := 249) o_X1_takeStep rfl rfl (Wp.r_if_eq (pc := 250) o_X1_takeStep rfl (fun c9 => ?_) (fun c9 => ?_))
  · have H := oq_t c9 H
    exact Wp.r_iconst (pc := 269) o_X1_takeStep rfl (Wp.r_ireturn (pc := 270) o_X1_takeStep rfl (⟨rfl, H⟩))
  · have H := oq_f c9 H
    refine Wp.f_al0_gfr (pc := 253) o_X1_takeStep rfl rfl rfl fk_C_9_0 (Wp.r_bipush (pc := 257) o_X1_takeStep rfl (Wp.r_cv2 (pc := 259) o_X1_takeStep rfl fk_C_7_0 (⟨rm8_ rfl, ?_⟩)))
    refine w_X7_pass (d := d + 1) _ ?_
    refine oq_bd H (fun r6 s7 H => ?_)
    refine Wp.r_if_eq (pc := 262) o_X1_takeStep rfl (fun c9 => ?_) (fun c9 => ?_)
    · have H := oq_t c9 H
      exact Wp.r_iconst (pc := 269) o_X1_takeStep rfl (Wp.r_ireturn (pc := 270) o_X1_takeStep rfl (⟨rfl, H⟩))
    · have H := oq_f c9 H
      exact Wp.r_iconst (pc := 265) o_X1_takeStep rfl (Wp.r_goto (pc := 266) o_X1_takeStep rfl (Wp.r_ireturn (pc := 270) o_X1_takeStep rfl (⟨rfl, H⟩)))
noncomputable def f_X1_takeStep_b184 (t0 : Int32) (s : Sg) : Option (Int32 × Sg) :=
  f_X1_takeStep_b249 t0 s
set_option maxRecDepth 100000 in
theorem w_X1_takeStep_b184 {d : Nat} {Q : Qt} (t0 : Int32) (s : Sg) (H : OQ (f_X1_takeStep_b184 t0 s) (fun r9 s9 => Q (some (.int r9)) s9)) : Y_X1_takeStep d Q 184 [(0, .ref 9)] [.int t0] s := by
  unfold f_X1_takeStep_b184 at H
  exact Wp.r_istore_n2 (pc := 184) o_X1_takeStep rfl (Wp.r_goto (pc := 185) o_X1_takeStep rfl (Wp.weak2 [1, 0] (w_X1_takeStep_b249 _ _ H) rfl))
noncomputable def f_X1_takeStep_b183  (s : Sg) : Option (Int32 × Sg) :=
  f_X1_takeStep_b184 0 s
set_option maxRecDepth 100000 in
theorem w_X1_takeStep_b183 {d : Nat} {Q : Qt}  (s : Sg) (H : OQ (f_X1_takeStep_b183  s) (fun r9 s9 => Q (some (.int r9)) s9)) : Y_X1_takeStep d Q 183 [(0, .ref 9)] [] s := by
  unfold f_X1_takeStep_b183 at H
  exact Wp.r_iconst (pc := 183) o_X1_takeStep rfl (Wp.weak2 [0] (w_X1_takeStep_b184 _ _ H) rfl)
noncomputable def f_X1_takeStep_b128 (t0 : Int32) (s : Sg) : Option (Int32 × Sg) :=
  f_X1_takeStep_b249 t0 s
set_option maxRecDepth 100000 in
theorem w_X1_takeStep_b128 {d : Nat} {Q : Qt} (t0 : Int32) (s : Sg) (H : OQ (f_X1_takeStep_b128 t0 s) (fun r9 s9 => Q (some (.int r9)) s9)) : Y_X1_takeStep d Q 128 [(0, .ref 9)] [.int t0] s := by
  unfold f_X1_takeStep_b128 at H
  exact Wp.r_istore_n2 (pc := 128) o_X1_takeStep rfl (Wp.r_goto (pc := 129) o_X1_takeStep rfl (Wp.weak2 [1, 0] (w_X1_takeStep_b249 _ _ H) rfl))
noncomputable def f_X1_takeStep_b127  (s : Sg) : Option (Int32 × Sg) :=
  f_X1_takeStep_b128 0 s
set_option maxRecDepth 100000 in
theorem w_X1_takeStep_b127 {d : Nat} {Q : Qt}  (s : Sg) (H : OQ (f_X1_takeStep_b127  s) (fun r9 s9 => Q (some (.int r9)) s9)) : Y_X1_takeStep d Q 127 [(0, .ref 9)] [] s := by
  unfold f_X1_takeStep_b127 at H
  exact Wp.r_iconst (pc := 127) o_X1_takeStep rfl (Wp.weak2 [0] (w_X1_takeStep_b128 _ _ H) rfl)
noncomputable def f_X1_takeStep  (s : Sg) : Option (Int32 × Sg) :=
  bd (f_X1_beginStep s) (fun r1 s2 =>
  if r1 = 0 then
    some (0, s2)
  else
    ck (inr (s.1 54 7) 60) (
    if (s2.1 72 ((s.1 54 7).toNatClampNeg)) = 116 then
      bd (f_X1_takeNumber (s.1 54 7) 0 16 s2) (fun r4 s5 =>
      f_X1_takeStep_b249 r4 s5
      )
    else
    if (s2.1 72 ((s.1 54 7).toNatClampNeg)) = 117 then
      f_X1_takeStep_b249 1 s2
    else
    if (s2.1 72 ((s.1 54 7).toNatClampNeg)) = 118 then
      f_X1_takeStep_b249 1 s2
    else
    if (s2.1 72 ((s.1 54 7).toNatClampNeg)) = 119 then
      bd (f_X1_takeGrocer (s.1 54 7) s2) (fun r8 s9 =>
      if r8 = 0 then
        f_X1_takeStep_b183 s9
      else
        bd (f_X1_takeNumber (s.1 54 7) 1 999 s9) (fun r10 s11 =>
        if r10 = 0 then
          f_X1_takeStep_b183 s11
        else
          bd (f_X7_pass 110 s11) (fun r12 s13 =>
          if r12 = 0 then
            f_X1_takeStep_b183 s13
          else
            bd (f_X1_takeHouse_75 (s.1 54 7) s13) (fun r14 s15 =>
            if r14 = 0 then
              f_X1_takeStep_b183 s15
            else
              f_X1_takeStep_b184 1 s15
            )
          )
        )
      )
    else
    if (s2.1 72 ((s.1 54 7).toNatClampNeg)) = 120 then
      bd (f_X1_takeHouse_73 (s.1 54 7) s2) (fun r16 s17 =>
      if r16 = 0 then
        f_X1_takeStep_b127 s17
      else
        bd (f_X1_takeNumber (s.1 54 7) 1 999 s17) (fun r18 s19 =>
        if r18 = 0 then
          f_X1_takeStep_b127 s19
        else
          f_X1_takeStep_b128 1 s19
        )
      )
    else
    if (s2.1 72 ((s.1 54 7).toNatClampNeg)) = 121 then
      bd (f_X1_takeHouse_73 (s.1 54 7) s2) (fun r20 s21 =>
      f_X1_takeStep_b249 r20 s21
      )
    else
    if (s2.1 72 ((s.1 54 7).toNatClampNeg)) = 122 then
      bd (f_X1_takeNumber (s.1 54 7) 0 99 s2) (fun r22 s23 =>
      f_X1_takeStep_b249 r22 s23
      )
    else
    if (s2.1 72 ((s.1 54 7).toNatClampNeg)) = 123 then
      f_X1_takeStep_b249 1 s2
    else
    if (s2.1 72 ((s.1 54 7).toNatClampNeg)) = 124 then
      bd (f_X1_takeTest (s.1 54 7) s2) (fun r24 s25 =>
      f_X1_takeStep_b249 r24 s25
      )
    else
    if (s2.1 72 ((s.1 54 7).toNatClampNeg)) = 125 then
      f_X1_takeStep_b249 1 s2
    else
    if (s2.1 72 ((s.1 54 7).toNatClampNeg)) = 126 then
      f_X1_takeStep_b249 1 s2
    else
    if (s2.1 72 ((s.1 54 7).toNatClampNeg)) = 127 then
      f_X1_takeStep_b249 1 s2
    else
    if (s2.1 72 ((s.1 54 7).toNatClampNeg)) = 128 then
      bd (f_X1_takeNumber (s.1 54 7) 1 99 s2) (fun r26 s27 =>
      f_X1_takeStep_b249 r26 s27
      )
    else
      f_X1_takeStep_b249 1 s2
    )
  )
set_option maxRecDepth 100000 in
theorem w_X1_takeStep {d : Nat} {s : Sg} {Q : Qt}  (H : OQ (f_X1_takeStep  s) (fun r9 s9 => Q (some (.int r9)) s9)) : WpM SHC MT (d + 6) 13 [.ref 9] s Q := by
  refine WpM.enter me_X1_takeStep rfl rfl ?_
  show Y_X1_takeStep d Q 0 [(0, .ref 9)] [] s
  unfold f_X1_takeStep at H
  refine Wp.f_al0_gfr (pc := 0) o_X1_takeStep rfl rfl rfl fk_C_9_2 (Wp.r_gfi (pc := 4) o_X1_takeStep rfl fk_C_54_7 (Wp.r_istore_n1 (pc := 7) o_X1_takeStep rfl (Wp.r_aload_n0 (pc := 8) o_X1_takeStep rfl rfl (Wp.r_cv1 (pc := 9) o_X1_takeStep rfl fk_C_9_0 (⟨rm8_ rfl, ?_⟩)))))
  refine w_X1_beginStep (d := d + 1)  ?_
  refine oq_bd H (fun r1 s2 H => ?_)
  refine Wp.r_if_ne (pc := 12) o_X1_takeStep rfl (fun c9 => ?_) (fun c9 => ?_)
  · have H := oq_t c9 H
    exact Wp.r_iconst (pc := 15) o_X1_takeStep rfl (Wp.r_ireturn (pc := 16) o_X1_takeStep rfl (⟨rfl, H⟩))
  · have H := oq_f c9 H
    obtain ⟨hc3, H⟩ := oq_ck H
    refine Wp.r_iconst (pc := 17) o_X1_takeStep rfl (Wp.r_istore_n2 (pc := 18) o_X1_takeStep rfl (Wp.f_al0_gfr (pc := 19) o_X1_takeStep rfl rfl rfl fk_C_9_2 (Wp.r_gfr (pc := 23) o_X1_takeStep rfl fk_C_54_0 (Wp.r_iload_n1 (pc := 26) o_X1_takeStep rfl rfl (Wp.r_iaload (pc := 27) o_X1_takeStep rfl ak_C_72 (⟨hc3, ?_⟩))))))
    refine Wp.tsw2 (l := [(116, 204), (117, 249), (118, 249), (119, 132), (120, 96), (121, 188), (122, 216), (123, 249), (124, 240), (125, 249), (126, 249), (127, 249), (128, 228)]) o_X1_takeStep rfl (by decide +kernel) ?_
    show sw [(116, 204), (117, 249), (118, 249), (119, 132), (120, 96), (121, 188), (122, 216), (123, 249), (124, 240), (125, 249), (126, 249), (127, 249), (128, 228)] 249 (s2.1 72 ((s.1 54 7).toNatClampNeg)) (fun t9 => Y_X1_takeStep d Q t9 [(2, .int 1), (1, .int (s.1 54 7)), (0, .ref 9)] [] s2)
    refine sw_c (fun e9 => ?_) (fun c9_0 => (sw_c (fun e9 => ?_) (fun c9_1 => (sw_c (fun e9 => ?_) (fun c9_2 => (sw_c (fun e9 => ?_) (fun c9_3 => (sw_c (fun e9 => ?_) (fun c9_4 => (sw_c (fun e9 => ?_) (fun c9_5 => (sw_c (fun e9 => ?_) (fun c9_6 => (sw_c (fun e9 => ?_) (fun c9_7 => (sw_c (fun e9 => ?_) (fun c9_8 => (sw_c (fun e9 => ?_) (fun c9_9 => (sw_c (fun e9 => ?_) (fun c9_10 => (sw_c (fun e9 => ?_) (fun c9_11 => (sw_c (fun e9 => ?_) (fun c9_12 => ?_)))))))))))))))))))))))))
    · have H := oq_t e9 H
      refine Wp.r_aload_n0 (pc := 204) o_X1_takeStep rfl rfl (Wp.r_iload_n1 (pc := 205) o_X1_takeStep rfl rfl (Wp.r_iconst (pc := 206) o_X1_takeStep rfl (Wp.r_bipush (pc := 207) o_X1_takeStep rfl (Wp.r_cv4 (pc := 209) o_X1_takeStep rfl fk_C_9_0 (⟨rm8_ rfl, ?_⟩)))))
      refine w_X1_takeNumber (d := d) _ _ _ ?_
      refine oq_bd H (fun r4 s5 H => ?_)
      exact Wp.r_istore_n2 (pc := 212) o_X1_takeStep rfl (Wp.r_goto (pc := 213) o_X1_takeStep rfl (Wp.weak2 [2, 0] (w_X1_takeStep_b249 _ _ H) rfl))
    · have H := oq_f c9_0 H; have H := oq_t e9 H
      exact Wp.weak2 [2, 0] (w_X1_takeStep_b249 _ _ H) rfl
    · have H := oq_f c9_0 H; have H := oq_f c9_1 H; have H := oq_t e9 H
      exact Wp.weak2 [2, 0] (w_X1_takeStep_b249 _ _ H) rfl
    · have H := oq_f c9_0 H; have H := oq_f c9_1 H; have H := oq_f c9_2 H; have H := oq_t e9 H
      refine Wp.r_aload_n0 (pc := 132) o_X1_takeStep rfl rfl (Wp.r_iload_n1 (pc := 133) o_X1_takeStep rfl rfl (Wp.r_cv2 (pc := 134) o_X1_takeStep rfl fk_C_9_0 (⟨rm8_ rfl, ?_⟩)))
      refine w_X1_takeGrocer (d := d + 1) _ ?_
      refine oq_bd H (fun r8 s9 H => ?_)
      refine Wp.r_if_eq (pc := 137) o_X1_takeStep rfl (fun c9 => ?_) (fun c9 => ?_)
      · have H := oq_t c9 H
        exact Wp.weak2 [2] (w_X1_takeStep_b183 _ H) rfl
      · have H := oq_f c9 H
        refine Wp.r_aload_n0 (pc := 140) o_X1_takeStep rfl rfl (Wp.r_iload_n1 (pc := 141) o_X1_takeStep rfl rfl (Wp.r_iconst (pc := 142) o_X1_takeStep rfl (Wp.r_sipush (pc := 143) o_X1_takeStep rfl (Wp.r_cv4 (pc := 146) o_X1_takeStep rfl fk_C_9_0 (⟨rm8_ rfl, ?_⟩)))))
        refine w_X1_takeNumber (d := d) _ _ _ ?_
        refine oq_bd H (fun r10 s11 H => ?_)
        refine Wp.r_if_eq (pc := 149) o_X1_takeStep rfl (fun c9 => ?_) (fun c9 => ?_)
        · have H := oq_t c9 H
          exact Wp.weak2 [2] (w_X1_takeStep_b183 _ H) rfl
        · have H := oq_f c9 H
          refine Wp.f_al0_gfr (pc := 152) o_X1_takeStep rfl rfl rfl fk_C_9_0 (Wp.r_bipush (pc := 156) o_X1_takeStep rfl (Wp.r_cv2 (pc := 158) o_X1_takeStep rfl fk_C_7_0 (⟨rm8_ rfl, ?_⟩)))
          refine w_X7_pass (d := d + 1) _ ?_
          refine oq_bd H (fun r12 s13 H => ?_)
          refine Wp.r_if_eq (pc := 161) o_X1_takeStep rfl (fun c9 => ?_) (fun c9 => ?_)
          · have H := oq_t c9 H
            exact Wp.weak2 [2] (w_X1_takeStep_b183 _ H) rfl
          · have H := oq_f c9 H
            refine Wp.r_aload_n0 (pc := 164) o_X1_takeStep rfl rfl (Wp.f_al0_gfr (pc := 165) o_X1_takeStep rfl rfl rfl fk_C_9_2 (Wp.r_gfr (pc := 169) o_X1_takeStep rfl fk_C_54_3 (Wp.r_iload_n1 (pc := 172) o_X1_takeStep rfl rfl (Wp.r_cv3 (pc := 173) o_X1_takeStep rfl fk_C_9_0 (⟨rm8_ rfl, ?_⟩)))))
            refine w_X1_takeHouse_75 (d := d + 1) _ ?_
            refine oq_bd H (fun r14 s15 H => ?_)
            refine Wp.r_if_eq (pc := 176) o_X1_takeStep rfl (fun c9 => ?_) (fun c9 => ?_)
            · have H := oq_t c9 H
              exact Wp.weak2 [2] (w_X1_takeStep_b183 _ H) rfl
            · have H := oq_f c9 H
              exact Wp.r_iconst (pc := 179) o_X1_takeStep rfl (Wp.r_goto (pc := 180) o_X1_takeStep rfl (Wp.weak2 [2] (w_X1_takeStep_b184 _ _ H) rfl))
    · have H := oq_f c9_0 H; have H := oq_f c9_1 H; have H := oq_f c9_2 H; have H := oq_f c9_3 H; have H := oq_t e9 H
      refine Wp.r_aload_n0 (pc := 96) o_X1_takeStep rfl rfl (Wp.f_al0_gfr (pc := 97) o_X1_takeStep rfl rfl rfl fk_C_9_2 (Wp.r_gfr (pc := 101) o_X1_takeStep rfl fk_C_54_1 (Wp.r_iload_n1 (pc := 104) o_X1_takeStep rfl rfl (Wp.r_cv3 (pc := 105) o_X1_takeStep rfl fk_C_9_0 (⟨rm8_ rfl, ?_⟩)))))
      refine w_X1_takeHouse_73 (d := d + 1) _ ?_
      refine oq_bd H (fun r16 s17 H => ?_)
      refine Wp.r_if_eq (pc := 108) o_X1_takeStep rfl (fun c9 => ?_) (fun c9 => ?_)
      · have H := oq_t c9 H
        exact Wp.weak2 [2] (w_X1_takeStep_b127 _ H) rfl
      · have H := oq_f c9 H
        refine Wp.r_aload_n0 (pc := 111) o_X1_takeStep rfl rfl (Wp.r_iload_n1 (pc := 112) o_X1_takeStep rfl rfl (Wp.r_iconst (pc := 113) o_X1_takeStep rfl (Wp.r_sipush (pc := 114) o_X1_takeStep rfl (Wp.r_cv4 (pc := 117) o_X1_takeStep rfl fk_C_9_0 (⟨rm8_ rfl, ?_⟩)))))
        refine w_X1_takeNumber (d := d) _ _ _ ?_
        refine oq_bd H (fun r18 s19 H => ?_)
        refine Wp.r_if_eq (pc := 120) o_X1_takeStep rfl (fun c9 => ?_) (fun c9 => ?_)
        · have H := oq_t c9 H
          exact Wp.weak2 [2] (w_X1_takeStep_b127 _ H) rfl
        · have H := oq_f c9 H
          exact Wp.r_iconst (pc := 123) o_X1_takeStep rfl (Wp.r_goto (pc := 124) o_X1_takeStep rfl (Wp.weak2 [2] (w_X1_takeStep_b128 _ _ H) rfl))
    · have H := oq_f c9_0 H; have H := oq_f c9_1 H; have H := oq_f c9_2 H; have H := oq_f c9_3 H; have H := oq_f c9_4 H; have H := oq_t e9 H
      refine Wp.r_aload_n0 (pc := 188) o_X1_takeStep rfl rfl (Wp.f_al0_gfr (pc := 189) o_X1_takeStep rfl rfl rfl fk_C_9_2 (Wp.r_gfr (pc := 193) o_X1_takeStep rfl fk_C_54_1 (Wp.r_iload_n1 (pc := 196) o_X1_takeStep rfl rfl (Wp.r_cv3 (pc := 197) o_X1_takeStep rfl fk_C_9_0 (⟨rm8_ rfl, ?_⟩)))))
      refine w_X1_takeHouse_73 (d := d + 1) _ ?_
      refine oq_bd H (fun r20 s21 H => ?_)
      exact Wp.r_istore_n2 (pc := 200) o_X1_takeStep rfl (Wp.r_goto (pc := 201) o_X1_takeStep rfl (Wp.weak2 [2, 0] (w_X1_takeStep_b249 _ _ H) rfl))
    · have H := oq_f c9_0 H; have H := oq_f c9_1 H; have H := oq_f c9_2 H; have H := oq_f c9_3 H; have H := oq_f c9_4 H; have H := oq_f c9_5 H; have H := oq_t e9 H
      refine Wp.r_aload_n0 (pc := 216) o_X1_takeStep rfl rfl (Wp.r_iload_n1 (pc := 217) o_X1_takeStep rfl rfl (Wp.r_iconst (pc := 218) o_X1_takeStep rfl (Wp.r_bipush (pc := 219) o_X1_takeStep rfl (Wp.r_cv4 (pc := 221) o_X1_takeStep rfl fk_C_9_0 (⟨rm8_ rfl, ?_⟩)))))
      refine w_X1_takeNumber (d := d) _ _ _ ?_
      refine oq_bd H (fun r22 s23 H => ?_)
      exact Wp.r_istore_n2 (pc := 224) o_X1_takeStep rfl (Wp.r_goto (pc := 225) o_X1_takeStep rfl (Wp.weak2 [2, 0] (w_X1_takeStep_b249 _ _ H) rfl))
    · have H := oq_f c9_0 H; have H := oq_f c9_1 H; have H := oq_f c9_2 H; have H := oq_f c9_3 H; have H := oq_f c9_4 H; have H := oq_f c9_5 H; have H := oq_f c9_6 H; have H := oq_t e9 H
      exact Wp.weak2 [2, 0] (w_X1_takeStep_b249 _ _ H) rfl
    · have H := oq_f c9_0 H; have H := oq_f c9_1 H; have H := oq_f c9_2 H; have H := oq_f c9_3 H; have H := oq_f c9_4 H; have H := oq_f c9_5 H; have H := oq_f c9_6 H; have H := oq_f c9_7 H; have H := oq_t e9 H
      refine Wp.r_aload_n0 (pc := 240) o_X1_takeStep rfl rfl (Wp.r_iload_n1 (pc := 241) o_X1_takeStep rfl rfl (Wp.r_cv2 (pc := 242) o_X1_takeStep rfl fk_C_9_0 (⟨rm8_ rfl, ?_⟩)))
      refine w_X1_takeTest (d := d) _ ?_
      refine oq_bd H (fun r24 s25 H => ?_)
      exact Wp.r_istore_n2 (pc := 245) o_X1_takeStep rfl (Wp.r_goto (pc := 246) o_X1_takeStep rfl (Wp.weak2 [2, 0] (w_X1_takeStep_b249 _ _ H) rfl))
    · have H := oq_f c9_0 H; have H := oq_f c9_1 H; have H := oq_f c9_2 H; have H := oq_f c9_3 H; have H := oq_f c9_4 H; have H := oq_f c9_5 H; have H := oq_f c9_6 H; have H := oq_f c9_7 H; have H := oq_f c9_8 H; have H := oq_t e9 H
      exact Wp.weak2 [2, 0] (w_X1_takeStep_b249 _ _ H) rfl
    · have H := oq_f c9_0 H; have H := oq_f c9_1 H; have H := oq_f c9_2 H; have H := oq_f c9_3 H; have H := oq_f c9_4 H; have H := oq_f c9_5 H; have H := oq_f c9_6 H; have H := oq_f c9_7 H; have H := oq_f c9_8 H; have H := oq_f c9_9 H; have H := oq_t e9 H
      exact Wp.weak2 [2, 0] (w_X1_takeStep_b249 _ _ H) rfl
    · have H := oq_f c9_0 H; have H := oq_f c9_1 H; have H := oq_f c9_2 H; have H := oq_f c9_3 H; have H := oq_f c9_4 H; have H := oq_f c9_5 H; have H := oq_f c9_6 H; have H := oq_f c9_7 H; have H := oq_f c9_8 H; have H := oq_f c9_9 H; have H := oq_f c9_10 H; have H := oq_t e9 H
      exact Wp.weak2 [2, 0] (w_X1_takeStep_b249 _ _ H) rfl
    · have H := oq_f c9_0 H; have H := oq_f c9_1 H; have H := oq_f c9_2 H; have H := oq_f c9_3 H; have H := oq_f c9_4 H; have H := oq_f c9_5 H; have H := oq_f c9_6 H; have H := oq_f c9_7 H; have H := oq_f c9_8 H; have H := oq_f c9_9 H; have H := oq_f c9_10 H; have H := oq_f c9_11 H; have H := oq_t e9 H
      refine Wp.r_aload_n0 (pc := 228) o_X1_takeStep rfl rfl (Wp.r_iload_n1 (pc := 229) o_X1_takeStep rfl rfl (Wp.r_iconst (pc := 230) o_X1_takeStep rfl (Wp.r_bipush (pc := 231) o_X1_takeStep rfl (Wp.r_cv4 (pc := 233) o_X1_takeStep rfl fk_C_9_0 (⟨rm8_ rfl, ?_⟩)))))
      refine w_X1_takeNumber (d := d) _ _ _ ?_
      refine oq_bd H (fun r26 s27 H => ?_)
      exact Wp.r_istore_n2 (pc := 236) o_X1_takeStep rfl (Wp.r_goto (pc := 237) o_X1_takeStep rfl (Wp.weak2 [2, 0] (w_X1_takeStep_b249 _ _ H) rfl))
    · have H := oq_f c9_0 H; have H := oq_f c9_1 H; have H := oq_f c9_2 H; have H := oq_f c9_3 H; have H := oq_f c9_4 H; have H := oq_f c9_5 H; have H := oq_f c9_6 H; have H := oq_f c9_7 H; have H := oq_f c9_8 H; have H := oq_f c9_9 H; have H := oq_f c9_10 H; have H := oq_f c9_11 H; have H := oq_f c9_12 H
      exact Wp.weak2 [2, 0] (w_X1_takeStep_b249 _ _ H) rfl
noncomputable abbrev Y_X1_takeText (d : Nat) (Q : Qt) : Xt := Wp SHC (WpM SHC MT (d + 6)) (flat2 cq_X1_takeText) (some .boolean) Q
noncomputable def f_X1_takeText_b22 : Nat → Int32 → Sg → Option (Int32 × Sg)
  | 0, _, _ => none
  | n + 1, v1, s =>
    if 300 < v1 then
      bd (f_X7_wrong 2 s) (fun r3 s4 =>
      ck (r3 = 0 ∨ r3 = 1) (some (r3, s4))
      )
    else
      if (s.1 7 3) = 0 then
        if (s.1 9 4) = 0 then
          some (1, s)
        else
          bd (f_X7_wrong 2 s) (fun r5 s6 =>
          if r5 = 0 then
            some (0, s6)
          else
            some (1, s6)
          )
      else
        if (s.1 7 3) = 129 then
          bd (f_X1_takeEnd s) (fun r7 s8 =>
          if r7 = 0 then
            some (0, s8)
          else
            (f_X1_takeText_b22 n) (v1 + 1) s8
          )
        else
          bd (f_X1_takeStep s) (fun r9 s10 =>
          if r9 = 0 then
            some (0, s10)
          else
            (f_X1_takeText_b22 n) (v1 + 1) s10
          )
set_option maxRecDepth 100000 in
theorem w_X1_takeText_b22 {d : Nat} {Q : Qt} (n : Nat) : ∀ (v1 : Int32) (s : Sg), OQ (f_X1_takeText_b22 n v1 s) (fun r9 s9 => Q (some (.int r9)) s9) → Y_X1_takeText d Q 22 [(0, .ref 9), (1, .int v1)] [] s := by
  induction n with
  | zero => intro v1 s H; exact H.elim
  | succ n ih =>
    intro v1 s H
    unfold f_X1_takeText_b22 at H
    refine Wp.r_iload_n1 (pc := 22) o_X1_takeText rfl rfl (Wp.r_sipush (pc := 23) o_X1_takeText rfl (Wp.r_icmp_gt (pc := 26) o_X1_takeText rfl (fun c9 => ?_) (fun c9 => ?_)))
    · have H := oq_t c9 H
      refine Wp.f_al0_gfr (pc := 100) o_X1_takeText rfl rfl rfl fk_C_9_0 (Wp.r_iconst (pc := 104) o_X1_takeText rfl (Wp.r_cv2 (pc := 105) o_X1_takeText rfl fk_C_7_0 (⟨rm8_ rfl, ?_⟩)))
      refine w_X7_wrong (d := d + 5) _ ?_
      refine oq_bd H (fun r3 s4 H => ?_)
      obtain ⟨c9, H⟩ := oq_ck H
      exact Wp.r_ireturn (pc := 108) o_X1_takeText rfl (⟨b01_n c9, H⟩)
    · have H := oq_f c9 H
      refine Wp.f_al0_gfr (pc := 29) o_X1_takeText rfl rfl rfl fk_C_9_0 (Wp.r_gfi (pc := 33) o_X1_takeText rfl fk_C_7_3 (Wp.r_if_ne (pc := 36) o_X1_takeText rfl (fun c9 => ?_) (fun c9 => ?_)))
      · have H := oq_t c9 H
        refine Wp.f_al0_gfi (pc := 39) o_X1_takeText rfl rfl rfl fk_C_9_4 (Wp.r_if_eq (pc := 43) o_X1_takeText rfl (fun c9 => ?_) (fun c9 => ?_))
        · have H := oq_t c9 H
          exact Wp.r_iconst (pc := 57) o_X1_takeText rfl (Wp.r_goto (pc := 58) o_X1_takeText rfl (Wp.r_ireturn (pc := 62) o_X1_takeText rfl (⟨rfl, H⟩)))
        · have H := oq_f c9 H
          refine Wp.f_al0_gfr (pc := 46) o_X1_takeText rfl rfl rfl fk_C_9_0 (Wp.r_iconst (pc := 50) o_X1_takeText rfl (Wp.r_cv2 (pc := 51) o_X1_takeText rfl fk_C_7_0 (⟨rm8_ rfl, ?_⟩)))
          refine w_X7_wrong (d := d + 5) _ ?_
          refine oq_bd H (fun r5 s6 H => ?_)
          refine Wp.r_if_eq (pc := 54) o_X1_takeText rfl (fun c9 => ?_) (fun c9 => ?_)
          · have H := oq_t c9 H
            exact Wp.r_iconst (pc := 61) o_X1_takeText rfl (Wp.r_ireturn (pc := 62) o_X1_takeText rfl (⟨rfl, H⟩))
          · have H := oq_f c9 H
            exact Wp.r_iconst (pc := 57) o_X1_takeText rfl (Wp.r_goto (pc := 58) o_X1_takeText rfl (Wp.r_ireturn (pc := 62) o_X1_takeText rfl (⟨rfl, H⟩)))
      · have H := oq_f c9 H
        refine Wp.f_al0_gfr (pc := 63) o_X1_takeText rfl rfl rfl fk_C_9_0 (Wp.r_gfi (pc := 67) o_X1_takeText rfl fk_C_7_3 (Wp.r_sipush (pc := 70) o_X1_takeText rfl (Wp.r_icmp_ne (pc := 73) o_X1_takeText rfl (fun c9 => ?_) (fun c9 => ?_))))
        · have H := oq_t c9 H
          refine Wp.r_aload_n0 (pc := 76) o_X1_takeText rfl rfl (Wp.r_cv1 (pc := 77) o_X1_takeText rfl fk_C_9_0 (⟨rm8_ rfl, ?_⟩))
          refine w_X1_takeEnd (d := d + 1)  ?_
          refine oq_bd H (fun r7 s8 H => ?_)
          refine Wp.r_goto (pc := 80) o_X1_takeText rfl (Wp.r_istore_n2 (pc := 87) o_X1_takeText rfl (Wp.r_iload_n2 (pc := 88) o_X1_takeText rfl rfl (Wp.r_if_ne (pc := 89) o_X1_takeText rfl (fun c9 => ?_) (fun c9 => ?_))))
          · have H := oq_t c9 H
            exact Wp.r_iconst (pc := 92) o_X1_takeText rfl (Wp.r_ireturn (pc := 93) o_X1_takeText rfl (⟨rfl, H⟩))
          · have H := oq_f c9 H
            exact Wp.f_iinc_goto (pc := 94) o_X1_takeText rfl rfl rfl (Wp.weak2 [2, 0] (ih _ _ H) rfl)
        · have H := oq_f c9 H
          refine Wp.r_aload_n0 (pc := 83) o_X1_takeText rfl rfl (Wp.r_cv1 (pc := 84) o_X1_takeText rfl fk_C_9_0 (⟨rm8_ rfl, ?_⟩))
          refine w_X1_takeStep (d := d)  ?_
          refine oq_bd H (fun r9 s10 H => ?_)
          refine Wp.r_istore_n2 (pc := 87) o_X1_takeText rfl (Wp.r_iload_n2 (pc := 88) o_X1_takeText rfl rfl (Wp.r_if_ne (pc := 89) o_X1_takeText rfl (fun c9 => ?_) (fun c9 => ?_)))
          · have H := oq_t c9 H
            exact Wp.r_iconst (pc := 92) o_X1_takeText rfl (Wp.r_ireturn (pc := 93) o_X1_takeText rfl (⟨rfl, H⟩))
          · have H := oq_f c9 H
            exact Wp.f_iinc_goto (pc := 94) o_X1_takeText rfl rfl rfl (Wp.weak2 [2, 0] (ih _ _ H) rfl)
noncomputable def f_X1_takeText  (s : Sg) : Option (Int32 × Sg) :=
  bd (f_X5_clear_54 s) (fun _ s2 =>
  f_X1_takeText_b22 BIG 0 (pI (pI s2 54 6 1) 9 4 0)
  )
set_option maxRecDepth 100000 in
theorem w_X1_takeText {d : Nat} {s : Sg} {Q : Qt}  (H : OQ (f_X1_takeText  s) (fun r9 s9 => Q (some (.int r9)) s9)) : WpM SHC MT (d + 7) 11 [.ref 9] s Q := by
  refine WpM.enter me_X1_takeText rfl rfl ?_
  show Y_X1_takeText d Q 0 [(0, .ref 9)] [] s
  unfold f_X1_takeText at H
  refine Wp.f_al0_gfr (pc := 0) o_X1_takeText rfl rfl rfl fk_C_9_2 (Wp.r_cv1 (pc := 4) o_X1_takeText rfl fk_C_54_0 (⟨rm8_ rfl, ?_⟩))
  refine w_X5_clear_54 (d := d + 5)  ?_
  refine oq_bd H (fun _ s2 H => ?_)
  refine Wp.f_al0_gfr (pc := 7) o_X1_takeText rfl rfl rfl fk_C_9_2 (Wp.r_iconst (pc := 11) o_X1_takeText rfl (Wp.r_pfz (pc := 12) o_X1_takeText rfl fk_C_54_6 (show ((1 : Int32) = 0 ∨ 1 = 1) ∧ Y_X1_takeText d Q 15 [(0, .ref 9)] [] (pI s2 54 6 1) from ⟨Or.inr rfl, ?_⟩)))
  exact Wp.f_al0_iconst (pc := 15) o_X1_takeText rfl rfl rfl (Wp.r_pfi (pc := 17) o_X1_takeText rfl fk_C_9_4 (Wp.r_iconst (pc := 20) o_X1_takeText rfl (Wp.r_istore_n1 (pc := 21) o_X1_takeText rfl (Wp.weak2 [1, 0] (w_X1_takeText_b22 _ _ _ H) rfl))))
noncomputable abbrev Y_X11_days (d : Nat) (Q : Qt) : Xt := Wp SHC (WpM SHC MT (d + 7)) (flat2 cq_X11_days) (some .int) Q
noncomputable def f_X11_days (a1 : Int32) (s : Sg) : Option (Int32 × Sg) :=
  bd (f_X11_within a1 0 (s.1 0 13) s) (fun r1 s2 =>
  if r1 = 0 then
    bd (f_X11_refuse 1 s2) (fun r3 s4 =>
    some (r3, s4)
    )
  else
    if a1 ≤ 300 then
      bd (f_X7_begin a1 s2) (fun _ s6 =>
      bd (f_X1_takeText s6) (fun r7 s8 =>
      bd (f_X11_closeText s8) (fun _ s10 =>
      if r7 = 0 then
        bd (f_X11_refuse 9 s10) (fun r11 s12 =>
        some (r11, s12)
        )
      else
        bd (f_X5_copyFrom_54 s10) (fun _ s14 =>
        bd (f_X11_answer (s14.1 27 8) s14) (fun r15 s16 =>
        some (r15, s16)
        )
        )
      )
      )
      )
    else
      bd (f_X11_refuse 1 s2) (fun r17 s18 =>
      some (r17, s18)
      )
  )
set_option maxRecDepth 100000 in
theorem w_X11_days {d : Nat} {s : Sg} {Q : Qt} (a1 : Int32) (H : OQ (f_X11_days a1 s) (fun r9 s9 => Q (some (.int r9)) s9)) : WpM SHC MT (d + 8) 111 [.ref 0, .int a1] s Q := by
  refine WpM.enter me_X11_days rfl rfl ?_
  show Y_X11_days d Q 0 [(0, .ref 0), (1, .int a1)] [] s
  unfold f_X11_days at H
  refine Wp.r_iload_n1 (pc := 0) o_X11_days rfl rfl (Wp.r_iconst (pc := 1) o_X11_days rfl (Wp.f_al0_gfi (pc := 2) o_X11_days rfl rfl rfl fk_C_0_13 (Wp.r_cs3 (pc := 6) o_X11_days rfl (⟨rm8_ rfl, ?_⟩))))
  refine w_X11_within (d := d + 6) _ _ _ ?_
  refine oq_bd H (fun r1 s2 H => ?_)
  refine Wp.r_if_eq (pc := 9) o_X11_days rfl (fun c9 => ?_) (fun c9 => ?_)
  · have H := oq_t c9 H
    refine Wp.f_al0_iconst (pc := 19) o_X11_days rfl rfl rfl (Wp.r_cv2 (pc := 21) o_X11_days rfl fk_C_0_0 (⟨rm8_ rfl, ?_⟩))
    refine w_X11_refuse (d := d + 6) _ ?_
    refine oq_bd H (fun r3 s4 H => ?_)
    exact Wp.r_ireturn (pc := 24) o_X11_days rfl (⟨rfl, H⟩)
  · have H := oq_f c9 H
    refine Wp.r_iload_n1 (pc := 12) o_X11_days rfl rfl (Wp.r_sipush (pc := 13) o_X11_days rfl (Wp.r_icmp_le (pc := 16) o_X11_days rfl (fun c9 => ?_) (fun c9 => ?_)))
    · have H := oq_t c9 H
      refine Wp.f_al0_gfr (pc := 25) o_X11_days rfl rfl rfl fk_C_0_10 (Wp.r_iload_n1 (pc := 29) o_X11_days rfl rfl (Wp.r_cv2 (pc := 30) o_X11_days rfl fk_C_7_0 (⟨rm8_ rfl, ?_⟩)))
      refine w_X7_begin (d := d + 3) _ ?_
      refine oq_bd H (fun _ s6 H => ?_)
      refine Wp.f_al0_gfr (pc := 33) o_X11_days rfl rfl rfl fk_C_0_12 (Wp.r_cv1 (pc := 37) o_X11_days rfl fk_C_9_0 (⟨rm8_ rfl, ?_⟩))
      refine w_X1_takeText (d := d)  ?_
      refine oq_bd H (fun r7 s8 H => ?_)
      refine Wp.r_istore_n2 (pc := 40) o_X11_days rfl (Wp.r_aload_n0 (pc := 41) o_X11_days rfl rfl (Wp.r_cv1 (pc := 42) o_X11_days rfl fk_C_0_0 (⟨rm8_ rfl, ?_⟩)))
      refine w_X11_closeText (d := d + 6)  ?_
      refine oq_bd H (fun _ s10 H => ?_)
      refine Wp.r_iload_n2 (pc := 45) o_X11_days rfl rfl (Wp.r_if_ne (pc := 46) o_X11_days rfl (fun c9 => ?_) (fun c9 => ?_))
      · have H := oq_t c9 H
        refine Wp.r_aload_n0 (pc := 49) o_X11_days rfl rfl (Wp.r_bipush (pc := 50) o_X11_days rfl (Wp.r_cv2 (pc := 52) o_X11_days rfl fk_C_0_0 (⟨rm8_ rfl, ?_⟩)))
        refine w_X11_refuse (d := d + 6) _ ?_
        refine oq_bd H (fun r11 s12 H => ?_)
        exact Wp.r_ireturn (pc := 55) o_X11_days rfl (⟨rfl, H⟩)
      · have H := oq_f c9 H
        refine Wp.f_al0_gfr (pc := 56) o_X11_days rfl rfl rfl fk_C_0_2 (Wp.r_gfr (pc := 60) o_X11_days rfl fk_C_24_2 (Wp.f_al0_gfr (pc := 63) o_X11_days rfl rfl rfl fk_C_0_3 (Wp.r_gfr (pc := 67) o_X11_days rfl fk_C_51_2 (Wp.r_cv2 (pc := 70) o_X11_days rfl fk_C_27_0 (⟨rm8_ rfl, ?_⟩)))))
        refine w_X5_copyFrom_54 (d := d + 5)  ?_
        refine oq_bd H (fun _ s14 H => ?_)
        refine Wp.r_aload_n0 (pc := 73) o_X11_days rfl rfl (Wp.f_al0_gfr (pc := 74) o_X11_days rfl rfl rfl fk_C_0_2 (Wp.r_gfr (pc := 78) o_X11_days rfl fk_C_24_2 (Wp.r_gfi (pc := 81) o_X11_days rfl fk_C_27_8 (Wp.r_cv2 (pc := 84) o_X11_days rfl fk_C_0_0 (⟨rm8_ rfl, ?_⟩)))))
        refine w_X11_answer (d := d + 6) _ ?_
        refine oq_bd H (fun r15 s16 H => ?_)
        exact Wp.r_ireturn (pc := 87) o_X11_days rfl (⟨rfl, H⟩)
    · have H := oq_f c9 H
      refine Wp.f_al0_iconst (pc := 19) o_X11_days rfl rfl rfl (Wp.r_cv2 (pc := 21) o_X11_days rfl fk_C_0_0 (⟨rm8_ rfl, ?_⟩))
      refine w_X11_refuse (d := d + 6) _ ?_
      refine oq_bd H (fun r17 s18 H => ?_)
      exact Wp.r_ireturn (pc := 24) o_X11_days rfl (⟨rfl, H⟩)
noncomputable abbrev Y_X11_fault (d : Nat) (Q : Qt) : Xt := Wp SHC (WpM SHC MT (d + 0)) (flat2 cq_X11_fault) (some .int) Q
noncomputable def f_X11_fault (a1 : Int32) (s : Sg) : Option (Int32 × Sg) :=
  if a1 = 0 then
    some (s.1 0 18, s)
  else
    if a1 = 1 then
      some (s.1 0 19, s)
    else
      some ((-1), s)
set_option maxRecDepth 100000 in
theorem w_X11_fault {d : Nat} {s : Sg} {Q : Qt} (a1 : Int32) (H : OQ (f_X11_fault a1 s) (fun r9 s9 => Q (some (.int r9)) s9)) : WpM SHC MT (d + 1) 112 [.ref 0, .int a1] s Q := by
  refine WpM.enter me_X11_fault rfl rfl ?_
  show Y_X11_fault d Q 0 [(0, .ref 0), (1, .int a1)] [] s
  unfold f_X11_fault at H
  refine Wp.r_iload_n1 (pc := 0) o_X11_fault rfl rfl (Wp.r_if_ne (pc := 1) o_X11_fault rfl (fun c9 => ?_) (fun c9 => ?_))
  · have H := oq_t c9 H
    exact Wp.f_al0_gfi (pc := 4) o_X11_fault rfl rfl rfl fk_C_0_18 (Wp.r_ireturn (pc := 8) o_X11_fault rfl (⟨rfl, H⟩))
  · have H := oq_f c9 H
    refine Wp.r_iload_n1 (pc := 9) o_X11_fault rfl rfl (Wp.r_iconst (pc := 10) o_X11_fault rfl (Wp.r_icmp_ne (pc := 11) o_X11_fault rfl (fun c9 => ?_) (fun c9 => ?_)))
    · have H := oq_t c9 H
      exact Wp.f_al0_gfi (pc := 14) o_X11_fault rfl rfl rfl fk_C_0_19 (Wp.r_goto (pc := 18) o_X11_fault rfl (Wp.r_ireturn (pc := 22) o_X11_fault rfl (⟨rfl, H⟩)))
    · have H := oq_f c9 H
      exact Wp.r_iconst (pc := 21) o_X11_fault rfl (Wp.r_ireturn (pc := 22) o_X11_fault rfl (⟨rfl, H⟩))
noncomputable abbrev Y_X11_told (d : Nat) (Q : Qt) : Xt := Wp SHC (WpM SHC MT (d + 1)) (flat2 cq_X11_told) (some .int) Q
noncomputable def f_X11_told (a1 : Int32) (s : Sg) : Option (Int32 × Sg) :=
  if a1 = 0 then
    bd (f_X11_answer (s.1 25 13) s) (fun r1 s2 =>
    some (r1, s2)
    )
  else
  if a1 = 1 then
    bd (f_X11_answer (s.1 25 14) s) (fun r3 s4 =>
    some (r3, s4)
    )
  else
  if a1 = 2 then
    bd (f_X11_answer (s.1 25 15) s) (fun r5 s6 =>
    some (r5, s6)
    )
  else
  if a1 = 3 then
    bd (f_X11_answer (s.1 25 16) s) (fun r7 s8 =>
    some (r7, s8)
    )
  else
  if a1 = 4 then
    bd (f_X11_answer (s.1 26 6) s) (fun r9 s10 =>
    some (r9, s10)
    )
  else
  if a1 = 5 then
    bd (f_X11_answer (s.1 26 9) s) (fun r11 s12 =>
    some (r11, s12)
    )
  else
  if a1 = 6 then
    bd (f_X11_answer (s.1 26 10) s) (fun r13 s14 =>
    some (r13, s14)
    )
  else
  if a1 = 7 then
    bd (f_X11_answer (s.1 26 11) s) (fun r15 s16 =>
    some (r15, s16)
    )
  else
  if a1 = 8 then
    bd (f_X11_answer (s.1 26 12) s) (fun r17 s18 =>
    some (r17, s18)
    )
  else
  if a1 = 9 then
    bd (f_X11_answer (s.1 25 17) s) (fun r19 s20 =>
    some (r19, s20)
    )
  else
  if a1 = 10 then
    if (s.1 26 7) = 0 then
      bd (f_X11_answer 0 s) (fun r21 s22 =>
      some (r21, s22)
      )
    else
      bd (f_X11_answer 1 s) (fun r23 s24 =>
      some (r23, s24)
      )
  else
    bd (f_X11_refuse 1 s) (fun r25 s26 =>
    some (r25, s26)
    )
set_option maxRecDepth 100000 in
theorem w_X11_told {d : Nat} {s : Sg} {Q : Qt} (a1 : Int32) (H : OQ (f_X11_told a1 s) (fun r9 s9 => Q (some (.int r9)) s9)) : WpM SHC MT (d + 2) 113 [.ref 0, .int a1] s Q := by
  refine WpM.enter me_X11_told rfl rfl ?_
  show Y_X11_told d Q 0 [(0, .ref 0), (1, .int a1)] [] s
  unfold f_X11_told at H
  refine Wp.r_iload_n1 (pc := 0) o_X11_told rfl rfl (show Y_X11_told d Q 1 [(0, .ref 0), (1, .int a1)] [.int a1] s from ?_)
  refine Wp.tsw2 (l := [(0, 60), (1, 72), (2, 84), (3, 96), (4, 108), (5, 120), (6, 132), (7, 144), (8, 156), (9, 168), (10, 180)]) o_X11_told rfl (by decide +kernel) ?_
  show sw [(0, 60), (1, 72), (2, 84), (3, 96), (4, 108), (5, 120), (6, 132), (7, 144), (8, 156), (9, 168), (10, 180)] 200 a1 (fun t9 => Y_X11_told d Q t9 [(0, .ref 0), (1, .int a1)] [] s)
  refine sw_c (fun e9 => ?_) (fun c9_0 => (sw_c (fun e9 => ?_) (fun c9_1 => (sw_c (fun e9 => ?_) (fun c9_2 => (sw_c (fun e9 => ?_) (fun c9_3 => (sw_c (fun e9 => ?_) (fun c9_4 => (sw_c (fun e9 => ?_) (fun c9_5 => (sw_c (fun e9 => ?_) (fun c9_6 => (sw_c (fun e9 => ?_) (fun c9_7 => (sw_c (fun e9 => ?_) (fun c9_8 => (sw_c (fun e9 => ?_) (fun c9_9 => (sw_c (fun e9 => ?_) (fun c9_10 => ?_)))))))))))))))))))))
  · have H := oq_t e9 H
    refine Wp.r_aload_n0 (pc := 60) o_X11_told rfl rfl (Wp.f_al0_gfr (pc := 61) o_X11_told rfl rfl rfl fk_C_0_5 (Wp.r_gfi (pc := 65) o_X11_told rfl fk_C_25_13 (Wp.r_cv2 (pc := 68) o_X11_told rfl fk_C_0_0 (⟨rm8_ rfl, ?_⟩))))
    refine w_X11_answer (d := d) _ ?_
    refine oq_bd H (fun r1 s2 H => ?_)
    exact Wp.r_ireturn (pc := 71) o_X11_told rfl (⟨rfl, H⟩)
  · have H := oq_f c9_0 H; have H := oq_t e9 H
    refine Wp.r_aload_n0 (pc := 72) o_X11_told rfl rfl (Wp.f_al0_gfr (pc := 73) o_X11_told rfl rfl rfl fk_C_0_5 (Wp.r_gfi (pc := 77) o_X11_told rfl fk_C_25_14 (Wp.r_cv2 (pc := 80) o_X11_told rfl fk_C_0_0 (⟨rm8_ rfl, ?_⟩))))
    refine w_X11_answer (d := d) _ ?_
    refine oq_bd H (fun r3 s4 H => ?_)
    exact Wp.r_ireturn (pc := 83) o_X11_told rfl (⟨rfl, H⟩)
  · have H := oq_f c9_0 H; have H := oq_f c9_1 H; have H := oq_t e9 H
    refine Wp.r_aload_n0 (pc := 84) o_X11_told rfl rfl (Wp.f_al0_gfr (pc := 85) o_X11_told rfl rfl rfl fk_C_0_5 (Wp.r_gfi (pc := 89) o_X11_told rfl fk_C_25_15 (Wp.r_cv2 (pc := 92) o_X11_told rfl fk_C_0_0 (⟨rm8_ rfl, ?_⟩))))
    refine w_X11_answer (d := d) _ ?_
    refine oq_bd H (fun r5 s6 H => ?_)
    exact Wp.r_ireturn (pc := 95) o_X11_told rfl (⟨rfl, H⟩)
  · have H := oq_f c9_0 H; have H := oq_f c9_1 H; have H := oq_f c9_2 H; have H := oq_t e9 H
    refine Wp.r_aload_n0 (pc := 96) o_X11_told rfl rfl (Wp.f_al0_gfr (pc := 97) o_X11_told rfl rfl rfl fk_C_0_5 (Wp.r_gfi (pc := 101) o_X11_told rfl fk_C_25_16 (Wp.r_cv2 (pc := 104) o_X11_told rfl fk_C_0_0 (⟨rm8_ rfl, ?_⟩))))
    refine w_X11_answer (d := d) _ ?_
    refine oq_bd H (fun r7 s8 H => ?_)
    exact Wp.r_ireturn (pc := 107) o_X11_told rfl (⟨rfl, H⟩)
  · have H := oq_f c9_0 H; have H := oq_f c9_1 H; have H := oq_f c9_2 H; have H := oq_f c9_3 H; have H := oq_t e9 H
    refine Wp.r_aload_n0 (pc := 108) o_X11_told rfl rfl (Wp.f_al0_gfr (pc := 109) o_X11_told rfl rfl rfl fk_C_0_6 (Wp.r_gfi (pc := 113) o_X11_told rfl fk_C_26_6 (Wp.r_cv2 (pc := 116) o_X11_told rfl fk_C_0_0 (⟨rm8_ rfl, ?_⟩))))
    refine w_X11_answer (d := d) _ ?_
    refine oq_bd H (fun r9 s10 H => ?_)
    exact Wp.r_ireturn (pc := 119) o_X11_told rfl (⟨rfl, H⟩)
  · have H := oq_f c9_0 H; have H := oq_f c9_1 H; have H := oq_f c9_2 H; have H := oq_f c9_3 H; have H := oq_f c9_4 H; have H := oq_t e9 H
    refine Wp.r_aload_n0 (pc := 120) o_X11_told rfl rfl (Wp.f_al0_gfr (pc := 121) o_X11_told rfl rfl rfl fk_C_0_6 (Wp.r_gfi (pc := 125) o_X11_told rfl fk_C_26_9 (Wp.r_cv2 (pc := 128) o_X11_told rfl fk_C_0_0 (⟨rm8_ rfl, ?_⟩))))
    refine w_X11_answer (d := d) _ ?_
    refine oq_bd H (fun r11 s12 H => ?_)
    exact Wp.r_ireturn (pc := 131) o_X11_told rfl (⟨rfl, H⟩)
  · have H := oq_f c9_0 H; have H := oq_f c9_1 H; have H := oq_f c9_2 H; have H := oq_f c9_3 H; have H := oq_f c9_4 H; have H := oq_f c9_5 H; have H := oq_t e9 H
    refine Wp.r_aload_n0 (pc := 132) o_X11_told rfl rfl (Wp.f_al0_gfr (pc := 133) o_X11_told rfl rfl rfl fk_C_0_6 (Wp.r_gfi (pc := 137) o_X11_told rfl fk_C_26_10 (Wp.r_cv2 (pc := 140) o_X11_told rfl fk_C_0_0 (⟨rm8_ rfl, ?_⟩))))
    refine w_X11_answer (d := d) _ ?_
    refine oq_bd H (fun r13 s14 H => ?_)
    exact Wp.r_ireturn (pc := 143) o_X11_told rfl (⟨rfl, H⟩)
  · have H := oq_f c9_0 H; have H := oq_f c9_1 H; have H := oq_f c9_2 H; have H := oq_f c9_3 H; have H := oq_f c9_4 H; have H := oq_f c9_5 H; have H := oq_f c9_6 H; have H := oq_t e9 H
    refine Wp.r_aload_n0 (pc := 144) o_X11_told rfl rfl (Wp.f_al0_gfr (pc := 145) o_X11_told rfl rfl rfl fk_C_0_6 (Wp.r_gfi (pc := 149) o_X11_told rfl fk_C_26_11 (Wp.r_cv2 (pc := 152) o_X11_told rfl fk_C_0_0 (⟨rm8_ rfl, ?_⟩))))
    refine w_X11_answer (d := d) _ ?_
    refine oq_bd H (fun r15 s16 H => ?_)
    exact Wp.r_ireturn (pc := 155) o_X11_told rfl (⟨rfl, H⟩)
  · have H := oq_f c9_0 H; have H := oq_f c9_1 H; have H := oq_f c9_2 H; have H := oq_f c9_3 H; have H := oq_f c9_4 H; have H := oq_f c9_5 H; have H := oq_f c9_6 H; have H := oq_f c9_7 H; have H := oq_t e9 H
    refine Wp.r_aload_n0 (pc := 156) o_X11_told rfl rfl (Wp.f_al0_gfr (pc := 157) o_X11_told rfl rfl rfl fk_C_0_6 (Wp.r_gfi (pc := 161) o_X11_told rfl fk_C_26_12 (Wp.r_cv2 (pc := 164) o_X11_told rfl fk_C_0_0 (⟨rm8_ rfl, ?_⟩))))
    refine w_X11_answer (d := d) _ ?_
    refine oq_bd H (fun r17 s18 H => ?_)
    exact Wp.r_ireturn (pc := 167) o_X11_told rfl (⟨rfl, H⟩)
  · have H := oq_f c9_0 H; have H := oq_f c9_1 H; have H := oq_f c9_2 H; have H := oq_f c9_3 H; have H := oq_f c9_4 H; have H := oq_f c9_5 H; have H := oq_f c9_6 H; have H := oq_f c9_7 H; have H := oq_f c9_8 H; have H := oq_t e9 H
    refine Wp.r_aload_n0 (pc := 168) o_X11_told rfl rfl (Wp.f_al0_gfr (pc := 169) o_X11_told rfl rfl rfl fk_C_0_5 (Wp.r_gfi (pc := 173) o_X11_told rfl fk_C_25_17 (Wp.r_cv2 (pc := 176) o_X11_told rfl fk_C_0_0 (⟨rm8_ rfl, ?_⟩))))
    refine w_X11_answer (d := d) _ ?_
    refine oq_bd H (fun r19 s20 H => ?_)
    exact Wp.r_ireturn (pc := 179) o_X11_told rfl (⟨rfl, H⟩)
  · have H := oq_f c9_0 H; have H := oq_f c9_1 H; have H := oq_f c9_2 H; have H := oq_f c9_3 H; have H := oq_f c9_4 H; have H := oq_f c9_5 H; have H := oq_f c9_6 H; have H := oq_f c9_7 H; have H := oq_f c9_8 H; have H := oq_f c9_9 H; have H := oq_t e9 H
    refine Wp.r_aload_n0 (pc := 180) o_X11_told rfl rfl (Wp.f_al0_gfr (pc := 181) o_X11_told rfl rfl rfl fk_C_0_6 (Wp.r_gfi (pc := 185) o_X11_told rfl fk_C_26_7 (Wp.r_if_eq (pc := 188) o_X11_told rfl (fun c9 => ?_) (fun c9 => ?_))))
    · have H := oq_t c9 H
      refine Wp.r_iconst (pc := 195) o_X11_told rfl (Wp.r_cv2 (pc := 196) o_X11_told rfl fk_C_0_0 (⟨rm8_ rfl, ?_⟩))
      refine w_X11_answer (d := d) _ ?_
      refine oq_bd H (fun r21 s22 H => ?_)
      exact Wp.r_ireturn (pc := 199) o_X11_told rfl (⟨rfl, H⟩)
    · have H := oq_f c9 H
      refine Wp.r_iconst (pc := 191) o_X11_told rfl (Wp.r_goto (pc := 192) o_X11_told rfl (Wp.r_cv2 (pc := 196) o_X11_told rfl fk_C_0_0 (⟨rm8_ rfl, ?_⟩)))
      refine w_X11_answer (d := d) _ ?_
      refine oq_bd H (fun r23 s24 H => ?_)
      exact Wp.r_ireturn (pc := 199) o_X11_told rfl (⟨rfl, H⟩)
  · have H := oq_f c9_0 H; have H := oq_f c9_1 H; have H := oq_f c9_2 H; have H := oq_f c9_3 H; have H := oq_f c9_4 H; have H := oq_f c9_5 H; have H := oq_f c9_6 H; have H := oq_f c9_7 H; have H := oq_f c9_8 H; have H := oq_f c9_9 H; have H := oq_f c9_10 H
    refine Wp.f_al0_iconst (pc := 200) o_X11_told rfl rfl rfl (Wp.r_cv2 (pc := 202) o_X11_told rfl fk_C_0_0 (⟨rm8_ rfl, ?_⟩))
    refine w_X11_refuse (d := d) _ ?_
    refine oq_bd H (fun r25 s26 H => ?_)
    exact Wp.r_ireturn (pc := 205) o_X11_told rfl (⟨rfl, H⟩)
noncomputable abbrev Y_X11_purse (d : Nat) (Q : Qt) : Xt := Wp SHC (WpM SHC MT (d + 1)) (flat2 cq_X11_purse) (some .int) Q
noncomputable def f_X11_purse  (s : Sg) : Option (Int32 × Sg) :=
  bd (f_X11_answer (s.1 26 8) s) (fun r1 s2 =>
  some (r1, s2)
  )
set_option maxRecDepth 100000 in
theorem w_X11_purse {d : Nat} {s : Sg} {Q : Qt}  (H : OQ (f_X11_purse  s) (fun r9 s9 => Q (some (.int r9)) s9)) : WpM SHC MT (d + 2) 114 [.ref 0] s Q := by
  refine WpM.enter me_X11_purse rfl rfl ?_
  show Y_X11_purse d Q 0 [(0, .ref 0)] [] s
  unfold f_X11_purse at H
  refine Wp.r_aload_n0 (pc := 0) o_X11_purse rfl rfl (Wp.f_al0_gfr (pc := 1) o_X11_purse rfl rfl rfl fk_C_0_6 (Wp.r_gfi (pc := 5) o_X11_purse rfl fk_C_26_8 (Wp.r_cv2 (pc := 8) o_X11_purse rfl fk_C_0_0 (⟨rm8_ rfl, ?_⟩))))
  refine w_X11_answer (d := d) _ ?_
  refine oq_bd H (fun r1 s2 H => ?_)
  exact Wp.r_ireturn (pc := 11) o_X11_purse rfl (⟨rfl, H⟩)
noncomputable abbrev Y_X11_isHouse (d : Nat) (Q : Qt) : Xt := Wp SHC (WpM SHC MT (d + 1)) (flat2 cq_X11_isHouse) (some .boolean) Q
noncomputable def f_X11_isHouse (a1 : Int32) (s : Sg) : Option (Int32 × Sg) :=
  bd (f_X11_within a1 0 ((s.1 25 13) - 1) s) (fun r1 s2 =>
  ck (r1 = 0 ∨ r1 = 1) (some (r1, s2))
  )
set_option maxRecDepth 100000 in
theorem w_X11_isHouse {d : Nat} {s : Sg} {Q : Qt} (a1 : Int32) (H : OQ (f_X11_isHouse a1 s) (fun r9 s9 => Q (some (.int r9)) s9)) : WpM SHC MT (d + 2) 172 [.ref 0, .int a1] s Q := by
  refine WpM.enter me_X11_isHouse rfl rfl ?_
  show Y_X11_isHouse d Q 0 [(0, .ref 0), (1, .int a1)] [] s
  unfold f_X11_isHouse at H
  refine Wp.r_iload_n1 (pc := 0) o_X11_isHouse rfl rfl (Wp.r_iconst (pc := 1) o_X11_isHouse rfl (Wp.f_al0_gfr (pc := 2) o_X11_isHouse rfl rfl rfl fk_C_0_5 (Wp.r_gfi (pc := 6) o_X11_isHouse rfl fk_C_25_13 (Wp.r_iconst (pc := 9) o_X11_isHouse rfl (Wp.r_isub (pc := 10) o_X11_isHouse rfl (Wp.r_cs3 (pc := 11) o_X11_isHouse rfl (⟨rm8_ rfl, ?_⟩)))))))
  refine w_X11_within (d := d) _ _ _ ?_
  refine oq_bd H (fun r1 s2 H => ?_)
  obtain ⟨c9, H⟩ := oq_ck H
  exact Wp.r_ireturn (pc := 14) o_X11_isHouse rfl (⟨b01_n c9, H⟩)
noncomputable abbrev Y_X11_whyNoStep (d : Nat) (Q : Qt) : Xt := Wp SHC (WpM SHC MT (d + 2)) (flat2 cq_X11_whyNoStep) (some .int) Q
noncomputable def f_X11_whyNoStep (a1 : Int32) (a2 : Int32) (s : Sg) : Option (Int32 × Sg) :=
  bd (f_X11_isHouse a1 s) (fun r1 s2 =>
  if r1 = 0 then
    some (1, s2)
  else
    if a2 = 0 then
      some (1, s2)
    else
      bd (f_X4_isGone a1 s2) (fun r3 s4 =>
      if r3 = 0 then
        some (0, s4)
      else
        some (7, s4)
      )
  )
set_option maxRecDepth 100000 in
theorem w_X11_whyNoStep {d : Nat} {s : Sg} {Q : Qt} (a1 : Int32) (a2 : Int32) (H : OQ (f_X11_whyNoStep a1 a2 s) (fun r9 s9 => Q (some (.int r9)) s9)) : WpM SHC MT (d + 3) 177 [.ref 0, .int a1, .int a2] s Q := by
  refine WpM.enter me_X11_whyNoStep rfl rfl ?_
  show Y_X11_whyNoStep d Q 0 [(0, .ref 0), (1, .int a1), (2, .int a2)] [] s
  unfold f_X11_whyNoStep at H
  refine Wp.r_aload_n0 (pc := 0) o_X11_whyNoStep rfl rfl (Wp.r_iload_n1 (pc := 1) o_X11_whyNoStep rfl rfl (Wp.r_cv2 (pc := 2) o_X11_whyNoStep rfl fk_C_0_0 (⟨rm8_ rfl, ?_⟩)))
  refine w_X11_isHouse (d := d) _ ?_
  refine oq_bd H (fun r1 s2 H => ?_)
  refine Wp.r_if_eq (pc := 5) o_X11_whyNoStep rfl (fun c9 => ?_) (fun c9 => ?_)
  · have H := oq_t c9 H
    exact Wp.r_iconst (pc := 12) o_X11_whyNoStep rfl (Wp.r_ireturn (pc := 13) o_X11_whyNoStep rfl (⟨rfl, H⟩))
  · have H := oq_f c9 H
    refine Wp.r_iload_n2 (pc := 8) o_X11_whyNoStep rfl rfl (Wp.r_if_ne (pc := 9) o_X11_whyNoStep rfl (fun c9 => ?_) (fun c9 => ?_))
    · have H := oq_t c9 H
      exact Wp.r_iconst (pc := 12) o_X11_whyNoStep rfl (Wp.r_ireturn (pc := 13) o_X11_whyNoStep rfl (⟨rfl, H⟩))
    · have H := oq_f c9 H
      refine Wp.f_al0_gfr (pc := 14) o_X11_whyNoStep rfl rfl rfl fk_C_0_5 (Wp.r_iload_n1 (pc := 18) o_X11_whyNoStep rfl rfl (Wp.r_cv2 (pc := 19) o_X11_whyNoStep rfl fk_C_25_0 (⟨rm8_ rfl, ?_⟩)))
      refine w_X4_isGone (d := d + 1) _ ?_
      refine oq_bd H (fun r3 s4 H => ?_)
      refine Wp.r_if_eq (pc := 22) o_X11_whyNoStep rfl (fun c9 => ?_) (fun c9 => ?_)
      · have H := oq_t c9 H
        exact Wp.r_iconst (pc := 30) o_X11_whyNoStep rfl (Wp.r_ireturn (pc := 31) o_X11_whyNoStep rfl (⟨rfl, H⟩))
      · have H := oq_f c9 H
        exact Wp.r_bipush (pc := 25) o_X11_whyNoStep rfl (Wp.r_goto (pc := 27) o_X11_whyNoStep rfl (Wp.r_ireturn (pc := 31) o_X11_whyNoStep rfl (⟨rfl, H⟩)))
noncomputable abbrev Y_X11_step (d : Nat) (Q : Qt) : Xt := Wp SHC (WpM SHC MT (d + 3)) (flat2 cq_X11_step) (some .int) Q
noncomputable def f_X11_step (a1 : Int32) (a2 : Int32) (s : Sg) : Option (Int32 × Sg) :=
  bd (f_X11_within a2 0 3 s) (fun r1 s2 =>
  bd (f_X11_whyNoStep a1 r1 s2) (fun r3 s4 =>
  if r3 = 0 then
    if a2 = 3 then
      ck (inr a1 8) (
      bd (f_X11_answer (s4.1 34 a1.toNatClampNeg) s4) (fun r6 s7 =>
      some (r6, s7)
      )
      )
    else
      if a2 = 0 then
        ck (inr a1 8) (
        bd (f_X11_answer (s4.1 40 a1.toNatClampNeg) s4) (fun r9 s10 =>
        some (r9, s10)
        )
        )
      else
        if a2 = 1 then
          ck (inr a1 8) (
          bd (f_X11_answer (s4.1 41 a1.toNatClampNeg) s4) (fun r12 s13 =>
          some (r12, s13)
          )
          )
        else
          ck (inr a1 8) (
          bd (f_X11_answer (s4.1 42 a1.toNatClampNeg) s4) (fun r15 s16 =>
          some (r15, s16)
          )
          )
  else
    bd (f_X11_refuse r3 s4) (fun r17 s18 =>
    some (r17, s18)
    )
  )
  )
set_option maxRecDepth 100000 in
theorem w_X11_step {d : Nat} {s : Sg} {Q : Qt} (a1 : Int32) (a2 : Int32) (H : OQ (f_X11_step a1 a2 s) (fun r9 s9 => Q (some (.int r9)) s9)) : WpM SHC MT (d + 4) 115 [.ref 0, .int a1, .int a2] s Q := by
  refine WpM.enter me_X11_step rfl rfl ?_
  show Y_X11_step d Q 0 [(0, .ref 0), (1, .int a1), (2, .int a2)] [] s
  unfold f_X11_step at H
  refine Wp.r_aload_n0 (pc := 0) o_X11_step rfl rfl (Wp.r_iload_n1 (pc := 1) o_X11_step rfl rfl (Wp.r_iload_n2 (pc := 2) o_X11_step rfl rfl (Wp.r_iconst (pc := 3) o_X11_step rfl (Wp.r_iconst (pc := 4) o_X11_step rfl (Wp.r_cs3 (pc := 5) o_X11_step rfl (⟨rm8_ rfl, ?_⟩))))))
  refine w_X11_within (d := d + 2) _ _ _ ?_
  refine oq_bd H (fun r1 s2 H => ?_)
  refine Wp.r_cv3 (pc := 8) o_X11_step rfl fk_C_0_0 (⟨rm8_ rfl, ?_⟩)
  refine w_X11_whyNoStep (d := d) _ _ ?_
  refine oq_bd H (fun r3 s4 H => ?_)
  refine Wp.r_istore_n3 (pc := 11) o_X11_step rfl (Wp.r_iload_n3 (pc := 12) o_X11_step rfl rfl (Wp.r_if_eq (pc := 13) o_X11_step rfl (fun c9 => ?_) (fun c9 => ?_)))
  · have H := oq_t c9 H
    refine Wp.r_aload_n0 (pc := 22) o_X11_step rfl rfl (Wp.r_iload_n2 (pc := 23) o_X11_step rfl rfl (Wp.r_iconst (pc := 24) o_X11_step rfl (Wp.r_icmp_ne (pc := 25) o_X11_step rfl (fun c9 => ?_) (fun c9 => ?_))))
    · have H := oq_t c9 H
      obtain ⟨hc5, H⟩ := oq_ck H
      refine Wp.f_al0_gfr (pc := 28) o_X11_step rfl rfl rfl fk_C_0_5 (Wp.r_gfr (pc := 32) o_X11_step rfl fk_C_25_6 (Wp.r_iload_n1 (pc := 35) o_X11_step rfl rfl (Wp.r_iaload (pc := 36) o_X11_step rfl ak_C_34 (⟨hc5, ?_⟩))))
      refine Wp.r_goto (pc := 37) o_X11_step rfl (Wp.r_cv2 (pc := 50) o_X11_step rfl fk_C_0_0 (⟨rm8_ rfl, ?_⟩))
      refine w_X11_answer (d := d + 2) _ ?_
      refine oq_bd H (fun r6 s7 H => ?_)
      exact Wp.r_ireturn (pc := 53) o_X11_step rfl (⟨rfl, H⟩)
    · have H := oq_f c9 H
      refine Wp.f_al0_gfr (pc := 40) o_X11_step rfl rfl rfl fk_C_0_6 (Wp.r_iload_n2 (pc := 44) o_X11_step rfl rfl (Wp.r_cv2 (pc := 45) o_X11_step rfl fk_C_26_0 (⟨rm8_ rfl, ?_⟩)))
      refine WpM.enter me_X2_row rfl rfl ?_
      show Wp SHC _ (flat2 cq_X2_row) _ _ 0 [(0, .ref 26), (1, .int a2)] [] _
      refine Wp.r_iload_n1 (pc := 0) o_X2_row rfl rfl (Wp.r_if_ne (pc := 1) o_X2_row rfl (fun c9 => ?_) (fun c9 => ?_))
      · have H := oq_t c9 H
        refine Wp.f_al0_gfr (pc := 4) o_X2_row rfl rfl rfl fk_C_26_0 (Wp.r_areta (pc := 8) o_X2_row rfl (show Y_X11_step d Q 48 [(3, .int r3), (0, .ref 0), (1, .int a1), (2, .int a2)] [.ref 40, .ref 0] s4 from ?_))
        obtain ⟨hc8, H⟩ := oq_ck H
        refine Wp.r_iload_n1 (pc := 48) o_X11_step rfl rfl (Wp.r_iaload (pc := 49) o_X11_step rfl ak_C_40 (⟨hc8, ?_⟩))
        refine Wp.r_cv2 (pc := 50) o_X11_step rfl fk_C_0_0 (⟨rm8_ rfl, ?_⟩)
        refine w_X11_answer (d := d + 2) _ ?_
        refine oq_bd H (fun r9 s10 H => ?_)
        exact Wp.r_ireturn (pc := 53) o_X11_step rfl (⟨rfl, H⟩)
      · have H := oq_f c9 H
        refine Wp.r_iload_n1 (pc := 9) o_X2_row rfl rfl (Wp.r_iconst (pc := 10) o_X2_row rfl (Wp.r_icmp_ne (pc := 11) o_X2_row rfl (fun c9 => ?_) (fun c9 => ?_)))
        · have H := oq_t c9 H
          refine Wp.f_al0_gfr (pc := 14) o_X2_row rfl rfl rfl fk_C_26_1 (Wp.r_goto (pc := 18) o_X2_row rfl (Wp.r_areta (pc := 25) o_X2_row rfl (show Y_X11_step d Q 48 [(3, .int r3), (0, .ref 0), (1, .int a1), (2, .int a2)] [.ref 41, .ref 0] s4 from ?_)))
          obtain ⟨hc11, H⟩ := oq_ck H
          refine Wp.r_iload_n1 (pc := 48) o_X11_step rfl rfl (Wp.r_iaload (pc := 49) o_X11_step rfl ak_C_41 (⟨hc11, ?_⟩))
          refine Wp.r_cv2 (pc := 50) o_X11_step rfl fk_C_0_0 (⟨rm8_ rfl, ?_⟩)
          refine w_X11_answer (d := d + 2) _ ?_
          refine oq_bd H (fun r12 s13 H => ?_)
          exact Wp.r_ireturn (pc := 53) o_X11_step rfl (⟨rfl, H⟩)
        · have H := oq_f c9 H
          refine Wp.f_al0_gfr (pc := 21) o_X2_row rfl rfl rfl fk_C_26_2 (Wp.r_areta (pc := 25) o_X2_row rfl (show Y_X11_step d Q 48 [(3, .int r3), (0, .ref 0), (1, .int a1), (2, .int a2)] [.ref 42, .ref 0] s4 from ?_))
          obtain ⟨hc14, H⟩ := oq_ck H
          refine Wp.r_iload_n1 (pc := 48) o_X11_step rfl rfl (Wp.r_iaload (pc := 49) o_X11_step rfl ak_C_42 (⟨hc14, ?_⟩))
          refine Wp.r_cv2 (pc := 50) o_X11_step rfl fk_C_0_0 (⟨rm8_ rfl, ?_⟩)
          refine w_X11_answer (d := d + 2) _ ?_
          refine oq_bd H (fun r15 s16 H => ?_)
          exact Wp.r_ireturn (pc := 53) o_X11_step rfl (⟨rfl, H⟩)
  · have H := oq_f c9 H
    refine Wp.r_aload_n0 (pc := 16) o_X11_step rfl rfl (Wp.r_iload_n3 (pc := 17) o_X11_step rfl rfl (Wp.r_cv2 (pc := 18) o_X11_step rfl fk_C_0_0 (⟨rm8_ rfl, ?_⟩)))
    refine w_X11_refuse (d := d + 2) _ ?_
    refine oq_bd H (fun r17 s18 H => ?_)
    exact Wp.r_ireturn (pc := 21) o_X11_step rfl (⟨rfl, H⟩)
noncomputable abbrev Y_X11_isQuarrel (d : Nat) (Q : Qt) : Xt := Wp SHC (WpM SHC MT (d + 1)) (flat2 cq_X11_isQuarrel) (some .boolean) Q
noncomputable def f_X11_isQuarrel (a1 : Int32) (s : Sg) : Option (Int32 × Sg) :=
  bd (f_X11_within a1 0 ((s.1 25 14) - 1) s) (fun r1 s2 =>
  ck (r1 = 0 ∨ r1 = 1) (some (r1, s2))
  )
set_option maxRecDepth 100000 in
theorem w_X11_isQuarrel {d : Nat} {s : Sg} {Q : Qt} (a1 : Int32) (H : OQ (f_X11_isQuarrel a1 s) (fun r9 s9 => Q (some (.int r9)) s9)) : WpM SHC MT (d + 2) 173 [.ref 0, .int a1] s Q := by
  refine WpM.enter me_X11_isQuarrel rfl rfl ?_
  show Y_X11_isQuarrel d Q 0 [(0, .ref 0), (1, .int a1)] [] s
  unfold f_X11_isQuarrel at H
  refine Wp.r_iload_n1 (pc := 0) o_X11_isQuarrel rfl rfl (Wp.r_iconst (pc := 1) o_X11_isQuarrel rfl (Wp.f_al0_gfr (pc := 2) o_X11_isQuarrel rfl rfl rfl fk_C_0_5 (Wp.r_gfi (pc := 6) o_X11_isQuarrel rfl fk_C_25_14 (Wp.r_iconst (pc := 9) o_X11_isQuarrel rfl (Wp.r_isub (pc := 10) o_X11_isQuarrel rfl (Wp.r_cs3 (pc := 11) o_X11_isQuarrel rfl (⟨rm8_ rfl, ?_⟩)))))))
  refine w_X11_within (d := d) _ _ _ ?_
  refine oq_bd H (fun r1 s2 H => ?_)
  obtain ⟨c9, H⟩ := oq_ck H
  exact Wp.r_ireturn (pc := 14) o_X11_isQuarrel rfl (⟨b01_n c9, H⟩)
noncomputable abbrev Y_X11_quarrel (d : Nat) (Q : Qt) : Xt := Wp SHC (WpM SHC MT (d + 2)) (flat2 cq_X11_quarrel) (some .int) Q
noncomputable def f_X11_quarrel (a1 : Int32) (a2 : Int32) (s : Sg) : Option (Int32 × Sg) :=
  bd (f_X11_isQuarrel a1 s) (fun r1 s2 =>
  if r1 = 0 then
    bd (f_X11_refuse 1 s2) (fun r3 s4 =>
    some (r3, s4)
    )
  else
    if a2 = 0 then
      ck (inr a1 8) (
      bd (f_X11_answer (s2.1 31 a1.toNatClampNeg) s2) (fun r6 s7 =>
      some (r6, s7)
      )
      )
    else
    if a2 = 1 then
      ck (inr a1 8) (
      bd (f_X11_answer (s2.1 32 a1.toNatClampNeg) s2) (fun r9 s10 =>
      some (r9, s10)
      )
      )
    else
    if a2 = 2 then
      ck (inr a1 8) (
      bd (f_X11_answer (s2.1 33 a1.toNatClampNeg) s2) (fun r12 s13 =>
      some (r12, s13)
      )
      )
    else
    if a2 = 3 then
      bd (f_X11_answer (((s2.1 26 5) >>> (a1 &&& 31)) &&& 1) s2) (fun r14 s15 =>
      some (r14, s15)
      )
    else
    if a2 = 4 then
      ck (inr a1 8) (
      bd (f_X11_answer (s2.1 43 a1.toNatClampNeg) s2) (fun r17 s18 =>
      some (r17, s18)
      )
      )
    else
      bd (f_X11_refuse 1 s2) (fun r19 s20 =>
      some (r19, s20)
      )
  )
set_option maxRecDepth 100000 in
theorem w_X11_quarrel {d : Nat} {s : Sg} {Q : Qt} (a1 : Int32) (a2 : Int32) (H : OQ (f_X11_quarrel a1 a2 s) (fun r9 s9 => Q (some (.int r9)) s9)) : WpM SHC MT (d + 3) 116 [.ref 0, .int a1, .int a2] s Q := by
  refine WpM.enter me_X11_quarrel rfl rfl ?_
  show Y_X11_quarrel d Q 0 [(0, .ref 0), (1, .int a1), (2, .int a2)] [] s
  unfold f_X11_quarrel at H
  refine Wp.r_aload_n0 (pc := 0) o_X11_quarrel rfl rfl (Wp.r_iload_n1 (pc := 1) o_X11_quarrel rfl rfl (Wp.r_cv2 (pc := 2) o_X11_quarrel rfl fk_C_0_0 (⟨rm8_ rfl, ?_⟩)))
  refine w_X11_isQuarrel (d := d) _ ?_
  refine oq_bd H (fun r1 s2 H => ?_)
  refine Wp.r_if_ne (pc := 5) o_X11_quarrel rfl (fun c9 => ?_) (fun c9 => ?_)
  · have H := oq_t c9 H
    refine Wp.f_al0_iconst (pc := 8) o_X11_quarrel rfl rfl rfl (Wp.r_cv2 (pc := 10) o_X11_quarrel rfl fk_C_0_0 (⟨rm8_ rfl, ?_⟩))
    refine w_X11_refuse (d := d + 1) _ ?_
    refine oq_bd H (fun r3 s4 H => ?_)
    exact Wp.r_ireturn (pc := 13) o_X11_quarrel rfl (⟨rfl, H⟩)
  · have H := oq_f c9 H
    refine Wp.r_iload_n2 (pc := 14) o_X11_quarrel rfl rfl (show Y_X11_quarrel d Q 15 [(0, .ref 0), (1, .int a1), (2, .int a2)] [.int a2] s2 from ?_)
    refine Wp.tsw2 (l := [(0, 48), (1, 62), (2, 76), (3, 90), (4, 106)]) o_X11_quarrel rfl (by decide +kernel) ?_
    show sw [(0, 48), (1, 62), (2, 76), (3, 90), (4, 106)] 120 a2 (fun t9 => Y_X11_quarrel d Q t9 [(0, .ref 0), (1, .int a1), (2, .int a2)] [] s2)
    refine sw_c (fun e9 => ?_) (fun c9_0 => (sw_c (fun e9 => ?_) (fun c9_1 => (sw_c (fun e9 => ?_) (fun c9_2 => (sw_c (fun e9 => ?_) (fun c9_3 => (sw_c (fun e9 => ?_) (fun c9_4 => ?_)))))))))
    · have H := oq_t e9 H
      obtain ⟨hc5, H⟩ := oq_ck H
      refine Wp.r_aload_n0 (pc := 48) o_X11_quarrel rfl rfl (Wp.f_al0_gfr (pc := 49) o_X11_quarrel rfl rfl rfl fk_C_0_5 (Wp.r_gfr (pc := 53) o_X11_quarrel rfl fk_C_25_3 (Wp.r_iload_n1 (pc := 56) o_X11_quarrel rfl rfl (Wp.r_iaload (pc := 57) o_X11_quarrel rfl ak_C_31 (⟨hc5, ?_⟩)))))
      refine Wp.r_cv2 (pc := 58) o_X11_quarrel rfl fk_C_0_0 (⟨rm8_ rfl, ?_⟩)
      refine w_X11_answer (d := d + 1) _ ?_
      refine oq_bd H (fun r6 s7 H => ?_)
      exact Wp.r_ireturn (pc := 61) o_X11_quarrel rfl (⟨rfl, H⟩)
    · have H := oq_f c9_0 H; have H := oq_t e9 H
      obtain ⟨hc8, H⟩ := oq_ck H
      refine Wp.r_aload_n0 (pc := 62) o_X11_quarrel rfl rfl (Wp.f_al0_gfr (pc := 63) o_X11_quarrel rfl rfl rfl fk_C_0_5 (Wp.r_gfr (pc := 67) o_X11_quarrel rfl fk_C_25_4 (Wp.r_iload_n1 (pc := 70) o_X11_quarrel rfl rfl (Wp.r_iaload (pc := 71) o_X11_quarrel rfl ak_C_32 (⟨hc8, ?_⟩)))))
      refine Wp.r_cv2 (pc := 72) o_X11_quarrel rfl fk_C_0_0 (⟨rm8_ rfl, ?_⟩)
      refine w_X11_answer (d := d + 1) _ ?_
      refine oq_bd H (fun r9 s10 H => ?_)
      exact Wp.r_ireturn (pc := 75) o_X11_quarrel rfl (⟨rfl, H⟩)
    · have H := oq_f c9_0 H; have H := oq_f c9_1 H; have H := oq_t e9 H
      obtain ⟨hc11, H⟩ := oq_ck H
      refine Wp.r_aload_n0 (pc := 76) o_X11_quarrel rfl rfl (Wp.f_al0_gfr (pc := 77) o_X11_quarrel rfl rfl rfl fk_C_0_5 (Wp.r_gfr (pc := 81) o_X11_quarrel rfl fk_C_25_5 (Wp.r_iload_n1 (pc := 84) o_X11_quarrel rfl rfl (Wp.r_iaload (pc := 85) o_X11_quarrel rfl ak_C_33 (⟨hc11, ?_⟩)))))
      refine Wp.r_cv2 (pc := 86) o_X11_quarrel rfl fk_C_0_0 (⟨rm8_ rfl, ?_⟩)
      refine w_X11_answer (d := d + 1) _ ?_
      refine oq_bd H (fun r12 s13 H => ?_)
      exact Wp.r_ireturn (pc := 89) o_X11_quarrel rfl (⟨rfl, H⟩)
    · have H := oq_f c9_0 H; have H := oq_f c9_1 H; have H := oq_f c9_2 H; have H := oq_t e9 H
      refine Wp.r_aload_n0 (pc := 90) o_X11_quarrel rfl rfl (Wp.f_al0_gfr (pc := 91) o_X11_quarrel rfl rfl rfl fk_C_0_6 (Wp.r_gfi (pc := 95) o_X11_quarrel rfl fk_C_26_5 (Wp.r_iload_n1 (pc := 98) o_X11_quarrel rfl rfl (Wp.r_ishr (pc := 99) o_X11_quarrel rfl (Wp.r_iconst (pc := 100) o_X11_quarrel rfl (Wp.r_iand (pc := 101) o_X11_quarrel rfl (Wp.r_cv2 (pc := 102) o_X11_quarrel rfl fk_C_0_0 (⟨rm8_ rfl, ?_⟩))))))))
      refine w_X11_answer (d := d + 1) _ ?_
      refine oq_bd H (fun r14 s15 H => ?_)
      exact Wp.r_ireturn (pc := 105) o_X11_quarrel rfl (⟨rfl, H⟩)
    · have H := oq_f c9_0 H; have H := oq_f c9_1 H; have H := oq_f c9_2 H; have H := oq_f c9_3 H; have H := oq_t e9 H
      obtain ⟨hc16, H⟩ := oq_ck H
      refine Wp.r_aload_n0 (pc := 106) o_X11_quarrel rfl rfl (Wp.f_al0_gfr (pc := 107) o_X11_quarrel rfl rfl rfl fk_C_0_6 (Wp.r_gfr (pc := 111) o_X11_quarrel rfl fk_C_26_3 (Wp.r_iload_n1 (pc := 114) o_X11_quarrel rfl rfl (Wp.r_iaload (pc := 115) o_X11_quarrel rfl ak_C_43 (⟨hc16, ?_⟩)))))
      refine Wp.r_cv2 (pc := 116) o_X11_quarrel rfl fk_C_0_0 (⟨rm8_ rfl, ?_⟩)
      refine w_X11_answer (d := d + 1) _ ?_
      refine oq_bd H (fun r17 s18 H => ?_)
      exact Wp.r_ireturn (pc := 119) o_X11_quarrel rfl (⟨rfl, H⟩)
    · have H := oq_f c9_0 H; have H := oq_f c9_1 H; have H := oq_f c9_2 H; have H := oq_f c9_3 H; have H := oq_f c9_4 H
      refine Wp.f_al0_iconst (pc := 120) o_X11_quarrel rfl rfl rfl (Wp.r_cv2 (pc := 122) o_X11_quarrel rfl fk_C_0_0 (⟨rm8_ rfl, ?_⟩))
      refine w_X11_refuse (d := d + 1) _ ?_
      refine oq_bd H (fun r19 s20 H => ?_)
      exact Wp.r_ireturn (pc := 125) o_X11_quarrel rfl (⟨rfl, H⟩)
noncomputable abbrev Y_X11_isGrocer (d : Nat) (Q : Qt) : Xt := Wp SHC (WpM SHC MT (d + 1)) (flat2 cq_X11_isGrocer) (some .boolean) Q
noncomputable def f_X11_isGrocer (a1 : Int32) (s : Sg) : Option (Int32 × Sg) :=
  bd (f_X11_within a1 0 ((s.1 25 16) - 1) s) (fun r1 s2 =>
  ck (r1 = 0 ∨ r1 = 1) (some (r1, s2))
  )
set_option maxRecDepth 100000 in
theorem w_X11_isGrocer {d : Nat} {s : Sg} {Q : Qt} (a1 : Int32) (H : OQ (f_X11_isGrocer a1 s) (fun r9 s9 => Q (some (.int r9)) s9)) : WpM SHC MT (d + 2) 174 [.ref 0, .int a1] s Q := by
  refine WpM.enter me_X11_isGrocer rfl rfl ?_
  show Y_X11_isGrocer d Q 0 [(0, .ref 0), (1, .int a1)] [] s
  unfold f_X11_isGrocer at H
  refine Wp.r_iload_n1 (pc := 0) o_X11_isGrocer rfl rfl (Wp.r_iconst (pc := 1) o_X11_isGrocer rfl (Wp.f_al0_gfr (pc := 2) o_X11_isGrocer rfl rfl rfl fk_C_0_5 (Wp.r_gfi (pc := 6) o_X11_isGrocer rfl fk_C_25_16 (Wp.r_iconst (pc := 9) o_X11_isGrocer rfl (Wp.r_isub (pc := 10) o_X11_isGrocer rfl (Wp.r_cs3 (pc := 11) o_X11_isGrocer rfl (⟨rm8_ rfl, ?_⟩)))))))
  refine w_X11_within (d := d) _ _ _ ?_
  refine oq_bd H (fun r1 s2 H => ?_)
  obtain ⟨c9, H⟩ := oq_ck H
  exact Wp.r_ireturn (pc := 14) o_X11_isGrocer rfl (⟨b01_n c9, H⟩)
noncomputable abbrev Y_X11_grocer (d : Nat) (Q : Qt) : Xt := Wp SHC (WpM SHC MT (d + 2)) (flat2 cq_X11_grocer) (some .int) Q
noncomputable def f_X11_grocer (a1 : Int32) (a2 : Int32) (s : Sg) : Option (Int32 × Sg) :=
  bd (f_X11_isGrocer a1 s) (fun r1 s2 =>
  if r1 = 0 then
    bd (f_X11_refuse 1 s2) (fun r3 s4 =>
    some (r3, s4)
    )
  else
    if a2 = 0 then
      ck (inr a1 4) (
      bd (f_X11_answer (s2.1 44 a1.toNatClampNeg) s2) (fun r6 s7 =>
      some (r6, s7)
      )
      )
    else
    if a2 = 1 then
      ck (inr a1 4) (
      bd (f_X11_answer (s2.1 38 a1.toNatClampNeg) s2) (fun r9 s10 =>
      some (r9, s10)
      )
      )
    else
    if a2 = 2 then
      ck (inr a1 4) (
      bd (f_X11_answer (s2.1 39 a1.toNatClampNeg) s2) (fun r12 s13 =>
      some (r12, s13)
      )
      )
    else
      bd (f_X11_refuse 1 s2) (fun r14 s15 =>
      some (r14, s15)
      )
  )
set_option maxRecDepth 100000 in
theorem w_X11_grocer {d : Nat} {s : Sg} {Q : Qt} (a1 : Int32) (a2 : Int32) (H : OQ (f_X11_grocer a1 a2 s) (fun r9 s9 => Q (some (.int r9)) s9)) : WpM SHC MT (d + 3) 117 [.ref 0, .int a1, .int a2] s Q := by
  refine WpM.enter me_X11_grocer rfl rfl ?_
  show Y_X11_grocer d Q 0 [(0, .ref 0), (1, .int a1), (2, .int a2)] [] s
  unfold f_X11_grocer at H
  refine Wp.r_aload_n0 (pc := 0) o_X11_grocer rfl rfl (Wp.r_iload_n1 (pc := 1) o_X11_grocer rfl rfl (Wp.r_cv2 (pc := 2) o_X11_grocer rfl fk_C_0_0 (⟨rm8_ rfl, ?_⟩)))
  refine w_X11_isGrocer (d := d) _ ?_
  refine oq_bd H (fun r1 s2 H => ?_)
  refine Wp.r_if_ne (pc := 5) o_X11_grocer rfl (fun c9 => ?_) (fun c9 => ?_)
  · have H := oq_t c9 H
    refine Wp.f_al0_iconst (pc := 8) o_X11_grocer rfl rfl rfl (Wp.r_cv2 (pc := 10) o_X11_grocer rfl fk_C_0_0 (⟨rm8_ rfl, ?_⟩))
    refine w_X11_refuse (d := d + 1) _ ?_
    refine oq_bd H (fun r3 s4 H => ?_)
    exact Wp.r_ireturn (pc := 13) o_X11_grocer rfl (⟨rfl, H⟩)
  · have H := oq_f c9 H
    refine Wp.r_iload_n2 (pc := 14) o_X11_grocer rfl rfl (show Y_X11_grocer d Q 15 [(0, .ref 0), (1, .int a1), (2, .int a2)] [.int a2] s2 from ?_)
    refine Wp.tsw2 (l := [(0, 40), (1, 54), (2, 68)]) o_X11_grocer rfl (by decide +kernel) ?_
    show sw [(0, 40), (1, 54), (2, 68)] 82 a2 (fun t9 => Y_X11_grocer d Q t9 [(0, .ref 0), (1, .int a1), (2, .int a2)] [] s2)
    refine sw_c (fun e9 => ?_) (fun c9_0 => (sw_c (fun e9 => ?_) (fun c9_1 => (sw_c (fun e9 => ?_) (fun c9_2 => ?_)))))
    · have H := oq_t e9 H
      obtain ⟨hc5, H⟩ := oq_ck H
      refine Wp.r_aload_n0 (pc := 40) o_X11_grocer rfl rfl (Wp.f_al0_gfr (pc := 41) o_X11_grocer rfl rfl rfl fk_C_0_6 (Wp.r_gfr (pc := 45) o_X11_grocer rfl fk_C_26_4 (Wp.r_iload_n1 (pc := 48) o_X11_grocer rfl rfl (Wp.r_iaload (pc := 49) o_X11_grocer rfl ak_C_44 (⟨hc5, ?_⟩)))))
      refine Wp.r_cv2 (pc := 50) o_X11_grocer rfl fk_C_0_0 (⟨rm8_ rfl, ?_⟩)
      refine w_X11_answer (d := d + 1) _ ?_
      refine oq_bd H (fun r6 s7 H => ?_)
      exact Wp.r_ireturn (pc := 53) o_X11_grocer rfl (⟨rfl, H⟩)
    · have H := oq_f c9_0 H; have H := oq_t e9 H
      obtain ⟨hc8, H⟩ := oq_ck H
      refine Wp.r_aload_n0 (pc := 54) o_X11_grocer rfl rfl (Wp.f_al0_gfr (pc := 55) o_X11_grocer rfl rfl rfl fk_C_0_5 (Wp.r_gfr (pc := 59) o_X11_grocer rfl fk_C_25_10 (Wp.r_iload_n1 (pc := 62) o_X11_grocer rfl rfl (Wp.r_iaload (pc := 63) o_X11_grocer rfl ak_C_38 (⟨hc8, ?_⟩)))))
      refine Wp.r_cv2 (pc := 64) o_X11_grocer rfl fk_C_0_0 (⟨rm8_ rfl, ?_⟩)
      refine w_X11_answer (d := d + 1) _ ?_
      refine oq_bd H (fun r9 s10 H => ?_)
      exact Wp.r_ireturn (pc := 67) o_X11_grocer rfl (⟨rfl, H⟩)
    · have H := oq_f c9_0 H; have H := oq_f c9_1 H; have H := oq_t e9 H
      obtain ⟨hc11, H⟩ := oq_ck H
      refine Wp.r_aload_n0 (pc := 68) o_X11_grocer rfl rfl (Wp.f_al0_gfr (pc := 69) o_X11_grocer rfl rfl rfl fk_C_0_5 (Wp.r_gfr (pc := 73) o_X11_grocer rfl fk_C_25_11 (Wp.r_iload_n1 (pc := 76) o_X11_grocer rfl rfl (Wp.r_iaload (pc := 77) o_X11_grocer rfl ak_C_39 (⟨hc11, ?_⟩)))))
      refine Wp.r_cv2 (pc := 78) o_X11_grocer rfl fk_C_0_0 (⟨rm8_ rfl, ?_⟩)
      refine w_X11_answer (d := d + 1) _ ?_
      refine oq_bd H (fun r12 s13 H => ?_)
      exact Wp.r_ireturn (pc := 81) o_X11_grocer rfl (⟨rfl, H⟩)
    · have H := oq_f c9_0 H; have H := oq_f c9_1 H; have H := oq_f c9_2 H
      refine Wp.f_al0_iconst (pc := 82) o_X11_grocer rfl rfl rfl (Wp.r_cv2 (pc := 84) o_X11_grocer rfl fk_C_0_0 (⟨rm8_ rfl, ?_⟩))
      refine w_X11_refuse (d := d + 1) _ ?_
      refine oq_bd H (fun r14 s15 H => ?_)
      exact Wp.r_ireturn (pc := 87) o_X11_grocer rfl (⟨rfl, H⟩)
noncomputable abbrev Y_X2_lying (d : Nat) (Q : Qt) : Xt := Wp SHC (WpM SHC MT (d + 0)) (flat2 cq_X2_lying) (some .int) Q
noncomputable def f_X2_lying (a1 : Int32) (s : Sg) : Option (Int32 × Sg) :=
  ck (inr a1 8) (
  some ((s.1 40 a1.toNatClampNeg) + (s.1 41 a1.toNatClampNeg), s)
  )
set_option maxRecDepth 100000 in
theorem w_X2_lying {d : Nat} {s : Sg} {Q : Qt} (a1 : Int32) (H : OQ (f_X2_lying a1 s) (fun r9 s9 => Q (some (.int r9)) s9)) : WpM SHC MT (d + 1) 23 [.ref 26, .int a1] s Q := by
  refine WpM.enter me_X2_lying rfl rfl ?_
  show Y_X2_lying d Q 0 [(0, .ref 26), (1, .int a1)] [] s
  unfold f_X2_lying at H
  obtain ⟨hc1, H⟩ := oq_ck H
  refine Wp.f_al0_gfr (pc := 0) o_X2_lying rfl rfl rfl fk_C_26_0 (Wp.r_iload_n1 (pc := 4) o_X2_lying rfl rfl (Wp.r_iaload (pc := 5) o_X2_lying rfl ak_C_40 (⟨hc1, ?_⟩)))
  refine Wp.f_al0_gfr (pc := 6) o_X2_lying rfl rfl rfl fk_C_26_1 (Wp.r_iload_n1 (pc := 10) o_X2_lying rfl rfl (Wp.r_iaload (pc := 11) o_X2_lying rfl ak_C_41 (⟨hc1, ?_⟩)))
  exact Wp.r_iadd (pc := 12) o_X2_lying rfl (Wp.r_ireturn (pc := 13) o_X2_lying rfl (⟨rfl, H⟩))
noncomputable abbrev Y_X2_inSight (d : Nat) (Q : Qt) : Xt := Wp SHC (WpM SHC MT (d + 1)) (flat2 cq_X2_inSight) (some .int) Q
noncomputable def f_X2_inSight (a1 : Int32) (s : Sg) : Option (Int32 × Sg) :=
  ck (inr a1 8) (
  if (s.1 42 a1.toNatClampNeg) ≤ 0 then
    bd (f_X2_lying a1 s) (fun r2 s3 =>
    some (r2, s3)
    )
  else
    some (0, s)
  )
set_option maxRecDepth 100000 in
theorem w_X2_inSight {d : Nat} {s : Sg} {Q : Qt} (a1 : Int32) (H : OQ (f_X2_inSight a1 s) (fun r9 s9 => Q (some (.int r9)) s9)) : WpM SHC MT (d + 2) 24 [.ref 26, .int a1] s Q := by
  refine WpM.enter me_X2_inSight rfl rfl ?_
  show Y_X2_inSight d Q 0 [(0, .ref 26), (1, .int a1)] [] s
  unfold f_X2_inSight at H
  obtain ⟨hc1, H⟩ := oq_ck H
  refine Wp.f_al0_gfr (pc := 0) o_X2_inSight rfl rfl rfl fk_C_26_2 (Wp.r_iload_n1 (pc := 4) o_X2_inSight rfl rfl (Wp.r_iaload (pc := 5) o_X2_inSight rfl ak_C_42 (⟨hc1, ?_⟩)))
  refine Wp.r_if_le (pc := 6) o_X2_inSight rfl (fun c9 => ?_) (fun c9 => ?_)
  · have H := oq_t c9 H
    refine Wp.r_aload_n0 (pc := 13) o_X2_inSight rfl rfl (Wp.r_iload_n1 (pc := 14) o_X2_inSight rfl rfl (Wp.r_cv2 (pc := 15) o_X2_inSight rfl fk_C_26_0 (⟨rm8_ rfl, ?_⟩)))
    refine w_X2_lying (d := d) _ ?_
    refine oq_bd H (fun r2 s3 H => ?_)
    exact Wp.r_ireturn (pc := 18) o_X2_inSight rfl (⟨rfl, H⟩)
  · have H := oq_f c9 H
    exact Wp.r_iconst (pc := 9) o_X2_inSight rfl (Wp.r_goto (pc := 10) o_X2_inSight rfl (Wp.r_ireturn (pc := 18) o_X2_inSight rfl (⟨rfl, H⟩)))
noncomputable abbrev Y_X4_isAt (d : Nat) (Q : Qt) : Xt := Wp SHC (WpM SHC MT (d + 0)) (flat2 cq_X4_isAt) (some .boolean) Q
noncomputable def f_X4_isAt (a1 : Int32) (a2 : Int32) (s : Sg) : Option (Int32 × Sg) :=
  ck (inr a2 8) (
  if (((s.1 34 a2.toNatClampNeg) >>> (a1 &&& 31)) &&& 1) = 0 then
    some (0, s)
  else
    some (1, s)
  )
set_option maxRecDepth 100000 in
theorem w_X4_isAt {d : Nat} {s : Sg} {Q : Qt} (a1 : Int32) (a2 : Int32) (H : OQ (f_X4_isAt a1 a2 s) (fun r9 s9 => Q (some (.int r9)) s9)) : WpM SHC MT (d + 1) 56 [.ref 25, .int a1, .int a2] s Q := by
  refine WpM.enter me_X4_isAt rfl rfl ?_
  show Y_X4_isAt d Q 0 [(0, .ref 25), (1, .int a1), (2, .int a2)] [] s
  unfold f_X4_isAt at H
  obtain ⟨hc1, H⟩ := oq_ck H
  refine Wp.f_al0_gfr (pc := 0) o_X4_isAt rfl rfl rfl fk_C_25_6 (Wp.r_iload_n2 (pc := 4) o_X4_isAt rfl rfl (Wp.r_iaload (pc := 5) o_X4_isAt rfl ak_C_34 (⟨hc1, ?_⟩)))
  refine Wp.r_iload_n1 (pc := 6) o_X4_isAt rfl rfl (Wp.r_ishr (pc := 7) o_X4_isAt rfl (Wp.r_iconst (pc := 8) o_X4_isAt rfl (Wp.r_iand (pc := 9) o_X4_isAt rfl (Wp.r_if_eq (pc := 10) o_X4_isAt rfl (fun c9 => ?_) (fun c9 => ?_)))))
  · have H := oq_t c9 H
    exact Wp.r_iconst (pc := 17) o_X4_isAt rfl (Wp.r_ireturn (pc := 18) o_X4_isAt rfl (⟨rfl, H⟩))
  · have H := oq_f c9 H
    exact Wp.r_iconst (pc := 13) o_X4_isAt rfl (Wp.r_goto (pc := 14) o_X4_isAt rfl (Wp.r_ireturn (pc := 18) o_X4_isAt rfl (⟨rfl, H⟩)))
noncomputable abbrev Y_X9_shareOf_26_25 (d : Nat) (Q : Qt) : Xt := Wp SHC (WpM SHC MT (d + 2)) (flat2 cq_X9_shareOf) (some .int) Q
noncomputable def f_X9_shareOf_26_25_b10 : Nat → Int32 → Int32 → Int32 → Int32 → Sg → Option (Int32 × Sg)
  | 0, _, _, _, _, _ => none
  | n + 1, v2, v3, v4, v5, s =>
    if v2 ≤ v5 then
      ck (inr v2 8) (
      some (if (s.1 33 v2.toNatClampNeg) < v4 then (s.1 33 v2.toNatClampNeg) else v4, s)
      )
    else
      bd (f_X4_isAt v5 v3 s) (fun r4 s5 =>
      if r4 = 0 then
        (f_X9_shareOf_26_25_b10 n) v2 v3 v4 (v5 + 1) s5
      else
        ck (inr v5 8) (
        nmx (v4 - (if (s5.1 33 v5.toNatClampNeg) < v4 then (s5.1 33 v5.toNatClampNeg) else v4) : Int32) (fun x7 =>
        (f_X9_shareOf_26_25_b10 n) v2 v3 x7 (v5 + 1) s5
        )
        )
      )
set_option maxRecDepth 100000 in
theorem w_X9_shareOf_26_25_b10 {d : Nat} {Q : Qt} (n : Nat) : ∀ (v2 : Int32) (v3 : Int32) (v4 : Int32) (v5 : Int32) (s : Sg), OQ (f_X9_shareOf_26_25_b10 n v2 v3 v4 v5 s) (fun r9 s9 => Q (some (.int r9)) s9) → Y_X9_shareOf_26_25 d Q 10 [(0, .ref 25), (2, .int v2), (3, .int v3), (4, .int v4), (5, .int v5)] [] s := by
  induction n with
  | zero => intro v2 v3 v4 v5 s H; exact H.elim
  | succ n ih =>
    intro v2 v3 v4 v5 s H
    unfold f_X9_shareOf_26_25_b10 at H
    refine Wp.r_iload (pc := 10) o_X9_shareOf rfl rfl (Wp.r_iload_n2 (pc := 12) o_X9_shareOf rfl rfl (Wp.r_icmp_ge (pc := 13) o_X9_shareOf rfl (fun c9 => ?_) (fun c9 => ?_)))
    · have H := oq_t c9 H
      obtain ⟨hc3, H⟩ := oq_ck H
      refine Wp.r_iload (pc := 49) o_X9_shareOf rfl rfl (Wp.f_al0_gfr (pc := 51) o_X9_shareOf rfl rfl rfl fk_C_25_5 (Wp.r_iload_n2 (pc := 55) o_X9_shareOf rfl rfl (Wp.r_iaload (pc := 56) o_X9_shareOf rfl ak_C_33 (⟨hc3, ?_⟩))))
      refine Wp.r_min (pc := 57) o_X9_shareOf rfl (⟨rm8_ rfl, ?_⟩)
      exact Wp.r_ireturn (pc := 60) o_X9_shareOf rfl (⟨rfl, H⟩)
    · have H := oq_f c9 H
      refine Wp.r_aload_n0 (pc := 16) o_X9_shareOf rfl rfl (Wp.r_iload (pc := 17) o_X9_shareOf rfl rfl (Wp.r_iload_n3 (pc := 19) o_X9_shareOf rfl rfl (Wp.r_cv3 (pc := 20) o_X9_shareOf rfl fk_C_25_0 (⟨rm8_ rfl, ?_⟩))))
      refine w_X4_isAt (d := d + 1) _ _ ?_
      refine oq_bd H (fun r4 s5 H => ?_)
      refine Wp.r_if_eq (pc := 23) o_X9_shareOf rfl (fun c9 => ?_) (fun c9 => ?_)
      · have H := oq_t c9 H
        exact Wp.f_iinc_goto (pc := 43) o_X9_shareOf rfl rfl rfl (Wp.weak2 [1, 2, 3, 4, 0] (ih _ _ _ _ _ H) rfl)
      · have H := oq_f c9 H
        obtain ⟨hc6, H⟩ := oq_ck H
        refine Wp.r_iload (pc := 26) o_X9_shareOf rfl rfl (Wp.r_iload (pc := 28) o_X9_shareOf rfl rfl (Wp.f_al0_gfr (pc := 30) o_X9_shareOf rfl rfl rfl fk_C_25_5 (Wp.r_iload (pc := 34) o_X9_shareOf rfl rfl (Wp.r_iaload (pc := 36) o_X9_shareOf rfl ak_C_33 (⟨hc6, ?_⟩)))))
        refine Wp.r_min (pc := 37) o_X9_shareOf rfl (⟨rm8_ rfl, ?_⟩)
        refine Wp.r_isub (pc := 40) o_X9_shareOf rfl (Wp.r_istore (pc := 41) o_X9_shareOf rfl (show Y_X9_shareOf_26_25 d Q 43 [(4, .int (v4 - (if (s5.1 33 v5.toNatClampNeg) < v4 then (s5.1 33 v5.toNatClampNeg) else v4))), (0, .ref 25), (2, .int v2), (3, .int v3), (5, .int v5)] [] s5 from ?_))
        revert H
        generalize (v4 - (if (s5.1 33 v5.toNatClampNeg) < v4 then (s5.1 33 v5.toNatClampNeg) else v4) : Int32) = x7
        intro H
        have H := nmx_e H
        exact Wp.f_iinc_goto (pc := 43) o_X9_shareOf rfl rfl rfl (Wp.weak2 [2, 3, 4, 1, 0] (ih _ _ _ _ _ H) rfl)
noncomputable def f_X9_shareOf_26_25 (a2 : Int32) (a3 : Int32) (s : Sg) : Option (Int32 × Sg) :=
  bd (f_X2_inSight a3 s) (fun r1 s2 =>
  f_X9_shareOf_26_25_b10 BIG a2 a3 r1 0 s2
  )
set_option maxRecDepth 100000 in
theorem w_X9_shareOf_26_25 {d : Nat} {s : Sg} {Q : Qt} (a2 : Int32) (a3 : Int32) (H : OQ (f_X9_shareOf_26_25 a2 a3 s) (fun r9 s9 => Q (some (.int r9)) s9)) : WpM SHC MT (d + 3) 89 [.ref 25, .ref 26, .int a2, .int a3] s Q := by
  refine WpM.enter me_X9_shareOf rfl rfl ?_
  show Y_X9_shareOf_26_25 d Q 0 [(0, .ref 25), (1, .ref 26), (2, .int a2), (3, .int a3)] [] s
  unfold f_X9_shareOf_26_25 at H
  refine Wp.r_aload_n1 (pc := 0) o_X9_shareOf rfl rfl (Wp.r_iload_n3 (pc := 1) o_X9_shareOf rfl rfl (Wp.r_cv2 (pc := 2) o_X9_shareOf rfl fk_C_26_0 (⟨rm8_ rfl, ?_⟩)))
  refine w_X2_inSight (d := d) _ ?_
  refine oq_bd H (fun r1 s2 H => ?_)
  exact Wp.r_istore (pc := 5) o_X9_shareOf rfl (Wp.r_iconst (pc := 7) o_X9_shareOf rfl (Wp.r_istore (pc := 8) o_X9_shareOf rfl (Wp.weak2 [2, 4, 5, 1, 0] (w_X9_shareOf_26_25_b10 _ _ _ _ _ _ H) rfl)))
noncomputable abbrev Y_X11_share (d : Nat) (Q : Qt) : Xt := Wp SHC (WpM SHC MT (d + 3)) (flat2 cq_X11_share) (some .int) Q
noncomputable def f_X11_share_b48 (v1 : Int32) (t0 : Int32) (s : Sg) : Option (Int32 × Sg) :=
  bd (f_X4_isGone t0 s) (fun r10 s11 =>
  if r10 = 0 then
    bd (f_X9_shareOf_26_25 v1 t0 s11) (fun r12 s13 =>
    bd (f_X11_answer r12 s13) (fun r14 s15 =>
    some (r14, s15)
    )
    )
  else
    bd (f_X11_refuse 7 s11) (fun r16 s17 =>
    some (r16, s17)
    )
  )
set_option maxRecDepth 100000 in
theorem w_X11_share_b48 {d : Nat} {Q : Qt} (v1 : Int32) (t0 : Int32) (s : Sg) (H : OQ (f_X11_share_b48 v1 t0 s) (fun r9 s9 => Q (some (.int r9)) s9)) : Y_X11_share d Q 48 [(0, .ref 0), (1, .int v1)] [.int t0] s := by
  unfold f_X11_share_b48 at H
  refine Wp.r_istore_n3 (pc := 48) o_X11_share rfl (Wp.f_al0_gfr (pc := 49) o_X11_share rfl rfl rfl fk_C_0_5 (Wp.r_iload_n3 (pc := 53) o_X11_share rfl rfl (Wp.r_cv2 (pc := 54) o_X11_share rfl fk_C_25_0 (⟨rm8_ rfl, ?_⟩))))
  refine w_X4_isGone (d := d + 2) _ ?_
  refine oq_bd H (fun r10 s11 H => ?_)
  refine Wp.r_if_eq (pc := 57) o_X11_share rfl (fun c9 => ?_) (fun c9 => ?_)
  · have H := oq_t c9 H
    refine Wp.r_aload_n0 (pc := 67) o_X11_share rfl rfl (Wp.f_al0_gfr (pc := 68) o_X11_share rfl rfl rfl fk_C_0_5 (Wp.f_al0_gfr (pc := 72) o_X11_share rfl rfl rfl fk_C_0_6 (Wp.r_iload_n1 (pc := 76) o_X11_share rfl rfl (Wp.r_iload_n3 (pc := 77) o_X11_share rfl rfl (Wp.r_cs4 (pc := 78) o_X11_share rfl (⟨rm8_ rfl, ?_⟩))))))
    refine w_X9_shareOf_26_25 (d := d) _ _ ?_
    refine oq_bd H (fun r12 s13 H => ?_)
    refine Wp.r_cv2 (pc := 81) o_X11_share rfl fk_C_0_0 (⟨rm8_ rfl, ?_⟩)
    refine w_X11_answer (d := d + 2) _ ?_
    refine oq_bd H (fun r14 s15 H => ?_)
    exact Wp.r_ireturn (pc := 84) o_X11_share rfl (⟨rfl, H⟩)
  · have H := oq_f c9 H
    refine Wp.r_aload_n0 (pc := 60) o_X11_share rfl rfl (Wp.r_bipush (pc := 61) o_X11_share rfl (Wp.r_cv2 (pc := 63) o_X11_share rfl fk_C_0_0 (⟨rm8_ rfl, ?_⟩)))
    refine w_X11_refuse (d := d + 2) _ ?_
    refine oq_bd H (fun r16 s17 H => ?_)
    exact Wp.r_ireturn (pc := 66) o_X11_share rfl (⟨rfl, H⟩)
noncomputable def f_X11_share (a1 : Int32) (a2 : Int32) (s : Sg) : Option (Int32 × Sg) :=
  bd (f_X11_isQuarrel a1 s) (fun r1 s2 =>
  if r1 = 0 then
    bd (f_X11_refuse 1 s2) (fun r3 s4 =>
    some (r3, s4)
    )
  else
    bd (f_X11_within a2 0 1 s2) (fun r5 s6 =>
    if r5 = 0 then
      bd (f_X11_refuse 1 s6) (fun r7 s8 =>
      some (r7, s8)
      )
    else
      if a2 = 0 then
        ck (inr a1 8) (
        f_X11_share_b48 a1 (s6.1 31 a1.toNatClampNeg) s6
        )
      else
        ck (inr a1 8) (
        f_X11_share_b48 a1 (s6.1 32 a1.toNatClampNeg) s6
        )
    )
  )
set_option maxRecDepth 100000 in
theorem w_X11_share {d : Nat} {s : Sg} {Q : Qt} (a1 : Int32) (a2 : Int32) (H : OQ (f_X11_share a1 a2 s) (fun r9 s9 => Q (some (.int r9)) s9)) : WpM SHC MT (d + 4) 118 [.ref 0, .int a1, .int a2] s Q := by
  refine WpM.enter me_X11_share rfl rfl ?_
  show Y_X11_share d Q 0 [(0, .ref 0), (1, .int a1), (2, .int a2)] [] s
  unfold f_X11_share at H
  refine Wp.r_aload_n0 (pc := 0) o_X11_share rfl rfl (Wp.r_iload_n1 (pc := 1) o_X11_share rfl rfl (Wp.r_cv2 (pc := 2) o_X11_share rfl fk_C_0_0 (⟨rm8_ rfl, ?_⟩)))
  refine w_X11_isQuarrel (d := d + 1) _ ?_
  refine oq_bd H (fun r1 s2 H => ?_)
  refine Wp.r_if_eq (pc := 5) o_X11_share rfl (fun c9 => ?_) (fun c9 => ?_)
  · have H := oq_t c9 H
    refine Wp.f_al0_iconst (pc := 17) o_X11_share rfl rfl rfl (Wp.r_cv2 (pc := 19) o_X11_share rfl fk_C_0_0 (⟨rm8_ rfl, ?_⟩))
    refine w_X11_refuse (d := d + 2) _ ?_
    refine oq_bd H (fun r3 s4 H => ?_)
    exact Wp.r_ireturn (pc := 22) o_X11_share rfl (⟨rfl, H⟩)
  · have H := oq_f c9 H
    refine Wp.r_iload_n2 (pc := 8) o_X11_share rfl rfl (Wp.r_iconst (pc := 9) o_X11_share rfl (Wp.r_iconst (pc := 10) o_X11_share rfl (Wp.r_cs3 (pc := 11) o_X11_share rfl (⟨rm8_ rfl, ?_⟩))))
    refine w_X11_within (d := d + 2) _ _ _ ?_
    refine oq_bd H (fun r5 s6 H => ?_)
    refine Wp.r_if_ne (pc := 14) o_X11_share rfl (fun c9 => ?_) (fun c9 => ?_)
    · have H := oq_t c9 H
      refine Wp.f_al0_iconst (pc := 17) o_X11_share rfl rfl rfl (Wp.r_cv2 (pc := 19) o_X11_share rfl fk_C_0_0 (⟨rm8_ rfl, ?_⟩))
      refine w_X11_refuse (d := d + 2) _ ?_
      refine oq_bd H (fun r7 s8 H => ?_)
      exact Wp.r_ireturn (pc := 22) o_X11_share rfl (⟨rfl, H⟩)
    · have H := oq_f c9 H
      refine Wp.r_iload_n2 (pc := 23) o_X11_share rfl rfl (Wp.r_if_ne (pc := 24) o_X11_share rfl (fun c9 => ?_) (fun c9 => ?_))
      · have H := oq_t c9 H
        obtain ⟨hc9, H⟩ := oq_ck H
        refine Wp.f_al0_gfr (pc := 27) o_X11_share rfl rfl rfl fk_C_0_5 (Wp.r_gfr (pc := 31) o_X11_share rfl fk_C_25_3 (Wp.r_iload_n1 (pc := 34) o_X11_share rfl rfl (Wp.r_iaload (pc := 35) o_X11_share rfl ak_C_31 (⟨hc9, ?_⟩))))
        exact Wp.r_goto (pc := 36) o_X11_share rfl (Wp.weak2 [0, 1] (w_X11_share_b48 _ _ _ H) rfl)
      · have H := oq_f c9 H
        obtain ⟨hc18, H⟩ := oq_ck H
        refine Wp.f_al0_gfr (pc := 39) o_X11_share rfl rfl rfl fk_C_0_5 (Wp.r_gfr (pc := 43) o_X11_share rfl fk_C_25_4 (Wp.r_iload_n1 (pc := 46) o_X11_share rfl rfl (Wp.r_iaload (pc := 47) o_X11_share rfl ak_C_32 (⟨hc18, ?_⟩))))
        exact Wp.weak2 [0, 1] (w_X11_share_b48 _ _ _ H) rfl
noncomputable abbrev Y_X9_ownerOf_26_25 (d : Nat) (Q : Qt) : Xt := Wp SHC (WpM SHC MT (d + 3)) (flat2 cq_X9_ownerOf) (some .int) Q
noncomputable def f_X9_ownerOf_26_25_b6 : Nat → Int32 → Int32 → Int32 → Int32 → Sg → Option (Int32 × Sg)
  | 0, _, _, _, _, _ => none
  | n + 1, v2, v3, v4, v5, s =>
    if (s.1 25 14) ≤ v5 then
      some ((-1), s)
    else
      bd (f_X4_isAt v5 v2 s) (fun r1 s2 =>
      if r1 = 0 then
        (f_X9_ownerOf_26_25_b6 n) v2 v3 v4 (v5 + 1) s2
      else
        bd (f_X9_shareOf_26_25 v5 v2 s2) (fun r3 s4 =>
        if (v4 + r3) ≤ v3 then
          (f_X9_ownerOf_26_25_b6 n) v2 v3 (v4 + r3) (v5 + 1) s4
        else
          some (v5, s4)
        )
      )
set_option maxRecDepth 100000 in
theorem w_X9_ownerOf_26_25_b6 {d : Nat} {Q : Qt} (n : Nat) : ∀ (v2 : Int32) (v3 : Int32) (v4 : Int32) (v5 : Int32) (s : Sg), OQ (f_X9_ownerOf_26_25_b6 n v2 v3 v4 v5 s) (fun r9 s9 => Q (some (.int r9)) s9) → Y_X9_ownerOf_26_25 d Q 6 [(0, .ref 25), (1, .ref 26), (2, .int v2), (3, .int v3), (4, .int v4), (5, .int v5)] [] s := by
  induction n with
  | zero => intro v2 v3 v4 v5 s H; exact H.elim
  | succ n ih =>
    intro v2 v3 v4 v5 s H
    unfold f_X9_ownerOf_26_25_b6 at H
    refine Wp.r_iload (pc := 6) o_X9_ownerOf rfl rfl (Wp.f_al0_gfi (pc := 8) o_X9_ownerOf rfl rfl rfl fk_C_25_14 (Wp.r_icmp_ge (pc := 12) o_X9_ownerOf rfl (fun c9 => ?_) (fun c9 => ?_)))
    · have H := oq_t c9 H
      exact Wp.r_iconst (pc := 53) o_X9_ownerOf rfl (Wp.r_ireturn (pc := 54) o_X9_ownerOf rfl (⟨rfl, H⟩))
    · have H := oq_f c9 H
      refine Wp.r_aload_n0 (pc := 15) o_X9_ownerOf rfl rfl (Wp.r_iload (pc := 16) o_X9_ownerOf rfl rfl (Wp.r_iload_n2 (pc := 18) o_X9_ownerOf rfl rfl (Wp.r_cv3 (pc := 19) o_X9_ownerOf rfl fk_C_25_0 (⟨rm8_ rfl, ?_⟩))))
      refine w_X4_isAt (d := d + 2) _ _ ?_
      refine oq_bd H (fun r1 s2 H => ?_)
      refine Wp.r_if_eq (pc := 22) o_X9_ownerOf rfl (fun c9 => ?_) (fun c9 => ?_)
      · have H := oq_t c9 H
        exact Wp.f_iinc_goto (pc := 47) o_X9_ownerOf rfl rfl rfl (Wp.weak2 [1, 2, 3, 4, 5, 0] (ih _ _ _ _ _ H) rfl)
      · have H := oq_f c9 H
        refine Wp.r_iload (pc := 25) o_X9_ownerOf rfl rfl (Wp.r_aload_n0 (pc := 27) o_X9_ownerOf rfl rfl (Wp.r_aload_n1 (pc := 28) o_X9_ownerOf rfl rfl (Wp.r_iload (pc := 29) o_X9_ownerOf rfl rfl (Wp.r_iload_n2 (pc := 31) o_X9_ownerOf rfl rfl (Wp.r_cs4 (pc := 32) o_X9_ownerOf rfl (⟨rm8_ rfl, ?_⟩))))))
        refine w_X9_shareOf_26_25 (d := d) _ _ ?_
        refine oq_bd H (fun r3 s4 H => ?_)
        refine Wp.r_iadd (pc := 35) o_X9_ownerOf rfl (Wp.r_istore (pc := 36) o_X9_ownerOf rfl (Wp.r_iload_n3 (pc := 38) o_X9_ownerOf rfl rfl (Wp.r_iload (pc := 39) o_X9_ownerOf rfl rfl (Wp.r_icmp_ge (pc := 41) o_X9_ownerOf rfl (fun c9 => ?_) (fun c9 => ?_)))))
        · have H := oq_t c9 H
          exact Wp.f_iinc_goto (pc := 47) o_X9_ownerOf rfl rfl rfl (Wp.weak2 [2, 3, 4, 5, 1, 0] (ih _ _ _ _ _ H) rfl)
        · have H := oq_f c9 H
          exact Wp.r_iload (pc := 44) o_X9_ownerOf rfl rfl (Wp.r_ireturn (pc := 46) o_X9_ownerOf rfl (⟨rfl, H⟩))
noncomputable def f_X9_ownerOf_26_25 (a2 : Int32) (a3 : Int32) (s : Sg) : Option (Int32 × Sg) :=
  f_X9_ownerOf_26_25_b6 BIG a2 a3 0 0 s
set_option maxRecDepth 100000 in
theorem w_X9_ownerOf_26_25 {d : Nat} {s : Sg} {Q : Qt} (a2 : Int32) (a3 : Int32) (H : OQ (f_X9_ownerOf_26_25 a2 a3 s) (fun r9 s9 => Q (some (.int r9)) s9)) : WpM SHC MT (d + 4) 90 [.ref 25, .ref 26, .int a2, .int a3] s Q := by
  refine WpM.enter me_X9_ownerOf rfl rfl ?_
  show Y_X9_ownerOf_26_25 d Q 0 [(0, .ref 25), (1, .ref 26), (2, .int a2), (3, .int a3)] [] s
  unfold f_X9_ownerOf_26_25 at H
  exact Wp.r_iconst (pc := 0) o_X9_ownerOf rfl (Wp.r_istore (pc := 1) o_X9_ownerOf rfl (Wp.r_iconst (pc := 3) o_X9_ownerOf rfl (Wp.r_istore (pc := 4) o_X9_ownerOf rfl (Wp.weak2 [2, 3, 4, 5, 1, 0] (w_X9_ownerOf_26_25_b6 _ _ _ _ _ _ H) rfl))))
noncomputable abbrev Y_X11_answerIfAny (d : Nat) (Q : Qt) : Xt := Wp SHC (WpM SHC MT (d + 1)) (flat2 cq_X11_answerIfAny) (some .int) Q
noncomputable def f_X11_answerIfAny (a1 : Int32) (s : Sg) : Option (Int32 × Sg) :=
  if a1 = (-1) then
    bd (f_X11_refuse 6 s) (fun r1 s2 =>
    some (r1, s2)
    )
  else
    bd (f_X11_answer a1 s) (fun r3 s4 =>
    some (r3, s4)
    )
set_option maxRecDepth 100000 in
theorem w_X11_answerIfAny {d : Nat} {s : Sg} {Q : Qt} (a1 : Int32) (H : OQ (f_X11_answerIfAny a1 s) (fun r9 s9 => Q (some (.int r9)) s9)) : WpM SHC MT (d + 2) 165 [.ref 0, .int a1] s Q := by
  refine WpM.enter me_X11_answerIfAny rfl rfl ?_
  show Y_X11_answerIfAny d Q 0 [(0, .ref 0), (1, .int a1)] [] s
  unfold f_X11_answerIfAny at H
  refine Wp.r_iload_n1 (pc := 0) o_X11_answerIfAny rfl rfl (Wp.r_iconst (pc := 1) o_X11_answerIfAny rfl (Wp.r_icmp_ne (pc := 2) o_X11_answerIfAny rfl (fun c9 => ?_) (fun c9 => ?_)))
  · have H := oq_t c9 H
    refine Wp.r_aload_n0 (pc := 5) o_X11_answerIfAny rfl rfl (Wp.r_bipush (pc := 6) o_X11_answerIfAny rfl (Wp.r_cv2 (pc := 8) o_X11_answerIfAny rfl fk_C_0_0 (⟨rm8_ rfl, ?_⟩)))
    refine w_X11_refuse (d := d) _ ?_
    refine oq_bd H (fun r1 s2 H => ?_)
    exact Wp.r_goto (pc := 11) o_X11_answerIfAny rfl (Wp.r_ireturn (pc := 19) o_X11_answerIfAny rfl (⟨rfl, H⟩))
  · have H := oq_f c9 H
    refine Wp.r_aload_n0 (pc := 14) o_X11_answerIfAny rfl rfl (Wp.r_iload_n1 (pc := 15) o_X11_answerIfAny rfl rfl (Wp.r_cv2 (pc := 16) o_X11_answerIfAny rfl fk_C_0_0 (⟨rm8_ rfl, ?_⟩)))
    refine w_X11_answer (d := d) _ ?_
    refine oq_bd H (fun r3 s4 H => ?_)
    exact Wp.r_ireturn (pc := 19) o_X11_answerIfAny rfl (⟨rfl, H⟩)
noncomputable abbrev Y_X11_whose (d : Nat) (Q : Qt) : Xt := Wp SHC (WpM SHC MT (d + 4)) (flat2 cq_X11_whose) (some .int) Q
noncomputable def f_X11_whose_b11 (v1 : Int32) (v2 : Int32) (t0 : Int32) (t1 : Int32) (s : Sg) : Option (Int32 × Sg) :=
  bd (f_X11_whyNoStep t1 t0 s) (fun r1 s2 =>
  if r1 = 0 then
    bd (f_X9_ownerOf_26_25 v1 v2 s2) (fun r3 s4 =>
    bd (f_X11_answerIfAny r3 s4) (fun r5 s6 =>
    some (r5, s6)
    )
    )
  else
    bd (f_X11_refuse r1 s2) (fun r7 s8 =>
    some (r7, s8)
    )
  )
set_option maxRecDepth 100000 in
theorem w_X11_whose_b11 {d : Nat} {Q : Qt} (v1 : Int32) (v2 : Int32) (t0 : Int32) (t1 : Int32) (s : Sg) (H : OQ (f_X11_whose_b11 v1 v2 t0 t1 s) (fun r9 s9 => Q (some (.int r9)) s9)) : Y_X11_whose d Q 11 [(0, .ref 0), (1, .int v1), (2, .int v2)] [.int t0, .int t1, .ref 0] s := by
  unfold f_X11_whose_b11 at H
  refine Wp.r_cv3 (pc := 11) o_X11_whose rfl fk_C_0_0 (⟨rm8_ rfl, ?_⟩)
  refine w_X11_whyNoStep (d := d + 1) _ _ ?_
  refine oq_bd H (fun r1 s2 H => ?_)
  refine Wp.r_istore_n3 (pc := 14) o_X11_whose rfl (Wp.r_iload_n3 (pc := 15) o_X11_whose rfl rfl (Wp.r_if_eq (pc := 16) o_X11_whose rfl (fun c9 => ?_) (fun c9 => ?_)))
  · have H := oq_t c9 H
    refine Wp.r_aload_n0 (pc := 25) o_X11_whose rfl rfl (Wp.f_al0_gfr (pc := 26) o_X11_whose rfl rfl rfl fk_C_0_5 (Wp.f_al0_gfr (pc := 30) o_X11_whose rfl rfl rfl fk_C_0_6 (Wp.r_iload_n1 (pc := 34) o_X11_whose rfl rfl (Wp.r_iload_n2 (pc := 35) o_X11_whose rfl rfl (Wp.r_cs4 (pc := 36) o_X11_whose rfl (⟨rm8_ rfl, ?_⟩))))))
    refine w_X9_ownerOf_26_25 (d := d) _ _ ?_
    refine oq_bd H (fun r3 s4 H => ?_)
    refine Wp.r_cv2 (pc := 39) o_X11_whose rfl fk_C_0_0 (⟨rm8_ rfl, ?_⟩)
    refine w_X11_answerIfAny (d := d + 2) _ ?_
    refine oq_bd H (fun r5 s6 H => ?_)
    exact Wp.r_ireturn (pc := 42) o_X11_whose rfl (⟨rfl, H⟩)
  · have H := oq_f c9 H
    refine Wp.r_aload_n0 (pc := 19) o_X11_whose rfl rfl (Wp.r_iload_n3 (pc := 20) o_X11_whose rfl rfl (Wp.r_cv2 (pc := 21) o_X11_whose rfl fk_C_0_0 (⟨rm8_ rfl, ?_⟩)))
    refine w_X11_refuse (d := d + 3) _ ?_
    refine oq_bd H (fun r7 s8 H => ?_)
    exact Wp.r_ireturn (pc := 24) o_X11_whose rfl (⟨rfl, H⟩)
noncomputable def f_X11_whose (a1 : Int32) (a2 : Int32) (s : Sg) : Option (Int32 × Sg) :=
  if a2 < 0 then
    f_X11_whose_b11 a1 a2 0 a1 s
  else
    f_X11_whose_b11 a1 a2 1 a1 s
set_option maxRecDepth 100000 in
theorem w_X11_whose {d : Nat} {s : Sg} {Q : Qt} (a1 : Int32) (a2 : Int32) (H : OQ (f_X11_whose a1 a2 s) (fun r9 s9 => Q (some (.int r9)) s9)) : WpM SHC MT (d + 5) 119 [.ref 0, .int a1, .int a2] s Q := by
  refine WpM.enter me_X11_whose rfl rfl ?_
  show Y_X11_whose d Q 0 [(0, .ref 0), (1, .int a1), (2, .int a2)] [] s
  unfold f_X11_whose at H
  refine Wp.r_aload_n0 (pc := 0) o_X11_whose rfl rfl (Wp.r_iload_n1 (pc := 1) o_X11_whose rfl rfl (Wp.r_iload_n2 (pc := 2) o_X11_whose rfl rfl (Wp.r_if_lt (pc := 3) o_X11_whose rfl (fun c9 => ?_) (fun c9 => ?_))))
  · have H := oq_t c9 H
    exact Wp.r_iconst (pc := 10) o_X11_whose rfl (Wp.weak2 [0, 1, 2] (w_X11_whose_b11 _ _ _ _ _ H) rfl)
  · have H := oq_f c9 H
    exact Wp.r_iconst (pc := 6) o_X11_whose rfl (Wp.r_goto (pc := 7) o_X11_whose rfl (Wp.weak2 [0, 1, 2] (w_X11_whose_b11 _ _ _ _ _ H) rfl))
noncomputable abbrev Y_X9_leftOver_26_25 (d : Nat) (Q : Qt) : Xt := Wp SHC (WpM SHC MT (d + 3)) (flat2 cq_X9_leftOver) (some .int) Q
noncomputable def f_X9_leftOver_26_25_b9 : Nat → Int32 → Int32 → Int32 → Sg → Option (Int32 × Sg)
  | 0, _, _, _, _ => none
  | n + 1, v2, v3, v4, s =>
    if (s.1 25 14) ≤ v4 then
      some (v3, s)
    else
      bd (f_X4_isAt v4 v2 s) (fun r3 s4 =>
      if r3 = 0 then
        (f_X9_leftOver_26_25_b9 n) v2 v3 (v4 + 1) s4
      else
        bd (f_X9_shareOf_26_25 v4 v2 s4) (fun r5 s6 =>
        (f_X9_leftOver_26_25_b9 n) v2 (v3 - r5) (v4 + 1) s6
        )
      )
set_option maxRecDepth 100000 in
theorem w_X9_leftOver_26_25_b9 {d : Nat} {Q : Qt} (n : Nat) : ∀ (v2 : Int32) (v3 : Int32) (v4 : Int32) (s : Sg), OQ (f_X9_leftOver_26_25_b9 n v2 v3 v4 s) (fun r9 s9 => Q (some (.int r9)) s9) → Y_X9_leftOver_26_25 d Q 9 [(0, .ref 25), (1, .ref 26), (2, .int v2), (3, .int v3), (4, .int v4)] [] s := by
  induction n with
  | zero => intro v2 v3 v4 s H; exact H.elim
  | succ n ih =>
    intro v2 v3 v4 s H
    unfold f_X9_leftOver_26_25_b9 at H
    refine Wp.r_iload (pc := 9) o_X9_leftOver rfl rfl (Wp.f_al0_gfi (pc := 11) o_X9_leftOver rfl rfl rfl fk_C_25_14 (Wp.r_icmp_ge (pc := 15) o_X9_leftOver rfl (fun c9 => ?_) (fun c9 => ?_)))
    · have H := oq_t c9 H
      exact Wp.r_iload_n3 (pc := 45) o_X9_leftOver rfl rfl (Wp.r_ireturn (pc := 46) o_X9_leftOver rfl (⟨rfl, H⟩))
    · have H := oq_f c9 H
      refine Wp.r_aload_n0 (pc := 18) o_X9_leftOver rfl rfl (Wp.r_iload (pc := 19) o_X9_leftOver rfl rfl (Wp.r_iload_n2 (pc := 21) o_X9_leftOver rfl rfl (Wp.r_cv3 (pc := 22) o_X9_leftOver rfl fk_C_25_0 (⟨rm8_ rfl, ?_⟩))))
      refine w_X4_isAt (d := d + 2) _ _ ?_
      refine oq_bd H (fun r3 s4 H => ?_)
      refine Wp.r_if_eq (pc := 25) o_X9_leftOver rfl (fun c9 => ?_) (fun c9 => ?_)
      · have H := oq_t c9 H
        exact Wp.f_iinc_goto (pc := 39) o_X9_leftOver rfl rfl rfl (Wp.weak2 [1, 2, 3, 4, 0] (ih _ _ _ _ H) rfl)
      · have H := oq_f c9 H
        refine Wp.r_iload_n3 (pc := 28) o_X9_leftOver rfl rfl (Wp.r_aload_n0 (pc := 29) o_X9_leftOver rfl rfl (Wp.r_aload_n1 (pc := 30) o_X9_leftOver rfl rfl (Wp.r_iload (pc := 31) o_X9_leftOver rfl rfl (Wp.r_iload_n2 (pc := 33) o_X9_leftOver rfl rfl (Wp.r_cs4 (pc := 34) o_X9_leftOver rfl (⟨rm8_ rfl, ?_⟩))))))
        refine w_X9_shareOf_26_25 (d := d) _ _ ?_
        refine oq_bd H (fun r5 s6 H => ?_)
        exact Wp.r_isub (pc := 37) o_X9_leftOver rfl (Wp.r_istore_n3 (pc := 38) o_X9_leftOver rfl (Wp.f_iinc_goto (pc := 39) o_X9_leftOver rfl rfl rfl (Wp.weak2 [2, 3, 4, 1, 0] (ih _ _ _ _ H) rfl)))
noncomputable def f_X9_leftOver_26_25 (a2 : Int32) (s : Sg) : Option (Int32 × Sg) :=
  bd (f_X2_lying a2 s) (fun r1 s2 =>
  f_X9_leftOver_26_25_b9 BIG a2 r1 0 s2
  )
set_option maxRecDepth 100000 in
theorem w_X9_leftOver_26_25 {d : Nat} {s : Sg} {Q : Qt} (a2 : Int32) (H : OQ (f_X9_leftOver_26_25 a2 s) (fun r9 s9 => Q (some (.int r9)) s9)) : WpM SHC MT (d + 4) 91 [.ref 25, .ref 26, .int a2] s Q := by
  refine WpM.enter me_X9_leftOver rfl rfl ?_
  show Y_X9_leftOver_26_25 d Q 0 [(0, .ref 25), (1, .ref 26), (2, .int a2)] [] s
  unfold f_X9_leftOver_26_25 at H
  refine Wp.r_aload_n1 (pc := 0) o_X9_leftOver rfl rfl (Wp.r_iload_n2 (pc := 1) o_X9_leftOver rfl rfl (Wp.r_cv2 (pc := 2) o_X9_leftOver rfl fk_C_26_0 (⟨rm8_ rfl, ?_⟩)))
  refine w_X2_lying (d := d + 2) _ ?_
  refine oq_bd H (fun r1 s2 H => ?_)
  exact Wp.r_istore_n3 (pc := 5) o_X9_leftOver rfl (Wp.r_iconst (pc := 6) o_X9_leftOver rfl (Wp.r_istore (pc := 7) o_X9_leftOver rfl (Wp.weak2 [2, 3, 4, 1, 0] (w_X9_leftOver_26_25_b9 _ _ _ _ _ H) rfl)))
noncomputable abbrev Y_X11_nobodys (d : Nat) (Q : Qt) : Xt := Wp SHC (WpM SHC MT (d + 4)) (flat2 cq_X11_nobodys) (some .int) Q
noncomputable def f_X11_nobodys (a1 : Int32) (s : Sg) : Option (Int32 × Sg) :=
  bd (f_X11_whyNoStep a1 1 s) (fun r1 s2 =>
  if r1 = 0 then
    bd (f_X9_leftOver_26_25 a1 s2) (fun r3 s4 =>
    bd (f_X11_answer r3 s4) (fun r5 s6 =>
    some (r5, s6)
    )
    )
  else
    bd (f_X11_refuse r1 s2) (fun r7 s8 =>
    some (r7, s8)
    )
  )
set_option maxRecDepth 100000 in
theorem w_X11_nobodys {d : Nat} {s : Sg} {Q : Qt} (a1 : Int32) (H : OQ (f_X11_nobodys a1 s) (fun r9 s9 => Q (some (.int r9)) s9)) : WpM SHC MT (d + 5) 120 [.ref 0, .int a1] s Q := by
  refine WpM.enter me_X11_nobodys rfl rfl ?_
  show Y_X11_nobodys d Q 0 [(0, .ref 0), (1, .int a1)] [] s
  unfold f_X11_nobodys at H
  refine Wp.r_aload_n0 (pc := 0) o_X11_nobodys rfl rfl (Wp.r_iload_n1 (pc := 1) o_X11_nobodys rfl rfl (Wp.r_iconst (pc := 2) o_X11_nobodys rfl (Wp.r_cv3 (pc := 3) o_X11_nobodys rfl fk_C_0_0 (⟨rm8_ rfl, ?_⟩))))
  refine w_X11_whyNoStep (d := d + 1) _ _ ?_
  refine oq_bd H (fun r1 s2 H => ?_)
  refine Wp.r_istore_n2 (pc := 6) o_X11_nobodys rfl (Wp.r_iload_n2 (pc := 7) o_X11_nobodys rfl rfl (Wp.r_if_eq (pc := 8) o_X11_nobodys rfl (fun c9 => ?_) (fun c9 => ?_)))
  · have H := oq_t c9 H
    refine Wp.r_aload_n0 (pc := 17) o_X11_nobodys rfl rfl (Wp.f_al0_gfr (pc := 18) o_X11_nobodys rfl rfl rfl fk_C_0_5 (Wp.f_al0_gfr (pc := 22) o_X11_nobodys rfl rfl rfl fk_C_0_6 (Wp.r_iload_n1 (pc := 26) o_X11_nobodys rfl rfl (Wp.r_cs3 (pc := 27) o_X11_nobodys rfl (⟨rm8_ rfl, ?_⟩)))))
    refine w_X9_leftOver_26_25 (d := d) _ ?_
    refine oq_bd H (fun r3 s4 H => ?_)
    refine Wp.r_cv2 (pc := 30) o_X11_nobodys rfl fk_C_0_0 (⟨rm8_ rfl, ?_⟩)
    refine w_X11_answer (d := d + 3) _ ?_
    refine oq_bd H (fun r5 s6 H => ?_)
    exact Wp.r_ireturn (pc := 33) o_X11_nobodys rfl (⟨rfl, H⟩)
  · have H := oq_f c9 H
    refine Wp.r_aload_n0 (pc := 11) o_X11_nobodys rfl rfl (Wp.r_iload_n2 (pc := 12) o_X11_nobodys rfl rfl (Wp.r_cv2 (pc := 13) o_X11_nobodys rfl fk_C_0_0 (⟨rm8_ rfl, ?_⟩)))
    refine w_X11_refuse (d := d + 3) _ ?_
    refine oq_bd H (fun r7 s8 H => ?_)
    exact Wp.r_ireturn (pc := 16) o_X11_nobodys rfl (⟨rfl, H⟩)
noncomputable abbrev Y_X4_allQuarrels (d : Nat) (Q : Qt) : Xt := Wp SHC (WpM SHC MT (d + 0)) (flat2 cq_X4_allQuarrels) (some .int) Q
noncomputable def f_X4_allQuarrels  (s : Sg) : Option (Int32 × Sg) :=
  some (((1 : Int32) <<< ((s.1 25 14) &&& 31)) - 1, s)
set_option maxRecDepth 100000 in
theorem w_X4_allQuarrels {d : Nat} {s : Sg} {Q : Qt}  (H : OQ (f_X4_allQuarrels  s) (fun r9 s9 => Q (some (.int r9)) s9)) : WpM SHC MT (d + 1) 54 [.ref 25] s Q := by
  refine WpM.enter me_X4_allQuarrels rfl rfl ?_
  show Y_X4_allQuarrels d Q 0 [(0, .ref 25)] [] s
  unfold f_X4_allQuarrels at H
  exact Wp.r_iconst (pc := 0) o_X4_allQuarrels rfl (Wp.f_al0_gfi (pc := 1) o_X4_allQuarrels rfl rfl rfl fk_C_25_14 (Wp.r_ishl (pc := 5) o_X4_allQuarrels rfl (Wp.r_iconst (pc := 6) o_X4_allQuarrels rfl (Wp.r_isub (pc := 7) o_X4_allQuarrels rfl (Wp.r_ireturn (pc := 8) o_X4_allQuarrels rfl (⟨rfl, H⟩))))))
noncomputable abbrev Y_X9_contentAt_25 (d : Nat) (Q : Qt) : Xt := Wp SHC (WpM SHC MT (d + 1)) (flat2 cq_X9_contentAt) (some .int) Q
noncomputable def f_X9_contentAt_25_b71 (k_35 : Int32 → Int32 → Int32 → Int32 → Int32 → Sg → Option (Int32 × Sg)) (v1 : Int32) (v3 : Int32) (v4 : Int32) (v5 : Int32) (v6 : Int32) (t0 : Int32) (s : Sg) : Option (Int32 × Sg) :=
  if v5 < t0 then
    nmx (v5 - (if t0 < v5 then t0 else v5) : Int32) (fun x5 =>
    k_35 v1 v3 v4 x5 (v6 + 1) s
    )
  else
    nmx (v4 ||| ((1 : Int32) <<< (v6 &&& 31)) : Int32) (fun x6 =>
    nmx (v5 - (if t0 < v5 then t0 else v5) : Int32) (fun x7 =>
    k_35 v1 v3 x6 x7 (v6 + 1) s
    )
    )
set_option maxRecDepth 100000 in
theorem w_X9_contentAt_25_b71 {d : Nat} {Q : Qt} (k_35 : Int32 → Int32 → Int32 → Int32 → Int32 → Sg → Option (Int32 × Sg)) (h_35 : ∀ (v1 : Int32) (v3 : Int32) (v4 : Int32) (v5 : Int32) (v6 : Int32) s, OQ (k_35 v1 v3 v4 v5 v6 s) (fun r9 s9 => Q (some (.int r9)) s9) → Y_X9_contentAt_25 d Q 35 [(0, .ref 25), (1, .int v1), (3, .int v3), (4, .int v4), (5, .int v5), (6, .int v6)] [] s) (v1 : Int32) (v3 : Int32) (v4 : Int32) (v5 : Int32) (v6 : Int32) (t0 : Int32) (s : Sg) (H : OQ (f_X9_contentAt_25_b71 k_35 v1 v3 v4 v5 v6 t0 s) (fun r9 s9 => Q (some (.int r9)) s9)) : Y_X9_contentAt_25 d Q 71 [(0, .ref 25), (1, .int v1), (3, .int v3), (4, .int v4), (5, .int v5), (6, .int v6)] [.int t0] s := by
  unfold f_X9_contentAt_25_b71 at H
  refine Wp.r_istore (pc := 71) o_X9_contentAt rfl (Wp.r_iload (pc := 73) o_X9_contentAt rfl rfl (Wp.r_iload (pc := 75) o_X9_contentAt rfl rfl (Wp.r_icmp_lt (pc := 77) o_X9_contentAt rfl (fun c9 => ?_) (fun c9 => ?_))))
  · have H := oq_t c9 H
    refine Wp.r_iload (pc := 89) o_X9_contentAt rfl rfl (Wp.r_iload (pc := 91) o_X9_contentAt rfl rfl (Wp.r_iload (pc := 93) o_X9_contentAt rfl rfl (Wp.r_min (pc := 95) o_X9_contentAt rfl (⟨rm8_ rfl, ?_⟩))))
    refine Wp.r_isub (pc := 98) o_X9_contentAt rfl (Wp.r_istore (pc := 99) o_X9_contentAt rfl (show Y_X9_contentAt_25 d Q 101 [(5, .int (v5 - (if t0 < v5 then t0 else v5))), (7, .int t0), (0, .ref 25), (1, .int v1), (3, .int v3), (4, .int v4), (6, .int v6)] [] s from ?_))
    revert H
    generalize (v5 - (if t0 < v5 then t0 else v5) : Int32) = x5
    intro H
    have H := nmx_e H
    exact Wp.f_iinc_goto (pc := 101) o_X9_contentAt rfl rfl rfl (Wp.weak2 [3, 4, 5, 6, 1, 0] (h_35 _ _ _ _ _ _ H) rfl)
  · have H := oq_f c9 H
    refine Wp.r_iload (pc := 80) o_X9_contentAt rfl rfl (Wp.r_iconst (pc := 82) o_X9_contentAt rfl (Wp.r_iload (pc := 83) o_X9_contentAt rfl rfl (Wp.r_ishl (pc := 85) o_X9_contentAt rfl (Wp.r_ior (pc := 86) o_X9_contentAt rfl (Wp.r_istore (pc := 87) o_X9_contentAt rfl (show Y_X9_contentAt_25 d Q 89 [(4, .int (v4 ||| ((1 : Int32) <<< (v6 &&& 31)))), (7, .int t0), (0, .ref 25), (1, .int v1), (3, .int v3), (5, .int v5), (6, .int v6)] [] s from ?_))))))
    revert H
    generalize (v4 ||| ((1 : Int32) <<< (v6 &&& 31)) : Int32) = x6
    intro H
    have H := nmx_e H
    refine Wp.r_iload (pc := 89) o_X9_contentAt rfl rfl (Wp.r_iload (pc := 91) o_X9_contentAt rfl rfl (Wp.r_iload (pc := 93) o_X9_contentAt rfl rfl (Wp.r_min (pc := 95) o_X9_contentAt rfl (⟨rm8_ rfl, ?_⟩))))
    refine Wp.r_isub (pc := 98) o_X9_contentAt rfl (Wp.r_istore (pc := 99) o_X9_contentAt rfl (show Y_X9_contentAt_25 d Q 101 [(5, .int (v5 - (if t0 < v5 then t0 else v5))), (4, .int x6), (7, .int t0), (0, .ref 25), (1, .int v1), (3, .int v3), (6, .int v6)] [] s from ?_))
    revert H
    generalize (v5 - (if t0 < v5 then t0 else v5) : Int32) = x7
    intro H
    have H := nmx_e H
    exact Wp.f_iinc_goto (pc := 101) o_X9_contentAt rfl rfl rfl (Wp.weak2 [4, 5, 6, 2, 1, 0] (h_35 _ _ _ _ _ _ H) rfl)
noncomputable def f_X9_contentAt_25_b35 : Nat → Int32 → Int32 → Int32 → Int32 → Int32 → Sg → Option (Int32 × Sg)
  | 0, _, _, _, _, _, _ => none
  | n + 1, v1, v3, v4, v5, v6, s =>
    if (s.1 25 14) ≤ v6 then
      some (v4, s)
    else
      bd (f_X4_isAt v6 v1 s) (fun r3 s4 =>
      if r3 = 0 then
        (f_X9_contentAt_25_b35 n) v1 v3 v4 v5 (v6 + 1) s4
      else
        if v6 = v3 then
          f_X9_contentAt_25_b71 (f_X9_contentAt_25_b35 n) v1 v3 v4 v5 v6 0 s4
        else
          ck (inr v6 8) (
          f_X9_contentAt_25_b71 (f_X9_contentAt_25_b35 n) v1 v3 v4 v5 v6 (s4.1 33 v6.toNatClampNeg) s4
          )
      )
set_option maxRecDepth 100000 in
theorem w_X9_contentAt_25_b35 {d : Nat} {Q : Qt} (n : Nat) : ∀ (v1 : Int32) (v3 : Int32) (v4 : Int32) (v5 : Int32) (v6 : Int32) (s : Sg), OQ (f_X9_contentAt_25_b35 n v1 v3 v4 v5 v6 s) (fun r9 s9 => Q (some (.int r9)) s9) → Y_X9_contentAt_25 d Q 35 [(0, .ref 25), (1, .int v1), (3, .int v3), (4, .int v4), (5, .int v5), (6, .int v6)] [] s := by
  induction n with
  | zero => intro v1 v3 v4 v5 v6 s H; exact H.elim
  | succ n ih =>
    intro v1 v3 v4 v5 v6 s H
    unfold f_X9_contentAt_25_b35 at H
    refine Wp.r_iload (pc := 35) o_X9_contentAt rfl rfl (Wp.f_al0_gfi (pc := 37) o_X9_contentAt rfl rfl rfl fk_C_25_14 (Wp.r_icmp_ge (pc := 41) o_X9_contentAt rfl (fun c9 => ?_) (fun c9 => ?_)))
    · have H := oq_t c9 H
      exact Wp.r_iload (pc := 107) o_X9_contentAt rfl rfl (Wp.r_ireturn (pc := 109) o_X9_contentAt rfl (⟨rfl, H⟩))
    · have H := oq_f c9 H
      refine Wp.r_aload_n0 (pc := 44) o_X9_contentAt rfl rfl (Wp.r_iload (pc := 45) o_X9_contentAt rfl rfl (Wp.r_iload_n1 (pc := 47) o_X9_contentAt rfl rfl (Wp.r_cv3 (pc := 48) o_X9_contentAt rfl fk_C_25_0 (⟨rm8_ rfl, ?_⟩))))
      refine w_X4_isAt (d := d) _ _ ?_
      refine oq_bd H (fun r3 s4 H => ?_)
      refine Wp.r_if_eq (pc := 51) o_X9_contentAt rfl (fun c9 => ?_) (fun c9 => ?_)
      · have H := oq_t c9 H
        exact Wp.f_iinc_goto (pc := 101) o_X9_contentAt rfl rfl rfl (Wp.weak2 [1, 2, 3, 4, 5, 0] (ih _ _ _ _ _ _ H) rfl)
      · have H := oq_f c9 H
        refine Wp.r_iload (pc := 54) o_X9_contentAt rfl rfl (Wp.r_iload_n3 (pc := 56) o_X9_contentAt rfl rfl (Wp.r_icmp_ne (pc := 57) o_X9_contentAt rfl (fun c9 => ?_) (fun c9 => ?_)))
        · have H := oq_t c9 H
          exact Wp.r_iconst (pc := 60) o_X9_contentAt rfl (Wp.r_goto (pc := 61) o_X9_contentAt rfl (Wp.weak2 [0, 1, 2, 3, 4, 5] (w_X9_contentAt_25_b71 (f_X9_contentAt_25_b35 n) ih _ _ _ _ _ _ _ H) rfl))
        · have H := oq_f c9 H
          obtain ⟨hc8, H⟩ := oq_ck H
          refine Wp.f_al0_gfr (pc := 64) o_X9_contentAt rfl rfl rfl fk_C_25_5 (Wp.r_iload (pc := 68) o_X9_contentAt rfl rfl (Wp.r_iaload (pc := 70) o_X9_contentAt rfl ak_C_33 (⟨hc8, ?_⟩)))
          exact Wp.weak2 [0, 1, 2, 3, 4, 5] (w_X9_contentAt_25_b71 (f_X9_contentAt_25_b35 n) ih _ _ _ _ _ _ _ H) rfl
noncomputable def f_X9_contentAt_25 (a1 : Int32) (a2 : Int32) (a3 : Int32) (s : Sg) : Option (Int32 × Sg) :=
  bd (f_X4_isGone a1 s) (fun r1 s2 =>
  if r1 = 0 then
    f_X9_contentAt_25_b35 BIG a1 a3 0 a2 0 s2
  else
    if (s2.1 25 19) = 0 then
      some (0, s2)
    else
      ck (inr a1 8) (
      some (s2.1 34 a1.toNatClampNeg, s2)
      )
  )
set_option maxRecDepth 100000 in
theorem w_X9_contentAt_25 {d : Nat} {s : Sg} {Q : Qt} (a1 : Int32) (a2 : Int32) (a3 : Int32) (H : OQ (f_X9_contentAt_25 a1 a2 a3 s) (fun r9 s9 => Q (some (.int r9)) s9)) : WpM SHC MT (d + 2) 92 [.ref 25, .int a1, .int a2, .int a3] s Q := by
  refine WpM.enter me_X9_contentAt rfl rfl ?_
  show Y_X9_contentAt_25 d Q 0 [(0, .ref 25), (1, .int a1), (2, .int a2), (3, .int a3)] [] s
  unfold f_X9_contentAt_25 at H
  refine Wp.r_aload_n0 (pc := 0) o_X9_contentAt rfl rfl (Wp.r_iload_n1 (pc := 1) o_X9_contentAt rfl rfl (Wp.r_cv2 (pc := 2) o_X9_contentAt rfl fk_C_25_0 (⟨rm8_ rfl, ?_⟩)))
  refine w_X4_isGone (d := d) _ ?_
  refine oq_bd H (fun r1 s2 H => ?_)
  refine Wp.r_if_eq (pc := 5) o_X9_contentAt rfl (fun c9 => ?_) (fun c9 => ?_)
  · have H := oq_t c9 H
    exact Wp.r_iconst (pc := 26) o_X9_contentAt rfl (Wp.r_istore (pc := 27) o_X9_contentAt rfl (Wp.r_iload_n2 (pc := 29) o_X9_contentAt rfl rfl (Wp.r_istore (pc := 30) o_X9_contentAt rfl (Wp.r_iconst (pc := 32) o_X9_contentAt rfl (Wp.r_istore (pc := 33) o_X9_contentAt rfl (Wp.weak2 [3, 4, 6, 2, 1, 0] (w_X9_contentAt_25_b35 _ _ _ _ _ _ _ H) rfl))))))
  · have H := oq_f c9 H
    refine Wp.f_al0_gfi (pc := 8) o_X9_contentAt rfl rfl rfl fk_C_25_19 (Wp.r_if_eq (pc := 12) o_X9_contentAt rfl (fun c9 => ?_) (fun c9 => ?_))
    · have H := oq_t c9 H
      exact Wp.r_iconst (pc := 24) o_X9_contentAt rfl (Wp.r_ireturn (pc := 25) o_X9_contentAt rfl (⟨rfl, H⟩))
    · have H := oq_f c9 H
      obtain ⟨hc9, H⟩ := oq_ck H
      refine Wp.f_al0_gfr (pc := 15) o_X9_contentAt rfl rfl rfl fk_C_25_6 (Wp.r_iload_n1 (pc := 19) o_X9_contentAt rfl rfl (Wp.r_iaload (pc := 20) o_X9_contentAt rfl ak_C_34 (⟨hc9, ?_⟩)))
      exact Wp.r_goto (pc := 21) o_X9_contentAt rfl (Wp.r_ireturn (pc := 25) o_X9_contentAt rfl (⟨rfl, H⟩))
noncomputable abbrev Y_X9_atPeace_26_25 (d : Nat) (Q : Qt) : Xt := Wp SHC (WpM SHC MT (d + 2)) (flat2 cq_X9_atPeace) (some .int) Q
noncomputable def f_X9_atPeace_26_25_b8 : Nat → Int32 → Int32 → Int32 → Sg → Option (Int32 × Sg)
  | 0, _, _, _, _ => none
  | n + 1, v2, v3, v4, s =>
    if (s.1 25 13) ≤ v4 then
      some (v3, s)
    else
      ck (inr v4 8) (
      bd (f_X2_inSight v4 s) (fun r4 s5 =>
      bd (f_X9_contentAt_25 v4 r4 v2 s5) (fun r6 s7 =>
      nmx (v3 &&& (((s.1 34 v4.toNatClampNeg) ^^^ (-1)) ||| r6) : Int32) (fun x8 =>
      (f_X9_atPeace_26_25_b8 n) v2 x8 (v4 + 1) s7
      )
      )
      )
      )
set_option maxRecDepth 100000 in
theorem w_X9_atPeace_26_25_b8 {d : Nat} {Q : Qt} (n : Nat) : ∀ (v2 : Int32) (v3 : Int32) (v4 : Int32) (s : Sg), OQ (f_X9_atPeace_26_25_b8 n v2 v3 v4 s) (fun r9 s9 => Q (some (.int r9)) s9) → Y_X9_atPeace_26_25 d Q 8 [(0, .ref 25), (1, .ref 26), (2, .int v2), (3, .int v3), (4, .int v4)] [] s := by
  induction n with
  | zero => intro v2 v3 v4 s H; exact H.elim
  | succ n ih =>
    intro v2 v3 v4 s H
    unfold f_X9_atPeace_26_25_b8 at H
    refine Wp.r_iload (pc := 8) o_X9_atPeace rfl rfl (Wp.f_al0_gfi (pc := 10) o_X9_atPeace rfl rfl rfl fk_C_25_13 (Wp.r_icmp_ge (pc := 14) o_X9_atPeace rfl (fun c9 => ?_) (fun c9 => ?_)))
    · have H := oq_t c9 H
      exact Wp.r_iload_n3 (pc := 49) o_X9_atPeace rfl rfl (Wp.r_ireturn (pc := 50) o_X9_atPeace rfl (⟨rfl, H⟩))
    · have H := oq_f c9 H
      obtain ⟨hc3, H⟩ := oq_ck H
      refine Wp.r_iload_n3 (pc := 17) o_X9_atPeace rfl rfl (Wp.f_al0_gfr (pc := 18) o_X9_atPeace rfl rfl rfl fk_C_25_6 (Wp.r_iload (pc := 22) o_X9_atPeace rfl rfl (Wp.r_iaload (pc := 24) o_X9_atPeace rfl ak_C_34 (⟨hc3, ?_⟩))))
      refine Wp.r_iconst (pc := 25) o_X9_atPeace rfl (Wp.r_ixor (pc := 26) o_X9_atPeace rfl (Wp.r_aload_n0 (pc := 27) o_X9_atPeace rfl rfl (Wp.r_iload (pc := 28) o_X9_atPeace rfl rfl (Wp.r_aload_n1 (pc := 30) o_X9_atPeace rfl rfl (Wp.r_iload (pc := 31) o_X9_atPeace rfl rfl (Wp.r_cv2 (pc := 33) o_X9_atPeace rfl fk_C_26_0 (⟨rm8_ rfl, ?_⟩)))))))
      refine w_X2_inSight (d := d) _ ?_
      refine oq_bd H (fun r4 s5 H => ?_)
      refine Wp.r_iload_n2 (pc := 36) o_X9_atPeace rfl rfl (Wp.r_cs4 (pc := 37) o_X9_atPeace rfl (⟨rm8_ rfl, ?_⟩))
      refine w_X9_contentAt_25 (d := d) _ _ _ ?_
      refine oq_bd H (fun r6 s7 H => ?_)
      refine Wp.r_ior (pc := 40) o_X9_atPeace rfl (Wp.r_iand (pc := 41) o_X9_atPeace rfl (Wp.r_istore_n3 (pc := 42) o_X9_atPeace rfl (show Y_X9_atPeace_26_25 d Q 43 [(3, .int (v3 &&& (((s.1 34 v4.toNatClampNeg) ^^^ (-1)) ||| r6))), (0, .ref 25), (1, .ref 26), (2, .int v2), (4, .int v4)] [] s7 from ?_)))
      revert H
      generalize (v3 &&& (((s.1 34 v4.toNatClampNeg) ^^^ (-1)) ||| r6) : Int32) = x8
      intro H
      have H := nmx_e H
      exact Wp.f_iinc_goto (pc := 43) o_X9_atPeace rfl rfl rfl (Wp.weak2 [2, 3, 4, 1, 0] (ih _ _ _ _ H) rfl)
noncomputable def f_X9_atPeace_26_25 (a2 : Int32) (s : Sg) : Option (Int32 × Sg) :=
  bd (f_X4_allQuarrels s) (fun r1 s2 =>
  f_X9_atPeace_26_25_b8 BIG a2 r1 0 s2
  )
set_option maxRecDepth 100000 in
theorem w_X9_atPeace_26_25 {d : Nat} {s : Sg} {Q : Qt} (a2 : Int32) (H : OQ (f_X9_atPeace_26_25 a2 s) (fun r9 s9 => Q (some (.int r9)) s9)) : WpM SHC MT (d + 3) 93 [.ref 25, .ref 26, .int a2] s Q := by
  refine WpM.enter me_X9_atPeace rfl rfl ?_
  show Y_X9_atPeace_26_25 d Q 0 [(0, .ref 25), (1, .ref 26), (2, .int a2)] [] s
  unfold f_X9_atPeace_26_25 at H
  refine Wp.r_aload_n0 (pc := 0) o_X9_atPeace rfl rfl (Wp.r_cv1 (pc := 1) o_X9_atPeace rfl fk_C_25_0 (⟨rm8_ rfl, ?_⟩))
  refine w_X4_allQuarrels (d := d + 1)  ?_
  refine oq_bd H (fun r1 s2 H => ?_)
  exact Wp.r_istore_n3 (pc := 4) o_X9_atPeace rfl (Wp.r_iconst (pc := 5) o_X9_atPeace rfl (Wp.r_istore (pc := 6) o_X9_atPeace rfl (Wp.weak2 [2, 3, 4, 1, 0] (w_X9_atPeace_26_25_b8 _ _ _ _ _ H) rfl)))
noncomputable abbrev Y_X11_peace (d : Nat) (Q : Qt) : Xt := Wp SHC (WpM SHC MT (d + 3)) (flat2 cq_X11_peace) (some .int) Q
noncomputable def f_X11_peace  (s : Sg) : Option (Int32 × Sg) :=
  bd (f_X9_atPeace_26_25 (-1) s) (fun r1 s2 =>
  bd (f_X11_answer r1 s2) (fun r3 s4 =>
  some (r3, s4)
  )
  )
set_option maxRecDepth 100000 in
theorem w_X11_peace {d : Nat} {s : Sg} {Q : Qt}  (H : OQ (f_X11_peace  s) (fun r9 s9 => Q (some (.int r9)) s9)) : WpM SHC MT (d + 4) 121 [.ref 0] s Q := by
  refine WpM.enter me_X11_peace rfl rfl ?_
  show Y_X11_peace d Q 0 [(0, .ref 0)] [] s
  unfold f_X11_peace at H
  refine Wp.r_aload_n0 (pc := 0) o_X11_peace rfl rfl (Wp.f_al0_gfr (pc := 1) o_X11_peace rfl rfl rfl fk_C_0_5 (Wp.f_al0_gfr (pc := 5) o_X11_peace rfl rfl rfl fk_C_0_6 (Wp.r_iconst (pc := 9) o_X11_peace rfl (Wp.r_cs3 (pc := 10) o_X11_peace rfl (⟨rm8_ rfl, ?_⟩)))))
  refine w_X9_atPeace_26_25 (d := d) _ ?_
  refine oq_bd H (fun r1 s2 H => ?_)
  refine Wp.r_cv2 (pc := 13) o_X11_peace rfl fk_C_0_0 (⟨rm8_ rfl, ?_⟩)
  refine w_X11_answer (d := d + 2) _ ?_
  refine oq_bd H (fun r3 s4 H => ?_)
  exact Wp.r_ireturn (pc := 16) o_X11_peace rfl (⟨rfl, H⟩)
noncomputable abbrev Y_X9_calmAt_25 (d : Nat) (Q : Qt) : Xt := Wp SHC (WpM SHC MT (d + 1)) (flat2 cq_X9_calmAt) (some .int) Q
noncomputable def f_X9_calmAt_25_b34 : Nat → Int32 → Int32 → Int32 → Int32 → Sg → Option (Int32 × Sg)
  | 0, _, _, _, _, _ => none
  | n + 1, v1, v3, v4, v5, s =>
    if (s.1 25 14) ≤ v5 then
      some (v3, s)
    else
      if v4 ≤ 0 then
        some (v3, s)
      else
        bd (f_X4_isAt v5 v1 s) (fun r3 s4 =>
        if r3 = 0 then
          (f_X9_calmAt_25_b34 n) v1 v3 v4 (v5 + 1) s4
        else
          nmx (v3 ||| ((1 : Int32) <<< (v5 &&& 31)) : Int32) (fun x5 =>
          ck (inr v5 8) (
          nmx (v4 - (s4.1 33 v5.toNatClampNeg) : Int32) (fun x7 =>
          (f_X9_calmAt_25_b34 n) v1 x5 x7 (v5 + 1) s4
          )
          )
          )
        )
set_option maxRecDepth 100000 in
theorem w_X9_calmAt_25_b34 {d : Nat} {Q : Qt} (n : Nat) : ∀ (v1 : Int32) (v3 : Int32) (v4 : Int32) (v5 : Int32) (s : Sg), OQ (f_X9_calmAt_25_b34 n v1 v3 v4 v5 s) (fun r9 s9 => Q (some (.int r9)) s9) → Y_X9_calmAt_25 d Q 34 [(0, .ref 25), (1, .int v1), (3, .int v3), (4, .int v4), (5, .int v5)] [] s := by
  induction n with
  | zero => intro v1 v3 v4 v5 s H; exact H.elim
  | succ n ih =>
    intro v1 v3 v4 v5 s H
    unfold f_X9_calmAt_25_b34 at H
    refine Wp.r_iload (pc := 34) o_X9_calmAt rfl rfl (Wp.f_al0_gfi (pc := 36) o_X9_calmAt rfl rfl rfl fk_C_25_14 (Wp.r_icmp_ge (pc := 40) o_X9_calmAt rfl (fun c9 => ?_) (fun c9 => ?_)))
    · have H := oq_t c9 H
      exact Wp.r_iload_n3 (pc := 83) o_X9_calmAt rfl rfl (Wp.r_ireturn (pc := 84) o_X9_calmAt rfl (⟨rfl, H⟩))
    · have H := oq_f c9 H
      refine Wp.r_iload (pc := 43) o_X9_calmAt rfl rfl (Wp.r_if_le (pc := 45) o_X9_calmAt rfl (fun c9 => ?_) (fun c9 => ?_))
      · have H := oq_t c9 H
        exact Wp.r_iload_n3 (pc := 83) o_X9_calmAt rfl rfl (Wp.r_ireturn (pc := 84) o_X9_calmAt rfl (⟨rfl, H⟩))
      · have H := oq_f c9 H
        refine Wp.r_aload_n0 (pc := 48) o_X9_calmAt rfl rfl (Wp.r_iload (pc := 49) o_X9_calmAt rfl rfl (Wp.r_iload_n1 (pc := 51) o_X9_calmAt rfl rfl (Wp.r_cv3 (pc := 52) o_X9_calmAt rfl fk_C_25_0 (⟨rm8_ rfl, ?_⟩))))
        refine w_X4_isAt (d := d) _ _ ?_
        refine oq_bd H (fun r3 s4 H => ?_)
        refine Wp.r_if_eq (pc := 55) o_X9_calmAt rfl (fun c9 => ?_) (fun c9 => ?_)
        · have H := oq_t c9 H
          exact Wp.f_iinc_goto (pc := 77) o_X9_calmAt rfl rfl rfl (Wp.weak2 [1, 2, 3, 4, 0] (ih _ _ _ _ _ H) rfl)
        · have H := oq_f c9 H
          refine Wp.r_iload_n3 (pc := 58) o_X9_calmAt rfl rfl (Wp.r_iconst (pc := 59) o_X9_calmAt rfl (Wp.r_iload (pc := 60) o_X9_calmAt rfl rfl (Wp.r_ishl (pc := 62) o_X9_calmAt rfl (Wp.r_ior (pc := 63) o_X9_calmAt rfl (Wp.r_istore_n3 (pc := 64) o_X9_calmAt rfl (show Y_X9_calmAt_25 d Q 65 [(3, .int (v3 ||| ((1 : Int32) <<< (v5 &&& 31)))), (0, .ref 25), (1, .int v1), (4, .int v4), (5, .int v5)] [] s4 from ?_))))))
          revert H
          generalize (v3 ||| ((1 : Int32) <<< (v5 &&& 31)) : Int32) = x5
          intro H
          have H := nmx_e H
          obtain ⟨hc6, H⟩ := oq_ck H
          refine Wp.r_iload (pc := 65) o_X9_calmAt rfl rfl (Wp.f_al0_gfr (pc := 67) o_X9_calmAt rfl rfl rfl fk_C_25_5 (Wp.r_iload (pc := 71) o_X9_calmAt rfl rfl (Wp.r_iaload (pc := 73) o_X9_calmAt rfl ak_C_33 (⟨hc6, ?_⟩))))
          refine Wp.r_isub (pc := 74) o_X9_calmAt rfl (Wp.r_istore (pc := 75) o_X9_calmAt rfl (show Y_X9_calmAt_25 d Q 77 [(4, .int (v4 - (s4.1 33 v5.toNatClampNeg))), (3, .int x5), (0, .ref 25), (1, .int v1), (5, .int v5)] [] s4 from ?_))
          revert H
          generalize (v4 - (s4.1 33 v5.toNatClampNeg) : Int32) = x7
          intro H
          have H := nmx_e H
          exact Wp.f_iinc_goto (pc := 77) o_X9_calmAt rfl rfl rfl (Wp.weak2 [3, 4, 2, 1, 0] (ih _ _ _ _ _ H) rfl)
noncomputable def f_X9_calmAt_25 (a1 : Int32) (a2 : Int32) (s : Sg) : Option (Int32 × Sg) :=
  bd (f_X4_isGone a1 s) (fun r1 s2 =>
  if r1 = 0 then
    f_X9_calmAt_25_b34 BIG a1 0 a2 0 s2
  else
    if (s2.1 25 19) = 0 then
      some (0, s2)
    else
      ck (inr a1 8) (
      some (s2.1 34 a1.toNatClampNeg, s2)
      )
  )
set_option maxRecDepth 100000 in
theorem w_X9_calmAt_25 {d : Nat} {s : Sg} {Q : Qt} (a1 : Int32) (a2 : Int32) (H : OQ (f_X9_calmAt_25 a1 a2 s) (fun r9 s9 => Q (some (.int r9)) s9)) : WpM SHC MT (d + 2) 95 [.ref 25, .int a1, .int a2] s Q := by
  refine WpM.enter me_X9_calmAt rfl rfl ?_
  show Y_X9_calmAt_25 d Q 0 [(0, .ref 25), (1, .int a1), (2, .int a2)] [] s
  unfold f_X9_calmAt_25 at H
  refine Wp.r_aload_n0 (pc := 0) o_X9_calmAt rfl rfl (Wp.r_iload_n1 (pc := 1) o_X9_calmAt rfl rfl (Wp.r_cv2 (pc := 2) o_X9_calmAt rfl fk_C_25_0 (⟨rm8_ rfl, ?_⟩)))
  refine w_X4_isGone (d := d) _ ?_
  refine oq_bd H (fun r1 s2 H => ?_)
  refine Wp.r_if_eq (pc := 5) o_X9_calmAt rfl (fun c9 => ?_) (fun c9 => ?_)
  · have H := oq_t c9 H
    exact Wp.r_iconst (pc := 26) o_X9_calmAt rfl (Wp.r_istore_n3 (pc := 27) o_X9_calmAt rfl (Wp.r_iload_n2 (pc := 28) o_X9_calmAt rfl rfl (Wp.r_istore (pc := 29) o_X9_calmAt rfl (Wp.r_iconst (pc := 31) o_X9_calmAt rfl (Wp.r_istore (pc := 32) o_X9_calmAt rfl (Wp.weak2 [3, 4, 2, 1, 0] (w_X9_calmAt_25_b34 _ _ _ _ _ _ H) rfl))))))
  · have H := oq_f c9 H
    refine Wp.f_al0_gfi (pc := 8) o_X9_calmAt rfl rfl rfl fk_C_25_19 (Wp.r_if_eq (pc := 12) o_X9_calmAt rfl (fun c9 => ?_) (fun c9 => ?_))
    · have H := oq_t c9 H
      exact Wp.r_iconst (pc := 24) o_X9_calmAt rfl (Wp.r_ireturn (pc := 25) o_X9_calmAt rfl (⟨rfl, H⟩))
    · have H := oq_f c9 H
      obtain ⟨hc8, H⟩ := oq_ck H
      refine Wp.f_al0_gfr (pc := 15) o_X9_calmAt rfl rfl rfl fk_C_25_6 (Wp.r_iload_n1 (pc := 19) o_X9_calmAt rfl rfl (Wp.r_iaload (pc := 20) o_X9_calmAt rfl ak_C_34 (⟨hc8, ?_⟩)))
      exact Wp.r_goto (pc := 21) o_X9_calmAt rfl (Wp.r_ireturn (pc := 25) o_X9_calmAt rfl (⟨rfl, H⟩))
noncomputable abbrev Y_X9_inTruce_26_25 (d : Nat) (Q : Qt) : Xt := Wp SHC (WpM SHC MT (d + 2)) (flat2 cq_X9_inTruce) (some .int) Q
noncomputable def f_X9_inTruce_26_25_b7 : Nat → Int32 → Int32 → Sg → Option (Int32 × Sg)
  | 0, _, _, _ => none
  | n + 1, v2, v3, s =>
    if (s.1 25 13) ≤ v3 then
      some (v2, s)
    else
      ck (inr v3 8) (
      bd (f_X2_inSight v3 s) (fun r4 s5 =>
      bd (f_X9_calmAt_25 v3 r4 s5) (fun r6 s7 =>
      nmx (v2 &&& (((s.1 34 v3.toNatClampNeg) ^^^ (-1)) ||| r6) : Int32) (fun x8 =>
      (f_X9_inTruce_26_25_b7 n) x8 (v3 + 1) s7
      )
      )
      )
      )
set_option maxRecDepth 100000 in
theorem w_X9_inTruce_26_25_b7 {d : Nat} {Q : Qt} (n : Nat) : ∀ (v2 : Int32) (v3 : Int32) (s : Sg), OQ (f_X9_inTruce_26_25_b7 n v2 v3 s) (fun r9 s9 => Q (some (.int r9)) s9) → Y_X9_inTruce_26_25 d Q 7 [(0, .ref 25), (1, .ref 26), (2, .int v2), (3, .int v3)] [] s := by
  induction n with
  | zero => intro v2 v3 s H; exact H.elim
  | succ n ih =>
    intro v2 v3 s H
    unfold f_X9_inTruce_26_25_b7 at H
    refine Wp.r_iload_n3 (pc := 7) o_X9_inTruce rfl rfl (Wp.f_al0_gfi (pc := 8) o_X9_inTruce rfl rfl rfl fk_C_25_13 (Wp.r_icmp_ge (pc := 12) o_X9_inTruce rfl (fun c9 => ?_) (fun c9 => ?_)))
    · have H := oq_t c9 H
      exact Wp.r_iload_n2 (pc := 43) o_X9_inTruce rfl rfl (Wp.r_ireturn (pc := 44) o_X9_inTruce rfl (⟨rfl, H⟩))
    · have H := oq_f c9 H
      obtain ⟨hc3, H⟩ := oq_ck H
      refine Wp.r_iload_n2 (pc := 15) o_X9_inTruce rfl rfl (Wp.f_al0_gfr (pc := 16) o_X9_inTruce rfl rfl rfl fk_C_25_6 (Wp.r_iload_n3 (pc := 20) o_X9_inTruce rfl rfl (Wp.r_iaload (pc := 21) o_X9_inTruce rfl ak_C_34 (⟨hc3, ?_⟩))))
      refine Wp.r_iconst (pc := 22) o_X9_inTruce rfl (Wp.r_ixor (pc := 23) o_X9_inTruce rfl (Wp.r_aload_n0 (pc := 24) o_X9_inTruce rfl rfl (Wp.r_iload_n3 (pc := 25) o_X9_inTruce rfl rfl (Wp.r_aload_n1 (pc := 26) o_X9_inTruce rfl rfl (Wp.r_iload_n3 (pc := 27) o_X9_inTruce rfl rfl (Wp.r_cv2 (pc := 28) o_X9_inTruce rfl fk_C_26_0 (⟨rm8_ rfl, ?_⟩)))))))
      refine w_X2_inSight (d := d) _ ?_
      refine oq_bd H (fun r4 s5 H => ?_)
      refine Wp.r_cs3 (pc := 31) o_X9_inTruce rfl (⟨rm8_ rfl, ?_⟩)
      refine w_X9_calmAt_25 (d := d) _ _ ?_
      refine oq_bd H (fun r6 s7 H => ?_)
      refine Wp.r_ior (pc := 34) o_X9_inTruce rfl (Wp.r_iand (pc := 35) o_X9_inTruce rfl (Wp.r_istore_n2 (pc := 36) o_X9_inTruce rfl (show Y_X9_inTruce_26_25 d Q 37 [(2, .int (v2 &&& (((s.1 34 v3.toNatClampNeg) ^^^ (-1)) ||| r6))), (0, .ref 25), (1, .ref 26), (3, .int v3)] [] s7 from ?_)))
      revert H
      generalize (v2 &&& (((s.1 34 v3.toNatClampNeg) ^^^ (-1)) ||| r6) : Int32) = x8
      intro H
      have H := nmx_e H
      exact Wp.f_iinc_goto (pc := 37) o_X9_inTruce rfl rfl rfl (Wp.weak2 [2, 3, 1, 0] (ih _ _ _ H) rfl)
noncomputable def f_X9_inTruce_26_25  (s : Sg) : Option (Int32 × Sg) :=
  bd (f_X4_allQuarrels s) (fun r1 s2 =>
  f_X9_inTruce_26_25_b7 BIG r1 0 s2
  )
set_option maxRecDepth 100000 in
theorem w_X9_inTruce_26_25 {d : Nat} {s : Sg} {Q : Qt}  (H : OQ (f_X9_inTruce_26_25  s) (fun r9 s9 => Q (some (.int r9)) s9)) : WpM SHC MT (d + 3) 94 [.ref 25, .ref 26] s Q := by
  refine WpM.enter me_X9_inTruce rfl rfl ?_
  show Y_X9_inTruce_26_25 d Q 0 [(0, .ref 25), (1, .ref 26)] [] s
  unfold f_X9_inTruce_26_25 at H
  refine Wp.r_aload_n0 (pc := 0) o_X9_inTruce rfl rfl (Wp.r_cv1 (pc := 1) o_X9_inTruce rfl fk_C_25_0 (⟨rm8_ rfl, ?_⟩))
  refine w_X4_allQuarrels (d := d + 1)  ?_
  refine oq_bd H (fun r1 s2 H => ?_)
  exact Wp.r_istore_n2 (pc := 4) o_X9_inTruce rfl (Wp.r_iconst (pc := 5) o_X9_inTruce rfl (Wp.r_istore_n3 (pc := 6) o_X9_inTruce rfl (Wp.weak2 [2, 3, 1, 0] (w_X9_inTruce_26_25_b7 _ _ _ _ H) rfl)))
noncomputable abbrev Y_X11_truce (d : Nat) (Q : Qt) : Xt := Wp SHC (WpM SHC MT (d + 3)) (flat2 cq_X11_truce) (some .int) Q
noncomputable def f_X11_truce  (s : Sg) : Option (Int32 × Sg) :=
  bd (f_X9_inTruce_26_25 s) (fun r1 s2 =>
  bd (f_X11_answer r1 s2) (fun r3 s4 =>
  some (r3, s4)
  )
  )
set_option maxRecDepth 100000 in
theorem w_X11_truce {d : Nat} {s : Sg} {Q : Qt}  (H : OQ (f_X11_truce  s) (fun r9 s9 => Q (some (.int r9)) s9)) : WpM SHC MT (d + 4) 122 [.ref 0] s Q := by
  refine WpM.enter me_X11_truce rfl rfl ?_
  show Y_X11_truce d Q 0 [(0, .ref 0)] [] s
  unfold f_X11_truce at H
  refine Wp.r_aload_n0 (pc := 0) o_X11_truce rfl rfl (Wp.f_al0_gfr (pc := 1) o_X11_truce rfl rfl rfl fk_C_0_5 (Wp.f_al0_gfr (pc := 5) o_X11_truce rfl rfl rfl fk_C_0_6 (Wp.r_cs2 (pc := 9) o_X11_truce rfl (⟨rm8_ rfl, ?_⟩))))
  refine w_X9_inTruce_26_25 (d := d)  ?_
  refine oq_bd H (fun r1 s2 H => ?_)
  refine Wp.r_cv2 (pc := 12) o_X11_truce rfl fk_C_0_0 (⟨rm8_ rfl, ?_⟩)
  refine w_X11_answer (d := d + 2) _ ?_
  refine oq_bd H (fun r3 s4 H => ?_)
  exact Wp.r_ireturn (pc := 15) o_X11_truce rfl (⟨rfl, H⟩)
noncomputable abbrev Y_X11_over (d : Nat) (Q : Qt) : Xt := Wp SHC (WpM SHC MT (d + 1)) (flat2 cq_X11_over) (some .int) Q
noncomputable def f_X11_over  (s : Sg) : Option (Int32 × Sg) :=
  bd (f_X11_answer (s.1 26 5) s) (fun r1 s2 =>
  some (r1, s2)
  )
set_option maxRecDepth 100000 in
theorem w_X11_over {d : Nat} {s : Sg} {Q : Qt}  (H : OQ (f_X11_over  s) (fun r9 s9 => Q (some (.int r9)) s9)) : WpM SHC MT (d + 2) 123 [.ref 0] s Q := by
  refine WpM.enter me_X11_over rfl rfl ?_
  show Y_X11_over d Q 0 [(0, .ref 0)] [] s
  unfold f_X11_over at H
  refine Wp.r_aload_n0 (pc := 0) o_X11_over rfl rfl (Wp.f_al0_gfr (pc := 1) o_X11_over rfl rfl rfl fk_C_0_6 (Wp.r_gfi (pc := 5) o_X11_over rfl fk_C_26_5 (Wp.r_cv2 (pc := 8) o_X11_over rfl fk_C_0_0 (⟨rm8_ rfl, ?_⟩))))
  refine w_X11_answer (d := d) _ ?_
  refine oq_bd H (fun r1 s2 H => ?_)
  exact Wp.r_ireturn (pc := 11) o_X11_over rfl (⟨rfl, H⟩)
noncomputable abbrev Y_X4_withoutHope (d : Nat) (Q : Qt) : Xt := Wp SHC (WpM SHC MT (d + 1)) (flat2 cq_X4_withoutHope) (some .int) Q
noncomputable def f_X4_withoutHope_b4 : Nat → Int32 → Int32 → Sg → Option (Int32 × Sg)
  | 0, _, _, _ => none
  | n + 1, v1, v2, s =>
    if (s.1 25 13) ≤ v2 then
      some (v1, s)
    else
      if (s.1 25 19) = 0 then
        bd (f_X4_isGone v2 s) (fun r1 s2 =>
        if r1 = 0 then
          (f_X4_withoutHope_b4 n) v1 (v2 + 1) s2
        else
          ck (inr v2 8) (
          nmx (v1 ||| (s2.1 34 v2.toNatClampNeg) : Int32) (fun x4 =>
          (f_X4_withoutHope_b4 n) x4 (v2 + 1) s2
          )
          )
        )
      else
        some (v1, s)
set_option maxRecDepth 100000 in
theorem w_X4_withoutHope_b4 {d : Nat} {Q : Qt} (n : Nat) : ∀ (v1 : Int32) (v2 : Int32) (s : Sg), OQ (f_X4_withoutHope_b4 n v1 v2 s) (fun r9 s9 => Q (some (.int r9)) s9) → Y_X4_withoutHope d Q 4 [(0, .ref 25), (1, .int v1), (2, .int v2)] [] s := by
  induction n with
  | zero => intro v1 v2 s H; exact H.elim
  | succ n ih =>
    intro v1 v2 s H
    unfold f_X4_withoutHope_b4 at H
    refine Wp.r_iload_n2 (pc := 4) o_X4_withoutHope rfl rfl (Wp.f_al0_gfi (pc := 5) o_X4_withoutHope rfl rfl rfl fk_C_25_13 (Wp.r_icmp_ge (pc := 9) o_X4_withoutHope rfl (fun c9 => ?_) (fun c9 => ?_)))
    · have H := oq_t c9 H
      exact Wp.r_iload_n1 (pc := 42) o_X4_withoutHope rfl rfl (Wp.r_ireturn (pc := 43) o_X4_withoutHope rfl (⟨rfl, H⟩))
    · have H := oq_f c9 H
      refine Wp.f_al0_gfi (pc := 12) o_X4_withoutHope rfl rfl rfl fk_C_25_19 (Wp.r_if_ne (pc := 16) o_X4_withoutHope rfl (fun c9 => ?_) (fun c9 => ?_))
      · have H := oq_t c9 H
        refine Wp.r_aload_n0 (pc := 19) o_X4_withoutHope rfl rfl (Wp.r_iload_n2 (pc := 20) o_X4_withoutHope rfl rfl (Wp.r_cv2 (pc := 21) o_X4_withoutHope rfl fk_C_25_0 (⟨rm8_ rfl, ?_⟩)))
        refine w_X4_isGone (d := d) _ ?_
        refine oq_bd H (fun r1 s2 H => ?_)
        refine Wp.r_if_eq (pc := 24) o_X4_withoutHope rfl (fun c9 => ?_) (fun c9 => ?_)
        · have H := oq_t c9 H
          exact Wp.f_iinc_goto (pc := 36) o_X4_withoutHope rfl rfl rfl (Wp.weak2 [1, 2, 0] (ih _ _ _ H) rfl)
        · have H := oq_f c9 H
          obtain ⟨hc3, H⟩ := oq_ck H
          refine Wp.r_iload_n1 (pc := 27) o_X4_withoutHope rfl rfl (Wp.f_al0_gfr (pc := 28) o_X4_withoutHope rfl rfl rfl fk_C_25_6 (Wp.r_iload_n2 (pc := 32) o_X4_withoutHope rfl rfl (Wp.r_iaload (pc := 33) o_X4_withoutHope rfl ak_C_34 (⟨hc3, ?_⟩))))
          refine Wp.r_ior (pc := 34) o_X4_withoutHope rfl (Wp.r_istore_n1 (pc := 35) o_X4_withoutHope rfl (show Y_X4_withoutHope d Q 36 [(1, .int (v1 ||| (s2.1 34 v2.toNatClampNeg))), (0, .ref 25), (2, .int v2)] [] s2 from ?_))
          revert H
          generalize (v1 ||| (s2.1 34 v2.toNatClampNeg) : Int32) = x4
          intro H
          have H := nmx_e H
          exact Wp.f_iinc_goto (pc := 36) o_X4_withoutHope rfl rfl rfl (Wp.weak2 [2, 1, 0] (ih _ _ _ H) rfl)
      · have H := oq_f c9 H
        exact Wp.r_iload_n1 (pc := 42) o_X4_withoutHope rfl rfl (Wp.r_ireturn (pc := 43) o_X4_withoutHope rfl (⟨rfl, H⟩))
noncomputable def f_X4_withoutHope  (s : Sg) : Option (Int32 × Sg) :=
  f_X4_withoutHope_b4 BIG 0 0 s
set_option maxRecDepth 100000 in
theorem w_X4_withoutHope {d : Nat} {s : Sg} {Q : Qt}  (H : OQ (f_X4_withoutHope  s) (fun r9 s9 => Q (some (.int r9)) s9)) : WpM SHC MT (d + 2) 58 [.ref 25] s Q := by
  refine WpM.enter me_X4_withoutHope rfl rfl ?_
  show Y_X4_withoutHope d Q 0 [(0, .ref 25)] [] s
  unfold f_X4_withoutHope at H
  exact Wp.r_iconst (pc := 0) o_X4_withoutHope rfl (Wp.r_istore_n1 (pc := 1) o_X4_withoutHope rfl (Wp.r_iconst (pc := 2) o_X4_withoutHope rfl (Wp.r_istore_n2 (pc := 3) o_X4_withoutHope rfl (Wp.weak2 [2, 1, 0] (w_X4_withoutHope_b4 _ _ _ _ H) rfl))))
noncomputable abbrev Y_X11_hopeless (d : Nat) (Q : Qt) : Xt := Wp SHC (WpM SHC MT (d + 2)) (flat2 cq_X11_hopeless) (some .int) Q
noncomputable def f_X11_hopeless  (s : Sg) : Option (Int32 × Sg) :=
  bd (f_X4_withoutHope s) (fun r1 s2 =>
  bd (f_X11_answer r1 s2) (fun r3 s4 =>
  some (r3, s4)
  )
  )
set_option maxRecDepth 100000 in
theorem w_X11_hopeless {d : Nat} {s : Sg} {Q : Qt}  (H : OQ (f_X11_hopeless  s) (fun r9 s9 => Q (some (.int r9)) s9)) : WpM SHC MT (d + 3) 124 [.ref 0] s Q := by
  refine WpM.enter me_X11_hopeless rfl rfl ?_
  show Y_X11_hopeless d Q 0 [(0, .ref 0)] [] s
  unfold f_X11_hopeless at H
  refine Wp.r_aload_n0 (pc := 0) o_X11_hopeless rfl rfl (Wp.f_al0_gfr (pc := 1) o_X11_hopeless rfl rfl rfl fk_C_0_5 (Wp.r_cv1 (pc := 5) o_X11_hopeless rfl fk_C_25_0 (⟨rm8_ rfl, ?_⟩)))
  refine w_X4_withoutHope (d := d)  ?_
  refine oq_bd H (fun r1 s2 H => ?_)
  refine Wp.r_cv2 (pc := 8) o_X11_hopeless rfl fk_C_0_0 (⟨rm8_ rfl, ?_⟩)
  refine w_X11_answer (d := d + 1) _ ?_
  refine oq_bd H (fun r3 s4 H => ?_)
  exact Wp.r_ireturn (pc := 11) o_X11_hopeless rfl (⟨rfl, H⟩)
noncomputable abbrev Y_X2_hasRoom (d : Nat) (Q : Qt) : Xt := Wp SHC (WpM SHC MT (d + 1)) (flat2 cq_X2_hasRoom) (some .boolean) Q
noncomputable def f_X2_hasRoom (a1 : Int32) (a2 : Int32) (s : Sg) : Option (Int32 × Sg) :=
  bd (f_X2_lying a1 s) (fun r1 s2 =>
  if 9999 < (r1 + a2) then
    some (0, s2)
  else
    some (1, s2)
  )
set_option maxRecDepth 100000 in
theorem w_X2_hasRoom {d : Nat} {s : Sg} {Q : Qt} (a1 : Int32) (a2 : Int32) (H : OQ (f_X2_hasRoom a1 a2 s) (fun r9 s9 => Q (some (.int r9)) s9)) : WpM SHC MT (d + 2) 25 [.ref 26, .int a1, .int a2] s Q := by
  refine WpM.enter me_X2_hasRoom rfl rfl ?_
  show Y_X2_hasRoom d Q 0 [(0, .ref 26), (1, .int a1), (2, .int a2)] [] s
  unfold f_X2_hasRoom at H
  refine Wp.r_aload_n0 (pc := 0) o_X2_hasRoom rfl rfl (Wp.r_iload_n1 (pc := 1) o_X2_hasRoom rfl rfl (Wp.r_cv2 (pc := 2) o_X2_hasRoom rfl fk_C_26_0 (⟨rm8_ rfl, ?_⟩)))
  refine w_X2_lying (d := d) _ ?_
  refine oq_bd H (fun r1 s2 H => ?_)
  refine Wp.r_iload_n2 (pc := 5) o_X2_hasRoom rfl rfl (Wp.r_iadd (pc := 6) o_X2_hasRoom rfl (Wp.r_sipush (pc := 7) o_X2_hasRoom rfl (Wp.r_icmp_gt (pc := 10) o_X2_hasRoom rfl (fun c9 => ?_) (fun c9 => ?_))))
  · have H := oq_t c9 H
    exact Wp.r_iconst (pc := 17) o_X2_hasRoom rfl (Wp.r_ireturn (pc := 18) o_X2_hasRoom rfl (⟨rfl, H⟩))
  · have H := oq_f c9 H
    exact Wp.r_iconst (pc := 13) o_X2_hasRoom rfl (Wp.r_goto (pc := 14) o_X2_hasRoom rfl (Wp.r_ireturn (pc := 18) o_X2_hasRoom rfl (⟨rfl, H⟩)))
noncomputable abbrev Y_X2_addSalt (d : Nat) (Q : Qt) : Xt := Wp SHC (WpM SHC MT (d + 0)) (flat2 cq_X2_addSalt) (none) Q
noncomputable def f_X2_addSalt (a1 : Int32) (a2 : Int32) (s : Sg) : Option (Unit × Sg) :=
  ck (inr a1 8) (
  nmx (pI s 40 a1.toNatClampNeg ((s.1 40 a1.toNatClampNeg) + a2)) (fun s2 =>
  some ((), pI s2 26 9 ((s2.1 26 9) + a2))
  )
  )
set_option maxRecDepth 100000 in
theorem w_X2_addSalt {d : Nat} {s : Sg} {Q : Qt} (a1 : Int32) (a2 : Int32) (H : OQ (f_X2_addSalt a1 a2 s) (fun _ s9 => Q none s9)) : WpM SHC MT (d + 1) 28 [.ref 26, .int a1, .int a2] s Q := by
  refine WpM.enter me_X2_addSalt rfl rfl ?_
  show Y_X2_addSalt d Q 0 [(0, .ref 26), (1, .int a1), (2, .int a2)] [] s
  unfold f_X2_addSalt at H
  obtain ⟨hc1, H⟩ := oq_ck H
  refine Wp.f_al0_gfr (pc := 0) o_X2_addSalt rfl rfl rfl fk_C_26_0 (Wp.r_iload_n1 (pc := 4) o_X2_addSalt rfl rfl (Wp.r_dup2 (pc := 5) o_X2_addSalt rfl (Wp.r_iaload (pc := 6) o_X2_addSalt rfl ak_C_40 (⟨hc1, ?_⟩))))
  refine Wp.r_iload_n2 (pc := 7) o_X2_addSalt rfl rfl (Wp.r_iadd (pc := 8) o_X2_addSalt rfl (Wp.r_iastore (pc := 9) o_X2_addSalt rfl ak_C_40 (⟨hc1, ?_⟩)))
  revert H
  generalize pI s 40 a1.toNatClampNeg ((s.1 40 a1.toNatClampNeg) + a2) = s2
  intro H
  have H := nmx_e H
  exact Wp.r_aload_n0 (pc := 10) o_X2_addSalt rfl rfl (Wp.r_dup_r (pc := 11) o_X2_addSalt rfl (Wp.r_gfi (pc := 12) o_X2_addSalt rfl fk_C_26_9 (Wp.r_iload_n2 (pc := 15) o_X2_addSalt rfl rfl (Wp.r_iadd (pc := 16) o_X2_addSalt rfl (Wp.r_pfi (pc := 17) o_X2_addSalt rfl fk_C_26_9 (Wp.r_return (pc := 20) o_X2_addSalt rfl (H)))))))
noncomputable abbrev Y_X11_strew (d : Nat) (Q : Qt) : Xt := Wp SHC (WpM SHC MT (d + 3)) (flat2 cq_X11_strew) (some .int) Q
noncomputable def f_X11_strew (a1 : Int32) (a2 : Int32) (s : Sg) : Option (Int32 × Sg) :=
  bd (f_X11_within a2 1 999 s) (fun r1 s2 =>
  bd (f_X11_whyNoStep a1 r1 s2) (fun r3 s4 =>
  if r3 = 0 then
    bd (f_X2_hasRoom a1 a2 s4) (fun r5 s6 =>
    if r5 = 0 then
      bd (f_X11_refuse 4 s6) (fun r7 s8 =>
      some (r7, s8)
      )
    else
      bd (f_X2_addSalt a1 a2 s6) (fun _ s10 =>
      ck (inr a1 8) (
      bd (f_X11_answer (s10.1 40 a1.toNatClampNeg) s10) (fun r12 s13 =>
      some (r12, s13)
      )
      )
      )
    )
  else
    bd (f_X11_refuse r3 s4) (fun r14 s15 =>
    some (r14, s15)
    )
  )
  )
set_option maxRecDepth 100000 in
theorem w_X11_strew {d : Nat} {s : Sg} {Q : Qt} (a1 : Int32) (a2 : Int32) (H : OQ (f_X11_strew a1 a2 s) (fun r9 s9 => Q (some (.int r9)) s9)) : WpM SHC MT (d + 4) 125 [.ref 0, .int a1, .int a2] s Q := by
  refine WpM.enter me_X11_strew rfl rfl ?_
  show Y_X11_strew d Q 0 [(0, .ref 0), (1, .int a1), (2, .int a2)] [] s
  unfold f_X11_strew at H
  refine Wp.r_aload_n0 (pc := 0) o_X11_strew rfl rfl (Wp.r_iload_n1 (pc := 1) o_X11_strew rfl rfl (Wp.r_iload_n2 (pc := 2) o_X11_strew rfl rfl (Wp.r_iconst (pc := 3) o_X11_strew rfl (Wp.r_sipush (pc := 4) o_X11_strew rfl (Wp.r_cs3 (pc := 7) o_X11_strew rfl (⟨rm8_ rfl, ?_⟩))))))
  refine w_X11_within (d := d + 2) _ _ _ ?_
  refine oq_bd H (fun r1 s2 H => ?_)
  refine Wp.r_cv3 (pc := 10) o_X11_strew rfl fk_C_0_0 (⟨rm8_ rfl, ?_⟩)
  refine w_X11_whyNoStep (d := d) _ _ ?_
  refine oq_bd H (fun r3 s4 H => ?_)
  refine Wp.r_istore_n3 (pc := 13) o_X11_strew rfl (Wp.r_iload_n3 (pc := 14) o_X11_strew rfl rfl (Wp.r_if_eq (pc := 15) o_X11_strew rfl (fun c9 => ?_) (fun c9 => ?_)))
  · have H := oq_t c9 H
    refine Wp.f_al0_gfr (pc := 24) o_X11_strew rfl rfl rfl fk_C_0_6 (Wp.r_iload_n1 (pc := 28) o_X11_strew rfl rfl (Wp.r_iload_n2 (pc := 29) o_X11_strew rfl rfl (Wp.r_cv3 (pc := 30) o_X11_strew rfl fk_C_26_0 (⟨rm8_ rfl, ?_⟩))))
    refine w_X2_hasRoom (d := d + 1) _ _ ?_
    refine oq_bd H (fun r5 s6 H => ?_)
    refine Wp.r_if_ne (pc := 33) o_X11_strew rfl (fun c9 => ?_) (fun c9 => ?_)
    · have H := oq_t c9 H
      refine Wp.f_al0_iconst (pc := 36) o_X11_strew rfl rfl rfl (Wp.r_cv2 (pc := 38) o_X11_strew rfl fk_C_0_0 (⟨rm8_ rfl, ?_⟩))
      refine w_X11_refuse (d := d + 2) _ ?_
      refine oq_bd H (fun r7 s8 H => ?_)
      exact Wp.r_ireturn (pc := 41) o_X11_strew rfl (⟨rfl, H⟩)
    · have H := oq_f c9 H
      refine Wp.f_al0_gfr (pc := 42) o_X11_strew rfl rfl rfl fk_C_0_6 (Wp.r_iload_n1 (pc := 46) o_X11_strew rfl rfl (Wp.r_iload_n2 (pc := 47) o_X11_strew rfl rfl (Wp.r_cv3 (pc := 48) o_X11_strew rfl fk_C_26_0 (⟨rm8_ rfl, ?_⟩))))
      refine w_X2_addSalt (d := d + 2) _ _ ?_
      refine oq_bd H (fun _ s10 H => ?_)
      obtain ⟨hc11, H⟩ := oq_ck H
      refine Wp.r_aload_n0 (pc := 51) o_X11_strew rfl rfl (Wp.f_al0_gfr (pc := 52) o_X11_strew rfl rfl rfl fk_C_0_6 (Wp.r_gfr (pc := 56) o_X11_strew rfl fk_C_26_0 (Wp.r_iload_n1 (pc := 59) o_X11_strew rfl rfl (Wp.r_iaload (pc := 60) o_X11_strew rfl ak_C_40 (⟨hc11, ?_⟩)))))
      refine Wp.r_cv2 (pc := 61) o_X11_strew rfl fk_C_0_0 (⟨rm8_ rfl, ?_⟩)
      refine w_X11_answer (d := d + 2) _ ?_
      refine oq_bd H (fun r12 s13 H => ?_)
      exact Wp.r_ireturn (pc := 64) o_X11_strew rfl (⟨rfl, H⟩)
  · have H := oq_f c9 H
    refine Wp.r_aload_n0 (pc := 18) o_X11_strew rfl rfl (Wp.r_iload_n3 (pc := 19) o_X11_strew rfl rfl (Wp.r_cv2 (pc := 20) o_X11_strew rfl fk_C_0_0 (⟨rm8_ rfl, ?_⟩)))
    refine w_X11_refuse (d := d + 2) _ ?_
    refine oq_bd H (fun r14 s15 H => ?_)
    exact Wp.r_ireturn (pc := 23) o_X11_strew rfl (⟨rfl, H⟩)
noncomputable abbrev Y_X2_addBought_25 (d : Nat) (Q : Qt) : Xt := Wp SHC (WpM SHC MT (d + 1)) (flat2 cq_X2_addBought) (some .int) Q
noncomputable def f_X2_addBought_25 (a2 : Int32) (a3 : Int32) (a4 : Int32) (s : Sg) : Option (Int32 × Sg) :=
  ck (inr a2 4) (
  nmx ((a3 * (s.1 39 a2.toNatClampNeg)) / 16 : Int32) (fun x2 =>
  nmx (pI s 44 a2.toNatClampNeg ((s.1 44 a2.toNatClampNeg) - a3)) (fun s3 =>
  nmx (pI s3 26 8 ((s3.1 26 8) - (a3 * (s3.1 38 a2.toNatClampNeg)))) (fun s4 =>
  bd (f_X2_addSalt a4 (a3 - x2) s4) (fun _ s6 =>
  ck (inr a4 8) (
  nmx (pI s6 41 a4.toNatClampNeg ((s6.1 41 a4.toNatClampNeg) + x2)) (fun s8 =>
  some (x2, pI s8 26 9 ((s8.1 26 9) + x2))
  )
  )
  )
  )
  )
  )
  )
set_option maxRecDepth 100000 in
theorem w_X2_addBought_25 {d : Nat} {s : Sg} {Q : Qt} (a2 : Int32) (a3 : Int32) (a4 : Int32) (H : OQ (f_X2_addBought_25 a2 a3 a4 s) (fun r9 s9 => Q (some (.int r9)) s9)) : WpM SHC MT (d + 2) 29 [.ref 26, .ref 25, .int a2, .int a3, .int a4] s Q := by
  refine WpM.enter me_X2_addBought rfl rfl ?_
  show Y_X2_addBought_25 d Q 0 [(0, .ref 26), (1, .ref 25), (2, .int a2), (3, .int a3), (4, .int a4)] [] s
  unfold f_X2_addBought_25 at H
  obtain ⟨hc1, H⟩ := oq_ck H
  refine Wp.r_iload_n3 (pc := 0) o_X2_addBought rfl rfl (Wp.f_al1_gfr (pc := 1) o_X2_addBought rfl rfl rfl fk_C_25_11 (Wp.r_iload_n2 (pc := 5) o_X2_addBought rfl rfl (Wp.r_iaload (pc := 6) o_X2_addBought rfl ak_C_39 (⟨hc1, ?_⟩))))
  refine Wp.r_imul (pc := 7) o_X2_addBought rfl (Wp.r_bipush (pc := 8) o_X2_addBought rfl (Wp.r_idiv (pc := 10) o_X2_addBought rfl (show (¬ (16 : Int32) = 0) ∧ Y_X2_addBought_25 d Q 11 [(0, .ref 26), (1, .ref 25), (2, .int a2), (3, .int a3), (4, .int a4)] [.int ((a3 * (s.1 39 a2.toNatClampNeg)) / 16)] s from ⟨by decide, ?_⟩)))
  refine Wp.r_istore (pc := 11) o_X2_addBought rfl (show Y_X2_addBought_25 d Q 13 [(5, .int ((a3 * (s.1 39 a2.toNatClampNeg)) / 16)), (0, .ref 26), (1, .ref 25), (2, .int a2), (3, .int a3), (4, .int a4)] [] s from ?_)
  revert H
  generalize ((a3 * (s.1 39 a2.toNatClampNeg)) / 16 : Int32) = x2
  intro H
  have H := nmx_e H
  refine Wp.f_al0_gfr (pc := 13) o_X2_addBought rfl rfl rfl fk_C_26_4 (Wp.r_iload_n2 (pc := 17) o_X2_addBought rfl rfl (Wp.r_dup2 (pc := 18) o_X2_addBought rfl (Wp.r_iaload (pc := 19) o_X2_addBought rfl ak_C_44 (⟨hc1, ?_⟩))))
  refine Wp.r_iload_n3 (pc := 20) o_X2_addBought rfl rfl (Wp.r_isub (pc := 21) o_X2_addBought rfl (Wp.r_iastore (pc := 22) o_X2_addBought rfl ak_C_44 (⟨hc1, ?_⟩)))
  revert H
  generalize pI s 44 a2.toNatClampNeg ((s.1 44 a2.toNatClampNeg) - a3) = s3
  intro H
  have H := nmx_e H
  refine Wp.r_aload_n0 (pc := 23) o_X2_addBought rfl rfl (Wp.r_dup_r (pc := 24) o_X2_addBought rfl (Wp.r_gfi (pc := 25) o_X2_addBought rfl fk_C_26_8 (Wp.r_iload_n3 (pc := 28) o_X2_addBought rfl rfl (Wp.f_al1_gfr (pc := 29) o_X2_addBought rfl rfl rfl fk_C_25_10 (Wp.r_iload_n2 (pc := 33) o_X2_addBought rfl rfl (Wp.r_iaload (pc := 34) o_X2_addBought rfl ak_C_38 (⟨hc1, ?_⟩)))))))
  refine Wp.r_imul (pc := 35) o_X2_addBought rfl (Wp.r_isub (pc := 36) o_X2_addBought rfl (Wp.r_pfi (pc := 37) o_X2_addBought rfl fk_C_26_8 (show Y_X2_addBought_25 d Q 40 [(5, .int x2), (0, .ref 26), (1, .ref 25), (2, .int a2), (3, .int a3), (4, .int a4)] [] (pI s3 26 8 ((s3.1 26 8) - (a3 * (s3.1 38 a2.toNatClampNeg)))) from ?_)))
  revert H
  generalize pI s3 26 8 ((s3.1 26 8) - (a3 * (s3.1 38 a2.toNatClampNeg))) = s4
  intro H
  have H := nmx_e H
  refine Wp.r_aload_n0 (pc := 40) o_X2_addBought rfl rfl (Wp.r_iload (pc := 41) o_X2_addBought rfl rfl (Wp.r_iload_n3 (pc := 43) o_X2_addBought rfl rfl (Wp.r_iload (pc := 44) o_X2_addBought rfl rfl (Wp.r_isub (pc := 46) o_X2_addBought rfl (Wp.r_cv3 (pc := 47) o_X2_addBought rfl fk_C_26_0 (⟨rm8_ rfl, ?_⟩))))))
  refine w_X2_addSalt (d := d) _ _ ?_
  refine oq_bd H (fun _ s6 H => ?_)
  obtain ⟨hc7, H⟩ := oq_ck H
  refine Wp.f_al0_gfr (pc := 50) o_X2_addBought rfl rfl rfl fk_C_26_1 (Wp.r_iload (pc := 54) o_X2_addBought rfl rfl (Wp.r_dup2 (pc := 56) o_X2_addBought rfl (Wp.r_iaload (pc := 57) o_X2_addBought rfl ak_C_41 (⟨hc7, ?_⟩))))
  refine Wp.r_iload (pc := 58) o_X2_addBought rfl rfl (Wp.r_iadd (pc := 60) o_X2_addBought rfl (Wp.r_iastore (pc := 61) o_X2_addBought rfl ak_C_41 (⟨hc7, ?_⟩)))
  revert H
  generalize pI s6 41 a4.toNatClampNeg ((s6.1 41 a4.toNatClampNeg) + x2) = s8
  intro H
  have H := nmx_e H
  exact Wp.r_aload_n0 (pc := 62) o_X2_addBought rfl rfl (Wp.r_dup_r (pc := 63) o_X2_addBought rfl (Wp.r_gfi (pc := 64) o_X2_addBought rfl fk_C_26_9 (Wp.r_iload (pc := 67) o_X2_addBought rfl rfl (Wp.r_iadd (pc := 69) o_X2_addBought rfl (Wp.r_pfi (pc := 70) o_X2_addBought rfl fk_C_26_9 (Wp.r_iload (pc := 73) o_X2_addBought rfl rfl (Wp.r_ireturn (pc := 75) o_X2_addBought rfl (⟨rfl, H⟩))))))))
noncomputable abbrev Y_X11_buy (d : Nat) (Q : Qt) : Xt := Wp SHC (WpM SHC MT (d + 2)) (flat2 cq_X11_buy) (some .int) Q
noncomputable def f_X11_buy (a1 : Int32) (a2 : Int32) (a3 : Int32) (s : Sg) : Option (Int32 × Sg) :=
  bd (f_X11_isGrocer a1 s) (fun r1 s2 =>
  if r1 = 0 then
    bd (f_X11_refuse 1 s2) (fun r3 s4 =>
    some (r3, s4)
    )
  else
    bd (f_X11_within a2 1 999 s2) (fun r5 s6 =>
    if r5 = 0 then
      bd (f_X11_refuse 1 s6) (fun r7 s8 =>
      some (r7, s8)
      )
    else
      bd (f_X11_isHouse a3 s6) (fun r9 s10 =>
      if r9 = 0 then
        bd (f_X11_refuse 1 s10) (fun r11 s12 =>
        some (r11, s12)
        )
      else
        bd (f_X2_hasRoom a3 a2 s10) (fun r13 s14 =>
        if r13 = 0 then
          bd (f_X11_refuse 4 s14) (fun r15 s16 =>
          some (r15, s16)
          )
        else
          ck (inr a1 4) (
          if a2 ≤ (s14.1 44 a1.toNatClampNeg) then
            bd (f_X4_isGone a3 s14) (fun r18 s19 =>
            if r18 = 0 then
              bd (f_X2_addBought_25 a1 a2 a3 s19) (fun r20 s21 =>
              bd (f_X11_answer r20 s21) (fun r22 s23 =>
              some (r22, s23)
              )
              )
            else
              bd (f_X11_refuse 7 s19) (fun r24 s25 =>
              some (r24, s25)
              )
            )
          else
            bd (f_X11_refuse 6 s14) (fun r26 s27 =>
            some (r26, s27)
            )
          )
        )
      )
    )
  )
set_option maxRecDepth 100000 in
theorem w_X11_buy {d : Nat} {s : Sg} {Q : Qt} (a1 : Int32) (a2 : Int32) (a3 : Int32) (H : OQ (f_X11_buy a1 a2 a3 s) (fun r9 s9 => Q (some (.int r9)) s9)) : WpM SHC MT (d + 3) 126 [.ref 0, .int a1, .int a2, .int a3] s Q := by
  refine WpM.enter me_X11_buy rfl rfl ?_
  show Y_X11_buy d Q 0 [(0, .ref 0), (1, .int a1), (2, .int a2), (3, .int a3)] [] s
  unfold f_X11_buy at H
  refine Wp.r_aload_n0 (pc := 0) o_X11_buy rfl rfl (Wp.r_iload_n1 (pc := 1) o_X11_buy rfl rfl (Wp.r_cv2 (pc := 2) o_X11_buy rfl fk_C_0_0 (⟨rm8_ rfl, ?_⟩)))
  refine w_X11_isGrocer (d := d) _ ?_
  refine oq_bd H (fun r1 s2 H => ?_)
  refine Wp.r_if_eq (pc := 5) o_X11_buy rfl (fun c9 => ?_) (fun c9 => ?_)
  · have H := oq_t c9 H
    refine Wp.f_al0_iconst (pc := 27) o_X11_buy rfl rfl rfl (Wp.r_cv2 (pc := 29) o_X11_buy rfl fk_C_0_0 (⟨rm8_ rfl, ?_⟩))
    refine w_X11_refuse (d := d + 1) _ ?_
    refine oq_bd H (fun r3 s4 H => ?_)
    exact Wp.r_ireturn (pc := 32) o_X11_buy rfl (⟨rfl, H⟩)
  · have H := oq_f c9 H
    refine Wp.r_iload_n2 (pc := 8) o_X11_buy rfl rfl (Wp.r_iconst (pc := 9) o_X11_buy rfl (Wp.r_sipush (pc := 10) o_X11_buy rfl (Wp.r_cs3 (pc := 13) o_X11_buy rfl (⟨rm8_ rfl, ?_⟩))))
    refine w_X11_within (d := d + 1) _ _ _ ?_
    refine oq_bd H (fun r5 s6 H => ?_)
    refine Wp.r_if_eq (pc := 16) o_X11_buy rfl (fun c9 => ?_) (fun c9 => ?_)
    · have H := oq_t c9 H
      refine Wp.f_al0_iconst (pc := 27) o_X11_buy rfl rfl rfl (Wp.r_cv2 (pc := 29) o_X11_buy rfl fk_C_0_0 (⟨rm8_ rfl, ?_⟩))
      refine w_X11_refuse (d := d + 1) _ ?_
      refine oq_bd H (fun r7 s8 H => ?_)
      exact Wp.r_ireturn (pc := 32) o_X11_buy rfl (⟨rfl, H⟩)
    · have H := oq_f c9 H
      refine Wp.r_aload_n0 (pc := 19) o_X11_buy rfl rfl (Wp.r_iload_n3 (pc := 20) o_X11_buy rfl rfl (Wp.r_cv2 (pc := 21) o_X11_buy rfl fk_C_0_0 (⟨rm8_ rfl, ?_⟩)))
      refine w_X11_isHouse (d := d) _ ?_
      refine oq_bd H (fun r9 s10 H => ?_)
      refine Wp.r_if_ne (pc := 24) o_X11_buy rfl (fun c9 => ?_) (fun c9 => ?_)
      · have H := oq_t c9 H
        refine Wp.f_al0_iconst (pc := 27) o_X11_buy rfl rfl rfl (Wp.r_cv2 (pc := 29) o_X11_buy rfl fk_C_0_0 (⟨rm8_ rfl, ?_⟩))
        refine w_X11_refuse (d := d + 1) _ ?_
        refine oq_bd H (fun r11 s12 H => ?_)
        exact Wp.r_ireturn (pc := 32) o_X11_buy rfl (⟨rfl, H⟩)
      · have H := oq_f c9 H
        refine Wp.f_al0_gfr (pc := 33) o_X11_buy rfl rfl rfl fk_C_0_6 (Wp.r_iload_n3 (pc := 37) o_X11_buy rfl rfl (Wp.r_iload_n2 (pc := 38) o_X11_buy rfl rfl (Wp.r_cv3 (pc := 39) o_X11_buy rfl fk_C_26_0 (⟨rm8_ rfl, ?_⟩))))
        refine w_X2_hasRoom (d := d) _ _ ?_
        refine oq_bd H (fun r13 s14 H => ?_)
        refine Wp.r_if_ne (pc := 42) o_X11_buy rfl (fun c9 => ?_) (fun c9 => ?_)
        · have H := oq_t c9 H
          refine Wp.f_al0_iconst (pc := 45) o_X11_buy rfl rfl rfl (Wp.r_cv2 (pc := 47) o_X11_buy rfl fk_C_0_0 (⟨rm8_ rfl, ?_⟩))
          refine w_X11_refuse (d := d + 1) _ ?_
          refine oq_bd H (fun r15 s16 H => ?_)
          exact Wp.r_ireturn (pc := 50) o_X11_buy rfl (⟨rfl, H⟩)
        · have H := oq_f c9 H
          obtain ⟨hc17, H⟩ := oq_ck H
          refine Wp.f_al0_gfr (pc := 51) o_X11_buy rfl rfl rfl fk_C_0_6 (Wp.r_gfr (pc := 55) o_X11_buy rfl fk_C_26_4 (Wp.r_iload_n1 (pc := 58) o_X11_buy rfl rfl (Wp.r_iaload (pc := 59) o_X11_buy rfl ak_C_44 (⟨hc17, ?_⟩))))
          refine Wp.r_iload_n2 (pc := 60) o_X11_buy rfl rfl (Wp.r_icmp_ge (pc := 61) o_X11_buy rfl (fun c9 => ?_) (fun c9 => ?_))
          · have H := oq_t c9 H
            refine Wp.f_al0_gfr (pc := 71) o_X11_buy rfl rfl rfl fk_C_0_5 (Wp.r_iload_n3 (pc := 75) o_X11_buy rfl rfl (Wp.r_cv2 (pc := 76) o_X11_buy rfl fk_C_25_0 (⟨rm8_ rfl, ?_⟩)))
            refine w_X4_isGone (d := d + 1) _ ?_
            refine oq_bd H (fun r18 s19 H => ?_)
            refine Wp.r_if_eq (pc := 79) o_X11_buy rfl (fun c9 => ?_) (fun c9 => ?_)
            · have H := oq_t c9 H
              refine Wp.r_aload_n0 (pc := 89) o_X11_buy rfl rfl (Wp.f_al0_gfr (pc := 90) o_X11_buy rfl rfl rfl fk_C_0_6 (Wp.f_al0_gfr (pc := 94) o_X11_buy rfl rfl rfl fk_C_0_5 (Wp.r_iload_n1 (pc := 98) o_X11_buy rfl rfl (Wp.r_iload_n2 (pc := 99) o_X11_buy rfl rfl (Wp.r_iload_n3 (pc := 100) o_X11_buy rfl rfl (Wp.r_cv5 (pc := 101) o_X11_buy rfl fk_C_26_0 (⟨rm8_ rfl, ?_⟩)))))))
              refine w_X2_addBought_25 (d := d) _ _ _ ?_
              refine oq_bd H (fun r20 s21 H => ?_)
              refine Wp.r_cv2 (pc := 104) o_X11_buy rfl fk_C_0_0 (⟨rm8_ rfl, ?_⟩)
              refine w_X11_answer (d := d + 1) _ ?_
              refine oq_bd H (fun r22 s23 H => ?_)
              exact Wp.r_ireturn (pc := 107) o_X11_buy rfl (⟨rfl, H⟩)
            · have H := oq_f c9 H
              refine Wp.r_aload_n0 (pc := 82) o_X11_buy rfl rfl (Wp.r_bipush (pc := 83) o_X11_buy rfl (Wp.r_cv2 (pc := 85) o_X11_buy rfl fk_C_0_0 (⟨rm8_ rfl, ?_⟩)))
              refine w_X11_refuse (d := d + 1) _ ?_
              refine oq_bd H (fun r24 s25 H => ?_)
              exact Wp.r_ireturn (pc := 88) o_X11_buy rfl (⟨rfl, H⟩)
          · have H := oq_f c9 H
            refine Wp.r_aload_n0 (pc := 64) o_X11_buy rfl rfl (Wp.r_bipush (pc := 65) o_X11_buy rfl (Wp.r_cv2 (pc := 67) o_X11_buy rfl fk_C_0_0 (⟨rm8_ rfl, ?_⟩)))
            refine w_X11_refuse (d := d + 1) _ ?_
            refine oq_bd H (fun r26 s27 H => ?_)
            exact Wp.r_ireturn (pc := 70) o_X11_buy rfl (⟨rfl, H⟩)
noncomputable abbrev Y_X2_clearStep (d : Nat) (Q : Qt) : Xt := Wp SHC (WpM SHC MT (d + 1)) (flat2 cq_X2_clearStep) (some .int) Q
noncomputable def f_X2_clearStep (a1 : Int32) (s : Sg) : Option (Int32 × Sg) :=
  bd (f_X2_lying a1 s) (fun r1 s2 =>
  ck (inr a1 8) (
  nmx (pI (pI s2 40 a1.toNatClampNeg 0) 41 a1.toNatClampNeg 0) (fun s4 =>
  nmx (pI s4 26 11 ((s4.1 26 11) + r1)) (fun s5 =>
  some (r1, s5)
  )
  )
  )
  )
set_option maxRecDepth 100000 in
theorem w_X2_clearStep {d : Nat} {s : Sg} {Q : Qt} (a1 : Int32) (H : OQ (f_X2_clearStep a1 s) (fun r9 s9 => Q (some (.int r9)) s9)) : WpM SHC MT (d + 2) 30 [.ref 26, .int a1] s Q := by
  refine WpM.enter me_X2_clearStep rfl rfl ?_
  show Y_X2_clearStep d Q 0 [(0, .ref 26), (1, .int a1)] [] s
  unfold f_X2_clearStep at H
  refine Wp.r_aload_n0 (pc := 0) o_X2_clearStep rfl rfl (Wp.r_iload_n1 (pc := 1) o_X2_clearStep rfl rfl (Wp.r_cv2 (pc := 2) o_X2_clearStep rfl fk_C_26_0 (⟨rm8_ rfl, ?_⟩)))
  refine w_X2_lying (d := d) _ ?_
  refine oq_bd H (fun r1 s2 H => ?_)
  obtain ⟨hc3, H⟩ := oq_ck H
  refine Wp.r_istore_n2 (pc := 5) o_X2_clearStep rfl (Wp.f_al0_gfr (pc := 6) o_X2_clearStep rfl rfl rfl fk_C_26_0 (Wp.r_iload_n1 (pc := 10) o_X2_clearStep rfl rfl (Wp.r_iconst (pc := 11) o_X2_clearStep rfl (Wp.r_iastore (pc := 12) o_X2_clearStep rfl ak_C_40 (⟨hc3, ?_⟩)))))
  refine Wp.f_al0_gfr (pc := 13) o_X2_clearStep rfl rfl rfl fk_C_26_1 (Wp.r_iload_n1 (pc := 17) o_X2_clearStep rfl rfl (Wp.r_iconst (pc := 18) o_X2_clearStep rfl (Wp.r_iastore (pc := 19) o_X2_clearStep rfl ak_C_41 (⟨hc3, ?_⟩))))
  revert H
  generalize pI (pI s2 40 a1.toNatClampNeg 0) 41 a1.toNatClampNeg 0 = s4
  intro H
  have H := nmx_e H
  refine Wp.r_aload_n0 (pc := 20) o_X2_clearStep rfl rfl (Wp.r_dup_r (pc := 21) o_X2_clearStep rfl (Wp.r_gfi (pc := 22) o_X2_clearStep rfl fk_C_26_11 (Wp.r_iload_n2 (pc := 25) o_X2_clearStep rfl rfl (Wp.r_iadd (pc := 26) o_X2_clearStep rfl (Wp.r_pfi (pc := 27) o_X2_clearStep rfl fk_C_26_11 (show Y_X2_clearStep d Q 30 [(2, .int r1), (0, .ref 26), (1, .int a1)] [] (pI s4 26 11 ((s4.1 26 11) + r1)) from ?_))))))
  revert H
  generalize pI s4 26 11 ((s4.1 26 11) + r1) = s5
  intro H
  have H := nmx_e H
  exact Wp.r_iload_n2 (pc := 30) o_X2_clearStep rfl rfl (Wp.r_ireturn (pc := 31) o_X2_clearStep rfl (⟨rfl, H⟩))
noncomputable abbrev Y_X11_sweep (d : Nat) (Q : Qt) : Xt := Wp SHC (WpM SHC MT (d + 3)) (flat2 cq_X11_sweep) (some .int) Q
noncomputable def f_X11_sweep (a1 : Int32) (s : Sg) : Option (Int32 × Sg) :=
  bd (f_X11_whyNoStep a1 1 s) (fun r1 s2 =>
  if r1 = 0 then
    bd (f_X2_clearStep a1 s2) (fun r3 s4 =>
    bd (f_X11_answer r3 s4) (fun r5 s6 =>
    some (r5, s6)
    )
    )
  else
    bd (f_X11_refuse r1 s2) (fun r7 s8 =>
    some (r7, s8)
    )
  )
set_option maxRecDepth 100000 in
theorem w_X11_sweep {d : Nat} {s : Sg} {Q : Qt} (a1 : Int32) (H : OQ (f_X11_sweep a1 s) (fun r9 s9 => Q (some (.int r9)) s9)) : WpM SHC MT (d + 4) 127 [.ref 0, .int a1] s Q := by
  refine WpM.enter me_X11_sweep rfl rfl ?_
  show Y_X11_sweep d Q 0 [(0, .ref 0), (1, .int a1)] [] s
  unfold f_X11_sweep at H
  refine Wp.r_aload_n0 (pc := 0) o_X11_sweep rfl rfl (Wp.r_iload_n1 (pc := 1) o_X11_sweep rfl rfl (Wp.r_iconst (pc := 2) o_X11_sweep rfl (Wp.r_cv3 (pc := 3) o_X11_sweep rfl fk_C_0_0 (⟨rm8_ rfl, ?_⟩))))
  refine w_X11_whyNoStep (d := d) _ _ ?_
  refine oq_bd H (fun r1 s2 H => ?_)
  refine Wp.r_istore_n2 (pc := 6) o_X11_sweep rfl (Wp.r_iload_n2 (pc := 7) o_X11_sweep rfl rfl (Wp.r_if_eq (pc := 8) o_X11_sweep rfl (fun c9 => ?_) (fun c9 => ?_)))
  · have H := oq_t c9 H
    refine Wp.r_aload_n0 (pc := 17) o_X11_sweep rfl rfl (Wp.f_al0_gfr (pc := 18) o_X11_sweep rfl rfl rfl fk_C_0_6 (Wp.r_iload_n1 (pc := 22) o_X11_sweep rfl rfl (Wp.r_cv2 (pc := 23) o_X11_sweep rfl fk_C_26_0 (⟨rm8_ rfl, ?_⟩))))
    refine w_X2_clearStep (d := d + 1) _ ?_
    refine oq_bd H (fun r3 s4 H => ?_)
    refine Wp.r_cv2 (pc := 26) o_X11_sweep rfl fk_C_0_0 (⟨rm8_ rfl, ?_⟩)
    refine w_X11_answer (d := d + 2) _ ?_
    refine oq_bd H (fun r5 s6 H => ?_)
    exact Wp.r_ireturn (pc := 29) o_X11_sweep rfl (⟨rfl, H⟩)
  · have H := oq_f c9 H
    refine Wp.r_aload_n0 (pc := 11) o_X11_sweep rfl rfl (Wp.r_iload_n2 (pc := 12) o_X11_sweep rfl rfl (Wp.r_cv2 (pc := 13) o_X11_sweep rfl fk_C_0_0 (⟨rm8_ rfl, ?_⟩)))
    refine w_X11_refuse (d := d + 2) _ ?_
    refine oq_bd H (fun r7 s8 H => ?_)
    exact Wp.r_ireturn (pc := 16) o_X11_sweep rfl (⟨rfl, H⟩)
noncomputable abbrev Y_X2_carry (d : Nat) (Q : Qt) : Xt := Wp SHC (WpM SHC MT (d + 0)) (flat2 cq_X2_carry) (some .int) Q
noncomputable def f_X2_carry (a1 : Int32) (a2 : Int32) (a3 : Int32) (s : Sg) : Option (Int32 × Sg) :=
  ck (inr a1 8) (
  nmx (if (s.1 40 a1.toNatClampNeg) < a3 then (s.1 40 a1.toNatClampNeg) else a3 : Int32) (fun x2 =>
  nmx (if (s.1 41 a1.toNatClampNeg) < (a3 - x2) then (s.1 41 a1.toNatClampNeg) else (a3 - x2) : Int32) (fun x3 =>
  nmx (pI s 40 a1.toNatClampNeg ((s.1 40 a1.toNatClampNeg) - x2)) (fun s4 =>
  nmx (pI s4 41 a1.toNatClampNeg ((s4.1 41 a1.toNatClampNeg) - x3)) (fun s5 =>
  ck (inr a2 8) (
  nmx (pI s5 40 a2.toNatClampNeg ((s5.1 40 a2.toNatClampNeg) + x2)) (fun s7 =>
  nmx (pI s7 41 a2.toNatClampNeg ((s7.1 41 a2.toNatClampNeg) + x3)) (fun s8 =>
  some (x2, s8)
  )
  )
  )
  )
  )
  )
  )
  )
set_option maxRecDepth 100000 in
theorem w_X2_carry {d : Nat} {s : Sg} {Q : Qt} (a1 : Int32) (a2 : Int32) (a3 : Int32) (H : OQ (f_X2_carry a1 a2 a3 s) (fun r9 s9 => Q (some (.int r9)) s9)) : WpM SHC MT (d + 1) 31 [.ref 26, .int a1, .int a2, .int a3] s Q := by
  refine WpM.enter me_X2_carry rfl rfl ?_
  show Y_X2_carry d Q 0 [(0, .ref 26), (1, .int a1), (2, .int a2), (3, .int a3)] [] s
  unfold f_X2_carry at H
  obtain ⟨hc1, H⟩ := oq_ck H
  refine Wp.r_iload_n3 (pc := 0) o_X2_carry rfl rfl (Wp.f_al0_gfr (pc := 1) o_X2_carry rfl rfl rfl fk_C_26_0 (Wp.r_iload_n1 (pc := 5) o_X2_carry rfl rfl (Wp.r_iaload (pc := 6) o_X2_carry rfl ak_C_40 (⟨hc1, ?_⟩))))
  refine Wp.r_min (pc := 7) o_X2_carry rfl (⟨rm8_ rfl, ?_⟩)
  refine Wp.r_istore (pc := 10) o_X2_carry rfl (show Y_X2_carry d Q 12 [(4, .int (if (s.1 40 a1.toNatClampNeg) < a3 then (s.1 40 a1.toNatClampNeg) else a3)), (0, .ref 26), (1, .int a1), (2, .int a2), (3, .int a3)] [] s from ?_)
  revert H
  generalize (if (s.1 40 a1.toNatClampNeg) < a3 then (s.1 40 a1.toNatClampNeg) else a3 : Int32) = x2
  intro H
  have H := nmx_e H
  refine Wp.r_iload_n3 (pc := 12) o_X2_carry rfl rfl (Wp.r_iload (pc := 13) o_X2_carry rfl rfl (Wp.r_isub (pc := 15) o_X2_carry rfl (Wp.f_al0_gfr (pc := 16) o_X2_carry rfl rfl rfl fk_C_26_1 (Wp.r_iload_n1 (pc := 20) o_X2_carry rfl rfl (Wp.r_iaload (pc := 21) o_X2_carry rfl ak_C_41 (⟨hc1, ?_⟩))))))
  refine Wp.r_min (pc := 22) o_X2_carry rfl (⟨rm8_ rfl, ?_⟩)
  refine Wp.r_istore (pc := 25) o_X2_carry rfl (show Y_X2_carry d Q 27 [(5, .int (if (s.1 41 a1.toNatClampNeg) < (a3 - x2) then (s.1 41 a1.toNatClampNeg) else (a3 - x2))), (4, .int x2), (0, .ref 26), (1, .int a1), (2, .int a2), (3, .int a3)] [] s from ?_)
  revert H
  generalize (if (s.1 41 a1.toNatClampNeg) < (a3 - x2) then (s.1 41 a1.toNatClampNeg) else (a3 - x2) : Int32) = x3
  intro H
  have H := nmx_e H
  refine Wp.f_al0_gfr (pc := 27) o_X2_carry rfl rfl rfl fk_C_26_0 (Wp.r_iload_n1 (pc := 31) o_X2_carry rfl rfl (Wp.r_dup2 (pc := 32) o_X2_carry rfl (Wp.r_iaload (pc := 33) o_X2_carry rfl ak_C_40 (⟨hc1, ?_⟩))))
  refine Wp.r_iload (pc := 34) o_X2_carry rfl rfl (Wp.r_isub (pc := 36) o_X2_carry rfl (Wp.r_iastore (pc := 37) o_X2_carry rfl ak_C_40 (⟨hc1, ?_⟩)))
  revert H
  generalize pI s 40 a1.toNatClampNeg ((s.1 40 a1.toNatClampNeg) - x2) = s4
  intro H
  have H := nmx_e H
  refine Wp.f_al0_gfr (pc := 38) o_X2_carry rfl rfl rfl fk_C_26_1 (Wp.r_iload_n1 (pc := 42) o_X2_carry rfl rfl (Wp.r_dup2 (pc := 43) o_X2_carry rfl (Wp.r_iaload (pc := 44) o_X2_carry rfl ak_C_41 (⟨hc1, ?_⟩))))
  refine Wp.r_iload (pc := 45) o_X2_carry rfl rfl (Wp.r_isub (pc := 47) o_X2_carry rfl (Wp.r_iastore (pc := 48) o_X2_carry rfl ak_C_41 (⟨hc1, ?_⟩)))
  revert H
  generalize pI s4 41 a1.toNatClampNeg ((s4.1 41 a1.toNatClampNeg) - x3) = s5
  intro H
  have H := nmx_e H
  obtain ⟨hc6, H⟩ := oq_ck H
  refine Wp.f_al0_gfr (pc := 49) o_X2_carry rfl rfl rfl fk_C_26_0 (Wp.r_iload_n2 (pc := 53) o_X2_carry rfl rfl (Wp.r_dup2 (pc := 54) o_X2_carry rfl (Wp.r_iaload (pc := 55) o_X2_carry rfl ak_C_40 (⟨hc6, ?_⟩))))
  refine Wp.r_iload (pc := 56) o_X2_carry rfl rfl (Wp.r_iadd (pc := 58) o_X2_carry rfl (Wp.r_iastore (pc := 59) o_X2_carry rfl ak_C_40 (⟨hc6, ?_⟩)))
  revert H
  generalize pI s5 40 a2.toNatClampNeg ((s5.1 40 a2.toNatClampNeg) + x2) = s7
  intro H
  have H := nmx_e H
  refine Wp.f_al0_gfr (pc := 60) o_X2_carry rfl rfl rfl fk_C_26_1 (Wp.r_iload_n2 (pc := 64) o_X2_carry rfl rfl (Wp.r_dup2 (pc := 65) o_X2_carry rfl (Wp.r_iaload (pc := 66) o_X2_carry rfl ak_C_41 (⟨hc6, ?_⟩))))
  refine Wp.r_iload (pc := 67) o_X2_carry rfl rfl (Wp.r_iadd (pc := 69) o_X2_carry rfl (Wp.r_iastore (pc := 70) o_X2_carry rfl ak_C_41 (⟨hc6, ?_⟩)))
  revert H
  generalize pI s7 41 a2.toNatClampNeg ((s7.1 41 a2.toNatClampNeg) + x3) = s8
  intro H
  have H := nmx_e H
  exact Wp.r_iload (pc := 71) o_X2_carry rfl rfl (Wp.r_ireturn (pc := 73) o_X2_carry rfl (⟨rfl, H⟩))
noncomputable abbrev Y_X11_shovel (d : Nat) (Q : Qt) : Xt := Wp SHC (WpM SHC MT (d + 2)) (flat2 cq_X11_shovel) (some .int) Q
noncomputable def f_X11_shovel (a1 : Int32) (a2 : Int32) (a3 : Int32) (s : Sg) : Option (Int32 × Sg) :=
  bd (f_X11_isHouse a1 s) (fun r1 s2 =>
  if r1 = 0 then
    bd (f_X11_refuse 1 s2) (fun r3 s4 =>
    some (r3, s4)
    )
  else
    bd (f_X11_isHouse a2 s2) (fun r5 s6 =>
    if r5 = 0 then
      bd (f_X11_refuse 1 s6) (fun r7 s8 =>
      some (r7, s8)
      )
    else
      if a1 = a2 then
        bd (f_X11_refuse 1 s6) (fun r9 s10 =>
        some (r9, s10)
        )
      else
        bd (f_X11_within a3 1 999 s6) (fun r11 s12 =>
        if r11 = 0 then
          bd (f_X11_refuse 1 s12) (fun r13 s14 =>
          some (r13, s14)
          )
        else
          bd (f_X2_lying a1 s12) (fun r15 s16 =>
          if a3 ≤ r15 then
            bd (f_X4_isGone a1 s16) (fun r17 s18 =>
            if r17 = 0 then
              bd (f_X4_isGone a2 s18) (fun r19 s20 =>
              if r19 = 0 then
                bd (f_X2_carry a1 a2 a3 s20) (fun r21 s22 =>
                bd (f_X11_answer r21 s22) (fun r23 s24 =>
                some (r23, s24)
                )
                )
              else
                bd (f_X11_refuse 7 s20) (fun r25 s26 =>
                some (r25, s26)
                )
              )
            else
              bd (f_X11_refuse 7 s18) (fun r27 s28 =>
              some (r27, s28)
              )
            )
          else
            bd (f_X11_refuse 6 s16) (fun r29 s30 =>
            some (r29, s30)
            )
          )
        )
    )
  )
set_option maxRecDepth 100000 in
theorem w_X11_shovel {d : Nat} {s : Sg} {Q : Qt} (a1 : Int32) (a2 : Int32) (a3 : Int32) (H : OQ (f_X11_shovel a1 a2 a3 s) (fun r9 s9 => Q (some (.int r9)) s9)) : WpM SHC MT (d + 3) 128 [.ref 0, .int a1, .int a2, .int a3] s Q := by
  refine WpM.enter me_X11_shovel rfl rfl ?_
  show Y_X11_shovel d Q 0 [(0, .ref 0), (1, .int a1), (2, .int a2), (3, .int a3)] [] s
  unfold f_X11_shovel at H
  refine Wp.r_aload_n0 (pc := 0) o_X11_shovel rfl rfl (Wp.r_iload_n1 (pc := 1) o_X11_shovel rfl rfl (Wp.r_cv2 (pc := 2) o_X11_shovel rfl fk_C_0_0 (⟨rm8_ rfl, ?_⟩)))
  refine w_X11_isHouse (d := d) _ ?_
  refine oq_bd H (fun r1 s2 H => ?_)
  refine Wp.r_if_eq (pc := 5) o_X11_shovel rfl (fun c9 => ?_) (fun c9 => ?_)
  · have H := oq_t c9 H
    refine Wp.f_al0_iconst (pc := 32) o_X11_shovel rfl rfl rfl (Wp.r_cv2 (pc := 34) o_X11_shovel rfl fk_C_0_0 (⟨rm8_ rfl, ?_⟩))
    refine w_X11_refuse (d := d + 1) _ ?_
    refine oq_bd H (fun r3 s4 H => ?_)
    exact Wp.r_ireturn (pc := 37) o_X11_shovel rfl (⟨rfl, H⟩)
  · have H := oq_f c9 H
    refine Wp.r_aload_n0 (pc := 8) o_X11_shovel rfl rfl (Wp.r_iload_n2 (pc := 9) o_X11_shovel rfl rfl (Wp.r_cv2 (pc := 10) o_X11_shovel rfl fk_C_0_0 (⟨rm8_ rfl, ?_⟩)))
    refine w_X11_isHouse (d := d) _ ?_
    refine oq_bd H (fun r5 s6 H => ?_)
    refine Wp.r_if_eq (pc := 13) o_X11_shovel rfl (fun c9 => ?_) (fun c9 => ?_)
    · have H := oq_t c9 H
      refine Wp.f_al0_iconst (pc := 32) o_X11_shovel rfl rfl rfl (Wp.r_cv2 (pc := 34) o_X11_shovel rfl fk_C_0_0 (⟨rm8_ rfl, ?_⟩))
      refine w_X11_refuse (d := d + 1) _ ?_
      refine oq_bd H (fun r7 s8 H => ?_)
      exact Wp.r_ireturn (pc := 37) o_X11_shovel rfl (⟨rfl, H⟩)
    · have H := oq_f c9 H
      refine Wp.r_iload_n1 (pc := 16) o_X11_shovel rfl rfl (Wp.r_iload_n2 (pc := 17) o_X11_shovel rfl rfl (Wp.r_icmp_eq (pc := 18) o_X11_shovel rfl (fun c9 => ?_) (fun c9 => ?_)))
      · have H := oq_t c9 H
        refine Wp.f_al0_iconst (pc := 32) o_X11_shovel rfl rfl rfl (Wp.r_cv2 (pc := 34) o_X11_shovel rfl fk_C_0_0 (⟨rm8_ rfl, ?_⟩))
        refine w_X11_refuse (d := d + 1) _ ?_
        refine oq_bd H (fun r9 s10 H => ?_)
        exact Wp.r_ireturn (pc := 37) o_X11_shovel rfl (⟨rfl, H⟩)
      · have H := oq_f c9 H
        refine Wp.r_iload_n3 (pc := 21) o_X11_shovel rfl rfl (Wp.r_iconst (pc := 22) o_X11_shovel rfl (Wp.r_sipush (pc := 23) o_X11_shovel rfl (Wp.r_cs3 (pc := 26) o_X11_shovel rfl (⟨rm8_ rfl, ?_⟩))))
        refine w_X11_within (d := d + 1) _ _ _ ?_
        refine oq_bd H (fun r11 s12 H => ?_)
        refine Wp.r_if_ne (pc := 29) o_X11_shovel rfl (fun c9 => ?_) (fun c9 => ?_)
        · have H := oq_t c9 H
          refine Wp.f_al0_iconst (pc := 32) o_X11_shovel rfl rfl rfl (Wp.r_cv2 (pc := 34) o_X11_shovel rfl fk_C_0_0 (⟨rm8_ rfl, ?_⟩))
          refine w_X11_refuse (d := d + 1) _ ?_
          refine oq_bd H (fun r13 s14 H => ?_)
          exact Wp.r_ireturn (pc := 37) o_X11_shovel rfl (⟨rfl, H⟩)
        · have H := oq_f c9 H
          refine Wp.f_al0_gfr (pc := 38) o_X11_shovel rfl rfl rfl fk_C_0_6 (Wp.r_iload_n1 (pc := 42) o_X11_shovel rfl rfl (Wp.r_cv2 (pc := 43) o_X11_shovel rfl fk_C_26_0 (⟨rm8_ rfl, ?_⟩)))
          refine w_X2_lying (d := d + 1) _ ?_
          refine oq_bd H (fun r15 s16 H => ?_)
          refine Wp.r_iload_n3 (pc := 46) o_X11_shovel rfl rfl (Wp.r_icmp_ge (pc := 47) o_X11_shovel rfl (fun c9 => ?_) (fun c9 => ?_))
          · have H := oq_t c9 H
            refine Wp.f_al0_gfr (pc := 57) o_X11_shovel rfl rfl rfl fk_C_0_5 (Wp.r_iload_n1 (pc := 61) o_X11_shovel rfl rfl (Wp.r_cv2 (pc := 62) o_X11_shovel rfl fk_C_25_0 (⟨rm8_ rfl, ?_⟩)))
            refine w_X4_isGone (d := d + 1) _ ?_
            refine oq_bd H (fun r17 s18 H => ?_)
            refine Wp.r_if_ne (pc := 65) o_X11_shovel rfl (fun c9 => ?_) (fun c9 => ?_)
            · have H := oq_t c9 H
              refine Wp.f_al0_gfr (pc := 68) o_X11_shovel rfl rfl rfl fk_C_0_5 (Wp.r_iload_n2 (pc := 72) o_X11_shovel rfl rfl (Wp.r_cv2 (pc := 73) o_X11_shovel rfl fk_C_25_0 (⟨rm8_ rfl, ?_⟩)))
              refine w_X4_isGone (d := d + 1) _ ?_
              refine oq_bd H (fun r19 s20 H => ?_)
              refine Wp.r_if_eq (pc := 76) o_X11_shovel rfl (fun c9 => ?_) (fun c9 => ?_)
              · have H := oq_t c9 H
                refine Wp.r_aload_n0 (pc := 86) o_X11_shovel rfl rfl (Wp.f_al0_gfr (pc := 87) o_X11_shovel rfl rfl rfl fk_C_0_6 (Wp.r_iload_n1 (pc := 91) o_X11_shovel rfl rfl (Wp.r_iload_n2 (pc := 92) o_X11_shovel rfl rfl (Wp.r_iload_n3 (pc := 93) o_X11_shovel rfl rfl (Wp.r_cv4 (pc := 94) o_X11_shovel rfl fk_C_26_0 (⟨rm8_ rfl, ?_⟩))))))
                refine w_X2_carry (d := d + 1) _ _ _ ?_
                refine oq_bd H (fun r21 s22 H => ?_)
                refine Wp.r_cv2 (pc := 97) o_X11_shovel rfl fk_C_0_0 (⟨rm8_ rfl, ?_⟩)
                refine w_X11_answer (d := d + 1) _ ?_
                refine oq_bd H (fun r23 s24 H => ?_)
                exact Wp.r_ireturn (pc := 100) o_X11_shovel rfl (⟨rfl, H⟩)
              · have H := oq_f c9 H
                refine Wp.r_aload_n0 (pc := 79) o_X11_shovel rfl rfl (Wp.r_bipush (pc := 80) o_X11_shovel rfl (Wp.r_cv2 (pc := 82) o_X11_shovel rfl fk_C_0_0 (⟨rm8_ rfl, ?_⟩)))
                refine w_X11_refuse (d := d + 1) _ ?_
                refine oq_bd H (fun r25 s26 H => ?_)
                exact Wp.r_ireturn (pc := 85) o_X11_shovel rfl (⟨rfl, H⟩)
            · have H := oq_f c9 H
              refine Wp.r_aload_n0 (pc := 79) o_X11_shovel rfl rfl (Wp.r_bipush (pc := 80) o_X11_shovel rfl (Wp.r_cv2 (pc := 82) o_X11_shovel rfl fk_C_0_0 (⟨rm8_ rfl, ?_⟩)))
              refine w_X11_refuse (d := d + 1) _ ?_
              refine oq_bd H (fun r27 s28 H => ?_)
              exact Wp.r_ireturn (pc := 85) o_X11_shovel rfl (⟨rfl, H⟩)
          · have H := oq_f c9 H
            refine Wp.r_aload_n0 (pc := 50) o_X11_shovel rfl rfl (Wp.r_bipush (pc := 51) o_X11_shovel rfl (Wp.r_cv2 (pc := 53) o_X11_shovel rfl fk_C_0_0 (⟨rm8_ rfl, ?_⟩)))
            refine w_X11_refuse (d := d + 1) _ ?_
            refine oq_bd H (fun r29 s30 H => ?_)
            exact Wp.r_ireturn (pc := 56) o_X11_shovel rfl (⟨rfl, H⟩)
noncomputable abbrev Y_X2_letRain_25 (d : Nat) (Q : Qt) : Xt := Wp SHC (WpM SHC MT (d + 0)) (flat2 cq_X2_letRain) (some .int) Q
noncomputable def f_X2_letRain_25_b4 : Nat → Int32 → Int32 → Sg → Option (Int32 × Sg)
  | 0, _, _, _ => none
  | n + 1, v2, v3, s =>
    if (s.1 25 13) ≤ v3 then
      some (v2, pI (pI s 26 10 ((s.1 26 10) + v2)) 26 7 1)
    else
      ck (inr v3 8) (
      nmx (if (s.1 40 v3.toNatClampNeg) < (s.1 25 18) then (s.1 40 v3.toNatClampNeg) else (s.1 25 18) : Int32) (fun x2 =>
      nmx (v2 + ((s.1 41 v3.toNatClampNeg) + x2) : Int32) (fun x3 =>
      nmx (pI (pI s 41 v3.toNatClampNeg 0) 40 v3.toNatClampNeg (((pI s 41 v3.toNatClampNeg 0).1 40 v3.toNatClampNeg) - x2)) (fun s4 =>
      (f_X2_letRain_25_b4 n) x3 (v3 + 1) s4
      )
      )
      )
      )
set_option maxRecDepth 100000 in
theorem w_X2_letRain_25_b4 {d : Nat} {Q : Qt} (n : Nat) : ∀ (v2 : Int32) (v3 : Int32) (s : Sg), OQ (f_X2_letRain_25_b4 n v2 v3 s) (fun r9 s9 => Q (some (.int r9)) s9) → Y_X2_letRain_25 d Q 4 [(0, .ref 26), (1, .ref 25), (2, .int v2), (3, .int v3)] [] s := by
  induction n with
  | zero => intro v2 v3 s H; exact H.elim
  | succ n ih =>
    intro v2 v3 s H
    unfold f_X2_letRain_25_b4 at H
    refine Wp.r_iload_n3 (pc := 4) o_X2_letRain rfl rfl (Wp.f_al1_gfi (pc := 5) o_X2_letRain rfl rfl rfl fk_C_25_13 (Wp.r_icmp_ge (pc := 9) o_X2_letRain rfl (fun c9 => ?_) (fun c9 => ?_)))
    · have H := oq_t c9 H
      refine Wp.r_aload_n0 (pc := 63) o_X2_letRain rfl rfl (Wp.r_dup_r (pc := 64) o_X2_letRain rfl (Wp.r_gfi (pc := 65) o_X2_letRain rfl fk_C_26_10 (Wp.r_iload_n2 (pc := 68) o_X2_letRain rfl rfl (Wp.r_iadd (pc := 69) o_X2_letRain rfl (Wp.r_pfi (pc := 70) o_X2_letRain rfl fk_C_26_10 (Wp.f_al0_iconst (pc := 73) o_X2_letRain rfl rfl rfl (Wp.r_pfz (pc := 75) o_X2_letRain rfl fk_C_26_7 (show ((1 : Int32) = 0 ∨ 1 = 1) ∧ Y_X2_letRain_25 d Q 78 [(0, .ref 26), (1, .ref 25), (2, .int v2), (3, .int v3)] [] (pI (pI s 26 10 ((s.1 26 10) + v2)) 26 7 1) from ⟨Or.inr rfl, ?_⟩))))))))
      exact Wp.r_iload_n2 (pc := 78) o_X2_letRain rfl rfl (Wp.r_ireturn (pc := 79) o_X2_letRain rfl (⟨rfl, H⟩))
    · have H := oq_f c9 H
      obtain ⟨hc1, H⟩ := oq_ck H
      refine Wp.f_al1_gfi (pc := 12) o_X2_letRain rfl rfl rfl fk_C_25_18 (Wp.f_al0_gfr (pc := 16) o_X2_letRain rfl rfl rfl fk_C_26_0 (Wp.r_iload_n3 (pc := 20) o_X2_letRain rfl rfl (Wp.r_iaload (pc := 21) o_X2_letRain rfl ak_C_40 (⟨hc1, ?_⟩))))
      refine Wp.r_min (pc := 22) o_X2_letRain rfl (⟨rm8_ rfl, ?_⟩)
      refine Wp.r_istore (pc := 25) o_X2_letRain rfl (show Y_X2_letRain_25 d Q 27 [(4, .int (if (s.1 40 v3.toNatClampNeg) < (s.1 25 18) then (s.1 40 v3.toNatClampNeg) else (s.1 25 18))), (0, .ref 26), (1, .ref 25), (2, .int v2), (3, .int v3)] [] s from ?_)
      revert H
      generalize (if (s.1 40 v3.toNatClampNeg) < (s.1 25 18) then (s.1 40 v3.toNatClampNeg) else (s.1 25 18) : Int32) = x2
      intro H
      have H := nmx_e H
      refine Wp.r_iload_n2 (pc := 27) o_X2_letRain rfl rfl (Wp.f_al0_gfr (pc := 28) o_X2_letRain rfl rfl rfl fk_C_26_1 (Wp.r_iload_n3 (pc := 32) o_X2_letRain rfl rfl (Wp.r_iaload (pc := 33) o_X2_letRain rfl ak_C_41 (⟨hc1, ?_⟩))))
      refine Wp.r_iload (pc := 34) o_X2_letRain rfl rfl (Wp.r_iadd (pc := 36) o_X2_letRain rfl (Wp.r_iadd (pc := 37) o_X2_letRain rfl (Wp.r_istore_n2 (pc := 38) o_X2_letRain rfl (show Y_X2_letRain_25 d Q 39 [(2, .int (v2 + ((s.1 41 v3.toNatClampNeg) + x2))), (4, .int x2), (0, .ref 26), (1, .ref 25), (3, .int v3)] [] s from ?_))))
      revert H
      generalize (v2 + ((s.1 41 v3.toNatClampNeg) + x2) : Int32) = x3
      intro H
      have H := nmx_e H
      refine Wp.f_al0_gfr (pc := 39) o_X2_letRain rfl rfl rfl fk_C_26_1 (Wp.r_iload_n3 (pc := 43) o_X2_letRain rfl rfl (Wp.r_iconst (pc := 44) o_X2_letRain rfl (Wp.r_iastore (pc := 45) o_X2_letRain rfl ak_C_41 (⟨hc1, ?_⟩))))
      refine Wp.f_al0_gfr (pc := 46) o_X2_letRain rfl rfl rfl fk_C_26_0 (Wp.r_iload_n3 (pc := 50) o_X2_letRain rfl rfl (Wp.r_dup2 (pc := 51) o_X2_letRain rfl (Wp.r_iaload (pc := 52) o_X2_letRain rfl ak_C_40 (⟨hc1, ?_⟩))))
      refine Wp.r_iload (pc := 53) o_X2_letRain rfl rfl (Wp.r_isub (pc := 55) o_X2_letRain rfl (Wp.r_iastore (pc := 56) o_X2_letRain rfl ak_C_40 (⟨hc1, ?_⟩)))
      revert H
      generalize pI (pI s 41 v3.toNatClampNeg 0) 40 v3.toNatClampNeg (((pI s 41 v3.toNatClampNeg 0).1 40 v3.toNatClampNeg) - x2) = s4
      intro H
      have H := nmx_e H
      exact Wp.f_iinc_goto (pc := 57) o_X2_letRain rfl rfl rfl (Wp.weak2 [3, 4, 1, 0] (ih _ _ _ H) rfl)
noncomputable def f_X2_letRain_25  (s : Sg) : Option (Int32 × Sg) :=
  f_X2_letRain_25_b4 BIG 0 0 s
set_option maxRecDepth 100000 in
theorem w_X2_letRain_25 {d : Nat} {s : Sg} {Q : Qt}  (H : OQ (f_X2_letRain_25  s) (fun r9 s9 => Q (some (.int r9)) s9)) : WpM SHC MT (d + 1) 32 [.ref 26, .ref 25] s Q := by
  refine WpM.enter me_X2_letRain rfl rfl ?_
  show Y_X2_letRain_25 d Q 0 [(0, .ref 26), (1, .ref 25)] [] s
  unfold f_X2_letRain_25 at H
  exact Wp.r_iconst (pc := 0) o_X2_letRain rfl (Wp.r_istore_n2 (pc := 1) o_X2_letRain rfl (Wp.r_iconst (pc := 2) o_X2_letRain rfl (Wp.r_istore_n3 (pc := 3) o_X2_letRain rfl (Wp.weak2 [2, 3, 1, 0] (w_X2_letRain_25_b4 _ _ _ _ H) rfl))))
noncomputable abbrev Y_X11_rain (d : Nat) (Q : Qt) : Xt := Wp SHC (WpM SHC MT (d + 1)) (flat2 cq_X11_rain) (some .int) Q
noncomputable def f_X11_rain  (s : Sg) : Option (Int32 × Sg) :=
  bd (f_X2_letRain_25 s) (fun r1 s2 =>
  bd (f_X11_answer r1 s2) (fun r3 s4 =>
  some (r3, s4)
  )
  )
set_option maxRecDepth 100000 in
theorem w_X11_rain {d : Nat} {s : Sg} {Q : Qt}  (H : OQ (f_X11_rain  s) (fun r9 s9 => Q (some (.int r9)) s9)) : WpM SHC MT (d + 2) 129 [.ref 0] s Q := by
  refine WpM.enter me_X11_rain rfl rfl ?_
  show Y_X11_rain d Q 0 [(0, .ref 0)] [] s
  unfold f_X11_rain at H
  refine Wp.r_aload_n0 (pc := 0) o_X11_rain rfl rfl (Wp.f_al0_gfr (pc := 1) o_X11_rain rfl rfl rfl fk_C_0_6 (Wp.f_al0_gfr (pc := 5) o_X11_rain rfl rfl rfl fk_C_0_5 (Wp.r_cv2 (pc := 9) o_X11_rain rfl fk_C_26_0 (⟨rm8_ rfl, ?_⟩))))
  refine w_X2_letRain_25 (d := d)  ?_
  refine oq_bd H (fun r1 s2 H => ?_)
  refine Wp.r_cv2 (pc := 12) o_X11_rain rfl fk_C_0_0 (⟨rm8_ rfl, ?_⟩)
  refine w_X11_answer (d := d) _ ?_
  refine oq_bd H (fun r3 s4 H => ?_)
  exact Wp.r_ireturn (pc := 15) o_X11_rain rfl (⟨rfl, H⟩)
noncomputable abbrev Y_X2_letSnow_25 (d : Nat) (Q : Qt) : Xt := Wp SHC (WpM SHC MT (d + 1)) (flat2 cq_X2_letSnow) (none) Q
noncomputable def f_X2_letSnow_25_b2 : Nat → Int32 → Int32 → Sg → Option (Unit × Sg)
  | 0, _, _, _ => none
  | n + 1, v2, v3, s =>
    if (s.1 25 13) ≤ v3 then
      some ((), s)
    else
      bd (f_X4_isGone v3 s) (fun r1 s2 =>
      if r1 = 0 then
        ck (inr v3 8) (
        nmx (pI s2 42 v3.toNatClampNeg (if ((s2.1 42 v3.toNatClampNeg) + v2) < 99 then ((s2.1 42 v3.toNatClampNeg) + v2) else 99)) (fun s4 =>
        (f_X2_letSnow_25_b2 n) v2 (v3 + 1) s4
        )
        )
      else
        (f_X2_letSnow_25_b2 n) v2 (v3 + 1) s2
      )
set_option maxRecDepth 100000 in
theorem w_X2_letSnow_25_b2 {d : Nat} {Q : Qt} (n : Nat) : ∀ (v2 : Int32) (v3 : Int32) (s : Sg), OQ (f_X2_letSnow_25_b2 n v2 v3 s) (fun _ s9 => Q none s9) → Y_X2_letSnow_25 d Q 2 [(0, .ref 26), (1, .ref 25), (2, .int v2), (3, .int v3)] [] s := by
  induction n with
  | zero => intro v2 v3 s H; exact H.elim
  | succ n ih =>
    intro v2 v3 s H
    unfold f_X2_letSnow_25_b2 at H
    refine Wp.r_iload_n3 (pc := 2) o_X2_letSnow rfl rfl (Wp.f_al1_gfi (pc := 3) o_X2_letSnow rfl rfl rfl fk_C_25_13 (Wp.r_icmp_ge (pc := 7) o_X2_letSnow rfl (fun c9 => ?_) (fun c9 => ?_)))
    · have H := oq_t c9 H
      exact Wp.r_return (pc := 43) o_X2_letSnow rfl (H)
    · have H := oq_f c9 H
      refine Wp.r_aload_n1 (pc := 10) o_X2_letSnow rfl rfl (Wp.r_iload_n3 (pc := 11) o_X2_letSnow rfl rfl (Wp.r_cv2 (pc := 12) o_X2_letSnow rfl fk_C_25_0 (⟨rm8_ rfl, ?_⟩)))
      refine w_X4_isGone (d := d) _ ?_
      refine oq_bd H (fun r1 s2 H => ?_)
      refine Wp.r_if_ne (pc := 15) o_X2_letSnow rfl (fun c9 => ?_) (fun c9 => ?_)
      · have H := oq_t c9 H
        obtain ⟨hc3, H⟩ := oq_ck H
        refine Wp.f_al0_gfr (pc := 18) o_X2_letSnow rfl rfl rfl fk_C_26_2 (Wp.r_iload_n3 (pc := 22) o_X2_letSnow rfl rfl (Wp.r_bipush (pc := 23) o_X2_letSnow rfl (Wp.f_al0_gfr (pc := 25) o_X2_letSnow rfl rfl rfl fk_C_26_2 (Wp.r_iload_n3 (pc := 29) o_X2_letSnow rfl rfl (Wp.r_iaload (pc := 30) o_X2_letSnow rfl ak_C_42 (⟨hc3, ?_⟩))))))
        refine Wp.r_iload_n2 (pc := 31) o_X2_letSnow rfl rfl (Wp.r_iadd (pc := 32) o_X2_letSnow rfl (Wp.r_min (pc := 33) o_X2_letSnow rfl (⟨rm8_ rfl, ?_⟩)))
        refine Wp.r_iastore (pc := 36) o_X2_letSnow rfl ak_C_42 (⟨hc3, ?_⟩)
        revert H
        generalize pI s2 42 v3.toNatClampNeg (if ((s2.1 42 v3.toNatClampNeg) + v2) < 99 then ((s2.1 42 v3.toNatClampNeg) + v2) else 99) = s4
        intro H
        have H := nmx_e H
        exact Wp.f_iinc_goto (pc := 37) o_X2_letSnow rfl rfl rfl (Wp.weak2 [1, 2, 3, 0] (ih _ _ _ H) rfl)
      · have H := oq_f c9 H
        exact Wp.f_iinc_goto (pc := 37) o_X2_letSnow rfl rfl rfl (Wp.weak2 [1, 2, 3, 0] (ih _ _ _ H) rfl)
noncomputable def f_X2_letSnow_25 (a2 : Int32) (s : Sg) : Option (Unit × Sg) :=
  f_X2_letSnow_25_b2 BIG a2 0 s
set_option maxRecDepth 100000 in
theorem w_X2_letSnow_25 {d : Nat} {s : Sg} {Q : Qt} (a2 : Int32) (H : OQ (f_X2_letSnow_25 a2 s) (fun _ s9 => Q none s9)) : WpM SHC MT (d + 2) 33 [.ref 26, .ref 25, .int a2] s Q := by
  refine WpM.enter me_X2_letSnow rfl rfl ?_
  show Y_X2_letSnow_25 d Q 0 [(0, .ref 26), (1, .ref 25), (2, .int a2)] [] s
  unfold f_X2_letSnow_25 at H
  exact Wp.r_iconst (pc := 0) o_X2_letSnow rfl (Wp.r_istore_n3 (pc := 1) o_X2_letSnow rfl (Wp.weak2 [1, 2, 3, 0] (w_X2_letSnow_25_b2 _ _ _ _ H) rfl))
noncomputable abbrev Y_X11_snow (d : Nat) (Q : Qt) : Xt := Wp SHC (WpM SHC MT (d + 2)) (flat2 cq_X11_snow) (some .boolean) Q
noncomputable def f_X11_snow (a1 : Int32) (s : Sg) : Option (Int32 × Sg) :=
  bd (f_X11_within a1 0 99 s) (fun r1 s2 =>
  if r1 = 0 then
    bd (f_X11_refused 1 s2) (fun r3 s4 =>
    ck (r3 = 0 ∨ r3 = 1) (some (r3, s4))
    )
  else
    bd (f_X2_letSnow_25 a1 s2) (fun _ s6 =>
    bd (f_X11_granted s6) (fun r7 s8 =>
    ck (r7 = 0 ∨ r7 = 1) (some (r7, s8))
    )
    )
  )
set_option maxRecDepth 100000 in
theorem w_X11_snow {d : Nat} {s : Sg} {Q : Qt} (a1 : Int32) (H : OQ (f_X11_snow a1 s) (fun r9 s9 => Q (some (.int r9)) s9)) : WpM SHC MT (d + 3) 130 [.ref 0, .int a1] s Q := by
  refine WpM.enter me_X11_snow rfl rfl ?_
  show Y_X11_snow d Q 0 [(0, .ref 0), (1, .int a1)] [] s
  unfold f_X11_snow at H
  refine Wp.r_iload_n1 (pc := 0) o_X11_snow rfl rfl (Wp.r_iconst (pc := 1) o_X11_snow rfl (Wp.r_bipush (pc := 2) o_X11_snow rfl (Wp.r_cs3 (pc := 4) o_X11_snow rfl (⟨rm8_ rfl, ?_⟩))))
  refine w_X11_within (d := d + 1) _ _ _ ?_
  refine oq_bd H (fun r1 s2 H => ?_)
  refine Wp.r_if_ne (pc := 7) o_X11_snow rfl (fun c9 => ?_) (fun c9 => ?_)
  · have H := oq_t c9 H
    refine Wp.f_al0_iconst (pc := 10) o_X11_snow rfl rfl rfl (Wp.r_cv2 (pc := 12) o_X11_snow rfl fk_C_0_0 (⟨rm8_ rfl, ?_⟩))
    refine w_X11_refused (d := d + 1) _ ?_
    refine oq_bd H (fun r3 s4 H => ?_)
    obtain ⟨c9, H⟩ := oq_ck H
    exact Wp.r_ireturn (pc := 15) o_X11_snow rfl (⟨b01_n c9, H⟩)
  · have H := oq_f c9 H
    refine Wp.f_al0_gfr (pc := 16) o_X11_snow rfl rfl rfl fk_C_0_6 (Wp.f_al0_gfr (pc := 20) o_X11_snow rfl rfl rfl fk_C_0_5 (Wp.r_iload_n1 (pc := 24) o_X11_snow rfl rfl (Wp.r_cv3 (pc := 25) o_X11_snow rfl fk_C_26_0 (⟨rm8_ rfl, ?_⟩))))
    refine w_X2_letSnow_25 (d := d) _ ?_
    refine oq_bd H (fun _ s6 H => ?_)
    refine Wp.r_aload_n0 (pc := 28) o_X11_snow rfl rfl (Wp.r_cv1 (pc := 29) o_X11_snow rfl fk_C_0_0 (⟨rm8_ rfl, ?_⟩))
    refine w_X11_granted (d := d + 1)  ?_
    refine oq_bd H (fun r7 s8 H => ?_)
    obtain ⟨c9, H⟩ := oq_ck H
    exact Wp.r_ireturn (pc := 32) o_X11_snow rfl (⟨b01_n c9, H⟩)
noncomputable abbrev Y_X2_sendCats_25 (d : Nat) (Q : Qt) : Xt := Wp SHC (WpM SHC MT (d + 1)) (flat2 cq_X2_sendCats) (none) Q
noncomputable def f_X2_sendCats_25_b2 : Nat → Int32 → Sg → Option (Unit × Sg)
  | 0, _, _ => none
  | n + 1, v2, s =>
    if (s.1 25 15) ≤ v2 then
      some ((), s)
    else
      ck (inr v2 4) (
      ck (inr (s.1 35 v2.toNatClampNeg) 8) (
      if (s.1 42 ((s.1 35 v2.toNatClampNeg).toNatClampNeg)) = 0 then
        bd (f_X2_carry (s.1 35 v2.toNatClampNeg) (s.1 36 v2.toNatClampNeg) (s.1 37 v2.toNatClampNeg) s) (fun r3 s4 =>
        (f_X2_sendCats_25_b2 n) (v2 + 1) s4
        )
      else
        (f_X2_sendCats_25_b2 n) (v2 + 1) s
      )
      )
set_option maxRecDepth 100000 in
theorem w_X2_sendCats_25_b2 {d : Nat} {Q : Qt} (n : Nat) : ∀ (v2 : Int32) (s : Sg), OQ (f_X2_sendCats_25_b2 n v2 s) (fun _ s9 => Q none s9) → Y_X2_sendCats_25 d Q 2 [(0, .ref 26), (1, .ref 25), (2, .int v2)] [] s := by
  induction n with
  | zero => intro v2 s H; exact H.elim
  | succ n ih =>
    intro v2 s H
    unfold f_X2_sendCats_25_b2 at H
    refine Wp.r_iload_n2 (pc := 2) o_X2_sendCats rfl rfl (Wp.f_al1_gfi (pc := 3) o_X2_sendCats rfl rfl rfl fk_C_25_15 (Wp.r_icmp_ge (pc := 7) o_X2_sendCats rfl (fun c9 => ?_) (fun c9 => ?_)))
    · have H := oq_t c9 H
      exact Wp.r_return (pc := 53) o_X2_sendCats rfl (H)
    · have H := oq_f c9 H
      obtain ⟨hc1, H⟩ := oq_ck H
      refine Wp.f_al0_gfr (pc := 10) o_X2_sendCats rfl rfl rfl fk_C_26_2 (Wp.f_al1_gfr (pc := 14) o_X2_sendCats rfl rfl rfl fk_C_25_7 (Wp.r_iload_n2 (pc := 18) o_X2_sendCats rfl rfl (Wp.r_iaload (pc := 19) o_X2_sendCats rfl ak_C_35 (⟨hc1, ?_⟩))))
      obtain ⟨hc2, H⟩ := oq_ck H
      refine Wp.r_iaload (pc := 20) o_X2_sendCats rfl ak_C_42 (⟨hc2, ?_⟩)
      refine Wp.r_if_ne (pc := 21) o_X2_sendCats rfl (fun c9 => ?_) (fun c9 => ?_)
      · have H := oq_t c9 H
        refine Wp.r_aload_n0 (pc := 24) o_X2_sendCats rfl rfl (Wp.f_al1_gfr (pc := 25) o_X2_sendCats rfl rfl rfl fk_C_25_7 (Wp.r_iload_n2 (pc := 29) o_X2_sendCats rfl rfl (Wp.r_iaload (pc := 30) o_X2_sendCats rfl ak_C_35 (⟨hc1, ?_⟩))))
        refine Wp.f_al1_gfr (pc := 31) o_X2_sendCats rfl rfl rfl fk_C_25_8 (Wp.r_iload_n2 (pc := 35) o_X2_sendCats rfl rfl (Wp.r_iaload (pc := 36) o_X2_sendCats rfl ak_C_36 (⟨hc1, ?_⟩)))
        refine Wp.f_al1_gfr (pc := 37) o_X2_sendCats rfl rfl rfl fk_C_25_9 (Wp.r_iload_n2 (pc := 41) o_X2_sendCats rfl rfl (Wp.r_iaload (pc := 42) o_X2_sendCats rfl ak_C_37 (⟨hc1, ?_⟩)))
        refine Wp.r_cv4 (pc := 43) o_X2_sendCats rfl fk_C_26_0 (⟨rm8_ rfl, ?_⟩)
        refine w_X2_carry (d := d) _ _ _ ?_
        refine oq_bd H (fun r3 s4 H => ?_)
        exact Wp.r_pop_i (pc := 46) o_X2_sendCats rfl (Wp.f_iinc_goto (pc := 47) o_X2_sendCats rfl rfl rfl (Wp.weak2 [1, 2, 0] (ih _ _ H) rfl))
      · have H := oq_f c9 H
        exact Wp.f_iinc_goto (pc := 47) o_X2_sendCats rfl rfl rfl (Wp.weak2 [1, 2, 0] (ih _ _ H) rfl)
noncomputable def f_X2_sendCats_25  (s : Sg) : Option (Unit × Sg) :=
  f_X2_sendCats_25_b2 BIG 0 s
set_option maxRecDepth 100000 in
theorem w_X2_sendCats_25 {d : Nat} {s : Sg} {Q : Qt}  (H : OQ (f_X2_sendCats_25  s) (fun _ s9 => Q none s9)) : WpM SHC MT (d + 2) 35 [.ref 26, .ref 25] s Q := by
  refine WpM.enter me_X2_sendCats rfl rfl ?_
  show Y_X2_sendCats_25 d Q 0 [(0, .ref 26), (1, .ref 25)] [] s
  unfold f_X2_sendCats_25 at H
  exact Wp.r_iconst (pc := 0) o_X2_sendCats rfl (Wp.r_istore_n2 (pc := 1) o_X2_sendCats rfl (Wp.weak2 [1, 2, 0] (w_X2_sendCats_25_b2 _ _ _ H) rfl))
noncomputable abbrev Y_X2_meltSnow_25 (d : Nat) (Q : Qt) : Xt := Wp SHC (WpM SHC MT (d + 0)) (flat2 cq_X2_meltSnow) (none) Q
noncomputable def f_X2_meltSnow_25_b2 : Nat → Int32 → Sg → Option (Unit × Sg)
  | 0, _, _ => none
  | n + 1, v2, s =>
    if (s.1 25 13) ≤ v2 then
      some ((), s)
    else
      ck (inr v2 8) (
      nmx (if (s.1 42 v2.toNatClampNeg) < (s.1 40 v2.toNatClampNeg) then (s.1 42 v2.toNatClampNeg) else (s.1 40 v2.toNatClampNeg) : Int32) (fun x2 =>
      nmx (pI s 40 v2.toNatClampNeg ((s.1 40 v2.toNatClampNeg) - x2)) (fun s3 =>
      nmx (pI s3 42 v2.toNatClampNeg ((s3.1 42 v2.toNatClampNeg) - x2)) (fun s4 =>
      nmx (pI s4 26 12 ((s4.1 26 12) + x2)) (fun s5 =>
      (f_X2_meltSnow_25_b2 n) (v2 + 1) s5
      )
      )
      )
      )
      )
set_option maxRecDepth 100000 in
theorem w_X2_meltSnow_25_b2 {d : Nat} {Q : Qt} (n : Nat) : ∀ (v2 : Int32) (s : Sg), OQ (f_X2_meltSnow_25_b2 n v2 s) (fun _ s9 => Q none s9) → Y_X2_meltSnow_25 d Q 2 [(0, .ref 26), (1, .ref 25), (2, .int v2)] [] s := by
  induction n with
  | zero => intro v2 s H; exact H.elim
  | succ n ih =>
    intro v2 s H
    unfold f_X2_meltSnow_25_b2 at H
    refine Wp.r_iload_n2 (pc := 2) o_X2_meltSnow rfl rfl (Wp.f_al1_gfi (pc := 3) o_X2_meltSnow rfl rfl rfl fk_C_25_13 (Wp.r_icmp_ge (pc := 7) o_X2_meltSnow rfl (fun c9 => ?_) (fun c9 => ?_)))
    · have H := oq_t c9 H
      exact Wp.r_return (pc := 62) o_X2_meltSnow rfl (H)
    · have H := oq_f c9 H
      obtain ⟨hc1, H⟩ := oq_ck H
      refine Wp.f_al0_gfr (pc := 10) o_X2_meltSnow rfl rfl rfl fk_C_26_0 (Wp.r_iload_n2 (pc := 14) o_X2_meltSnow rfl rfl (Wp.r_iaload (pc := 15) o_X2_meltSnow rfl ak_C_40 (⟨hc1, ?_⟩)))
      refine Wp.f_al0_gfr (pc := 16) o_X2_meltSnow rfl rfl rfl fk_C_26_2 (Wp.r_iload_n2 (pc := 20) o_X2_meltSnow rfl rfl (Wp.r_iaload (pc := 21) o_X2_meltSnow rfl ak_C_42 (⟨hc1, ?_⟩)))
      refine Wp.r_min (pc := 22) o_X2_meltSnow rfl (⟨rm8_ rfl, ?_⟩)
      refine Wp.r_istore_n3 (pc := 25) o_X2_meltSnow rfl (show Y_X2_meltSnow_25 d Q 26 [(3, .int (if (s.1 42 v2.toNatClampNeg) < (s.1 40 v2.toNatClampNeg) then (s.1 42 v2.toNatClampNeg) else (s.1 40 v2.toNatClampNeg))), (0, .ref 26), (1, .ref 25), (2, .int v2)] [] s from ?_)
      revert H
      generalize (if (s.1 42 v2.toNatClampNeg) < (s.1 40 v2.toNatClampNeg) then (s.1 42 v2.toNatClampNeg) else (s.1 40 v2.toNatClampNeg) : Int32) = x2
      intro H
      have H := nmx_e H
      refine Wp.f_al0_gfr (pc := 26) o_X2_meltSnow rfl rfl rfl fk_C_26_0 (Wp.r_iload_n2 (pc := 30) o_X2_meltSnow rfl rfl (Wp.r_dup2 (pc := 31) o_X2_meltSnow rfl (Wp.r_iaload (pc := 32) o_X2_meltSnow rfl ak_C_40 (⟨hc1, ?_⟩))))
      refine Wp.r_iload_n3 (pc := 33) o_X2_meltSnow rfl rfl (Wp.r_isub (pc := 34) o_X2_meltSnow rfl (Wp.r_iastore (pc := 35) o_X2_meltSnow rfl ak_C_40 (⟨hc1, ?_⟩)))
      revert H
      generalize pI s 40 v2.toNatClampNeg ((s.1 40 v2.toNatClampNeg) - x2) = s3
      intro H
      have H := nmx_e H
      refine Wp.f_al0_gfr (pc := 36) o_X2_meltSnow rfl rfl rfl fk_C_26_2 (Wp.r_iload_n2 (pc := 40) o_X2_meltSnow rfl rfl (Wp.r_dup2 (pc := 41) o_X2_meltSnow rfl (Wp.r_iaload (pc := 42) o_X2_meltSnow rfl ak_C_42 (⟨hc1, ?_⟩))))
      refine Wp.r_iload_n3 (pc := 43) o_X2_meltSnow rfl rfl (Wp.r_isub (pc := 44) o_X2_meltSnow rfl (Wp.r_iastore (pc := 45) o_X2_meltSnow rfl ak_C_42 (⟨hc1, ?_⟩)))
      revert H
      generalize pI s3 42 v2.toNatClampNeg ((s3.1 42 v2.toNatClampNeg) - x2) = s4
      intro H
      have H := nmx_e H
      refine Wp.r_aload_n0 (pc := 46) o_X2_meltSnow rfl rfl (Wp.r_dup_r (pc := 47) o_X2_meltSnow rfl (Wp.r_gfi (pc := 48) o_X2_meltSnow rfl fk_C_26_12 (Wp.r_iload_n3 (pc := 51) o_X2_meltSnow rfl rfl (Wp.r_iadd (pc := 52) o_X2_meltSnow rfl (Wp.r_pfi (pc := 53) o_X2_meltSnow rfl fk_C_26_12 (show Y_X2_meltSnow_25 d Q 56 [(3, .int x2), (0, .ref 26), (1, .ref 25), (2, .int v2)] [] (pI s4 26 12 ((s4.1 26 12) + x2)) from ?_))))))
      revert H
      generalize pI s4 26 12 ((s4.1 26 12) + x2) = s5
      intro H
      have H := nmx_e H
      exact Wp.f_iinc_goto (pc := 56) o_X2_meltSnow rfl rfl rfl (Wp.weak2 [2, 3, 0] (ih _ _ H) rfl)
noncomputable def f_X2_meltSnow_25  (s : Sg) : Option (Unit × Sg) :=
  f_X2_meltSnow_25_b2 BIG 0 s
set_option maxRecDepth 100000 in
theorem w_X2_meltSnow_25 {d : Nat} {s : Sg} {Q : Qt}  (H : OQ (f_X2_meltSnow_25  s) (fun _ s9 => Q none s9)) : WpM SHC MT (d + 1) 36 [.ref 26, .ref 25] s Q := by
  refine WpM.enter me_X2_meltSnow rfl rfl ?_
  show Y_X2_meltSnow_25 d Q 0 [(0, .ref 26), (1, .ref 25)] [] s
  unfold f_X2_meltSnow_25 at H
  exact Wp.r_iconst (pc := 0) o_X2_meltSnow rfl (Wp.r_istore_n2 (pc := 1) o_X2_meltSnow rfl (Wp.weak2 [1, 2, 0] (w_X2_meltSnow_25_b2 _ _ _ H) rfl))
noncomputable abbrev Y_X2_countWar_25 (d : Nat) (Q : Qt) : Xt := Wp SHC (WpM SHC MT (d + 1)) (flat2 cq_X2_countWar) (none) Q
noncomputable def f_X2_countWar_25_b2 : Nat → Int32 → Sg → Option (Unit × Sg)
  | 0, _, _ => none
  | n + 1, v2, s =>
    if (s.1 25 14) ≤ v2 then
      some ((), s)
    else
      bd (f_X11_has (s.1 26 5) v2 s) (fun r1 s2 =>
      if r1 = 0 then
        ck (inr v2 8) (
        nmx (pI s2 43 v2.toNatClampNeg ((s2.1 43 v2.toNatClampNeg) + 1)) (fun s4 =>
        (f_X2_countWar_25_b2 n) (v2 + 1) s4
        )
        )
      else
        (f_X2_countWar_25_b2 n) (v2 + 1) s2
      )
set_option maxRecDepth 100000 in
theorem w_X2_countWar_25_b2 {d : Nat} {Q : Qt} (n : Nat) : ∀ (v2 : Int32) (s : Sg), OQ (f_X2_countWar_25_b2 n v2 s) (fun _ s9 => Q none s9) → Y_X2_countWar_25 d Q 2 [(0, .ref 26), (1, .ref 25), (2, .int v2)] [] s := by
  induction n with
  | zero => intro v2 s H; exact H.elim
  | succ n ih =>
    intro v2 s H
    unfold f_X2_countWar_25_b2 at H
    refine Wp.r_iload_n2 (pc := 2) o_X2_countWar rfl rfl (Wp.f_al1_gfi (pc := 3) o_X2_countWar rfl rfl rfl fk_C_25_14 (Wp.r_icmp_ge (pc := 7) o_X2_countWar rfl (fun c9 => ?_) (fun c9 => ?_)))
    · have H := oq_t c9 H
      exact Wp.r_return (pc := 37) o_X2_countWar rfl (H)
    · have H := oq_f c9 H
      refine Wp.f_al0_gfi (pc := 10) o_X2_countWar rfl rfl rfl fk_C_26_5 (Wp.r_iload_n2 (pc := 14) o_X2_countWar rfl rfl (Wp.r_cs2 (pc := 15) o_X2_countWar rfl (⟨rm8_ rfl, ?_⟩)))
      refine w_X11_has (d := d) _ _ ?_
      refine oq_bd H (fun r1 s2 H => ?_)
      refine Wp.r_if_ne (pc := 18) o_X2_countWar rfl (fun c9 => ?_) (fun c9 => ?_)
      · have H := oq_t c9 H
        obtain ⟨hc3, H⟩ := oq_ck H
        refine Wp.f_al0_gfr (pc := 21) o_X2_countWar rfl rfl rfl fk_C_26_3 (Wp.r_iload_n2 (pc := 25) o_X2_countWar rfl rfl (Wp.r_dup2 (pc := 26) o_X2_countWar rfl (Wp.r_iaload (pc := 27) o_X2_countWar rfl ak_C_43 (⟨hc3, ?_⟩))))
        refine Wp.r_iconst (pc := 28) o_X2_countWar rfl (Wp.r_iadd (pc := 29) o_X2_countWar rfl (Wp.r_iastore (pc := 30) o_X2_countWar rfl ak_C_43 (⟨hc3, ?_⟩)))
        revert H
        generalize pI s2 43 v2.toNatClampNeg ((s2.1 43 v2.toNatClampNeg) + 1) = s4
        intro H
        have H := nmx_e H
        exact Wp.f_iinc_goto (pc := 31) o_X2_countWar rfl rfl rfl (Wp.weak2 [1, 2, 0] (ih _ _ H) rfl)
      · have H := oq_f c9 H
        exact Wp.f_iinc_goto (pc := 31) o_X2_countWar rfl rfl rfl (Wp.weak2 [1, 2, 0] (ih _ _ H) rfl)
noncomputable def f_X2_countWar_25  (s : Sg) : Option (Unit × Sg) :=
  f_X2_countWar_25_b2 BIG 0 s
set_option maxRecDepth 100000 in
theorem w_X2_countWar_25 {d : Nat} {s : Sg} {Q : Qt}  (H : OQ (f_X2_countWar_25  s) (fun _ s9 => Q none s9)) : WpM SHC MT (d + 2) 37 [.ref 26, .ref 25] s Q := by
  refine WpM.enter me_X2_countWar rfl rfl ?_
  show Y_X2_countWar_25 d Q 0 [(0, .ref 26), (1, .ref 25)] [] s
  unfold f_X2_countWar_25 at H
  exact Wp.r_iconst (pc := 0) o_X2_countWar rfl (Wp.r_istore_n2 (pc := 1) o_X2_countWar rfl (Wp.weak2 [1, 2, 0] (w_X2_countWar_25_b2 _ _ _ H) rfl))
noncomputable abbrev Y_X2_passNight_25 (d : Nat) (Q : Qt) : Xt := Wp SHC (WpM SHC MT (d + 3)) (flat2 cq_X2_passNight) (none) Q
noncomputable def f_X2_passNight_25_b35 (t0 : Int32) (s : Sg) : Option (Unit × Sg) :=
  bd (f_X2_countWar_25 (pI s 26 5 t0)) (fun _ s8 =>
  nmx (pI s8 26 6 (if ((s8.1 26 6) + 1) < 999 then ((s8.1 26 6) + 1) else 999)) (fun s9 =>
  some ((), pI s9 26 7 0)
  )
  )
set_option maxRecDepth 100000 in
theorem w_X2_passNight_25_b35 {d : Nat} {Q : Qt} (t0 : Int32) (s : Sg) (H : OQ (f_X2_passNight_25_b35 t0 s) (fun _ s9 => Q none s9)) : Y_X2_passNight_25 d Q 35 [(0, .ref 26), (1, .ref 25)] [.int t0, .ref 26] s := by
  unfold f_X2_passNight_25_b35 at H
  refine Wp.r_pfi (pc := 35) o_X2_passNight rfl fk_C_26_5 (Wp.r_aload_n0 (pc := 38) o_X2_passNight rfl rfl (Wp.r_aload_n1 (pc := 39) o_X2_passNight rfl rfl (Wp.r_cv2 (pc := 40) o_X2_passNight rfl fk_C_26_0 (⟨rm8_ rfl, ?_⟩))))
  refine w_X2_countWar_25 (d := d + 1)  ?_
  refine oq_bd H (fun _ s8 H => ?_)
  refine Wp.r_aload_n0 (pc := 43) o_X2_passNight rfl rfl (Wp.r_sipush (pc := 44) o_X2_passNight rfl (Wp.f_al0_gfi (pc := 47) o_X2_passNight rfl rfl rfl fk_C_26_6 (Wp.r_iconst (pc := 51) o_X2_passNight rfl (Wp.r_iadd (pc := 52) o_X2_passNight rfl (Wp.r_min (pc := 53) o_X2_passNight rfl (⟨rm8_ rfl, ?_⟩))))))
  refine Wp.r_pfi (pc := 56) o_X2_passNight rfl fk_C_26_6 (show Y_X2_passNight_25 d Q 59 [(0, .ref 26), (1, .ref 25)] [] (pI s8 26 6 (if ((s8.1 26 6) + 1) < 999 then ((s8.1 26 6) + 1) else 999)) from ?_)
  revert H
  generalize pI s8 26 6 (if ((s8.1 26 6) + 1) < 999 then ((s8.1 26 6) + 1) else 999) = s9
  intro H
  have H := nmx_e H
  refine Wp.f_al0_iconst (pc := 59) o_X2_passNight rfl rfl rfl (Wp.r_pfz (pc := 61) o_X2_passNight rfl fk_C_26_7 (show ((0 : Int32) = 0 ∨ 0 = 1) ∧ Y_X2_passNight_25 d Q 64 [(0, .ref 26), (1, .ref 25)] [] (pI s9 26 7 0) from ⟨Or.inl rfl, ?_⟩))
  exact Wp.r_return (pc := 64) o_X2_passNight rfl (H)
noncomputable def f_X2_passNight_25  (s : Sg) : Option (Unit × Sg) :=
  bd (f_X2_sendCats_25 s) (fun _ s2 =>
  bd (f_X2_meltSnow_25 s2) (fun _ s4 =>
  bd (f_X9_atPeace_26_25 (-1) s4) (fun r5 s6 =>
  if (s6.1 26 7) = 0 then
    f_X2_passNight_25_b35 ((s6.1 26 5) ||| r5) s6
  else
    f_X2_passNight_25_b35 r5 s6
  )
  )
  )
set_option maxRecDepth 100000 in
theorem w_X2_passNight_25 {d : Nat} {s : Sg} {Q : Qt}  (H : OQ (f_X2_passNight_25  s) (fun _ s9 => Q none s9)) : WpM SHC MT (d + 4) 34 [.ref 26, .ref 25] s Q := by
  refine WpM.enter me_X2_passNight rfl rfl ?_
  show Y_X2_passNight_25 d Q 0 [(0, .ref 26), (1, .ref 25)] [] s
  unfold f_X2_passNight_25 at H
  refine Wp.r_aload_n0 (pc := 0) o_X2_passNight rfl rfl (Wp.r_aload_n1 (pc := 1) o_X2_passNight rfl rfl (Wp.r_cv2 (pc := 2) o_X2_passNight rfl fk_C_26_0 (⟨rm8_ rfl, ?_⟩)))
  refine w_X2_sendCats_25 (d := d + 1)  ?_
  refine oq_bd H (fun _ s2 H => ?_)
  refine Wp.r_aload_n0 (pc := 5) o_X2_passNight rfl rfl (Wp.r_aload_n1 (pc := 6) o_X2_passNight rfl rfl (Wp.r_cv2 (pc := 7) o_X2_passNight rfl fk_C_26_0 (⟨rm8_ rfl, ?_⟩)))
  refine w_X2_meltSnow_25 (d := d + 2)  ?_
  refine oq_bd H (fun _ s4 H => ?_)
  refine Wp.r_aload_n1 (pc := 10) o_X2_passNight rfl rfl (Wp.f_al0_iconst (pc := 11) o_X2_passNight rfl rfl rfl (Wp.r_cs3 (pc := 13) o_X2_passNight rfl (⟨rm8_ rfl, ?_⟩)))
  refine w_X9_atPeace_26_25 (d := d) _ ?_
  refine oq_bd H (fun r5 s6 H => ?_)
  refine Wp.r_istore_n2 (pc := 16) o_X2_passNight rfl (Wp.r_aload_n0 (pc := 17) o_X2_passNight rfl rfl (Wp.f_al0_gfi (pc := 18) o_X2_passNight rfl rfl rfl fk_C_26_7 (Wp.r_if_eq (pc := 22) o_X2_passNight rfl (fun c9 => ?_) (fun c9 => ?_))))
  · have H := oq_t c9 H
    exact Wp.f_al0_gfi (pc := 29) o_X2_passNight rfl rfl rfl fk_C_26_5 (Wp.r_iload_n2 (pc := 33) o_X2_passNight rfl rfl (Wp.r_ior (pc := 34) o_X2_passNight rfl (Wp.weak2 [1, 2] (w_X2_passNight_25_b35 _ _ H) rfl)))
  · have H := oq_f c9 H
    exact Wp.r_iload_n2 (pc := 25) o_X2_passNight rfl rfl (Wp.r_goto (pc := 26) o_X2_passNight rfl (Wp.weak2 [1, 2] (w_X2_passNight_25_b35 _ _ H) rfl))
noncomputable abbrev Y_X11_night (d : Nat) (Q : Qt) : Xt := Wp SHC (WpM SHC MT (d + 4)) (flat2 cq_X11_night) (some .int) Q
noncomputable def f_X11_night  (s : Sg) : Option (Int32 × Sg) :=
  if (s.1 26 6) < 999 then
    bd (f_X2_passNight_25 s) (fun _ s2 =>
    bd (f_X11_answer (s2.1 26 6) s2) (fun r3 s4 =>
    some (r3, s4)
    )
    )
  else
    bd (f_X11_refuse 4 s) (fun r5 s6 =>
    some (r5, s6)
    )
set_option maxRecDepth 100000 in
theorem w_X11_night {d : Nat} {s : Sg} {Q : Qt}  (H : OQ (f_X11_night  s) (fun r9 s9 => Q (some (.int r9)) s9)) : WpM SHC MT (d + 5) 131 [.ref 0] s Q := by
  refine WpM.enter me_X11_night rfl rfl ?_
  show Y_X11_night d Q 0 [(0, .ref 0)] [] s
  unfold f_X11_night at H
  refine Wp.f_al0_gfr (pc := 0) o_X11_night rfl rfl rfl fk_C_0_6 (Wp.r_gfi (pc := 4) o_X11_night rfl fk_C_26_6 (Wp.r_sipush (pc := 7) o_X11_night rfl (Wp.r_icmp_lt (pc := 10) o_X11_night rfl (fun c9 => ?_) (fun c9 => ?_))))
  · have H := oq_t c9 H
    refine Wp.f_al0_gfr (pc := 19) o_X11_night rfl rfl rfl fk_C_0_6 (Wp.f_al0_gfr (pc := 23) o_X11_night rfl rfl rfl fk_C_0_5 (Wp.r_cv2 (pc := 27) o_X11_night rfl fk_C_26_0 (⟨rm8_ rfl, ?_⟩)))
    refine w_X2_passNight_25 (d := d)  ?_
    refine oq_bd H (fun _ s2 H => ?_)
    refine Wp.r_aload_n0 (pc := 30) o_X11_night rfl rfl (Wp.f_al0_gfr (pc := 31) o_X11_night rfl rfl rfl fk_C_0_6 (Wp.r_gfi (pc := 35) o_X11_night rfl fk_C_26_6 (Wp.r_cv2 (pc := 38) o_X11_night rfl fk_C_0_0 (⟨rm8_ rfl, ?_⟩))))
    refine w_X11_answer (d := d + 3) _ ?_
    refine oq_bd H (fun r3 s4 H => ?_)
    exact Wp.r_ireturn (pc := 41) o_X11_night rfl (⟨rfl, H⟩)
  · have H := oq_f c9 H
    refine Wp.f_al0_iconst (pc := 13) o_X11_night rfl rfl rfl (Wp.r_cv2 (pc := 15) o_X11_night rfl fk_C_0_0 (⟨rm8_ rfl, ?_⟩))
    refine w_X11_refuse (d := d + 3) _ ?_
    refine oq_bd H (fun r5 s6 H => ?_)
    exact Wp.r_ireturn (pc := 18) o_X11_night rfl (⟨rfl, H⟩)
noncomputable abbrev Y_X11_cat (d : Nat) (Q : Qt) : Xt := Wp SHC (WpM SHC MT (d + 1)) (flat2 cq_X11_cat) (some .int) Q
noncomputable def f_X11_cat (a1 : Int32) (a2 : Int32) (s : Sg) : Option (Int32 × Sg) :=
  bd (f_X11_within a1 0 ((s.1 25 15) - 1) s) (fun r1 s2 =>
  if r1 = 0 then
    bd (f_X11_refuse 1 s2) (fun r3 s4 =>
    some (r3, s4)
    )
  else
    if a2 = 0 then
      ck (inr a1 4) (
      bd (f_X11_answer (s2.1 35 a1.toNatClampNeg) s2) (fun r6 s7 =>
      some (r6, s7)
      )
      )
    else
    if a2 = 1 then
      ck (inr a1 4) (
      bd (f_X11_answer (s2.1 36 a1.toNatClampNeg) s2) (fun r9 s10 =>
      some (r9, s10)
      )
      )
    else
    if a2 = 2 then
      ck (inr a1 4) (
      bd (f_X11_answer (s2.1 37 a1.toNatClampNeg) s2) (fun r12 s13 =>
      some (r12, s13)
      )
      )
    else
      bd (f_X11_refuse 1 s2) (fun r14 s15 =>
      some (r14, s15)
      )
  )
set_option maxRecDepth 100000 in
theorem w_X11_cat {d : Nat} {s : Sg} {Q : Qt} (a1 : Int32) (a2 : Int32) (H : OQ (f_X11_cat a1 a2 s) (fun r9 s9 => Q (some (.int r9)) s9)) : WpM SHC MT (d + 2) 132 [.ref 0, .int a1, .int a2] s Q := by
  refine WpM.enter me_X11_cat rfl rfl ?_
  show Y_X11_cat d Q 0 [(0, .ref 0), (1, .int a1), (2, .int a2)] [] s
  unfold f_X11_cat at H
  refine Wp.r_iload_n1 (pc := 0) o_X11_cat rfl rfl (Wp.r_iconst (pc := 1) o_X11_cat rfl (Wp.f_al0_gfr (pc := 2) o_X11_cat rfl rfl rfl fk_C_0_5 (Wp.r_gfi (pc := 6) o_X11_cat rfl fk_C_25_15 (Wp.r_iconst (pc := 9) o_X11_cat rfl (Wp.r_isub (pc := 10) o_X11_cat rfl (Wp.r_cs3 (pc := 11) o_X11_cat rfl (⟨rm8_ rfl, ?_⟩)))))))
  refine w_X11_within (d := d) _ _ _ ?_
  refine oq_bd H (fun r1 s2 H => ?_)
  refine Wp.r_if_ne (pc := 14) o_X11_cat rfl (fun c9 => ?_) (fun c9 => ?_)
  · have H := oq_t c9 H
    refine Wp.f_al0_iconst (pc := 17) o_X11_cat rfl rfl rfl (Wp.r_cv2 (pc := 19) o_X11_cat rfl fk_C_0_0 (⟨rm8_ rfl, ?_⟩))
    refine w_X11_refuse (d := d) _ ?_
    refine oq_bd H (fun r3 s4 H => ?_)
    exact Wp.r_ireturn (pc := 22) o_X11_cat rfl (⟨rfl, H⟩)
  · have H := oq_f c9 H
    refine Wp.r_iload_n2 (pc := 23) o_X11_cat rfl rfl (show Y_X11_cat d Q 24 [(0, .ref 0), (1, .int a1), (2, .int a2)] [.int a2] s2 from ?_)
    refine Wp.tsw2 (l := [(0, 52), (1, 66), (2, 80)]) o_X11_cat rfl (by decide +kernel) ?_
    show sw [(0, 52), (1, 66), (2, 80)] 94 a2 (fun t9 => Y_X11_cat d Q t9 [(0, .ref 0), (1, .int a1), (2, .int a2)] [] s2)
    refine sw_c (fun e9 => ?_) (fun c9_0 => (sw_c (fun e9 => ?_) (fun c9_1 => (sw_c (fun e9 => ?_) (fun c9_2 => ?_)))))
    · have H := oq_t e9 H
      obtain ⟨hc5, H⟩ := oq_ck H
      refine Wp.r_aload_n0 (pc := 52) o_X11_cat rfl rfl (Wp.f_al0_gfr (pc := 53) o_X11_cat rfl rfl rfl fk_C_0_5 (Wp.r_gfr (pc := 57) o_X11_cat rfl fk_C_25_7 (Wp.r_iload_n1 (pc := 60) o_X11_cat rfl rfl (Wp.r_iaload (pc := 61) o_X11_cat rfl ak_C_35 (⟨hc5, ?_⟩)))))
      refine Wp.r_cv2 (pc := 62) o_X11_cat rfl fk_C_0_0 (⟨rm8_ rfl, ?_⟩)
      refine w_X11_answer (d := d) _ ?_
      refine oq_bd H (fun r6 s7 H => ?_)
      exact Wp.r_ireturn (pc := 65) o_X11_cat rfl (⟨rfl, H⟩)
    · have H := oq_f c9_0 H; have H := oq_t e9 H
      obtain ⟨hc8, H⟩ := oq_ck H
      refine Wp.r_aload_n0 (pc := 66) o_X11_cat rfl rfl (Wp.f_al0_gfr (pc := 67) o_X11_cat rfl rfl rfl fk_C_0_5 (Wp.r_gfr (pc := 71) o_X11_cat rfl fk_C_25_8 (Wp.r_iload_n1 (pc := 74) o_X11_cat rfl rfl (Wp.r_iaload (pc := 75) o_X11_cat rfl ak_C_36 (⟨hc8, ?_⟩)))))
      refine Wp.r_cv2 (pc := 76) o_X11_cat rfl fk_C_0_0 (⟨rm8_ rfl, ?_⟩)
      refine w_X11_answer (d := d) _ ?_
      refine oq_bd H (fun r9 s10 H => ?_)
      exact Wp.r_ireturn (pc := 79) o_X11_cat rfl (⟨rfl, H⟩)
    · have H := oq_f c9_0 H; have H := oq_f c9_1 H; have H := oq_t e9 H
      obtain ⟨hc11, H⟩ := oq_ck H
      refine Wp.r_aload_n0 (pc := 80) o_X11_cat rfl rfl (Wp.f_al0_gfr (pc := 81) o_X11_cat rfl rfl rfl fk_C_0_5 (Wp.r_gfr (pc := 85) o_X11_cat rfl fk_C_25_9 (Wp.r_iload_n1 (pc := 88) o_X11_cat rfl rfl (Wp.r_iaload (pc := 89) o_X11_cat rfl ak_C_37 (⟨hc11, ?_⟩)))))
      refine Wp.r_cv2 (pc := 90) o_X11_cat rfl fk_C_0_0 (⟨rm8_ rfl, ?_⟩)
      refine w_X11_answer (d := d) _ ?_
      refine oq_bd H (fun r12 s13 H => ?_)
      exact Wp.r_ireturn (pc := 93) o_X11_cat rfl (⟨rfl, H⟩)
    · have H := oq_f c9_0 H; have H := oq_f c9_1 H; have H := oq_f c9_2 H
      refine Wp.f_al0_iconst (pc := 94) o_X11_cat rfl rfl rfl (Wp.r_cv2 (pc := 96) o_X11_cat rfl fk_C_0_0 (⟨rm8_ rfl, ?_⟩))
      refine w_X11_refuse (d := d) _ ?_
      refine oq_bd H (fun r14 s15 H => ?_)
      exact Wp.r_ireturn (pc := 99) o_X11_cat rfl (⟨rfl, H⟩)
noncomputable abbrev Y_X4_reachedFrom (d : Nat) (Q : Qt) : Xt := Wp SHC (WpM SHC MT (d + 1)) (flat2 cq_X4_reachedFrom) (some .int) Q
noncomputable def f_X4_reachedFrom_b15 (k_6 : Int32 → Int32 → Sg → Option (Int32 × Sg)) : Nat → Int32 → Int32 → Int32 → Sg → Option (Int32 × Sg)
  | 0, _, _, _, _ => none
  | n + 1, v2, v3, v4, s =>
    if (s.1 25 15) ≤ v4 then
      k_6 v2 (v3 + 1) s
    else
      ck (inr v4 4) (
      bd (f_X11_has v2 (s.1 35 v4.toNatClampNeg) s) (fun r3 s4 =>
      if r3 = 0 then
        (f_X4_reachedFrom_b15 k_6 n) v2 v3 (v4 + 1) s4
      else
        nmx (v2 ||| ((1 : Int32) <<< ((s4.1 36 v4.toNatClampNeg) &&& 31)) : Int32) (fun x5 =>
        (f_X4_reachedFrom_b15 k_6 n) x5 v3 (v4 + 1) s4
        )
      )
      )
set_option maxRecDepth 100000 in
theorem w_X4_reachedFrom_b15 {d : Nat} {Q : Qt} (k_6 : Int32 → Int32 → Sg → Option (Int32 × Sg)) (h_6 : ∀ (v2 : Int32) (v3 : Int32) s, OQ (k_6 v2 v3 s) (fun r9 s9 => Q (some (.int r9)) s9) → Y_X4_reachedFrom d Q 6 [(0, .ref 25), (2, .int v2), (3, .int v3)] [] s) (n : Nat) : ∀ (v2 : Int32) (v3 : Int32) (v4 : Int32) (s : Sg), OQ (f_X4_reachedFrom_b15 k_6 n v2 v3 v4 s) (fun r9 s9 => Q (some (.int r9)) s9) → Y_X4_reachedFrom d Q 15 [(0, .ref 25), (2, .int v2), (3, .int v3), (4, .int v4)] [] s := by
  induction n with
  | zero => intro v2 v3 v4 s H; exact H.elim
  | succ n ih =>
    intro v2 v3 v4 s H
    unfold f_X4_reachedFrom_b15 at H
    refine Wp.r_iload (pc := 15) o_X4_reachedFrom rfl rfl (Wp.f_al0_gfi (pc := 17) o_X4_reachedFrom rfl rfl rfl fk_C_25_15 (Wp.r_icmp_ge (pc := 21) o_X4_reachedFrom rfl (fun c9 => ?_) (fun c9 => ?_)))
    · have H := oq_t c9 H
      exact Wp.f_iinc_goto (pc := 56) o_X4_reachedFrom rfl rfl rfl (Wp.weak2 [1, 2, 0] (h_6 _ _ _ H) rfl)
    · have H := oq_f c9 H
      obtain ⟨hc2, H⟩ := oq_ck H
      refine Wp.r_iload_n2 (pc := 24) o_X4_reachedFrom rfl rfl (Wp.f_al0_gfr (pc := 25) o_X4_reachedFrom rfl rfl rfl fk_C_25_7 (Wp.r_iload (pc := 29) o_X4_reachedFrom rfl rfl (Wp.r_iaload (pc := 31) o_X4_reachedFrom rfl ak_C_35 (⟨hc2, ?_⟩))))
      refine Wp.r_cs2 (pc := 32) o_X4_reachedFrom rfl (⟨rm8_ rfl, ?_⟩)
      refine w_X11_has (d := d) _ _ ?_
      refine oq_bd H (fun r3 s4 H => ?_)
      refine Wp.r_if_eq (pc := 35) o_X4_reachedFrom rfl (fun c9 => ?_) (fun c9 => ?_)
      · have H := oq_t c9 H
        exact Wp.f_iinc_goto (pc := 50) o_X4_reachedFrom rfl rfl rfl (Wp.weak2 [1, 2, 3, 0] (ih _ _ _ _ H) rfl)
      · have H := oq_f c9 H
        refine Wp.r_iload_n2 (pc := 38) o_X4_reachedFrom rfl rfl (Wp.r_iconst (pc := 39) o_X4_reachedFrom rfl (Wp.f_al0_gfr (pc := 40) o_X4_reachedFrom rfl rfl rfl fk_C_25_8 (Wp.r_iload (pc := 44) o_X4_reachedFrom rfl rfl (Wp.r_iaload (pc := 46) o_X4_reachedFrom rfl ak_C_36 (⟨hc2, ?_⟩)))))
        refine Wp.r_ishl (pc := 47) o_X4_reachedFrom rfl (Wp.r_ior (pc := 48) o_X4_reachedFrom rfl (Wp.r_istore_n2 (pc := 49) o_X4_reachedFrom rfl (show Y_X4_reachedFrom d Q 50 [(2, .int (v2 ||| ((1 : Int32) <<< ((s4.1 36 v4.toNatClampNeg) &&& 31)))), (0, .ref 25), (3, .int v3), (4, .int v4)] [] s4 from ?_)))
        revert H
        generalize (v2 ||| ((1 : Int32) <<< ((s4.1 36 v4.toNatClampNeg) &&& 31)) : Int32) = x5
        intro H
        have H := nmx_e H
        exact Wp.f_iinc_goto (pc := 50) o_X4_reachedFrom rfl rfl rfl (Wp.weak2 [2, 1, 3, 0] (ih _ _ _ _ H) rfl)
noncomputable def f_X4_reachedFrom_b6 : Nat → Int32 → Int32 → Sg → Option (Int32 × Sg)
  | 0, _, _, _ => none
  | n + 1, v2, v3, s =>
    if 8 ≤ v3 then
      some (v2, s)
    else
      f_X4_reachedFrom_b15 (f_X4_reachedFrom_b6 n) BIG v2 v3 0 s
set_option maxRecDepth 100000 in
theorem w_X4_reachedFrom_b6 {d : Nat} {Q : Qt} (n : Nat) : ∀ (v2 : Int32) (v3 : Int32) (s : Sg), OQ (f_X4_reachedFrom_b6 n v2 v3 s) (fun r9 s9 => Q (some (.int r9)) s9) → Y_X4_reachedFrom d Q 6 [(0, .ref 25), (2, .int v2), (3, .int v3)] [] s := by
  induction n with
  | zero => intro v2 v3 s H; exact H.elim
  | succ n ih =>
    intro v2 v3 s H
    unfold f_X4_reachedFrom_b6 at H
    refine Wp.r_iload_n3 (pc := 6) o_X4_reachedFrom rfl rfl (Wp.r_bipush (pc := 7) o_X4_reachedFrom rfl (Wp.r_icmp_ge (pc := 9) o_X4_reachedFrom rfl (fun c9 => ?_) (fun c9 => ?_)))
    · have H := oq_t c9 H
      exact Wp.r_iload_n2 (pc := 62) o_X4_reachedFrom rfl rfl (Wp.r_ireturn (pc := 63) o_X4_reachedFrom rfl (⟨rfl, H⟩))
    · have H := oq_f c9 H
      exact Wp.r_iconst (pc := 12) o_X4_reachedFrom rfl (Wp.r_istore (pc := 13) o_X4_reachedFrom rfl (Wp.weak2 [1, 2, 3, 0] (w_X4_reachedFrom_b15 (f_X4_reachedFrom_b6 n) ih _ _ _ _ _ H) rfl))
noncomputable def f_X4_reachedFrom (a1 : Int32) (s : Sg) : Option (Int32 × Sg) :=
  nmx ((1 : Int32) <<< (a1 &&& 31) : Int32) (fun x1 =>
  f_X4_reachedFrom_b6 BIG x1 0 s
  )
set_option maxRecDepth 100000 in
theorem w_X4_reachedFrom {d : Nat} {s : Sg} {Q : Qt} (a1 : Int32) (H : OQ (f_X4_reachedFrom a1 s) (fun r9 s9 => Q (some (.int r9)) s9)) : WpM SHC MT (d + 2) 59 [.ref 25, .int a1] s Q := by
  refine WpM.enter me_X4_reachedFrom rfl rfl ?_
  show Y_X4_reachedFrom d Q 0 [(0, .ref 25), (1, .int a1)] [] s
  unfold f_X4_reachedFrom at H
  refine Wp.r_iconst (pc := 0) o_X4_reachedFrom rfl (Wp.r_iload_n1 (pc := 1) o_X4_reachedFrom rfl rfl (Wp.r_ishl (pc := 2) o_X4_reachedFrom rfl (Wp.r_istore_n2 (pc := 3) o_X4_reachedFrom rfl (show Y_X4_reachedFrom d Q 4 [(2, .int ((1 : Int32) <<< (a1 &&& 31))), (0, .ref 25), (1, .int a1)] [] s from ?_))))
  revert H
  generalize ((1 : Int32) <<< (a1 &&& 31) : Int32) = x1
  intro H
  have H := nmx_e H
  exact Wp.r_iconst (pc := 4) o_X4_reachedFrom rfl (Wp.r_istore_n3 (pc := 5) o_X4_reachedFrom rfl (Wp.weak2 [2, 1, 0] (w_X4_reachedFrom_b6 _ _ _ _ H) rfl))
noncomputable abbrev Y_X11_reaches (d : Nat) (Q : Qt) : Xt := Wp SHC (WpM SHC MT (d + 3)) (flat2 cq_X11_reaches) (some .int) Q
noncomputable def f_X11_reaches (a1 : Int32) (s : Sg) : Option (Int32 × Sg) :=
  bd (f_X11_whyNoStep a1 1 s) (fun r1 s2 =>
  if r1 = 0 then
    bd (f_X4_reachedFrom a1 s2) (fun r3 s4 =>
    bd (f_X11_answer r3 s4) (fun r5 s6 =>
    some (r5, s6)
    )
    )
  else
    bd (f_X11_refuse r1 s2) (fun r7 s8 =>
    some (r7, s8)
    )
  )
set_option maxRecDepth 100000 in
theorem w_X11_reaches {d : Nat} {s : Sg} {Q : Qt} (a1 : Int32) (H : OQ (f_X11_reaches a1 s) (fun r9 s9 => Q (some (.int r9)) s9)) : WpM SHC MT (d + 4) 133 [.ref 0, .int a1] s Q := by
  refine WpM.enter me_X11_reaches rfl rfl ?_
  show Y_X11_reaches d Q 0 [(0, .ref 0), (1, .int a1)] [] s
  unfold f_X11_reaches at H
  refine Wp.r_aload_n0 (pc := 0) o_X11_reaches rfl rfl (Wp.r_iload_n1 (pc := 1) o_X11_reaches rfl rfl (Wp.r_iconst (pc := 2) o_X11_reaches rfl (Wp.r_cv3 (pc := 3) o_X11_reaches rfl fk_C_0_0 (⟨rm8_ rfl, ?_⟩))))
  refine w_X11_whyNoStep (d := d) _ _ ?_
  refine oq_bd H (fun r1 s2 H => ?_)
  refine Wp.r_istore_n2 (pc := 6) o_X11_reaches rfl (Wp.r_iload_n2 (pc := 7) o_X11_reaches rfl rfl (Wp.r_if_eq (pc := 8) o_X11_reaches rfl (fun c9 => ?_) (fun c9 => ?_)))
  · have H := oq_t c9 H
    refine Wp.r_aload_n0 (pc := 17) o_X11_reaches rfl rfl (Wp.f_al0_gfr (pc := 18) o_X11_reaches rfl rfl rfl fk_C_0_5 (Wp.r_iload_n1 (pc := 22) o_X11_reaches rfl rfl (Wp.r_cv2 (pc := 23) o_X11_reaches rfl fk_C_25_0 (⟨rm8_ rfl, ?_⟩))))
    refine w_X4_reachedFrom (d := d + 1) _ ?_
    refine oq_bd H (fun r3 s4 H => ?_)
    refine Wp.r_cv2 (pc := 26) o_X11_reaches rfl fk_C_0_0 (⟨rm8_ rfl, ?_⟩)
    refine w_X11_answer (d := d + 2) _ ?_
    refine oq_bd H (fun r5 s6 H => ?_)
    exact Wp.r_ireturn (pc := 29) o_X11_reaches rfl (⟨rfl, H⟩)
  · have H := oq_f c9 H
    refine Wp.r_aload_n0 (pc := 11) o_X11_reaches rfl rfl (Wp.r_iload_n2 (pc := 12) o_X11_reaches rfl rfl (Wp.r_cv2 (pc := 13) o_X11_reaches rfl fk_C_0_0 (⟨rm8_ rfl, ?_⟩)))
    refine w_X11_refuse (d := d + 2) _ ?_
    refine oq_bd H (fun r7 s8 H => ?_)
    exact Wp.r_ireturn (pc := 16) o_X11_reaches rfl (⟨rfl, H⟩)
noncomputable abbrev Y_X4_joinedTo (d : Nat) (Q : Qt) : Xt := Wp SHC (WpM SHC MT (d + 0)) (flat2 cq_X4_joinedTo) (some .int) Q
noncomputable def f_X4_joinedTo_b15 (k_6 : Int32 → Int32 → Sg → Option (Int32 × Sg)) : Nat → Int32 → Int32 → Int32 → Sg → Option (Int32 × Sg)
  | 0, _, _, _, _ => none
  | n + 1, v2, v3, v4, s =>
    if (s.1 25 13) ≤ v4 then
      k_6 v2 (v3 + 1) s
    else
      ck (inr v4 8) (
      if (v2 &&& (s.1 34 v4.toNatClampNeg)) = 0 then
        (f_X4_joinedTo_b15 k_6 n) v2 v3 (v4 + 1) s
      else
        nmx (v2 ||| (s.1 34 v4.toNatClampNeg) : Int32) (fun x3 =>
        (f_X4_joinedTo_b15 k_6 n) x3 v3 (v4 + 1) s
        )
      )
set_option maxRecDepth 100000 in
theorem w_X4_joinedTo_b15 {d : Nat} {Q : Qt} (k_6 : Int32 → Int32 → Sg → Option (Int32 × Sg)) (h_6 : ∀ (v2 : Int32) (v3 : Int32) s, OQ (k_6 v2 v3 s) (fun r9 s9 => Q (some (.int r9)) s9) → Y_X4_joinedTo d Q 6 [(0, .ref 25), (2, .int v2), (3, .int v3)] [] s) (n : Nat) : ∀ (v2 : Int32) (v3 : Int32) (v4 : Int32) (s : Sg), OQ (f_X4_joinedTo_b15 k_6 n v2 v3 v4 s) (fun r9 s9 => Q (some (.int r9)) s9) → Y_X4_joinedTo d Q 15 [(0, .ref 25), (2, .int v2), (3, .int v3), (4, .int v4)] [] s := by
  induction n with
  | zero => intro v2 v3 v4 s H; exact H.elim
  | succ n ih =>
    intro v2 v3 v4 s H
    unfold f_X4_joinedTo_b15 at H
    refine Wp.r_iload (pc := 15) o_X4_joinedTo rfl rfl (Wp.f_al0_gfi (pc := 17) o_X4_joinedTo rfl rfl rfl fk_C_25_13 (Wp.r_icmp_ge (pc := 21) o_X4_joinedTo rfl (fun c9 => ?_) (fun c9 => ?_)))
    · have H := oq_t c9 H
      exact Wp.f_iinc_goto (pc := 51) o_X4_joinedTo rfl rfl rfl (Wp.weak2 [1, 2, 0] (h_6 _ _ _ H) rfl)
    · have H := oq_f c9 H
      obtain ⟨hc2, H⟩ := oq_ck H
      refine Wp.f_al0_gfr (pc := 24) o_X4_joinedTo rfl rfl rfl fk_C_25_6 (Wp.r_iload (pc := 28) o_X4_joinedTo rfl rfl (Wp.r_iaload (pc := 30) o_X4_joinedTo rfl ak_C_34 (⟨hc2, ?_⟩)))
      refine Wp.r_istore (pc := 31) o_X4_joinedTo rfl (Wp.r_iload_n2 (pc := 33) o_X4_joinedTo rfl rfl (Wp.r_iload (pc := 34) o_X4_joinedTo rfl rfl (Wp.r_iand (pc := 36) o_X4_joinedTo rfl (Wp.r_if_eq (pc := 37) o_X4_joinedTo rfl (fun c9 => ?_) (fun c9 => ?_)))))
      · have H := oq_t c9 H
        exact Wp.f_iinc_goto (pc := 45) o_X4_joinedTo rfl rfl rfl (Wp.weak2 [2, 3, 4, 0] (ih _ _ _ _ H) rfl)
      · have H := oq_f c9 H
        refine Wp.r_iload_n2 (pc := 40) o_X4_joinedTo rfl rfl (Wp.r_iload (pc := 41) o_X4_joinedTo rfl rfl (Wp.r_ior (pc := 43) o_X4_joinedTo rfl (Wp.r_istore_n2 (pc := 44) o_X4_joinedTo rfl (show Y_X4_joinedTo d Q 45 [(2, .int (v2 ||| (s.1 34 v4.toNatClampNeg))), (5, .int (s.1 34 v4.toNatClampNeg)), (0, .ref 25), (3, .int v3), (4, .int v4)] [] s from ?_))))
        revert H
        generalize (v2 ||| (s.1 34 v4.toNatClampNeg) : Int32) = x3
        intro H
        have H := nmx_e H
        exact Wp.f_iinc_goto (pc := 45) o_X4_joinedTo rfl rfl rfl (Wp.weak2 [3, 1, 4, 0] (ih _ _ _ _ H) rfl)
noncomputable def f_X4_joinedTo_b6 : Nat → Int32 → Int32 → Sg → Option (Int32 × Sg)
  | 0, _, _, _ => none
  | n + 1, v2, v3, s =>
    if 8 ≤ v3 then
      some (v2, s)
    else
      f_X4_joinedTo_b15 (f_X4_joinedTo_b6 n) BIG v2 v3 0 s
set_option maxRecDepth 100000 in
theorem w_X4_joinedTo_b6 {d : Nat} {Q : Qt} (n : Nat) : ∀ (v2 : Int32) (v3 : Int32) (s : Sg), OQ (f_X4_joinedTo_b6 n v2 v3 s) (fun r9 s9 => Q (some (.int r9)) s9) → Y_X4_joinedTo d Q 6 [(0, .ref 25), (2, .int v2), (3, .int v3)] [] s := by
  induction n with
  | zero => intro v2 v3 s H; exact H.elim
  | succ n ih =>
    intro v2 v3 s H
    unfold f_X4_joinedTo_b6 at H
    refine Wp.r_iload_n3 (pc := 6) o_X4_joinedTo rfl rfl (Wp.r_bipush (pc := 7) o_X4_joinedTo rfl (Wp.r_icmp_ge (pc := 9) o_X4_joinedTo rfl (fun c9 => ?_) (fun c9 => ?_)))
    · have H := oq_t c9 H
      exact Wp.r_iload_n2 (pc := 57) o_X4_joinedTo rfl rfl (Wp.r_ireturn (pc := 58) o_X4_joinedTo rfl (⟨rfl, H⟩))
    · have H := oq_f c9 H
      exact Wp.r_iconst (pc := 12) o_X4_joinedTo rfl (Wp.r_istore (pc := 13) o_X4_joinedTo rfl (Wp.weak2 [1, 2, 3, 0] (w_X4_joinedTo_b15 (f_X4_joinedTo_b6 n) ih _ _ _ _ _ H) rfl))
noncomputable def f_X4_joinedTo (a1 : Int32) (s : Sg) : Option (Int32 × Sg) :=
  nmx ((1 : Int32) <<< (a1 &&& 31) : Int32) (fun x1 =>
  f_X4_joinedTo_b6 BIG x1 0 s
  )
set_option maxRecDepth 100000 in
theorem w_X4_joinedTo {d : Nat} {s : Sg} {Q : Qt} (a1 : Int32) (H : OQ (f_X4_joinedTo a1 s) (fun r9 s9 => Q (some (.int r9)) s9)) : WpM SHC MT (d + 1) 60 [.ref 25, .int a1] s Q := by
  refine WpM.enter me_X4_joinedTo rfl rfl ?_
  show Y_X4_joinedTo d Q 0 [(0, .ref 25), (1, .int a1)] [] s
  unfold f_X4_joinedTo at H
  refine Wp.r_iconst (pc := 0) o_X4_joinedTo rfl (Wp.r_iload_n1 (pc := 1) o_X4_joinedTo rfl rfl (Wp.r_ishl (pc := 2) o_X4_joinedTo rfl (Wp.r_istore_n2 (pc := 3) o_X4_joinedTo rfl (show Y_X4_joinedTo d Q 4 [(2, .int ((1 : Int32) <<< (a1 &&& 31))), (0, .ref 25), (1, .int a1)] [] s from ?_))))
  revert H
  generalize ((1 : Int32) <<< (a1 &&& 31) : Int32) = x1
  intro H
  have H := nmx_e H
  exact Wp.r_iconst (pc := 4) o_X4_joinedTo rfl (Wp.r_istore_n3 (pc := 5) o_X4_joinedTo rfl (Wp.weak2 [2, 1, 0] (w_X4_joinedTo_b6 _ _ _ _ H) rfl))
noncomputable abbrev Y_X11_chain (d : Nat) (Q : Qt) : Xt := Wp SHC (WpM SHC MT (d + 2)) (flat2 cq_X11_chain) (some .int) Q
noncomputable def f_X11_chain (a1 : Int32) (s : Sg) : Option (Int32 × Sg) :=
  bd (f_X11_isQuarrel a1 s) (fun r1 s2 =>
  if r1 = 0 then
    bd (f_X11_refuse 1 s2) (fun r3 s4 =>
    some (r3, s4)
    )
  else
    bd (f_X4_joinedTo a1 s2) (fun r5 s6 =>
    bd (f_X11_answer r5 s6) (fun r7 s8 =>
    some (r7, s8)
    )
    )
  )
set_option maxRecDepth 100000 in
theorem w_X11_chain {d : Nat} {s : Sg} {Q : Qt} (a1 : Int32) (H : OQ (f_X11_chain a1 s) (fun r9 s9 => Q (some (.int r9)) s9)) : WpM SHC MT (d + 3) 134 [.ref 0, .int a1] s Q := by
  refine WpM.enter me_X11_chain rfl rfl ?_
  show Y_X11_chain d Q 0 [(0, .ref 0), (1, .int a1)] [] s
  unfold f_X11_chain at H
  refine Wp.r_aload_n0 (pc := 0) o_X11_chain rfl rfl (Wp.r_iload_n1 (pc := 1) o_X11_chain rfl rfl (Wp.r_cv2 (pc := 2) o_X11_chain rfl fk_C_0_0 (⟨rm8_ rfl, ?_⟩)))
  refine w_X11_isQuarrel (d := d) _ ?_
  refine oq_bd H (fun r1 s2 H => ?_)
  refine Wp.r_if_ne (pc := 5) o_X11_chain rfl (fun c9 => ?_) (fun c9 => ?_)
  · have H := oq_t c9 H
    refine Wp.f_al0_iconst (pc := 8) o_X11_chain rfl rfl rfl (Wp.r_cv2 (pc := 10) o_X11_chain rfl fk_C_0_0 (⟨rm8_ rfl, ?_⟩))
    refine w_X11_refuse (d := d + 1) _ ?_
    refine oq_bd H (fun r3 s4 H => ?_)
    exact Wp.r_ireturn (pc := 13) o_X11_chain rfl (⟨rfl, H⟩)
  · have H := oq_f c9 H
    refine Wp.r_aload_n0 (pc := 14) o_X11_chain rfl rfl (Wp.f_al0_gfr (pc := 15) o_X11_chain rfl rfl rfl fk_C_0_5 (Wp.r_iload_n1 (pc := 19) o_X11_chain rfl rfl (Wp.r_cv2 (pc := 20) o_X11_chain rfl fk_C_25_0 (⟨rm8_ rfl, ?_⟩))))
    refine w_X4_joinedTo (d := d + 1) _ ?_
    refine oq_bd H (fun r5 s6 H => ?_)
    refine Wp.r_cv2 (pc := 23) o_X11_chain rfl fk_C_0_0 (⟨rm8_ rfl, ?_⟩)
    refine w_X11_answer (d := d + 1) _ ?_
    refine oq_bd H (fun r7 s8 H => ?_)
    exact Wp.r_ireturn (pc := 26) o_X11_chain rfl (⟨rfl, H⟩)
noncomputable abbrev Y_X11_copyRow_67_40 (d : Nat) (Q : Qt) : Xt := Wp SHC (WpM SHC MT (d + 0)) (flat2 cq_X11_copyRow) (none) Q
noncomputable def f_X11_copyRow_67_40  (s : Sg) : Option (Unit × Sg) :=
  ck (¬ (0 : Int32) < 0 ∧ ¬ (0 : Int32) < 0 ∧ ¬ (if 8 < (8 : Int32) then 8 else (8 : Int32)) < 0 ∧ 0 + (if 8 < (8 : Int32) then 8 else (8 : Int32)).toNatClampNeg ≤ 8 ∧ 0 + (if 8 < (8 : Int32) then 8 else (8 : Int32)).toNatClampNeg ≤ 8) (
  some ((), pA s 67 (va_cpy (s.1 40) (s.1 67) 0 0 (if 8 < (8 : Int32) then 8 else (8 : Int32)).toNatClampNeg))
  )
set_option maxRecDepth 100000 in
theorem w_X11_copyRow_67_40 {d : Nat} {s : Sg} {Q : Qt}  (H : OQ (f_X11_copyRow_67_40  s) (fun _ s9 => Q none s9)) : WpM SHC MT (d + 1) 184 [.ref 40, .ref 67] s Q := by
  refine WpM.enter me_X11_copyRow rfl rfl ?_
  show Y_X11_copyRow_67_40 d Q 0 [(0, .ref 40), (1, .ref 67)] [] s
  unfold f_X11_copyRow_67_40 at H
  refine Wp.f_al0_iconst (pc := 0) o_X11_copyRow rfl rfl rfl (Wp.f_al1_iconst (pc := 2) o_X11_copyRow rfl rfl rfl (Wp.f_al0_alen (pc := 4) o_X11_copyRow rfl rfl rfl lk_C_40 (Wp.f_al1_alen (pc := 6) o_X11_copyRow rfl rfl rfl lk_C_67 (Wp.r_min (pc := 8) o_X11_copyRow rfl (⟨rm8_ rfl, ?_⟩)))))
  obtain ⟨c9, H⟩ := oq_ck H
  refine Wp.run 1 (show room8 [] ∧ (¬ (0 : Int32) < 0 ∧ ¬ (0 : Int32) < 0 ∧ ¬ (if 8 < (8 : Int32) then 8 else (8 : Int32)) < 0 ∧ 0 + (if 8 < (8 : Int32) then 8 else (8 : Int32)).toNatClampNeg ≤ 8 ∧ 0 + (if 8 < (8 : Int32) then 8 else (8 : Int32)).toNatClampNeg ≤ 8) ∧ Y_X11_copyRow_67_40 d Q 14 [(0, .ref 40), (1, .ref 67)] [] (pA s 67 (va_cpy (s.1 40) (s.1 67) 0 0 (if 8 < (8 : Int32) then 8 else (8 : Int32)).toNatClampNeg)) from ⟨rm8_ rfl, c9, ?_⟩)
  exact Wp.r_return (pc := 14) o_X11_copyRow rfl (H)
noncomputable abbrev Y_X11_copyRow_68_41 (d : Nat) (Q : Qt) : Xt := Wp SHC (WpM SHC MT (d + 0)) (flat2 cq_X11_copyRow) (none) Q
noncomputable def f_X11_copyRow_68_41  (s : Sg) : Option (Unit × Sg) :=
  ck (¬ (0 : Int32) < 0 ∧ ¬ (0 : Int32) < 0 ∧ ¬ (if 8 < (8 : Int32) then 8 else (8 : Int32)) < 0 ∧ 0 + (if 8 < (8 : Int32) then 8 else (8 : Int32)).toNatClampNeg ≤ 8 ∧ 0 + (if 8 < (8 : Int32) then 8 else (8 : Int32)).toNatClampNeg ≤ 8) (
  some ((), pA s 68 (va_cpy (s.1 41) (s.1 68) 0 0 (if 8 < (8 : Int32) then 8 else (8 : Int32)).toNatClampNeg))
  )
set_option maxRecDepth 100000 in
theorem w_X11_copyRow_68_41 {d : Nat} {s : Sg} {Q : Qt}  (H : OQ (f_X11_copyRow_68_41  s) (fun _ s9 => Q none s9)) : WpM SHC MT (d + 1) 184 [.ref 41, .ref 68] s Q := by
  refine WpM.enter me_X11_copyRow rfl rfl ?_
  show Y_X11_copyRow_68_41 d Q 0 [(0, .ref 41), (1, .ref 68)] [] s
  unfold f_X11_copyRow_68_41 at H
  refine Wp.f_al0_iconst (pc := 0) o_X11_copyRow rfl rfl rfl (Wp.f_al1_iconst (pc := 2) o_X11_copyRow rfl rfl rfl (Wp.f_al0_alen (pc := 4) o_X11_copyRow rfl rfl rfl lk_C_41 (Wp.f_al1_alen (pc := 6) o_X11_copyRow rfl rfl rfl lk_C_68 (Wp.r_min (pc := 8) o_X11_copyRow rfl (⟨rm8_ rfl, ?_⟩)))))
  obtain ⟨c9, H⟩ := oq_ck H
  refine Wp.run 1 (show room8 [] ∧ (¬ (0 : Int32) < 0 ∧ ¬ (0 : Int32) < 0 ∧ ¬ (if 8 < (8 : Int32) then 8 else (8 : Int32)) < 0 ∧ 0 + (if 8 < (8 : Int32) then 8 else (8 : Int32)).toNatClampNeg ≤ 8 ∧ 0 + (if 8 < (8 : Int32) then 8 else (8 : Int32)).toNatClampNeg ≤ 8) ∧ Y_X11_copyRow_68_41 d Q 14 [(0, .ref 41), (1, .ref 68)] [] (pA s 68 (va_cpy (s.1 41) (s.1 68) 0 0 (if 8 < (8 : Int32) then 8 else (8 : Int32)).toNatClampNeg)) from ⟨rm8_ rfl, c9, ?_⟩)
  exact Wp.r_return (pc := 14) o_X11_copyRow rfl (H)
noncomputable abbrev Y_X11_copyRow_69_42 (d : Nat) (Q : Qt) : Xt := Wp SHC (WpM SHC MT (d + 0)) (flat2 cq_X11_copyRow) (none) Q
noncomputable def f_X11_copyRow_69_42  (s : Sg) : Option (Unit × Sg) :=
  ck (¬ (0 : Int32) < 0 ∧ ¬ (0 : Int32) < 0 ∧ ¬ (if 8 < (8 : Int32) then 8 else (8 : Int32)) < 0 ∧ 0 + (if 8 < (8 : Int32) then 8 else (8 : Int32)).toNatClampNeg ≤ 8 ∧ 0 + (if 8 < (8 : Int32) then 8 else (8 : Int32)).toNatClampNeg ≤ 8) (
  some ((), pA s 69 (va_cpy (s.1 42) (s.1 69) 0 0 (if 8 < (8 : Int32) then 8 else (8 : Int32)).toNatClampNeg))
  )
set_option maxRecDepth 100000 in
theorem w_X11_copyRow_69_42 {d : Nat} {s : Sg} {Q : Qt}  (H : OQ (f_X11_copyRow_69_42  s) (fun _ s9 => Q none s9)) : WpM SHC MT (d + 1) 184 [.ref 42, .ref 69] s Q := by
  refine WpM.enter me_X11_copyRow rfl rfl ?_
  show Y_X11_copyRow_69_42 d Q 0 [(0, .ref 42), (1, .ref 69)] [] s
  unfold f_X11_copyRow_69_42 at H
  refine Wp.f_al0_iconst (pc := 0) o_X11_copyRow rfl rfl rfl (Wp.f_al1_iconst (pc := 2) o_X11_copyRow rfl rfl rfl (Wp.f_al0_alen (pc := 4) o_X11_copyRow rfl rfl rfl lk_C_42 (Wp.f_al1_alen (pc := 6) o_X11_copyRow rfl rfl rfl lk_C_69 (Wp.r_min (pc := 8) o_X11_copyRow rfl (⟨rm8_ rfl, ?_⟩)))))
  obtain ⟨c9, H⟩ := oq_ck H
  refine Wp.run 1 (show room8 [] ∧ (¬ (0 : Int32) < 0 ∧ ¬ (0 : Int32) < 0 ∧ ¬ (if 8 < (8 : Int32) then 8 else (8 : Int32)) < 0 ∧ 0 + (if 8 < (8 : Int32) then 8 else (8 : Int32)).toNatClampNeg ≤ 8 ∧ 0 + (if 8 < (8 : Int32) then 8 else (8 : Int32)).toNatClampNeg ≤ 8) ∧ Y_X11_copyRow_69_42 d Q 14 [(0, .ref 42), (1, .ref 69)] [] (pA s 69 (va_cpy (s.1 42) (s.1 69) 0 0 (if 8 < (8 : Int32) then 8 else (8 : Int32)).toNatClampNeg)) from ⟨rm8_ rfl, c9, ?_⟩)
  exact Wp.r_return (pc := 14) o_X11_copyRow rfl (H)
noncomputable abbrev Y_X11_copyRow_70_43 (d : Nat) (Q : Qt) : Xt := Wp SHC (WpM SHC MT (d + 0)) (flat2 cq_X11_copyRow) (none) Q
noncomputable def f_X11_copyRow_70_43  (s : Sg) : Option (Unit × Sg) :=
  ck (¬ (0 : Int32) < 0 ∧ ¬ (0 : Int32) < 0 ∧ ¬ (if 8 < (8 : Int32) then 8 else (8 : Int32)) < 0 ∧ 0 + (if 8 < (8 : Int32) then 8 else (8 : Int32)).toNatClampNeg ≤ 8 ∧ 0 + (if 8 < (8 : Int32) then 8 else (8 : Int32)).toNatClampNeg ≤ 8) (
  some ((), pA s 70 (va_cpy (s.1 43) (s.1 70) 0 0 (if 8 < (8 : Int32) then 8 else (8 : Int32)).toNatClampNeg))
  )
set_option maxRecDepth 100000 in
theorem w_X11_copyRow_70_43 {d : Nat} {s : Sg} {Q : Qt}  (H : OQ (f_X11_copyRow_70_43  s) (fun _ s9 => Q none s9)) : WpM SHC MT (d + 1) 184 [.ref 43, .ref 70] s Q := by
  refine WpM.enter me_X11_copyRow rfl rfl ?_
  show Y_X11_copyRow_70_43 d Q 0 [(0, .ref 43), (1, .ref 70)] [] s
  unfold f_X11_copyRow_70_43 at H
  refine Wp.f_al0_iconst (pc := 0) o_X11_copyRow rfl rfl rfl (Wp.f_al1_iconst (pc := 2) o_X11_copyRow rfl rfl rfl (Wp.f_al0_alen (pc := 4) o_X11_copyRow rfl rfl rfl lk_C_43 (Wp.f_al1_alen (pc := 6) o_X11_copyRow rfl rfl rfl lk_C_70 (Wp.r_min (pc := 8) o_X11_copyRow rfl (⟨rm8_ rfl, ?_⟩)))))
  obtain ⟨c9, H⟩ := oq_ck H
  refine Wp.run 1 (show room8 [] ∧ (¬ (0 : Int32) < 0 ∧ ¬ (0 : Int32) < 0 ∧ ¬ (if 8 < (8 : Int32) then 8 else (8 : Int32)) < 0 ∧ 0 + (if 8 < (8 : Int32) then 8 else (8 : Int32)).toNatClampNeg ≤ 8 ∧ 0 + (if 8 < (8 : Int32) then 8 else (8 : Int32)).toNatClampNeg ≤ 8) ∧ Y_X11_copyRow_70_43 d Q 14 [(0, .ref 43), (1, .ref 70)] [] (pA s 70 (va_cpy (s.1 43) (s.1 70) 0 0 (if 8 < (8 : Int32) then 8 else (8 : Int32)).toNatClampNeg)) from ⟨rm8_ rfl, c9, ?_⟩)
  exact Wp.r_return (pc := 14) o_X11_copyRow rfl (H)
noncomputable abbrev Y_X11_copyRow_71_44 (d : Nat) (Q : Qt) : Xt := Wp SHC (WpM SHC MT (d + 0)) (flat2 cq_X11_copyRow) (none) Q
noncomputable def f_X11_copyRow_71_44  (s : Sg) : Option (Unit × Sg) :=
  ck (¬ (0 : Int32) < 0 ∧ ¬ (0 : Int32) < 0 ∧ ¬ (if 4 < (4 : Int32) then 4 else (4 : Int32)) < 0 ∧ 0 + (if 4 < (4 : Int32) then 4 else (4 : Int32)).toNatClampNeg ≤ 4 ∧ 0 + (if 4 < (4 : Int32) then 4 else (4 : Int32)).toNatClampNeg ≤ 4) (
  some ((), pA s 71 (va_cpy (s.1 44) (s.1 71) 0 0 (if 4 < (4 : Int32) then 4 else (4 : Int32)).toNatClampNeg))
  )
set_option maxRecDepth 100000 in
theorem w_X11_copyRow_71_44 {d : Nat} {s : Sg} {Q : Qt}  (H : OQ (f_X11_copyRow_71_44  s) (fun _ s9 => Q none s9)) : WpM SHC MT (d + 1) 184 [.ref 44, .ref 71] s Q := by
  refine WpM.enter me_X11_copyRow rfl rfl ?_
  show Y_X11_copyRow_71_44 d Q 0 [(0, .ref 44), (1, .ref 71)] [] s
  unfold f_X11_copyRow_71_44 at H
  refine Wp.f_al0_iconst (pc := 0) o_X11_copyRow rfl rfl rfl (Wp.f_al1_iconst (pc := 2) o_X11_copyRow rfl rfl rfl (Wp.f_al0_alen (pc := 4) o_X11_copyRow rfl rfl rfl lk_C_44 (Wp.f_al1_alen (pc := 6) o_X11_copyRow rfl rfl rfl lk_C_71 (Wp.r_min (pc := 8) o_X11_copyRow rfl (⟨rm8_ rfl, ?_⟩)))))
  obtain ⟨c9, H⟩ := oq_ck H
  refine Wp.run 1 (show room8 [] ∧ (¬ (0 : Int32) < 0 ∧ ¬ (0 : Int32) < 0 ∧ ¬ (if 4 < (4 : Int32) then 4 else (4 : Int32)) < 0 ∧ 0 + (if 4 < (4 : Int32) then 4 else (4 : Int32)).toNatClampNeg ≤ 4 ∧ 0 + (if 4 < (4 : Int32) then 4 else (4 : Int32)).toNatClampNeg ≤ 4) ∧ Y_X11_copyRow_71_44 d Q 14 [(0, .ref 44), (1, .ref 71)] [] (pA s 71 (va_cpy (s.1 44) (s.1 71) 0 0 (if 4 < (4 : Int32) then 4 else (4 : Int32)).toNatClampNeg)) from ⟨rm8_ rfl, c9, ?_⟩)
  exact Wp.r_return (pc := 14) o_X11_copyRow rfl (H)
noncomputable abbrev Y_X2_copyFrom_26_53 (d : Nat) (Q : Qt) : Xt := Wp SHC (WpM SHC MT (d + 1)) (flat2 cq_X2_copyFrom) (none) Q
noncomputable def f_X2_copyFrom_26_53  (s : Sg) : Option (Unit × Sg) :=
  bd (f_X11_copyRow_67_40 s) (fun _ s2 =>
  bd (f_X11_copyRow_68_41 s2) (fun _ s4 =>
  bd (f_X11_copyRow_69_42 s4) (fun _ s6 =>
  bd (f_X11_copyRow_70_43 s6) (fun _ s8 =>
  bd (f_X11_copyRow_71_44 s8) (fun _ s10 =>
  nmx (pI (pI s10 53 5 (s10.1 26 5)) 53 6 ((pI s10 53 5 (s10.1 26 5)).1 26 6)) (fun s11 =>
  ck ((s11.1 26 7) = 0 ∨ (s11.1 26 7) = 1) (
  nmx (pI (pI s11 53 7 (s11.1 26 7)) 53 8 ((pI s11 53 7 (s11.1 26 7)).1 26 8)) (fun s13 =>
  nmx (pI (pI s13 53 9 (s13.1 26 9)) 53 10 ((pI s13 53 9 (s13.1 26 9)).1 26 10)) (fun s14 =>
  nmx (pI (pI s14 53 11 (s14.1 26 11)) 53 12 ((pI s14 53 11 (s14.1 26 11)).1 26 12)) (fun s15 =>
  some ((), s15)
  )
  )
  )
  )
  )
  )
  )
  )
  )
  )
set_option maxRecDepth 100000 in
theorem w_X2_copyFrom_26_53 {d : Nat} {s : Sg} {Q : Qt}  (H : OQ (f_X2_copyFrom_26_53  s) (fun _ s9 => Q none s9)) : WpM SHC MT (d + 2) 21 [.ref 53, .ref 26] s Q := by
  refine WpM.enter me_X2_copyFrom rfl rfl ?_
  show Y_X2_copyFrom_26_53 d Q 0 [(0, .ref 53), (1, .ref 26)] [] s
  unfold f_X2_copyFrom_26_53 at H
  refine Wp.f_al1_gfr (pc := 0) o_X2_copyFrom rfl rfl rfl fk_C_26_0 (Wp.f_al0_gfr (pc := 4) o_X2_copyFrom rfl rfl rfl fk_C_53_0 (Wp.r_cs2 (pc := 8) o_X2_copyFrom rfl (⟨rm8_ rfl, ?_⟩)))
  refine w_X11_copyRow_67_40 (d := d)  ?_
  refine oq_bd H (fun _ s2 H => ?_)
  refine Wp.f_al1_gfr (pc := 11) o_X2_copyFrom rfl rfl rfl fk_C_26_1 (Wp.f_al0_gfr (pc := 15) o_X2_copyFrom rfl rfl rfl fk_C_53_1 (Wp.r_cs2 (pc := 19) o_X2_copyFrom rfl (⟨rm8_ rfl, ?_⟩)))
  refine w_X11_copyRow_68_41 (d := d)  ?_
  refine oq_bd H (fun _ s4 H => ?_)
  refine Wp.f_al1_gfr (pc := 22) o_X2_copyFrom rfl rfl rfl fk_C_26_2 (Wp.f_al0_gfr (pc := 26) o_X2_copyFrom rfl rfl rfl fk_C_53_2 (Wp.r_cs2 (pc := 30) o_X2_copyFrom rfl (⟨rm8_ rfl, ?_⟩)))
  refine w_X11_copyRow_69_42 (d := d)  ?_
  refine oq_bd H (fun _ s6 H => ?_)
  refine Wp.f_al1_gfr (pc := 33) o_X2_copyFrom rfl rfl rfl fk_C_26_3 (Wp.f_al0_gfr (pc := 37) o_X2_copyFrom rfl rfl rfl fk_C_53_3 (Wp.r_cs2 (pc := 41) o_X2_copyFrom rfl (⟨rm8_ rfl, ?_⟩)))
  refine w_X11_copyRow_70_43 (d := d)  ?_
  refine oq_bd H (fun _ s8 H => ?_)
  refine Wp.f_al1_gfr (pc := 44) o_X2_copyFrom rfl rfl rfl fk_C_26_4 (Wp.f_al0_gfr (pc := 48) o_X2_copyFrom rfl rfl rfl fk_C_53_4 (Wp.r_cs2 (pc := 52) o_X2_copyFrom rfl (⟨rm8_ rfl, ?_⟩)))
  refine w_X11_copyRow_71_44 (d := d)  ?_
  refine oq_bd H (fun _ s10 H => ?_)
  refine Wp.r_aload_n0 (pc := 55) o_X2_copyFrom rfl rfl (Wp.f_al1_gfi (pc := 56) o_X2_copyFrom rfl rfl rfl fk_C_26_5 (Wp.r_pfi (pc := 60) o_X2_copyFrom rfl fk_C_53_5 (Wp.r_aload_n0 (pc := 63) o_X2_copyFrom rfl rfl (Wp.f_al1_gfi (pc := 64) o_X2_copyFrom rfl rfl rfl fk_C_26_6 (Wp.r_pfi (pc := 68) o_X2_copyFrom rfl fk_C_53_6 (show Y_X2_copyFrom_26_53 d Q 71 [(0, .ref 53), (1, .ref 26)] [] (pI (pI s10 53 5 (s10.1 26 5)) 53 6 ((pI s10 53 5 (s10.1 26 5)).1 26 6)) from ?_))))))
  revert H
  generalize pI (pI s10 53 5 (s10.1 26 5)) 53 6 ((pI s10 53 5 (s10.1 26 5)).1 26 6) = s11
  intro H
  have H := nmx_e H
  obtain ⟨hc12, H⟩ := oq_ck H
  refine Wp.r_aload_n0 (pc := 71) o_X2_copyFrom rfl rfl (Wp.f_al1_gfi (pc := 72) o_X2_copyFrom rfl rfl rfl fk_C_26_7 (Wp.r_pfz (pc := 76) o_X2_copyFrom rfl fk_C_53_7 (⟨hc12, ?_⟩)))
  refine Wp.r_aload_n0 (pc := 79) o_X2_copyFrom rfl rfl (Wp.f_al1_gfi (pc := 80) o_X2_copyFrom rfl rfl rfl fk_C_26_8 (Wp.r_pfi (pc := 84) o_X2_copyFrom rfl fk_C_53_8 (show Y_X2_copyFrom_26_53 d Q 87 [(0, .ref 53), (1, .ref 26)] [] (pI (pI s11 53 7 (s11.1 26 7)) 53 8 ((pI s11 53 7 (s11.1 26 7)).1 26 8)) from ?_)))
  revert H
  generalize pI (pI s11 53 7 (s11.1 26 7)) 53 8 ((pI s11 53 7 (s11.1 26 7)).1 26 8) = s13
  intro H
  have H := nmx_e H
  refine Wp.r_aload_n0 (pc := 87) o_X2_copyFrom rfl rfl (Wp.f_al1_gfi (pc := 88) o_X2_copyFrom rfl rfl rfl fk_C_26_9 (Wp.r_pfi (pc := 92) o_X2_copyFrom rfl fk_C_53_9 (Wp.r_aload_n0 (pc := 95) o_X2_copyFrom rfl rfl (Wp.f_al1_gfi (pc := 96) o_X2_copyFrom rfl rfl rfl fk_C_26_10 (Wp.r_pfi (pc := 100) o_X2_copyFrom rfl fk_C_53_10 (show Y_X2_copyFrom_26_53 d Q 103 [(0, .ref 53), (1, .ref 26)] [] (pI (pI s13 53 9 (s13.1 26 9)) 53 10 ((pI s13 53 9 (s13.1 26 9)).1 26 10)) from ?_))))))
  revert H
  generalize pI (pI s13 53 9 (s13.1 26 9)) 53 10 ((pI s13 53 9 (s13.1 26 9)).1 26 10) = s14
  intro H
  have H := nmx_e H
  refine Wp.r_aload_n0 (pc := 103) o_X2_copyFrom rfl rfl (Wp.f_al1_gfi (pc := 104) o_X2_copyFrom rfl rfl rfl fk_C_26_11 (Wp.r_pfi (pc := 108) o_X2_copyFrom rfl fk_C_53_11 (Wp.r_aload_n0 (pc := 111) o_X2_copyFrom rfl rfl (Wp.f_al1_gfi (pc := 112) o_X2_copyFrom rfl rfl rfl fk_C_26_12 (Wp.r_pfi (pc := 116) o_X2_copyFrom rfl fk_C_53_12 (show Y_X2_copyFrom_26_53 d Q 119 [(0, .ref 53), (1, .ref 26)] [] (pI (pI s14 53 11 (s14.1 26 11)) 53 12 ((pI s14 53 11 (s14.1 26 11)).1 26 12)) from ?_))))))
  revert H
  generalize pI (pI s14 53 11 (s14.1 26 11)) 53 12 ((pI s14 53 11 (s14.1 26 11)).1 26 12) = s15
  intro H
  have H := nmx_e H
  exact Wp.r_return (pc := 119) o_X2_copyFrom rfl (H)
noncomputable abbrev Y_X2_carry_53 (d : Nat) (Q : Qt) : Xt := Wp SHC (WpM SHC MT (d + 0)) (flat2 cq_X2_carry) (some .int) Q
noncomputable def f_X2_carry_53 (a1 : Int32) (a2 : Int32) (a3 : Int32) (s : Sg) : Option (Int32 × Sg) :=
  ck (inr a1 8) (
  nmx (if (s.1 67 a1.toNatClampNeg) < a3 then (s.1 67 a1.toNatClampNeg) else a3 : Int32) (fun x2 =>
  nmx (if (s.1 68 a1.toNatClampNeg) < (a3 - x2) then (s.1 68 a1.toNatClampNeg) else (a3 - x2) : Int32) (fun x3 =>
  nmx (pI s 67 a1.toNatClampNeg ((s.1 67 a1.toNatClampNeg) - x2)) (fun s4 =>
  nmx (pI s4 68 a1.toNatClampNeg ((s4.1 68 a1.toNatClampNeg) - x3)) (fun s5 =>
  ck (inr a2 8) (
  nmx (pI s5 67 a2.toNatClampNeg ((s5.1 67 a2.toNatClampNeg) + x2)) (fun s7 =>
  nmx (pI s7 68 a2.toNatClampNeg ((s7.1 68 a2.toNatClampNeg) + x3)) (fun s8 =>
  some (x2, s8)
  )
  )
  )
  )
  )
  )
  )
  )
set_option maxRecDepth 100000 in
theorem w_X2_carry_53 {d : Nat} {s : Sg} {Q : Qt} (a1 : Int32) (a2 : Int32) (a3 : Int32) (H : OQ (f_X2_carry_53 a1 a2 a3 s) (fun r9 s9 => Q (some (.int r9)) s9)) : WpM SHC MT (d + 1) 31 [.ref 53, .int a1, .int a2, .int a3] s Q := by
  refine WpM.enter me_X2_carry rfl rfl ?_
  show Y_X2_carry_53 d Q 0 [(0, .ref 53), (1, .int a1), (2, .int a2), (3, .int a3)] [] s
  unfold f_X2_carry_53 at H
  obtain ⟨hc1, H⟩ := oq_ck H
  refine Wp.r_iload_n3 (pc := 0) o_X2_carry rfl rfl (Wp.f_al0_gfr (pc := 1) o_X2_carry rfl rfl rfl fk_C_53_0 (Wp.r_iload_n1 (pc := 5) o_X2_carry rfl rfl (Wp.r_iaload (pc := 6) o_X2_carry rfl ak_C_67 (⟨hc1, ?_⟩))))
  refine Wp.r_min (pc := 7) o_X2_carry rfl (⟨rm8_ rfl, ?_⟩)
  refine Wp.r_istore (pc := 10) o_X2_carry rfl (show Y_X2_carry_53 d Q 12 [(4, .int (if (s.1 67 a1.toNatClampNeg) < a3 then (s.1 67 a1.toNatClampNeg) else a3)), (0, .ref 53), (1, .int a1), (2, .int a2), (3, .int a3)] [] s from ?_)
  revert H
  generalize (if (s.1 67 a1.toNatClampNeg) < a3 then (s.1 67 a1.toNatClampNeg) else a3 : Int32) = x2
  intro H
  have H := nmx_e H
  refine Wp.r_iload_n3 (pc := 12) o_X2_carry rfl rfl (Wp.r_iload (pc := 13) o_X2_carry rfl rfl (Wp.r_isub (pc := 15) o_X2_carry rfl (Wp.f_al0_gfr (pc := 16) o_X2_carry rfl rfl rfl fk_C_53_1 (Wp.r_iload_n1 (pc := 20) o_X2_carry rfl rfl (Wp.r_iaload (pc := 21) o_X2_carry rfl ak_C_68 (⟨hc1, ?_⟩))))))
  refine Wp.r_min (pc := 22) o_X2_carry rfl (⟨rm8_ rfl, ?_⟩)
  refine Wp.r_istore (pc := 25) o_X2_carry rfl (show Y_X2_carry_53 d Q 27 [(5, .int (if (s.1 68 a1.toNatClampNeg) < (a3 - x2) then (s.1 68 a1.toNatClampNeg) else (a3 - x2))), (4, .int x2), (0, .ref 53), (1, .int a1), (2, .int a2), (3, .int a3)] [] s from ?_)
  revert H
  generalize (if (s.1 68 a1.toNatClampNeg) < (a3 - x2) then (s.1 68 a1.toNatClampNeg) else (a3 - x2) : Int32) = x3
  intro H
  have H := nmx_e H
  refine Wp.f_al0_gfr (pc := 27) o_X2_carry rfl rfl rfl fk_C_53_0 (Wp.r_iload_n1 (pc := 31) o_X2_carry rfl rfl (Wp.r_dup2 (pc := 32) o_X2_carry rfl (Wp.r_iaload (pc := 33) o_X2_carry rfl ak_C_67 (⟨hc1, ?_⟩))))
  refine Wp.r_iload (pc := 34) o_X2_carry rfl rfl (Wp.r_isub (pc := 36) o_X2_carry rfl (Wp.r_iastore (pc := 37) o_X2_carry rfl ak_C_67 (⟨hc1, ?_⟩)))
  revert H
  generalize pI s 67 a1.toNatClampNeg ((s.1 67 a1.toNatClampNeg) - x2) = s4
  intro H
  have H := nmx_e H
  refine Wp.f_al0_gfr (pc := 38) o_X2_carry rfl rfl rfl fk_C_53_1 (Wp.r_iload_n1 (pc := 42) o_X2_carry rfl rfl (Wp.r_dup2 (pc := 43) o_X2_carry rfl (Wp.r_iaload (pc := 44) o_X2_carry rfl ak_C_68 (⟨hc1, ?_⟩))))
  refine Wp.r_iload (pc := 45) o_X2_carry rfl rfl (Wp.r_isub (pc := 47) o_X2_carry rfl (Wp.r_iastore (pc := 48) o_X2_carry rfl ak_C_68 (⟨hc1, ?_⟩)))
  revert H
  generalize pI s4 68 a1.toNatClampNeg ((s4.1 68 a1.toNatClampNeg) - x3) = s5
  intro H
  have H := nmx_e H
  obtain ⟨hc6, H⟩ := oq_ck H
  refine Wp.f_al0_gfr (pc := 49) o_X2_carry rfl rfl rfl fk_C_53_0 (Wp.r_iload_n2 (pc := 53) o_X2_carry rfl rfl (Wp.r_dup2 (pc := 54) o_X2_carry rfl (Wp.r_iaload (pc := 55) o_X2_carry rfl ak_C_67 (⟨hc6, ?_⟩))))
  refine Wp.r_iload (pc := 56) o_X2_carry rfl rfl (Wp.r_iadd (pc := 58) o_X2_carry rfl (Wp.r_iastore (pc := 59) o_X2_carry rfl ak_C_67 (⟨hc6, ?_⟩)))
  revert H
  generalize pI s5 67 a2.toNatClampNeg ((s5.1 67 a2.toNatClampNeg) + x2) = s7
  intro H
  have H := nmx_e H
  refine Wp.f_al0_gfr (pc := 60) o_X2_carry rfl rfl rfl fk_C_53_1 (Wp.r_iload_n2 (pc := 64) o_X2_carry rfl rfl (Wp.r_dup2 (pc := 65) o_X2_carry rfl (Wp.r_iaload (pc := 66) o_X2_carry rfl ak_C_68 (⟨hc6, ?_⟩))))
  refine Wp.r_iload (pc := 67) o_X2_carry rfl rfl (Wp.r_iadd (pc := 69) o_X2_carry rfl (Wp.r_iastore (pc := 70) o_X2_carry rfl ak_C_68 (⟨hc6, ?_⟩)))
  revert H
  generalize pI s7 68 a2.toNatClampNeg ((s7.1 68 a2.toNatClampNeg) + x3) = s8
  intro H
  have H := nmx_e H
  exact Wp.r_iload (pc := 71) o_X2_carry rfl rfl (Wp.r_ireturn (pc := 73) o_X2_carry rfl (⟨rfl, H⟩))
noncomputable abbrev Y_X2_sendCats_25_53 (d : Nat) (Q : Qt) : Xt := Wp SHC (WpM SHC MT (d + 1)) (flat2 cq_X2_sendCats) (none) Q
noncomputable def f_X2_sendCats_25_53_b2 : Nat → Int32 → Sg → Option (Unit × Sg)
  | 0, _, _ => none
  | n + 1, v2, s =>
    if (s.1 25 15) ≤ v2 then
      some ((), s)
    else
      ck (inr v2 4) (
      ck (inr (s.1 35 v2.toNatClampNeg) 8) (
      if (s.1 69 ((s.1 35 v2.toNatClampNeg).toNatClampNeg)) = 0 then
        bd (f_X2_carry_53 (s.1 35 v2.toNatClampNeg) (s.1 36 v2.toNatClampNeg) (s.1 37 v2.toNatClampNeg) s) (fun r3 s4 =>
        (f_X2_sendCats_25_53_b2 n) (v2 + 1) s4
        )
      else
        (f_X2_sendCats_25_53_b2 n) (v2 + 1) s
      )
      )
set_option maxRecDepth 100000 in
theorem w_X2_sendCats_25_53_b2 {d : Nat} {Q : Qt} (n : Nat) : ∀ (v2 : Int32) (s : Sg), OQ (f_X2_sendCats_25_53_b2 n v2 s) (fun _ s9 => Q none s9) → Y_X2_sendCats_25_53 d Q 2 [(0, .ref 53), (1, .ref 25), (2, .int v2)] [] s := by
  induction n with
  | zero => intro v2 s H; exact H.elim
  | succ n ih =>
    intro v2 s H
    unfold f_X2_sendCats_25_53_b2 at H
    refine Wp.r_iload_n2 (pc := 2) o_X2_sendCats rfl rfl (Wp.f_al1_gfi (pc := 3) o_X2_sendCats rfl rfl rfl fk_C_25_15 (Wp.r_icmp_ge (pc := 7) o_X2_sendCats rfl (fun c9 => ?_) (fun c9 => ?_)))
    · have H := oq_t c9 H
      exact Wp.r_return (pc := 53) o_X2_sendCats rfl (H)
    · have H := oq_f c9 H
      obtain ⟨hc1, H⟩ := oq_ck H
      refine Wp.f_al0_gfr (pc := 10) o_X2_sendCats rfl rfl rfl fk_C_53_2 (Wp.f_al1_gfr (pc := 14) o_X2_sendCats rfl rfl rfl fk_C_25_7 (Wp.r_iload_n2 (pc := 18) o_X2_sendCats rfl rfl (Wp.r_iaload (pc := 19) o_X2_sendCats rfl ak_C_35 (⟨hc1, ?_⟩))))
      obtain ⟨hc2, H⟩ := oq_ck H
      refine Wp.r_iaload (pc := 20) o_X2_sendCats rfl ak_C_69 (⟨hc2, ?_⟩)
      refine Wp.r_if_ne (pc := 21) o_X2_sendCats rfl (fun c9 => ?_) (fun c9 => ?_)
      · have H := oq_t c9 H
        refine Wp.r_aload_n0 (pc := 24) o_X2_sendCats rfl rfl (Wp.f_al1_gfr (pc := 25) o_X2_sendCats rfl rfl rfl fk_C_25_7 (Wp.r_iload_n2 (pc := 29) o_X2_sendCats rfl rfl (Wp.r_iaload (pc := 30) o_X2_sendCats rfl ak_C_35 (⟨hc1, ?_⟩))))
        refine Wp.f_al1_gfr (pc := 31) o_X2_sendCats rfl rfl rfl fk_C_25_8 (Wp.r_iload_n2 (pc := 35) o_X2_sendCats rfl rfl (Wp.r_iaload (pc := 36) o_X2_sendCats rfl ak_C_36 (⟨hc1, ?_⟩)))
        refine Wp.f_al1_gfr (pc := 37) o_X2_sendCats rfl rfl rfl fk_C_25_9 (Wp.r_iload_n2 (pc := 41) o_X2_sendCats rfl rfl (Wp.r_iaload (pc := 42) o_X2_sendCats rfl ak_C_37 (⟨hc1, ?_⟩)))
        refine Wp.r_cv4 (pc := 43) o_X2_sendCats rfl fk_C_53_0 (⟨rm8_ rfl, ?_⟩)
        refine w_X2_carry_53 (d := d) _ _ _ ?_
        refine oq_bd H (fun r3 s4 H => ?_)
        exact Wp.r_pop_i (pc := 46) o_X2_sendCats rfl (Wp.f_iinc_goto (pc := 47) o_X2_sendCats rfl rfl rfl (Wp.weak2 [1, 2, 0] (ih _ _ H) rfl))
      · have H := oq_f c9 H
        exact Wp.f_iinc_goto (pc := 47) o_X2_sendCats rfl rfl rfl (Wp.weak2 [1, 2, 0] (ih _ _ H) rfl)
noncomputable def f_X2_sendCats_25_53  (s : Sg) : Option (Unit × Sg) :=
  f_X2_sendCats_25_53_b2 BIG 0 s
set_option maxRecDepth 100000 in
theorem w_X2_sendCats_25_53 {d : Nat} {s : Sg} {Q : Qt}  (H : OQ (f_X2_sendCats_25_53  s) (fun _ s9 => Q none s9)) : WpM SHC MT (d + 2) 35 [.ref 53, .ref 25] s Q := by
  refine WpM.enter me_X2_sendCats rfl rfl ?_
  show Y_X2_sendCats_25_53 d Q 0 [(0, .ref 53), (1, .ref 25)] [] s
  unfold f_X2_sendCats_25_53 at H
  exact Wp.r_iconst (pc := 0) o_X2_sendCats rfl (Wp.r_istore_n2 (pc := 1) o_X2_sendCats rfl (Wp.weak2 [1, 2, 0] (w_X2_sendCats_25_53_b2 _ _ _ H) rfl))
noncomputable abbrev Y_X2_meltSnow_25_53 (d : Nat) (Q : Qt) : Xt := Wp SHC (WpM SHC MT (d + 0)) (flat2 cq_X2_meltSnow) (none) Q
noncomputable def f_X2_meltSnow_25_53_b2 : Nat → Int32 → Sg → Option (Unit × Sg)
  | 0, _, _ => none
  | n + 1, v2, s =>
    if (s.1 25 13) ≤ v2 then
      some ((), s)
    else
      ck (inr v2 8) (
      nmx (if (s.1 69 v2.toNatClampNeg) < (s.1 67 v2.toNatClampNeg) then (s.1 69 v2.toNatClampNeg) else (s.1 67 v2.toNatClampNeg) : Int32) (fun x2 =>
      nmx (pI s 67 v2.toNatClampNeg ((s.1 67 v2.toNatClampNeg) - x2)) (fun s3 =>
      nmx (pI s3 69 v2.toNatClampNeg ((s3.1 69 v2.toNatClampNeg) - x2)) (fun s4 =>
      nmx (pI s4 53 12 ((s4.1 53 12) + x2)) (fun s5 =>
      (f_X2_meltSnow_25_53_b2 n) (v2 + 1) s5
      )
      )
      )
      )
      )
set_option maxRecDepth 100000 in
theorem w_X2_meltSnow_25_53_b2 {d : Nat} {Q : Qt} (n : Nat) : ∀ (v2 : Int32) (s : Sg), OQ (f_X2_meltSnow_25_53_b2 n v2 s) (fun _ s9 => Q none s9) → Y_X2_meltSnow_25_53 d Q 2 [(0, .ref 53), (1, .ref 25), (2, .int v2)] [] s := by
  induction n with
  | zero => intro v2 s H; exact H.elim
  | succ n ih =>
    intro v2 s H
    unfold f_X2_meltSnow_25_53_b2 at H
    refine Wp.r_iload_n2 (pc := 2) o_X2_meltSnow rfl rfl (Wp.f_al1_gfi (pc := 3) o_X2_meltSnow rfl rfl rfl fk_C_25_13 (Wp.r_icmp_ge (pc := 7) o_X2_meltSnow rfl (fun c9 => ?_) (fun c9 => ?_)))
    · have H := oq_t c9 H
      exact Wp.r_return (pc := 62) o_X2_meltSnow rfl (H)
    · have H := oq_f c9 H
      obtain ⟨hc1, H⟩ := oq_ck H
      refine Wp.f_al0_gfr (pc := 10) o_X2_meltSnow rfl rfl rfl fk_C_53_0 (Wp.r_iload_n2 (pc := 14) o_X2_meltSnow rfl rfl (Wp.r_iaload (pc := 15) o_X2_meltSnow rfl ak_C_67 (⟨hc1, ?_⟩)))
      refine Wp.f_al0_gfr (pc := 16) o_X2_meltSnow rfl rfl rfl fk_C_53_2 (Wp.r_iload_n2 (pc := 20) o_X2_meltSnow rfl rfl (Wp.r_iaload (pc := 21) o_X2_meltSnow rfl ak_C_69 (⟨hc1, ?_⟩)))
      refine Wp.r_min (pc := 22) o_X2_meltSnow rfl (⟨rm8_ rfl, ?_⟩)
      refine Wp.r_istore_n3 (pc := 25) o_X2_meltSnow rfl (show Y_X2_meltSnow_25_53 d Q 26 [(3, .int (if (s.1 69 v2.toNatClampNeg) < (s.1 67 v2.toNatClampNeg) then (s.1 69 v2.toNatClampNeg) else (s.1 67 v2.toNatClampNeg))), (0, .ref 53), (1, .ref 25), (2, .int v2)] [] s from ?_)
      revert H
      generalize (if (s.1 69 v2.toNatClampNeg) < (s.1 67 v2.toNatClampNeg) then (s.1 69 v2.toNatClampNeg) else (s.1 67 v2.toNatClampNeg) : Int32) = x2
      intro H
      have H := nmx_e H
      refine Wp.f_al0_gfr (pc := 26) o_X2_meltSnow rfl rfl rfl fk_C_53_0 (Wp.r_iload_n2 (pc := 30) o_X2_meltSnow rfl rfl (Wp.r_dup2 (pc := 31) o_X2_meltSnow rfl (Wp.r_iaload (pc := 32) o_X2_meltSnow rfl ak_C_67 (⟨hc1, ?_⟩))))
      refine Wp.r_iload_n3 (pc := 33) o_X2_meltSnow rfl rfl (Wp.r_isub (pc := 34) o_X2_meltSnow rfl (Wp.r_iastore (pc := 35) o_X2_meltSnow rfl ak_C_67 (⟨hc1, ?_⟩)))
      revert H
      generalize pI s 67 v2.toNatClampNeg ((s.1 67 v2.toNatClampNeg) - x2) = s3
      intro H
      have H := nmx_e H
      refine Wp.f_al0_gfr (pc := 36) o_X2_meltSnow rfl rfl rfl fk_C_53_2 (Wp.r_iload_n2 (pc := 40) o_X2_meltSnow rfl rfl (Wp.r_dup2 (pc := 41) o_X2_meltSnow rfl (Wp.r_iaload (pc := 42) o_X2_meltSnow rfl ak_C_69 (⟨hc1, ?_⟩))))
      refine Wp.r_iload_n3 (pc := 43) o_X2_meltSnow rfl rfl (Wp.r_isub (pc := 44) o_X2_meltSnow rfl (Wp.r_iastore (pc := 45) o_X2_meltSnow rfl ak_C_69 (⟨hc1, ?_⟩)))
      revert H
      generalize pI s3 69 v2.toNatClampNeg ((s3.1 69 v2.toNatClampNeg) - x2) = s4
      intro H
      have H := nmx_e H
      refine Wp.r_aload_n0 (pc := 46) o_X2_meltSnow rfl rfl (Wp.r_dup_r (pc := 47) o_X2_meltSnow rfl (Wp.r_gfi (pc := 48) o_X2_meltSnow rfl fk_C_53_12 (Wp.r_iload_n3 (pc := 51) o_X2_meltSnow rfl rfl (Wp.r_iadd (pc := 52) o_X2_meltSnow rfl (Wp.r_pfi (pc := 53) o_X2_meltSnow rfl fk_C_53_12 (show Y_X2_meltSnow_25_53 d Q 56 [(3, .int x2), (0, .ref 53), (1, .ref 25), (2, .int v2)] [] (pI s4 53 12 ((s4.1 53 12) + x2)) from ?_))))))
      revert H
      generalize pI s4 53 12 ((s4.1 53 12) + x2) = s5
      intro H
      have H := nmx_e H
      exact Wp.f_iinc_goto (pc := 56) o_X2_meltSnow rfl rfl rfl (Wp.weak2 [2, 3, 0] (ih _ _ H) rfl)
noncomputable def f_X2_meltSnow_25_53  (s : Sg) : Option (Unit × Sg) :=
  f_X2_meltSnow_25_53_b2 BIG 0 s
set_option maxRecDepth 100000 in
theorem w_X2_meltSnow_25_53 {d : Nat} {s : Sg} {Q : Qt}  (H : OQ (f_X2_meltSnow_25_53  s) (fun _ s9 => Q none s9)) : WpM SHC MT (d + 1) 36 [.ref 53, .ref 25] s Q := by
  refine WpM.enter me_X2_meltSnow rfl rfl ?_
  show Y_X2_meltSnow_25_53 d Q 0 [(0, .ref 53), (1, .ref 25)] [] s
  unfold f_X2_meltSnow_25_53 at H
  exact Wp.r_iconst (pc := 0) o_X2_meltSnow rfl (Wp.r_istore_n2 (pc := 1) o_X2_meltSnow rfl (Wp.weak2 [1, 2, 0] (w_X2_meltSnow_25_53_b2 _ _ _ H) rfl))
noncomputable abbrev Y_X2_lying_53 (d : Nat) (Q : Qt) : Xt := Wp SHC (WpM SHC MT (d + 0)) (flat2 cq_X2_lying) (some .int) Q
noncomputable def f_X2_lying_53 (a1 : Int32) (s : Sg) : Option (Int32 × Sg) :=
  ck (inr a1 8) (
  some ((s.1 67 a1.toNatClampNeg) + (s.1 68 a1.toNatClampNeg), s)
  )
set_option maxRecDepth 100000 in
theorem w_X2_lying_53 {d : Nat} {s : Sg} {Q : Qt} (a1 : Int32) (H : OQ (f_X2_lying_53 a1 s) (fun r9 s9 => Q (some (.int r9)) s9)) : WpM SHC MT (d + 1) 23 [.ref 53, .int a1] s Q := by
  refine WpM.enter me_X2_lying rfl rfl ?_
  show Y_X2_lying_53 d Q 0 [(0, .ref 53), (1, .int a1)] [] s
  unfold f_X2_lying_53 at H
  obtain ⟨hc1, H⟩ := oq_ck H
  refine Wp.f_al0_gfr (pc := 0) o_X2_lying rfl rfl rfl fk_C_53_0 (Wp.r_iload_n1 (pc := 4) o_X2_lying rfl rfl (Wp.r_iaload (pc := 5) o_X2_lying rfl ak_C_67 (⟨hc1, ?_⟩)))
  refine Wp.f_al0_gfr (pc := 6) o_X2_lying rfl rfl rfl fk_C_53_1 (Wp.r_iload_n1 (pc := 10) o_X2_lying rfl rfl (Wp.r_iaload (pc := 11) o_X2_lying rfl ak_C_68 (⟨hc1, ?_⟩)))
  exact Wp.r_iadd (pc := 12) o_X2_lying rfl (Wp.r_ireturn (pc := 13) o_X2_lying rfl (⟨rfl, H⟩))
noncomputable abbrev Y_X2_inSight_53 (d : Nat) (Q : Qt) : Xt := Wp SHC (WpM SHC MT (d + 1)) (flat2 cq_X2_inSight) (some .int) Q
noncomputable def f_X2_inSight_53 (a1 : Int32) (s : Sg) : Option (Int32 × Sg) :=
  ck (inr a1 8) (
  if (s.1 69 a1.toNatClampNeg) ≤ 0 then
    bd (f_X2_lying_53 a1 s) (fun r2 s3 =>
    some (r2, s3)
    )
  else
    some (0, s)
  )
set_option maxRecDepth 100000 in
theorem w_X2_inSight_53 {d : Nat} {s : Sg} {Q : Qt} (a1 : Int32) (H : OQ (f_X2_inSight_53 a1 s) (fun r9 s9 => Q (some (.int r9)) s9)) : WpM SHC MT (d + 2) 24 [.ref 53, .int a1] s Q := by
  refine WpM.enter me_X2_inSight rfl rfl ?_
  show Y_X2_inSight_53 d Q 0 [(0, .ref 53), (1, .int a1)] [] s
  unfold f_X2_inSight_53 at H
  obtain ⟨hc1, H⟩ := oq_ck H
  refine Wp.f_al0_gfr (pc := 0) o_X2_inSight rfl rfl rfl fk_C_53_2 (Wp.r_iload_n1 (pc := 4) o_X2_inSight rfl rfl (Wp.r_iaload (pc := 5) o_X2_inSight rfl ak_C_69 (⟨hc1, ?_⟩)))
  refine Wp.r_if_le (pc := 6) o_X2_inSight rfl (fun c9 => ?_) (fun c9 => ?_)
  · have H := oq_t c9 H
    refine Wp.r_aload_n0 (pc := 13) o_X2_inSight rfl rfl (Wp.r_iload_n1 (pc := 14) o_X2_inSight rfl rfl (Wp.r_cv2 (pc := 15) o_X2_inSight rfl fk_C_53_0 (⟨rm8_ rfl, ?_⟩)))
    refine w_X2_lying_53 (d := d) _ ?_
    refine oq_bd H (fun r2 s3 H => ?_)
    exact Wp.r_ireturn (pc := 18) o_X2_inSight rfl (⟨rfl, H⟩)
  · have H := oq_f c9 H
    exact Wp.r_iconst (pc := 9) o_X2_inSight rfl (Wp.r_goto (pc := 10) o_X2_inSight rfl (Wp.r_ireturn (pc := 18) o_X2_inSight rfl (⟨rfl, H⟩)))
noncomputable abbrev Y_X9_atPeace_53_25 (d : Nat) (Q : Qt) : Xt := Wp SHC (WpM SHC MT (d + 2)) (flat2 cq_X9_atPeace) (some .int) Q
noncomputable def f_X9_atPeace_53_25_b8 : Nat → Int32 → Int32 → Int32 → Sg → Option (Int32 × Sg)
  | 0, _, _, _, _ => none
  | n + 1, v2, v3, v4, s =>
    if (s.1 25 13) ≤ v4 then
      some (v3, s)
    else
      ck (inr v4 8) (
      bd (f_X2_inSight_53 v4 s) (fun r4 s5 =>
      bd (f_X9_contentAt_25 v4 r4 v2 s5) (fun r6 s7 =>
      nmx (v3 &&& (((s.1 34 v4.toNatClampNeg) ^^^ (-1)) ||| r6) : Int32) (fun x8 =>
      (f_X9_atPeace_53_25_b8 n) v2 x8 (v4 + 1) s7
      )
      )
      )
      )
set_option maxRecDepth 100000 in
theorem w_X9_atPeace_53_25_b8 {d : Nat} {Q : Qt} (n : Nat) : ∀ (v2 : Int32) (v3 : Int32) (v4 : Int32) (s : Sg), OQ (f_X9_atPeace_53_25_b8 n v2 v3 v4 s) (fun r9 s9 => Q (some (.int r9)) s9) → Y_X9_atPeace_53_25 d Q 8 [(0, .ref 25), (1, .ref 53), (2, .int v2), (3, .int v3), (4, .int v4)] [] s := by
  induction n with
  | zero => intro v2 v3 v4 s H; exact H.elim
  | succ n ih =>
    intro v2 v3 v4 s H
    unfold f_X9_atPeace_53_25_b8 at H
    refine Wp.r_iload (pc := 8) o_X9_atPeace rfl rfl (Wp.f_al0_gfi (pc := 10) o_X9_atPeace rfl rfl rfl fk_C_25_13 (Wp.r_icmp_ge (pc := 14) o_X9_atPeace rfl (fun c9 => ?_) (fun c9 => ?_)))
    · have H := oq_t c9 H
      exact Wp.r_iload_n3 (pc := 49) o_X9_atPeace rfl rfl (Wp.r_ireturn (pc := 50) o_X9_atPeace rfl (⟨rfl, H⟩))
    · have H := oq_f c9 H
      obtain ⟨hc3, H⟩ := oq_ck H
      refine Wp.r_iload_n3 (pc := 17) o_X9_atPeace rfl rfl (Wp.f_al0_gfr (pc := 18) o_X9_atPeace rfl rfl rfl fk_C_25_6 (Wp.r_iload (pc := 22) o_X9_atPeace rfl rfl (Wp.r_iaload (pc := 24) o_X9_atPeace rfl ak_C_34 (⟨hc3, ?_⟩))))
      refine Wp.r_iconst (pc := 25) o_X9_atPeace rfl (Wp.r_ixor (pc := 26) o_X9_atPeace rfl (Wp.r_aload_n0 (pc := 27) o_X9_atPeace rfl rfl (Wp.r_iload (pc := 28) o_X9_atPeace rfl rfl (Wp.r_aload_n1 (pc := 30) o_X9_atPeace rfl rfl (Wp.r_iload (pc := 31) o_X9_atPeace rfl rfl (Wp.r_cv2 (pc := 33) o_X9_atPeace rfl fk_C_53_0 (⟨rm8_ rfl, ?_⟩)))))))
      refine w_X2_inSight_53 (d := d) _ ?_
      refine oq_bd H (fun r4 s5 H => ?_)
      refine Wp.r_iload_n2 (pc := 36) o_X9_atPeace rfl rfl (Wp.r_cs4 (pc := 37) o_X9_atPeace rfl (⟨rm8_ rfl, ?_⟩))
      refine w_X9_contentAt_25 (d := d) _ _ _ ?_
      refine oq_bd H (fun r6 s7 H => ?_)
      refine Wp.r_ior (pc := 40) o_X9_atPeace rfl (Wp.r_iand (pc := 41) o_X9_atPeace rfl (Wp.r_istore_n3 (pc := 42) o_X9_atPeace rfl (show Y_X9_atPeace_53_25 d Q 43 [(3, .int (v3 &&& (((s.1 34 v4.toNatClampNeg) ^^^ (-1)) ||| r6))), (0, .ref 25), (1, .ref 53), (2, .int v2), (4, .int v4)] [] s7 from ?_)))
      revert H
      generalize (v3 &&& (((s.1 34 v4.toNatClampNeg) ^^^ (-1)) ||| r6) : Int32) = x8
      intro H
      have H := nmx_e H
      exact Wp.f_iinc_goto (pc := 43) o_X9_atPeace rfl rfl rfl (Wp.weak2 [2, 3, 4, 1, 0] (ih _ _ _ _ H) rfl)
noncomputable def f_X9_atPeace_53_25 (a2 : Int32) (s : Sg) : Option (Int32 × Sg) :=
  bd (f_X4_allQuarrels s) (fun r1 s2 =>
  f_X9_atPeace_53_25_b8 BIG a2 r1 0 s2
  )
set_option maxRecDepth 100000 in
theorem w_X9_atPeace_53_25 {d : Nat} {s : Sg} {Q : Qt} (a2 : Int32) (H : OQ (f_X9_atPeace_53_25 a2 s) (fun r9 s9 => Q (some (.int r9)) s9)) : WpM SHC MT (d + 3) 93 [.ref 25, .ref 53, .int a2] s Q := by
  refine WpM.enter me_X9_atPeace rfl rfl ?_
  show Y_X9_atPeace_53_25 d Q 0 [(0, .ref 25), (1, .ref 53), (2, .int a2)] [] s
  unfold f_X9_atPeace_53_25 at H
  refine Wp.r_aload_n0 (pc := 0) o_X9_atPeace rfl rfl (Wp.r_cv1 (pc := 1) o_X9_atPeace rfl fk_C_25_0 (⟨rm8_ rfl, ?_⟩))
  refine w_X4_allQuarrels (d := d + 1)  ?_
  refine oq_bd H (fun r1 s2 H => ?_)
  exact Wp.r_istore_n3 (pc := 4) o_X9_atPeace rfl (Wp.r_iconst (pc := 5) o_X9_atPeace rfl (Wp.r_istore (pc := 6) o_X9_atPeace rfl (Wp.weak2 [2, 3, 4, 1, 0] (w_X9_atPeace_53_25_b8 _ _ _ _ _ H) rfl)))
noncomputable abbrev Y_X2_countWar_25_53 (d : Nat) (Q : Qt) : Xt := Wp SHC (WpM SHC MT (d + 1)) (flat2 cq_X2_countWar) (none) Q
noncomputable def f_X2_countWar_25_53_b2 : Nat → Int32 → Sg → Option (Unit × Sg)
  | 0, _, _ => none
  | n + 1, v2, s =>
    if (s.1 25 14) ≤ v2 then
      some ((), s)
    else
      bd (f_X11_has (s.1 53 5) v2 s) (fun r1 s2 =>
      if r1 = 0 then
        ck (inr v2 8) (
        nmx (pI s2 70 v2.toNatClampNeg ((s2.1 70 v2.toNatClampNeg) + 1)) (fun s4 =>
        (f_X2_countWar_25_53_b2 n) (v2 + 1) s4
        )
        )
      else
        (f_X2_countWar_25_53_b2 n) (v2 + 1) s2
      )
set_option maxRecDepth 100000 in
theorem w_X2_countWar_25_53_b2 {d : Nat} {Q : Qt} (n : Nat) : ∀ (v2 : Int32) (s : Sg), OQ (f_X2_countWar_25_53_b2 n v2 s) (fun _ s9 => Q none s9) → Y_X2_countWar_25_53 d Q 2 [(0, .ref 53), (1, .ref 25), (2, .int v2)] [] s := by
  induction n with
  | zero => intro v2 s H; exact H.elim
  | succ n ih =>
    intro v2 s H
    unfold f_X2_countWar_25_53_b2 at H
    refine Wp.r_iload_n2 (pc := 2) o_X2_countWar rfl rfl (Wp.f_al1_gfi (pc := 3) o_X2_countWar rfl rfl rfl fk_C_25_14 (Wp.r_icmp_ge (pc := 7) o_X2_countWar rfl (fun c9 => ?_) (fun c9 => ?_)))
    · have H := oq_t c9 H
      exact Wp.r_return (pc := 37) o_X2_countWar rfl (H)
    · have H := oq_f c9 H
      refine Wp.f_al0_gfi (pc := 10) o_X2_countWar rfl rfl rfl fk_C_53_5 (Wp.r_iload_n2 (pc := 14) o_X2_countWar rfl rfl (Wp.r_cs2 (pc := 15) o_X2_countWar rfl (⟨rm8_ rfl, ?_⟩)))
      refine w_X11_has (d := d) _ _ ?_
      refine oq_bd H (fun r1 s2 H => ?_)
      refine Wp.r_if_ne (pc := 18) o_X2_countWar rfl (fun c9 => ?_) (fun c9 => ?_)
      · have H := oq_t c9 H
        obtain ⟨hc3, H⟩ := oq_ck H
        refine Wp.f_al0_gfr (pc := 21) o_X2_countWar rfl rfl rfl fk_C_53_3 (Wp.r_iload_n2 (pc := 25) o_X2_countWar rfl rfl (Wp.r_dup2 (pc := 26) o_X2_countWar rfl (Wp.r_iaload (pc := 27) o_X2_countWar rfl ak_C_70 (⟨hc3, ?_⟩))))
        refine Wp.r_iconst (pc := 28) o_X2_countWar rfl (Wp.r_iadd (pc := 29) o_X2_countWar rfl (Wp.r_iastore (pc := 30) o_X2_countWar rfl ak_C_70 (⟨hc3, ?_⟩)))
        revert H
        generalize pI s2 70 v2.toNatClampNeg ((s2.1 70 v2.toNatClampNeg) + 1) = s4
        intro H
        have H := nmx_e H
        exact Wp.f_iinc_goto (pc := 31) o_X2_countWar rfl rfl rfl (Wp.weak2 [1, 2, 0] (ih _ _ H) rfl)
      · have H := oq_f c9 H
        exact Wp.f_iinc_goto (pc := 31) o_X2_countWar rfl rfl rfl (Wp.weak2 [1, 2, 0] (ih _ _ H) rfl)
noncomputable def f_X2_countWar_25_53  (s : Sg) : Option (Unit × Sg) :=
  f_X2_countWar_25_53_b2 BIG 0 s
set_option maxRecDepth 100000 in
theorem w_X2_countWar_25_53 {d : Nat} {s : Sg} {Q : Qt}  (H : OQ (f_X2_countWar_25_53  s) (fun _ s9 => Q none s9)) : WpM SHC MT (d + 2) 37 [.ref 53, .ref 25] s Q := by
  refine WpM.enter me_X2_countWar rfl rfl ?_
  show Y_X2_countWar_25_53 d Q 0 [(0, .ref 53), (1, .ref 25)] [] s
  unfold f_X2_countWar_25_53 at H
  exact Wp.r_iconst (pc := 0) o_X2_countWar rfl (Wp.r_istore_n2 (pc := 1) o_X2_countWar rfl (Wp.weak2 [1, 2, 0] (w_X2_countWar_25_53_b2 _ _ _ H) rfl))
noncomputable abbrev Y_X2_passNight_25_53 (d : Nat) (Q : Qt) : Xt := Wp SHC (WpM SHC MT (d + 3)) (flat2 cq_X2_passNight) (none) Q
noncomputable def f_X2_passNight_25_53_b35 (t0 : Int32) (s : Sg) : Option (Unit × Sg) :=
  bd (f_X2_countWar_25_53 (pI s 53 5 t0)) (fun _ s8 =>
  nmx (pI s8 53 6 (if ((s8.1 53 6) + 1) < 999 then ((s8.1 53 6) + 1) else 999)) (fun s9 =>
  some ((), pI s9 53 7 0)
  )
  )
set_option maxRecDepth 100000 in
theorem w_X2_passNight_25_53_b35 {d : Nat} {Q : Qt} (t0 : Int32) (s : Sg) (H : OQ (f_X2_passNight_25_53_b35 t0 s) (fun _ s9 => Q none s9)) : Y_X2_passNight_25_53 d Q 35 [(0, .ref 53), (1, .ref 25)] [.int t0, .ref 53] s := by
  unfold f_X2_passNight_25_53_b35 at H
  refine Wp.r_pfi (pc := 35) o_X2_passNight rfl fk_C_53_5 (Wp.r_aload_n0 (pc := 38) o_X2_passNight rfl rfl (Wp.r_aload_n1 (pc := 39) o_X2_passNight rfl rfl (Wp.r_cv2 (pc := 40) o_X2_passNight rfl fk_C_53_0 (⟨rm8_ rfl, ?_⟩))))
  refine w_X2_countWar_25_53 (d := d + 1)  ?_
  refine oq_bd H (fun _ s8 H => ?_)
  refine Wp.r_aload_n0 (pc := 43) o_X2_passNight rfl rfl (Wp.r_sipush (pc := 44) o_X2_passNight rfl (Wp.f_al0_gfi (pc := 47) o_X2_passNight rfl rfl rfl fk_C_53_6 (Wp.r_iconst (pc := 51) o_X2_passNight rfl (Wp.r_iadd (pc := 52) o_X2_passNight rfl (Wp.r_min (pc := 53) o_X2_passNight rfl (⟨rm8_ rfl, ?_⟩))))))
  refine Wp.r_pfi (pc := 56) o_X2_passNight rfl fk_C_53_6 (show Y_X2_passNight_25_53 d Q 59 [(0, .ref 53), (1, .ref 25)] [] (pI s8 53 6 (if ((s8.1 53 6) + 1) < 999 then ((s8.1 53 6) + 1) else 999)) from ?_)
  revert H
  generalize pI s8 53 6 (if ((s8.1 53 6) + 1) < 999 then ((s8.1 53 6) + 1) else 999) = s9
  intro H
  have H := nmx_e H
  refine Wp.f_al0_iconst (pc := 59) o_X2_passNight rfl rfl rfl (Wp.r_pfz (pc := 61) o_X2_passNight rfl fk_C_53_7 (show ((0 : Int32) = 0 ∨ 0 = 1) ∧ Y_X2_passNight_25_53 d Q 64 [(0, .ref 53), (1, .ref 25)] [] (pI s9 53 7 0) from ⟨Or.inl rfl, ?_⟩))
  exact Wp.r_return (pc := 64) o_X2_passNight rfl (H)
noncomputable def f_X2_passNight_25_53  (s : Sg) : Option (Unit × Sg) :=
  bd (f_X2_sendCats_25_53 s) (fun _ s2 =>
  bd (f_X2_meltSnow_25_53 s2) (fun _ s4 =>
  bd (f_X9_atPeace_53_25 (-1) s4) (fun r5 s6 =>
  if (s6.1 53 7) = 0 then
    f_X2_passNight_25_53_b35 ((s6.1 53 5) ||| r5) s6
  else
    f_X2_passNight_25_53_b35 r5 s6
  )
  )
  )
set_option maxRecDepth 100000 in
theorem w_X2_passNight_25_53 {d : Nat} {s : Sg} {Q : Qt}  (H : OQ (f_X2_passNight_25_53  s) (fun _ s9 => Q none s9)) : WpM SHC MT (d + 4) 34 [.ref 53, .ref 25] s Q := by
  refine WpM.enter me_X2_passNight rfl rfl ?_
  show Y_X2_passNight_25_53 d Q 0 [(0, .ref 53), (1, .ref 25)] [] s
  unfold f_X2_passNight_25_53 at H
  refine Wp.r_aload_n0 (pc := 0) o_X2_passNight rfl rfl (Wp.r_aload_n1 (pc := 1) o_X2_passNight rfl rfl (Wp.r_cv2 (pc := 2) o_X2_passNight rfl fk_C_53_0 (⟨rm8_ rfl, ?_⟩)))
  refine w_X2_sendCats_25_53 (d := d + 1)  ?_
  refine oq_bd H (fun _ s2 H => ?_)
  refine Wp.r_aload_n0 (pc := 5) o_X2_passNight rfl rfl (Wp.r_aload_n1 (pc := 6) o_X2_passNight rfl rfl (Wp.r_cv2 (pc := 7) o_X2_passNight rfl fk_C_53_0 (⟨rm8_ rfl, ?_⟩)))
  refine w_X2_meltSnow_25_53 (d := d + 2)  ?_
  refine oq_bd H (fun _ s4 H => ?_)
  refine Wp.r_aload_n1 (pc := 10) o_X2_passNight rfl rfl (Wp.f_al0_iconst (pc := 11) o_X2_passNight rfl rfl rfl (Wp.r_cs3 (pc := 13) o_X2_passNight rfl (⟨rm8_ rfl, ?_⟩)))
  refine w_X9_atPeace_53_25 (d := d) _ ?_
  refine oq_bd H (fun r5 s6 H => ?_)
  refine Wp.r_istore_n2 (pc := 16) o_X2_passNight rfl (Wp.r_aload_n0 (pc := 17) o_X2_passNight rfl rfl (Wp.f_al0_gfi (pc := 18) o_X2_passNight rfl rfl rfl fk_C_53_7 (Wp.r_if_eq (pc := 22) o_X2_passNight rfl (fun c9 => ?_) (fun c9 => ?_))))
  · have H := oq_t c9 H
    exact Wp.f_al0_gfi (pc := 29) o_X2_passNight rfl rfl rfl fk_C_53_5 (Wp.r_iload_n2 (pc := 33) o_X2_passNight rfl rfl (Wp.r_ior (pc := 34) o_X2_passNight rfl (Wp.weak2 [1, 2] (w_X2_passNight_25_53_b35 _ _ H) rfl)))
  · have H := oq_f c9 H
    exact Wp.r_iload_n2 (pc := 25) o_X2_passNight rfl rfl (Wp.r_goto (pc := 26) o_X2_passNight rfl (Wp.weak2 [1, 2] (w_X2_passNight_25_53_b35 _ _ H) rfl))
