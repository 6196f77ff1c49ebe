noncomputable abbrev Y_X11_copyRow_84_30 (d : Nat) (Q : Qt) : Xt := Wp SHC (WpM SHC MT (d + 0)) (flat2 cq_X11_copyRow) (none) Q
noncomputable def f_X11_copyRow_84_30  (s : Sg) : Option (Unit × Sg) :=
  ck (¬ (0 : Int32) < 0 ∧ ¬ (0 : Int32) < 0 ∧ ¬ (if 24 < (24 : Int32) then 24 else (24 : Int32)) < 0 ∧ 0 + (if 24 < (24 : Int32) then 24 else (24 : Int32)).toNatClampNeg ≤ 24 ∧ 0 + (if 24 < (24 : Int32) then 24 else (24 : Int32)).toNatClampNeg ≤ 24) (
  some ((), pA s 84 (va_cpy (s.1 30) (s.1 84) 0 0 (if 24 < (24 : Int32) then 24 else (24 : Int32)).toNatClampNeg))
  )
set_option maxRecDepth 100000 in
theorem w_X11_copyRow_84_30 {d : Nat} {s : Sg} {Q : Qt}  (H : OQ (f_X11_copyRow_84_30  s) (fun _ s9 => Q none s9)) : WpM SHC MT (d + 1) 184 [.ref 30, .ref 84] s Q := by
  refine WpM.enter me_X11_copyRow rfl rfl ?_
  show Y_X11_copyRow_84_30 d Q 0 [(0, .ref 30), (1, .ref 84)] [] s
  unfold f_X11_copyRow_84_30 at H
  refine Wp.f_al0_iconst (pc := 0) o_X11_copyRow rfl rfl rfl (Wp.f_al1_iconst (pc := 2) o_X11_copyRow rfl rfl rfl (Wp.f_al0_alen (pc := 4) o_X11_copyRow rfl rfl rfl lk_C_30 (Wp.f_al1_alen (pc := 6) o_X11_copyRow rfl rfl rfl lk_C_84 (Wp.r_min (pc := 8) o_X11_copyRow rfl (⟨rm8_ rfl, ?_⟩)))))
  obtain ⟨c9, H⟩ := oq_ck H
  refine Wp.run 1 (show room8 [] ∧ (¬ (0 : Int32) < 0 ∧ ¬ (0 : Int32) < 0 ∧ ¬ (if 24 < (24 : Int32) then 24 else (24 : Int32)) < 0 ∧ 0 + (if 24 < (24 : Int32) then 24 else (24 : Int32)).toNatClampNeg ≤ 24 ∧ 0 + (if 24 < (24 : Int32) then 24 else (24 : Int32)).toNatClampNeg ≤ 24) ∧ Y_X11_copyRow_84_30 d Q 14 [(0, .ref 30), (1, .ref 84)] [] (pA s 84 (va_cpy (s.1 30) (s.1 84) 0 0 (if 24 < (24 : Int32) then 24 else (24 : Int32)).toNatClampNeg)) from ⟨rm8_ rfl, c9, ?_⟩)
  exact Wp.r_return (pc := 14) o_X11_copyRow rfl (H)
noncomputable abbrev Y_X11_copyRow_85_31 (d : Nat) (Q : Qt) : Xt := Wp SHC (WpM SHC MT (d + 0)) (flat2 cq_X11_copyRow) (none) Q
noncomputable def f_X11_copyRow_85_31  (s : Sg) : Option (Unit × Sg) :=
  ck (¬ (0 : Int32) < 0 ∧ ¬ (0 : Int32) < 0 ∧ ¬ (if 8 < (8 : Int32) then 8 else (8 : Int32)) < 0 ∧ 0 + (if 8 < (8 : Int32) then 8 else (8 : Int32)).toNatClampNeg ≤ 8 ∧ 0 + (if 8 < (8 : Int32) then 8 else (8 : Int32)).toNatClampNeg ≤ 8) (
  some ((), pA s 85 (va_cpy (s.1 31) (s.1 85) 0 0 (if 8 < (8 : Int32) then 8 else (8 : Int32)).toNatClampNeg))
  )
set_option maxRecDepth 100000 in
theorem w_X11_copyRow_85_31 {d : Nat} {s : Sg} {Q : Qt}  (H : OQ (f_X11_copyRow_85_31  s) (fun _ s9 => Q none s9)) : WpM SHC MT (d + 1) 184 [.ref 31, .ref 85] s Q := by
  refine WpM.enter me_X11_copyRow rfl rfl ?_
  show Y_X11_copyRow_85_31 d Q 0 [(0, .ref 31), (1, .ref 85)] [] s
  unfold f_X11_copyRow_85_31 at H
  refine Wp.f_al0_iconst (pc := 0) o_X11_copyRow rfl rfl rfl (Wp.f_al1_iconst (pc := 2) o_X11_copyRow rfl rfl rfl (Wp.f_al0_alen (pc := 4) o_X11_copyRow rfl rfl rfl lk_C_31 (Wp.f_al1_alen (pc := 6) o_X11_copyRow rfl rfl rfl lk_C_85 (Wp.r_min (pc := 8) o_X11_copyRow rfl (⟨rm8_ rfl, ?_⟩)))))
  obtain ⟨c9, H⟩ := oq_ck H
  refine Wp.run 1 (show room8 [] ∧ (¬ (0 : Int32) < 0 ∧ ¬ (0 : Int32) < 0 ∧ ¬ (if 8 < (8 : Int32) then 8 else (8 : Int32)) < 0 ∧ 0 + (if 8 < (8 : Int32) then 8 else (8 : Int32)).toNatClampNeg ≤ 8 ∧ 0 + (if 8 < (8 : Int32) then 8 else (8 : Int32)).toNatClampNeg ≤ 8) ∧ Y_X11_copyRow_85_31 d Q 14 [(0, .ref 31), (1, .ref 85)] [] (pA s 85 (va_cpy (s.1 31) (s.1 85) 0 0 (if 8 < (8 : Int32) then 8 else (8 : Int32)).toNatClampNeg)) from ⟨rm8_ rfl, c9, ?_⟩)
  exact Wp.r_return (pc := 14) o_X11_copyRow rfl (H)
noncomputable abbrev Y_X11_copyRow_86_32 (d : Nat) (Q : Qt) : Xt := Wp SHC (WpM SHC MT (d + 0)) (flat2 cq_X11_copyRow) (none) Q
noncomputable def f_X11_copyRow_86_32  (s : Sg) : Option (Unit × Sg) :=
  ck (¬ (0 : Int32) < 0 ∧ ¬ (0 : Int32) < 0 ∧ ¬ (if 8 < (8 : Int32) then 8 else (8 : Int32)) < 0 ∧ 0 + (if 8 < (8 : Int32) then 8 else (8 : Int32)).toNatClampNeg ≤ 8 ∧ 0 + (if 8 < (8 : Int32) then 8 else (8 : Int32)).toNatClampNeg ≤ 8) (
  some ((), pA s 86 (va_cpy (s.1 32) (s.1 86) 0 0 (if 8 < (8 : Int32) then 8 else (8 : Int32)).toNatClampNeg))
  )
set_option maxRecDepth 100000 in
theorem w_X11_copyRow_86_32 {d : Nat} {s : Sg} {Q : Qt}  (H : OQ (f_X11_copyRow_86_32  s) (fun _ s9 => Q none s9)) : WpM SHC MT (d + 1) 184 [.ref 32, .ref 86] s Q := by
  refine WpM.enter me_X11_copyRow rfl rfl ?_
  show Y_X11_copyRow_86_32 d Q 0 [(0, .ref 32), (1, .ref 86)] [] s
  unfold f_X11_copyRow_86_32 at H
  refine Wp.f_al0_iconst (pc := 0) o_X11_copyRow rfl rfl rfl (Wp.f_al1_iconst (pc := 2) o_X11_copyRow rfl rfl rfl (Wp.f_al0_alen (pc := 4) o_X11_copyRow rfl rfl rfl lk_C_32 (Wp.f_al1_alen (pc := 6) o_X11_copyRow rfl rfl rfl lk_C_86 (Wp.r_min (pc := 8) o_X11_copyRow rfl (⟨rm8_ rfl, ?_⟩)))))
  obtain ⟨c9, H⟩ := oq_ck H
  refine Wp.run 1 (show room8 [] ∧ (¬ (0 : Int32) < 0 ∧ ¬ (0 : Int32) < 0 ∧ ¬ (if 8 < (8 : Int32) then 8 else (8 : Int32)) < 0 ∧ 0 + (if 8 < (8 : Int32) then 8 else (8 : Int32)).toNatClampNeg ≤ 8 ∧ 0 + (if 8 < (8 : Int32) then 8 else (8 : Int32)).toNatClampNeg ≤ 8) ∧ Y_X11_copyRow_86_32 d Q 14 [(0, .ref 32), (1, .ref 86)] [] (pA s 86 (va_cpy (s.1 32) (s.1 86) 0 0 (if 8 < (8 : Int32) then 8 else (8 : Int32)).toNatClampNeg)) from ⟨rm8_ rfl, c9, ?_⟩)
  exact Wp.r_return (pc := 14) o_X11_copyRow rfl (H)
noncomputable abbrev Y_X11_copyRow_87_33 (d : Nat) (Q : Qt) : Xt := Wp SHC (WpM SHC MT (d + 0)) (flat2 cq_X11_copyRow) (none) Q
noncomputable def f_X11_copyRow_87_33  (s : Sg) : Option (Unit × Sg) :=
  ck (¬ (0 : Int32) < 0 ∧ ¬ (0 : Int32) < 0 ∧ ¬ (if 8 < (8 : Int32) then 8 else (8 : Int32)) < 0 ∧ 0 + (if 8 < (8 : Int32) then 8 else (8 : Int32)).toNatClampNeg ≤ 8 ∧ 0 + (if 8 < (8 : Int32) then 8 else (8 : Int32)).toNatClampNeg ≤ 8) (
  some ((), pA s 87 (va_cpy (s.1 33) (s.1 87) 0 0 (if 8 < (8 : Int32) then 8 else (8 : Int32)).toNatClampNeg))
  )
set_option maxRecDepth 100000 in
theorem w_X11_copyRow_87_33 {d : Nat} {s : Sg} {Q : Qt}  (H : OQ (f_X11_copyRow_87_33  s) (fun _ s9 => Q none s9)) : WpM SHC MT (d + 1) 184 [.ref 33, .ref 87] s Q := by
  refine WpM.enter me_X11_copyRow rfl rfl ?_
  show Y_X11_copyRow_87_33 d Q 0 [(0, .ref 33), (1, .ref 87)] [] s
  unfold f_X11_copyRow_87_33 at H
  refine Wp.f_al0_iconst (pc := 0) o_X11_copyRow rfl rfl rfl (Wp.f_al1_iconst (pc := 2) o_X11_copyRow rfl rfl rfl (Wp.f_al0_alen (pc := 4) o_X11_copyRow rfl rfl rfl lk_C_33 (Wp.f_al1_alen (pc := 6) o_X11_copyRow rfl rfl rfl lk_C_87 (Wp.r_min (pc := 8) o_X11_copyRow rfl (⟨rm8_ rfl, ?_⟩)))))
  obtain ⟨c9, H⟩ := oq_ck H
  refine Wp.run 1 (show room8 [] ∧ (¬ (0 : Int32) < 0 ∧ ¬ (0 : Int32) < 0 ∧ ¬ (if 8 < (8 : Int32) then 8 else (8 : Int32)) < 0 ∧ 0 + (if 8 < (8 : Int32) then 8 else (8 : Int32)).toNatClampNeg ≤ 8 ∧ 0 + (if 8 < (8 : Int32) then 8 else (8 : Int32)).toNatClampNeg ≤ 8) ∧ Y_X11_copyRow_87_33 d Q 14 [(0, .ref 33), (1, .ref 87)] [] (pA s 87 (va_cpy (s.1 33) (s.1 87) 0 0 (if 8 < (8 : Int32) then 8 else (8 : Int32)).toNatClampNeg)) from ⟨rm8_ rfl, c9, ?_⟩)
  exact Wp.r_return (pc := 14) o_X11_copyRow rfl (H)
noncomputable abbrev Y_X11_copyRow_88_34 (d : Nat) (Q : Qt) : Xt := Wp SHC (WpM SHC MT (d + 0)) (flat2 cq_X11_copyRow) (none) Q
noncomputable def f_X11_copyRow_88_34  (s : Sg) : Option (Unit × Sg) :=
  ck (¬ (0 : Int32) < 0 ∧ ¬ (0 : Int32) < 0 ∧ ¬ (if 8 < (8 : Int32) then 8 else (8 : Int32)) < 0 ∧ 0 + (if 8 < (8 : Int32) then 8 else (8 : Int32)).toNatClampNeg ≤ 8 ∧ 0 + (if 8 < (8 : Int32) then 8 else (8 : Int32)).toNatClampNeg ≤ 8) (
  some ((), pA s 88 (va_cpy (s.1 34) (s.1 88) 0 0 (if 8 < (8 : Int32) then 8 else (8 : Int32)).toNatClampNeg))
  )
set_option maxRecDepth 100000 in
theorem w_X11_copyRow_88_34 {d : Nat} {s : Sg} {Q : Qt}  (H : OQ (f_X11_copyRow_88_34  s) (fun _ s9 => Q none s9)) : WpM SHC MT (d + 1) 184 [.ref 34, .ref 88] s Q := by
  refine WpM.enter me_X11_copyRow rfl rfl ?_
  show Y_X11_copyRow_88_34 d Q 0 [(0, .ref 34), (1, .ref 88)] [] s
  unfold f_X11_copyRow_88_34 at H
  refine Wp.f_al0_iconst (pc := 0) o_X11_copyRow rfl rfl rfl (Wp.f_al1_iconst (pc := 2) o_X11_copyRow rfl rfl rfl (Wp.f_al0_alen (pc := 4) o_X11_copyRow rfl rfl rfl lk_C_34 (Wp.f_al1_alen (pc := 6) o_X11_copyRow rfl rfl rfl lk_C_88 (Wp.r_min (pc := 8) o_X11_copyRow rfl (⟨rm8_ rfl, ?_⟩)))))
  obtain ⟨c9, H⟩ := oq_ck H
  refine Wp.run 1 (show room8 [] ∧ (¬ (0 : Int32) < 0 ∧ ¬ (0 : Int32) < 0 ∧ ¬ (if 8 < (8 : Int32) then 8 else (8 : Int32)) < 0 ∧ 0 + (if 8 < (8 : Int32) then 8 else (8 : Int32)).toNatClampNeg ≤ 8 ∧ 0 + (if 8 < (8 : Int32) then 8 else (8 : Int32)).toNatClampNeg ≤ 8) ∧ Y_X11_copyRow_88_34 d Q 14 [(0, .ref 34), (1, .ref 88)] [] (pA s 88 (va_cpy (s.1 34) (s.1 88) 0 0 (if 8 < (8 : Int32) then 8 else (8 : Int32)).toNatClampNeg)) from ⟨rm8_ rfl, c9, ?_⟩)
  exact Wp.r_return (pc := 14) o_X11_copyRow rfl (H)
noncomputable abbrev Y_X11_copyRow_89_35 (d : Nat) (Q : Qt) : Xt := Wp SHC (WpM SHC MT (d + 0)) (flat2 cq_X11_copyRow) (none) Q
noncomputable def f_X11_copyRow_89_35  (s : Sg) : Option (Unit × Sg) :=
  ck (¬ (0 : Int32) < 0 ∧ ¬ (0 : Int32) < 0 ∧ ¬ (if 4 < (4 : Int32) then 4 else (4 : Int32)) < 0 ∧ 0 + (if 4 < (4 : Int32) then 4 else (4 : Int32)).toNatClampNeg ≤ 4 ∧ 0 + (if 4 < (4 : Int32) then 4 else (4 : Int32)).toNatClampNeg ≤ 4) (
  some ((), pA s 89 (va_cpy (s.1 35) (s.1 89) 0 0 (if 4 < (4 : Int32) then 4 else (4 : Int32)).toNatClampNeg))
  )
set_option maxRecDepth 100000 in
theorem w_X11_copyRow_89_35 {d : Nat} {s : Sg} {Q : Qt}  (H : OQ (f_X11_copyRow_89_35  s) (fun _ s9 => Q none s9)) : WpM SHC MT (d + 1) 184 [.ref 35, .ref 89] s Q := by
  refine WpM.enter me_X11_copyRow rfl rfl ?_
  show Y_X11_copyRow_89_35 d Q 0 [(0, .ref 35), (1, .ref 89)] [] s
  unfold f_X11_copyRow_89_35 at H
  refine Wp.f_al0_iconst (pc := 0) o_X11_copyRow rfl rfl rfl (Wp.f_al1_iconst (pc := 2) o_X11_copyRow rfl rfl rfl (Wp.f_al0_alen (pc := 4) o_X11_copyRow rfl rfl rfl lk_C_35 (Wp.f_al1_alen (pc := 6) o_X11_copyRow rfl rfl rfl lk_C_89 (Wp.r_min (pc := 8) o_X11_copyRow rfl (⟨rm8_ rfl, ?_⟩)))))
  obtain ⟨c9, H⟩ := oq_ck H
  refine Wp.run 1 (show room8 [] ∧ (¬ (0 : Int32) < 0 ∧ ¬ (0 : Int32) < 0 ∧ ¬ (if 4 < (4 : Int32) then 4 else (4 : Int32)) < 0 ∧ 0 + (if 4 < (4 : Int32) then 4 else (4 : Int32)).toNatClampNeg ≤ 4 ∧ 0 + (if 4 < (4 : Int32) then 4 else (4 : Int32)).toNatClampNeg ≤ 4) ∧ Y_X11_copyRow_89_35 d Q 14 [(0, .ref 35), (1, .ref 89)] [] (pA s 89 (va_cpy (s.1 35) (s.1 89) 0 0 (if 4 < (4 : Int32) then 4 else (4 : Int32)).toNatClampNeg)) from ⟨rm8_ rfl, c9, ?_⟩)
  exact Wp.r_return (pc := 14) o_X11_copyRow rfl (H)
noncomputable abbrev Y_X11_copyRow_90_36 (d : Nat) (Q : Qt) : Xt := Wp SHC (WpM SHC MT (d + 0)) (flat2 cq_X11_copyRow) (none) Q
noncomputable def f_X11_copyRow_90_36  (s : Sg) : Option (Unit × Sg) :=
  ck (¬ (0 : Int32) < 0 ∧ ¬ (0 : Int32) < 0 ∧ ¬ (if 4 < (4 : Int32) then 4 else (4 : Int32)) < 0 ∧ 0 + (if 4 < (4 : Int32) then 4 else (4 : Int32)).toNatClampNeg ≤ 4 ∧ 0 + (if 4 < (4 : Int32) then 4 else (4 : Int32)).toNatClampNeg ≤ 4) (
  some ((), pA s 90 (va_cpy (s.1 36) (s.1 90) 0 0 (if 4 < (4 : Int32) then 4 else (4 : Int32)).toNatClampNeg))
  )
set_option maxRecDepth 100000 in
theorem w_X11_copyRow_90_36 {d : Nat} {s : Sg} {Q : Qt}  (H : OQ (f_X11_copyRow_90_36  s) (fun _ s9 => Q none s9)) : WpM SHC MT (d + 1) 184 [.ref 36, .ref 90] s Q := by
  refine WpM.enter me_X11_copyRow rfl rfl ?_
  show Y_X11_copyRow_90_36 d Q 0 [(0, .ref 36), (1, .ref 90)] [] s
  unfold f_X11_copyRow_90_36 at H
  refine Wp.f_al0_iconst (pc := 0) o_X11_copyRow rfl rfl rfl (Wp.f_al1_iconst (pc := 2) o_X11_copyRow rfl rfl rfl (Wp.f_al0_alen (pc := 4) o_X11_copyRow rfl rfl rfl lk_C_36 (Wp.f_al1_alen (pc := 6) o_X11_copyRow rfl rfl rfl lk_C_90 (Wp.r_min (pc := 8) o_X11_copyRow rfl (⟨rm8_ rfl, ?_⟩)))))
  obtain ⟨c9, H⟩ := oq_ck H
  refine Wp.run 1 (show room8 [] ∧ (¬ (0 : Int32) < 0 ∧ ¬ (0 : Int32) < 0 ∧ ¬ (if 4 < (4 : Int32) then 4 else (4 : Int32)) < 0 ∧ 0 + (if 4 < (4 : Int32) then 4 else (4 : Int32)).toNatClampNeg ≤ 4 ∧ 0 + (if 4 < (4 : Int32) then 4 else (4 : Int32)).toNatClampNeg ≤ 4) ∧ Y_X11_copyRow_90_36 d Q 14 [(0, .ref 36), (1, .ref 90)] [] (pA s 90 (va_cpy (s.1 36) (s.1 90) 0 0 (if 4 < (4 : Int32) then 4 else (4 : Int32)).toNatClampNeg)) from ⟨rm8_ rfl, c9, ?_⟩)
  exact Wp.r_return (pc := 14) o_X11_copyRow rfl (H)
noncomputable abbrev Y_X11_copyRow_91_37 (d : Nat) (Q : Qt) : Xt := Wp SHC (WpM SHC MT (d + 0)) (flat2 cq_X11_copyRow) (none) Q
noncomputable def f_X11_copyRow_91_37  (s : Sg) : Option (Unit × Sg) :=
  ck (¬ (0 : Int32) < 0 ∧ ¬ (0 : Int32) < 0 ∧ ¬ (if 4 < (4 : Int32) then 4 else (4 : Int32)) < 0 ∧ 0 + (if 4 < (4 : Int32) then 4 else (4 : Int32)).toNatClampNeg ≤ 4 ∧ 0 + (if 4 < (4 : Int32) then 4 else (4 : Int32)).toNatClampNeg ≤ 4) (
  some ((), pA s 91 (va_cpy (s.1 37) (s.1 91) 0 0 (if 4 < (4 : Int32) then 4 else (4 : Int32)).toNatClampNeg))
  )
set_option maxRecDepth 100000 in
theorem w_X11_copyRow_91_37 {d : Nat} {s : Sg} {Q : Qt}  (H : OQ (f_X11_copyRow_91_37  s) (fun _ s9 => Q none s9)) : WpM SHC MT (d + 1) 184 [.ref 37, .ref 91] s Q := by
  refine WpM.enter me_X11_copyRow rfl rfl ?_
  show Y_X11_copyRow_91_37 d Q 0 [(0, .ref 37), (1, .ref 91)] [] s
  unfold f_X11_copyRow_91_37 at H
  refine Wp.f_al0_iconst (pc := 0) o_X11_copyRow rfl rfl rfl (Wp.f_al1_iconst (pc := 2) o_X11_copyRow rfl rfl rfl (Wp.f_al0_alen (pc := 4) o_X11_copyRow rfl rfl rfl lk_C_37 (Wp.f_al1_alen (pc := 6) o_X11_copyRow rfl rfl rfl lk_C_91 (Wp.r_min (pc := 8) o_X11_copyRow rfl (⟨rm8_ rfl, ?_⟩)))))
  obtain ⟨c9, H⟩ := oq_ck H
  refine Wp.run 1 (show room8 [] ∧ (¬ (0 : Int32) < 0 ∧ ¬ (0 : Int32) < 0 ∧ ¬ (if 4 < (4 : Int32) then 4 else (4 : Int32)) < 0 ∧ 0 + (if 4 < (4 : Int32) then 4 else (4 : Int32)).toNatClampNeg ≤ 4 ∧ 0 + (if 4 < (4 : Int32) then 4 else (4 : Int32)).toNatClampNeg ≤ 4) ∧ Y_X11_copyRow_91_37 d Q 14 [(0, .ref 37), (1, .ref 91)] [] (pA s 91 (va_cpy (s.1 37) (s.1 91) 0 0 (if 4 < (4 : Int32) then 4 else (4 : Int32)).toNatClampNeg)) from ⟨rm8_ rfl, c9, ?_⟩)
  exact Wp.r_return (pc := 14) o_X11_copyRow rfl (H)
noncomputable abbrev Y_X11_copyRow_92_38 (d : Nat) (Q : Qt) : Xt := Wp SHC (WpM SHC MT (d + 0)) (flat2 cq_X11_copyRow) (none) Q
noncomputable def f_X11_copyRow_92_38  (s : Sg) : Option (Unit × Sg) :=
  ck (¬ (0 : Int32) < 0 ∧ ¬ (0 : Int32) < 0 ∧ ¬ (if 4 < (4 : Int32) then 4 else (4 : Int32)) < 0 ∧ 0 + (if 4 < (4 : Int32) then 4 else (4 : Int32)).toNatClampNeg ≤ 4 ∧ 0 + (if 4 < (4 : Int32) then 4 else (4 : Int32)).toNatClampNeg ≤ 4) (
  some ((), pA s 92 (va_cpy (s.1 38) (s.1 92) 0 0 (if 4 < (4 : Int32) then 4 else (4 : Int32)).toNatClampNeg))
  )
set_option maxRecDepth 100000 in
theorem w_X11_copyRow_92_38 {d : Nat} {s : Sg} {Q : Qt}  (H : OQ (f_X11_copyRow_92_38  s) (fun _ s9 => Q none s9)) : WpM SHC MT (d + 1) 184 [.ref 38, .ref 92] s Q := by
  refine WpM.enter me_X11_copyRow rfl rfl ?_
  show Y_X11_copyRow_92_38 d Q 0 [(0, .ref 38), (1, .ref 92)] [] s
  unfold f_X11_copyRow_92_38 at H
  refine Wp.f_al0_iconst (pc := 0) o_X11_copyRow rfl rfl rfl (Wp.f_al1_iconst (pc := 2) o_X11_copyRow rfl rfl rfl (Wp.f_al0_alen (pc := 4) o_X11_copyRow rfl rfl rfl lk_C_38 (Wp.f_al1_alen (pc := 6) o_X11_copyRow rfl rfl rfl lk_C_92 (Wp.r_min (pc := 8) o_X11_copyRow rfl (⟨rm8_ rfl, ?_⟩)))))
  obtain ⟨c9, H⟩ := oq_ck H
  refine Wp.run 1 (show room8 [] ∧ (¬ (0 : Int32) < 0 ∧ ¬ (0 : Int32) < 0 ∧ ¬ (if 4 < (4 : Int32) then 4 else (4 : Int32)) < 0 ∧ 0 + (if 4 < (4 : Int32) then 4 else (4 : Int32)).toNatClampNeg ≤ 4 ∧ 0 + (if 4 < (4 : Int32) then 4 else (4 : Int32)).toNatClampNeg ≤ 4) ∧ Y_X11_copyRow_92_38 d Q 14 [(0, .ref 38), (1, .ref 92)] [] (pA s 92 (va_cpy (s.1 38) (s.1 92) 0 0 (if 4 < (4 : Int32) then 4 else (4 : Int32)).toNatClampNeg)) from ⟨rm8_ rfl, c9, ?_⟩)
  exact Wp.r_return (pc := 14) o_X11_copyRow rfl (H)
noncomputable abbrev Y_X11_copyRow_93_39 (d : Nat) (Q : Qt) : Xt := Wp SHC (WpM SHC MT (d + 0)) (flat2 cq_X11_copyRow) (none) Q
noncomputable def f_X11_copyRow_93_39  (s : Sg) : Option (Unit × Sg) :=
  ck (¬ (0 : Int32) < 0 ∧ ¬ (0 : Int32) < 0 ∧ ¬ (if 4 < (4 : Int32) then 4 else (4 : Int32)) < 0 ∧ 0 + (if 4 < (4 : Int32) then 4 else (4 : Int32)).toNatClampNeg ≤ 4 ∧ 0 + (if 4 < (4 : Int32) then 4 else (4 : Int32)).toNatClampNeg ≤ 4) (
  some ((), pA s 93 (va_cpy (s.1 39) (s.1 93) 0 0 (if 4 < (4 : Int32) then 4 else (4 : Int32)).toNatClampNeg))
  )
set_option maxRecDepth 100000 in
theorem w_X11_copyRow_93_39 {d : Nat} {s : Sg} {Q : Qt}  (H : OQ (f_X11_copyRow_93_39  s) (fun _ s9 => Q none s9)) : WpM SHC MT (d + 1) 184 [.ref 39, .ref 93] s Q := by
  refine WpM.enter me_X11_copyRow rfl rfl ?_
  show Y_X11_copyRow_93_39 d Q 0 [(0, .ref 39), (1, .ref 93)] [] s
  unfold f_X11_copyRow_93_39 at H
  refine Wp.f_al0_iconst (pc := 0) o_X11_copyRow rfl rfl rfl (Wp.f_al1_iconst (pc := 2) o_X11_copyRow rfl rfl rfl (Wp.f_al0_alen (pc := 4) o_X11_copyRow rfl rfl rfl lk_C_39 (Wp.f_al1_alen (pc := 6) o_X11_copyRow rfl rfl rfl lk_C_93 (Wp.r_min (pc := 8) o_X11_copyRow rfl (⟨rm8_ rfl, ?_⟩)))))
  obtain ⟨c9, H⟩ := oq_ck H
  refine Wp.run 1 (show room8 [] ∧ (¬ (0 : Int32) < 0 ∧ ¬ (0 : Int32) < 0 ∧ ¬ (if 4 < (4 : Int32) then 4 else (4 : Int32)) < 0 ∧ 0 + (if 4 < (4 : Int32) then 4 else (4 : Int32)).toNatClampNeg ≤ 4 ∧ 0 + (if 4 < (4 : Int32) then 4 else (4 : Int32)).toNatClampNeg ≤ 4) ∧ Y_X11_copyRow_93_39 d Q 14 [(0, .ref 39), (1, .ref 93)] [] (pA s 93 (va_cpy (s.1 39) (s.1 93) 0 0 (if 4 < (4 : Int32) then 4 else (4 : Int32)).toNatClampNeg)) from ⟨rm8_ rfl, c9, ?_⟩)
  exact Wp.r_return (pc := 14) o_X11_copyRow rfl (H)
noncomputable abbrev Y_X4_copyFrom_25_79 (d : Nat) (Q : Qt) : Xt := Wp SHC (WpM SHC MT (d + 1)) (flat2 cq_X4_copyFrom) (none) Q
noncomputable def f_X4_copyFrom_25_79  (s : Sg) : Option (Unit × Sg) :=
  bd (f_X11_copyRow_83_29 (pB s 82 (va_cpy (s.2 28) (s.2 82) 0 0 24))) (fun _ s2 =>
  bd (f_X11_copyRow_84_30 s2) (fun _ s4 =>
  bd (f_X11_copyRow_85_31 s4) (fun _ s6 =>
  bd (f_X11_copyRow_86_32 s6) (fun _ s8 =>
  bd (f_X11_copyRow_87_33 s8) (fun _ s10 =>
  bd (f_X11_copyRow_88_34 s10) (fun _ s12 =>
  bd (f_X11_copyRow_89_35 s12) (fun _ s14 =>
  bd (f_X11_copyRow_90_36 s14) (fun _ s16 =>
  bd (f_X11_copyRow_91_37 s16) (fun _ s18 =>
  bd (f_X11_copyRow_92_38 s18) (fun _ s20 =>
  bd (f_X11_copyRow_93_39 s20) (fun _ s22 =>
  nmx (pI (pI s22 79 12 (s22.1 25 12)) 79 13 ((pI s22 79 12 (s22.1 25 12)).1 25 13)) (fun s23 =>
  nmx (pI (pI s23 79 14 (s23.1 25 14)) 79 15 ((pI s23 79 14 (s23.1 25 14)).1 25 15)) (fun s24 =>
  nmx (pI (pI s24 79 16 (s24.1 25 16)) 79 17 ((pI s24 79 16 (s24.1 25 16)).1 25 17)) (fun s25 =>
  ck (((pI s25 79 18 (s25.1 25 18)).1 25 19) = 0 ∨ ((pI s25 79 18 (s25.1 25 18)).1 25 19) = 1) (
  some ((), pI (pI s25 79 18 (s25.1 25 18)) 79 19 ((pI s25 79 18 (s25.1 25 18)).1 25 19))
  )
  )
  )
  )
  )
  )
  )
  )
  )
  )
  )
  )
  )
  )
  )
set_option maxRecDepth 100000 in
theorem w_X4_copyFrom_25_79 {d : Nat} {s : Sg} {Q : Qt}  (H : OQ (f_X4_copyFrom_25_79  s) (fun _ s9 => Q none s9)) : WpM SHC MT (d + 2) 50 [.ref 79, .ref 25] s Q := by
  refine WpM.enter me_X4_copyFrom rfl rfl ?_
  show Y_X4_copyFrom_25_79 d Q 0 [(0, .ref 79), (1, .ref 25)] [] s
  unfold f_X4_copyFrom_25_79 at H
  refine Wp.f_al1_gfr (pc := 0) o_X4_copyFrom rfl rfl rfl fk_C_25_0 (Wp.r_iconst (pc := 4) o_X4_copyFrom rfl (Wp.f_al0_gfr (pc := 5) o_X4_copyFrom rfl rfl rfl fk_C_79_0 (Wp.r_iconst (pc := 9) o_X4_copyFrom rfl (Wp.r_bipush (pc := 10) o_X4_copyFrom rfl (Wp.run 1 (show room8 [] ∧ (¬ (0 : Int32) < 0 ∧ ¬ (0 : Int32) < 0 ∧ ¬ (24 : Int32) < 0 ∧ 0 + 24 ≤ 24 ∧ 0 + 24 ≤ 24) ∧ Y_X4_copyFrom_25_79 d Q 15 [(0, .ref 79), (1, .ref 25)] [] (pB s 82 (va_cpy (s.2 28) (s.2 82) 0 0 24)) from ⟨rm8_ rfl, by decide, ?_⟩))))))
  refine Wp.f_al1_gfr (pc := 15) o_X4_copyFrom rfl rfl rfl fk_C_25_1 (Wp.f_al0_gfr (pc := 19) o_X4_copyFrom rfl rfl rfl fk_C_79_1 (Wp.r_cs2 (pc := 23) o_X4_copyFrom rfl (⟨rm8_ rfl, ?_⟩)))
  refine w_X11_copyRow_83_29 (d := d)  ?_
  refine oq_bd H (fun _ s2 H => ?_)
  refine Wp.f_al1_gfr (pc := 26) o_X4_copyFrom rfl rfl rfl fk_C_25_2 (Wp.f_al0_gfr (pc := 30) o_X4_copyFrom rfl rfl rfl fk_C_79_2 (Wp.r_cs2 (pc := 34) o_X4_copyFrom rfl (⟨rm8_ rfl, ?_⟩)))
  refine w_X11_copyRow_84_30 (d := d)  ?_
  refine oq_bd H (fun _ s4 H => ?_)
  refine Wp.f_al1_gfr (pc := 37) o_X4_copyFrom rfl rfl rfl fk_C_25_3 (Wp.f_al0_gfr (pc := 41) o_X4_copyFrom rfl rfl rfl fk_C_79_3 (Wp.r_cs2 (pc := 45) o_X4_copyFrom rfl (⟨rm8_ rfl, ?_⟩)))
  refine w_X11_copyRow_85_31 (d := d)  ?_
  refine oq_bd H (fun _ s6 H => ?_)
  refine Wp.f_al1_gfr (pc := 48) o_X4_copyFrom rfl rfl rfl fk_C_25_4 (Wp.f_al0_gfr (pc := 52) o_X4_copyFrom rfl rfl rfl fk_C_79_4 (Wp.r_cs2 (pc := 56) o_X4_copyFrom rfl (⟨rm8_ rfl, ?_⟩)))
  refine w_X11_copyRow_86_32 (d := d)  ?_
  refine oq_bd H (fun _ s8 H => ?_)
  refine Wp.f_al1_gfr (pc := 59) o_X4_copyFrom rfl rfl rfl fk_C_25_5 (Wp.f_al0_gfr (pc := 63) o_X4_copyFrom rfl rfl rfl fk_C_79_5 (Wp.r_cs2 (pc := 67) o_X4_copyFrom rfl (⟨rm8_ rfl, ?_⟩)))
  refine w_X11_copyRow_87_33 (d := d)  ?_
  refine oq_bd H (fun _ s10 H => ?_)
  refine Wp.f_al1_gfr (pc := 70) o_X4_copyFrom rfl rfl rfl fk_C_25_6 (Wp.f_al0_gfr (pc := 74) o_X4_copyFrom rfl rfl rfl fk_C_79_6 (Wp.r_cs2 (pc := 78) o_X4_copyFrom rfl (⟨rm8_ rfl, ?_⟩)))
  refine w_X11_copyRow_88_34 (d := d)  ?_
  refine oq_bd H (fun _ s12 H => ?_)
  refine Wp.f_al1_gfr (pc := 81) o_X4_copyFrom rfl rfl rfl fk_C_25_7 (Wp.f_al0_gfr (pc := 85) o_X4_copyFrom rfl rfl rfl fk_C_79_7 (Wp.r_cs2 (pc := 89) o_X4_copyFrom rfl (⟨rm8_ rfl, ?_⟩)))
  refine w_X11_copyRow_89_35 (d := d)  ?_
  refine oq_bd H (fun _ s14 H => ?_)
  refine Wp.f_al1_gfr (pc := 92) o_X4_copyFrom rfl rfl rfl fk_C_25_8 (Wp.f_al0_gfr (pc := 96) o_X4_copyFrom rfl rfl rfl fk_C_79_8 (Wp.r_cs2 (pc := 100) o_X4_copyFrom rfl (⟨rm8_ rfl, ?_⟩)))
  refine w_X11_copyRow_90_36 (d := d)  ?_
  refine oq_bd H (fun _ s16 H => ?_)
  refine Wp.f_al1_gfr (pc := 103) o_X4_copyFrom rfl rfl rfl fk_C_25_9 (Wp.f_al0_gfr (pc := 107) o_X4_copyFrom rfl rfl rfl fk_C_79_9 (Wp.r_cs2 (pc := 111) o_X4_copyFrom rfl (⟨rm8_ rfl, ?_⟩)))
  refine w_X11_copyRow_91_37 (d := d)  ?_
  refine oq_bd H (fun _ s18 H => ?_)
  refine Wp.f_al1_gfr (pc := 114) o_X4_copyFrom rfl rfl rfl fk_C_25_10 (Wp.f_al0_gfr (pc := 118) o_X4_copyFrom rfl rfl rfl fk_C_79_10 (Wp.r_cs2 (pc := 122) o_X4_copyFrom rfl (⟨rm8_ rfl, ?_⟩)))
  refine w_X11_copyRow_92_38 (d := d)  ?_
  refine oq_bd H (fun _ s20 H => ?_)
  refine Wp.f_al1_gfr (pc := 125) o_X4_copyFrom rfl rfl rfl fk_C_25_11 (Wp.f_al0_gfr (pc := 129) o_X4_copyFrom rfl rfl rfl fk_C_79_11 (Wp.r_cs2 (pc := 133) o_X4_copyFrom rfl (⟨rm8_ rfl, ?_⟩)))
  refine w_X11_copyRow_93_39 (d := d)  ?_
  refine oq_bd H (fun _ s22 H => ?_)
  refine Wp.r_aload_n0 (pc := 136) o_X4_copyFrom rfl rfl (Wp.f_al1_gfi (pc := 137) o_X4_copyFrom rfl rfl rfl fk_C_25_12 (Wp.r_pfi (pc := 141) o_X4_copyFrom rfl fk_C_79_12 (Wp.r_aload_n0 (pc := 144) o_X4_copyFrom rfl rfl (Wp.f_al1_gfi (pc := 145) o_X4_copyFrom rfl rfl rfl fk_C_25_13 (Wp.r_pfi (pc := 149) o_X4_copyFrom rfl fk_C_79_13 (show Y_X4_copyFrom_25_79 d Q 152 [(0, .ref 79), (1, .ref 25)] [] (pI (pI s22 79 12 (s22.1 25 12)) 79 13 ((pI s22 79 12 (s22.1 25 12)).1 25 13)) from ?_))))))
  revert H
  generalize pI (pI s22 79 12 (s22.1 25 12)) 79 13 ((pI s22 79 12 (s22.1 25 12)).1 25 13) = s23
  intro H
  have H := nmx_e H
  refine Wp.r_aload_n0 (pc := 152) o_X4_copyFrom rfl rfl (Wp.f_al1_gfi (pc := 153) o_X4_copyFrom rfl rfl rfl fk_C_25_14 (Wp.r_pfi (pc := 157) o_X4_copyFrom rfl fk_C_79_14 (Wp.r_aload_n0 (pc := 160) o_X4_copyFrom rfl rfl (Wp.f_al1_gfi (pc := 161) o_X4_copyFrom rfl rfl rfl fk_C_25_15 (Wp.r_pfi (pc := 165) o_X4_copyFrom rfl fk_C_79_15 (show Y_X4_copyFrom_25_79 d Q 168 [(0, .ref 79), (1, .ref 25)] [] (pI (pI s23 79 14 (s23.1 25 14)) 79 15 ((pI s23 79 14 (s23.1 25 14)).1 25 15)) from ?_))))))
  revert H
  generalize pI (pI s23 79 14 (s23.1 25 14)) 79 15 ((pI s23 79 14 (s23.1 25 14)).1 25 15) = s24
  intro H
  have H := nmx_e H
  refine Wp.r_aload_n0 (pc := 168) o_X4_copyFrom rfl rfl (Wp.f_al1_gfi (pc := 169) o_X4_copyFrom rfl rfl rfl fk_C_25_16 (Wp.r_pfi (pc := 173) o_X4_copyFrom rfl fk_C_79_16 (Wp.r_aload_n0 (pc := 176) o_X4_copyFrom rfl rfl (Wp.f_al1_gfi (pc := 177) o_X4_copyFrom rfl rfl rfl fk_C_25_17 (Wp.r_pfi (pc := 181) o_X4_copyFrom rfl fk_C_79_17 (show Y_X4_copyFrom_25_79 d Q 184 [(0, .ref 79), (1, .ref 25)] [] (pI (pI s24 79 16 (s24.1 25 16)) 79 17 ((pI s24 79 16 (s24.1 25 16)).1 25 17)) from ?_))))))
  revert H
  generalize pI (pI s24 79 16 (s24.1 25 16)) 79 17 ((pI s24 79 16 (s24.1 25 16)).1 25 17) = s25
  intro H
  have H := nmx_e H
  obtain ⟨hc26, H⟩ := oq_ck H
  refine Wp.r_aload_n0 (pc := 184) o_X4_copyFrom rfl rfl (Wp.f_al1_gfi (pc := 185) o_X4_copyFrom rfl rfl rfl fk_C_25_18 (Wp.r_pfi (pc := 189) o_X4_copyFrom rfl fk_C_79_18 (Wp.r_aload_n0 (pc := 192) o_X4_copyFrom rfl rfl (Wp.f_al1_gfi (pc := 193) o_X4_copyFrom rfl rfl rfl fk_C_25_19 (Wp.r_pfz (pc := 197) o_X4_copyFrom rfl fk_C_79_19 (⟨hc26, ?_⟩))))))
  exact Wp.r_return (pc := 200) o_X4_copyFrom rfl (H)
noncomputable abbrev Y_X11_copyRow_94_40 (d : Nat) (Q : Qt) : Xt := Wp SHC (WpM SHC MT (d + 0)) (flat2 cq_X11_copyRow) (none) Q
noncomputable def f_X11_copyRow_94_40  (s : Sg) : Option (Unit × Sg) :=
  ck (¬ (0 : Int32) < 0 ∧ ¬ (0 : Int32) < 0 ∧ ¬ (if 8 < (8 : Int32) then 8 else (8 : Int32)) < 0 ∧ 0 + (if 8 < (8 : Int32) then 8 else (8 : Int32)).toNatClampNeg ≤ 8 ∧ 0 + (if 8 < (8 : Int32) then 8 else (8 : Int32)).toNatClampNeg ≤ 8) (
  some ((), pA s 94 (va_cpy (s.1 40) (s.1 94) 0 0 (if 8 < (8 : Int32) then 8 else (8 : Int32)).toNatClampNeg))
  )
set_option maxRecDepth 100000 in
theorem w_X11_copyRow_94_40 {d : Nat} {s : Sg} {Q : Qt}  (H : OQ (f_X11_copyRow_94_40  s) (fun _ s9 => Q none s9)) : WpM SHC MT (d + 1) 184 [.ref 40, .ref 94] s Q := by
  refine WpM.enter me_X11_copyRow rfl rfl ?_
  show Y_X11_copyRow_94_40 d Q 0 [(0, .ref 40), (1, .ref 94)] [] s
  unfold f_X11_copyRow_94_40 at H
  refine Wp.f_al0_iconst (pc := 0) o_X11_copyRow rfl rfl rfl (Wp.f_al1_iconst (pc := 2) o_X11_copyRow rfl rfl rfl (Wp.f_al0_alen (pc := 4) o_X11_copyRow rfl rfl rfl lk_C_40 (Wp.f_al1_alen (pc := 6) o_X11_copyRow rfl rfl rfl lk_C_94 (Wp.r_min (pc := 8) o_X11_copyRow rfl (⟨rm8_ rfl, ?_⟩)))))
  obtain ⟨c9, H⟩ := oq_ck H
  refine Wp.run 1 (show room8 [] ∧ (¬ (0 : Int32) < 0 ∧ ¬ (0 : Int32) < 0 ∧ ¬ (if 8 < (8 : Int32) then 8 else (8 : Int32)) < 0 ∧ 0 + (if 8 < (8 : Int32) then 8 else (8 : Int32)).toNatClampNeg ≤ 8 ∧ 0 + (if 8 < (8 : Int32) then 8 else (8 : Int32)).toNatClampNeg ≤ 8) ∧ Y_X11_copyRow_94_40 d Q 14 [(0, .ref 40), (1, .ref 94)] [] (pA s 94 (va_cpy (s.1 40) (s.1 94) 0 0 (if 8 < (8 : Int32) then 8 else (8 : Int32)).toNatClampNeg)) from ⟨rm8_ rfl, c9, ?_⟩)
  exact Wp.r_return (pc := 14) o_X11_copyRow rfl (H)
noncomputable abbrev Y_X11_copyRow_95_41 (d : Nat) (Q : Qt) : Xt := Wp SHC (WpM SHC MT (d + 0)) (flat2 cq_X11_copyRow) (none) Q
noncomputable def f_X11_copyRow_95_41  (s : Sg) : Option (Unit × Sg) :=
  ck (¬ (0 : Int32) < 0 ∧ ¬ (0 : Int32) < 0 ∧ ¬ (if 8 < (8 : Int32) then 8 else (8 : Int32)) < 0 ∧ 0 + (if 8 < (8 : Int32) then 8 else (8 : Int32)).toNatClampNeg ≤ 8 ∧ 0 + (if 8 < (8 : Int32) then 8 else (8 : Int32)).toNatClampNeg ≤ 8) (
  some ((), pA s 95 (va_cpy (s.1 41) (s.1 95) 0 0 (if 8 < (8 : Int32) then 8 else (8 : Int32)).toNatClampNeg))
  )
set_option maxRecDepth 100000 in
theorem w_X11_copyRow_95_41 {d : Nat} {s : Sg} {Q : Qt}  (H : OQ (f_X11_copyRow_95_41  s) (fun _ s9 => Q none s9)) : WpM SHC MT (d + 1) 184 [.ref 41, .ref 95] s Q := by
  refine WpM.enter me_X11_copyRow rfl rfl ?_
  show Y_X11_copyRow_95_41 d Q 0 [(0, .ref 41), (1, .ref 95)] [] s
  unfold f_X11_copyRow_95_41 at H
  refine Wp.f_al0_iconst (pc := 0) o_X11_copyRow rfl rfl rfl (Wp.f_al1_iconst (pc := 2) o_X11_copyRow rfl rfl rfl (Wp.f_al0_alen (pc := 4) o_X11_copyRow rfl rfl rfl lk_C_41 (Wp.f_al1_alen (pc := 6) o_X11_copyRow rfl rfl rfl lk_C_95 (Wp.r_min (pc := 8) o_X11_copyRow rfl (⟨rm8_ rfl, ?_⟩)))))
  obtain ⟨c9, H⟩ := oq_ck H
  refine Wp.run 1 (show room8 [] ∧ (¬ (0 : Int32) < 0 ∧ ¬ (0 : Int32) < 0 ∧ ¬ (if 8 < (8 : Int32) then 8 else (8 : Int32)) < 0 ∧ 0 + (if 8 < (8 : Int32) then 8 else (8 : Int32)).toNatClampNeg ≤ 8 ∧ 0 + (if 8 < (8 : Int32) then 8 else (8 : Int32)).toNatClampNeg ≤ 8) ∧ Y_X11_copyRow_95_41 d Q 14 [(0, .ref 41), (1, .ref 95)] [] (pA s 95 (va_cpy (s.1 41) (s.1 95) 0 0 (if 8 < (8 : Int32) then 8 else (8 : Int32)).toNatClampNeg)) from ⟨rm8_ rfl, c9, ?_⟩)
  exact Wp.r_return (pc := 14) o_X11_copyRow rfl (H)
noncomputable abbrev Y_X11_copyRow_96_42 (d : Nat) (Q : Qt) : Xt := Wp SHC (WpM SHC MT (d + 0)) (flat2 cq_X11_copyRow) (none) Q
noncomputable def f_X11_copyRow_96_42  (s : Sg) : Option (Unit × Sg) :=
  ck (¬ (0 : Int32) < 0 ∧ ¬ (0 : Int32) < 0 ∧ ¬ (if 8 < (8 : Int32) then 8 else (8 : Int32)) < 0 ∧ 0 + (if 8 < (8 : Int32) then 8 else (8 : Int32)).toNatClampNeg ≤ 8 ∧ 0 + (if 8 < (8 : Int32) then 8 else (8 : Int32)).toNatClampNeg ≤ 8) (
  some ((), pA s 96 (va_cpy (s.1 42) (s.1 96) 0 0 (if 8 < (8 : Int32) then 8 else (8 : Int32)).toNatClampNeg))
  )
set_option maxRecDepth 100000 in
theorem w_X11_copyRow_96_42 {d : Nat} {s : Sg} {Q : Qt}  (H : OQ (f_X11_copyRow_96_42  s) (fun _ s9 => Q none s9)) : WpM SHC MT (d + 1) 184 [.ref 42, .ref 96] s Q := by
  refine WpM.enter me_X11_copyRow rfl rfl ?_
  show Y_X11_copyRow_96_42 d Q 0 [(0, .ref 42), (1, .ref 96)] [] s
  unfold f_X11_copyRow_96_42 at H
  refine Wp.f_al0_iconst (pc := 0) o_X11_copyRow rfl rfl rfl (Wp.f_al1_iconst (pc := 2) o_X11_copyRow rfl rfl rfl (Wp.f_al0_alen (pc := 4) o_X11_copyRow rfl rfl rfl lk_C_42 (Wp.f_al1_alen (pc := 6) o_X11_copyRow rfl rfl rfl lk_C_96 (Wp.r_min (pc := 8) o_X11_copyRow rfl (⟨rm8_ rfl, ?_⟩)))))
  obtain ⟨c9, H⟩ := oq_ck H
  refine Wp.run 1 (show room8 [] ∧ (¬ (0 : Int32) < 0 ∧ ¬ (0 : Int32) < 0 ∧ ¬ (if 8 < (8 : Int32) then 8 else (8 : Int32)) < 0 ∧ 0 + (if 8 < (8 : Int32) then 8 else (8 : Int32)).toNatClampNeg ≤ 8 ∧ 0 + (if 8 < (8 : Int32) then 8 else (8 : Int32)).toNatClampNeg ≤ 8) ∧ Y_X11_copyRow_96_42 d Q 14 [(0, .ref 42), (1, .ref 96)] [] (pA s 96 (va_cpy (s.1 42) (s.1 96) 0 0 (if 8 < (8 : Int32) then 8 else (8 : Int32)).toNatClampNeg)) from ⟨rm8_ rfl, c9, ?_⟩)
  exact Wp.r_return (pc := 14) o_X11_copyRow rfl (H)
noncomputable abbrev Y_X11_copyRow_97_43 (d : Nat) (Q : Qt) : Xt := Wp SHC (WpM SHC MT (d + 0)) (flat2 cq_X11_copyRow) (none) Q
noncomputable def f_X11_copyRow_97_43  (s : Sg) : Option (Unit × Sg) :=
  ck (¬ (0 : Int32) < 0 ∧ ¬ (0 : Int32) < 0 ∧ ¬ (if 8 < (8 : Int32) then 8 else (8 : Int32)) < 0 ∧ 0 + (if 8 < (8 : Int32) then 8 else (8 : Int32)).toNatClampNeg ≤ 8 ∧ 0 + (if 8 < (8 : Int32) then 8 else (8 : Int32)).toNatClampNeg ≤ 8) (
  some ((), pA s 97 (va_cpy (s.1 43) (s.1 97) 0 0 (if 8 < (8 : Int32) then 8 else (8 : Int32)).toNatClampNeg))
  )
set_option maxRecDepth 100000 in
theorem w_X11_copyRow_97_43 {d : Nat} {s : Sg} {Q : Qt}  (H : OQ (f_X11_copyRow_97_43  s) (fun _ s9 => Q none s9)) : WpM SHC MT (d + 1) 184 [.ref 43, .ref 97] s Q := by
  refine WpM.enter me_X11_copyRow rfl rfl ?_
  show Y_X11_copyRow_97_43 d Q 0 [(0, .ref 43), (1, .ref 97)] [] s
  unfold f_X11_copyRow_97_43 at H
  refine Wp.f_al0_iconst (pc := 0) o_X11_copyRow rfl rfl rfl (Wp.f_al1_iconst (pc := 2) o_X11_copyRow rfl rfl rfl (Wp.f_al0_alen (pc := 4) o_X11_copyRow rfl rfl rfl lk_C_43 (Wp.f_al1_alen (pc := 6) o_X11_copyRow rfl rfl rfl lk_C_97 (Wp.r_min (pc := 8) o_X11_copyRow rfl (⟨rm8_ rfl, ?_⟩)))))
  obtain ⟨c9, H⟩ := oq_ck H
  refine Wp.run 1 (show room8 [] ∧ (¬ (0 : Int32) < 0 ∧ ¬ (0 : Int32) < 0 ∧ ¬ (if 8 < (8 : Int32) then 8 else (8 : Int32)) < 0 ∧ 0 + (if 8 < (8 : Int32) then 8 else (8 : Int32)).toNatClampNeg ≤ 8 ∧ 0 + (if 8 < (8 : Int32) then 8 else (8 : Int32)).toNatClampNeg ≤ 8) ∧ Y_X11_copyRow_97_43 d Q 14 [(0, .ref 43), (1, .ref 97)] [] (pA s 97 (va_cpy (s.1 43) (s.1 97) 0 0 (if 8 < (8 : Int32) then 8 else (8 : Int32)).toNatClampNeg)) from ⟨rm8_ rfl, c9, ?_⟩)
  exact Wp.r_return (pc := 14) o_X11_copyRow rfl (H)
noncomputable abbrev Y_X11_copyRow_98_44 (d : Nat) (Q : Qt) : Xt := Wp SHC (WpM SHC MT (d + 0)) (flat2 cq_X11_copyRow) (none) Q
noncomputable def f_X11_copyRow_98_44  (s : Sg) : Option (Unit × Sg) :=
  ck (¬ (0 : Int32) < 0 ∧ ¬ (0 : Int32) < 0 ∧ ¬ (if 4 < (4 : Int32) then 4 else (4 : Int32)) < 0 ∧ 0 + (if 4 < (4 : Int32) then 4 else (4 : Int32)).toNatClampNeg ≤ 4 ∧ 0 + (if 4 < (4 : Int32) then 4 else (4 : Int32)).toNatClampNeg ≤ 4) (
  some ((), pA s 98 (va_cpy (s.1 44) (s.1 98) 0 0 (if 4 < (4 : Int32) then 4 else (4 : Int32)).toNatClampNeg))
  )
set_option maxRecDepth 100000 in
theorem w_X11_copyRow_98_44 {d : Nat} {s : Sg} {Q : Qt}  (H : OQ (f_X11_copyRow_98_44  s) (fun _ s9 => Q none s9)) : WpM SHC MT (d + 1) 184 [.ref 44, .ref 98] s Q := by
  refine WpM.enter me_X11_copyRow rfl rfl ?_
  show Y_X11_copyRow_98_44 d Q 0 [(0, .ref 44), (1, .ref 98)] [] s
  unfold f_X11_copyRow_98_44 at H
  refine Wp.f_al0_iconst (pc := 0) o_X11_copyRow rfl rfl rfl (Wp.f_al1_iconst (pc := 2) o_X11_copyRow rfl rfl rfl (Wp.f_al0_alen (pc := 4) o_X11_copyRow rfl rfl rfl lk_C_44 (Wp.f_al1_alen (pc := 6) o_X11_copyRow rfl rfl rfl lk_C_98 (Wp.r_min (pc := 8) o_X11_copyRow rfl (⟨rm8_ rfl, ?_⟩)))))
  obtain ⟨c9, H⟩ := oq_ck H
  refine Wp.run 1 (show room8 [] ∧ (¬ (0 : Int32) < 0 ∧ ¬ (0 : Int32) < 0 ∧ ¬ (if 4 < (4 : Int32) then 4 else (4 : Int32)) < 0 ∧ 0 + (if 4 < (4 : Int32) then 4 else (4 : Int32)).toNatClampNeg ≤ 4 ∧ 0 + (if 4 < (4 : Int32) then 4 else (4 : Int32)).toNatClampNeg ≤ 4) ∧ Y_X11_copyRow_98_44 d Q 14 [(0, .ref 44), (1, .ref 98)] [] (pA s 98 (va_cpy (s.1 44) (s.1 98) 0 0 (if 4 < (4 : Int32) then 4 else (4 : Int32)).toNatClampNeg)) from ⟨rm8_ rfl, c9, ?_⟩)
  exact Wp.r_return (pc := 14) o_X11_copyRow rfl (H)
noncomputable abbrev Y_X2_copyFrom_26_80 (d : Nat) (Q : Qt) : Xt := Wp SHC (WpM SHC MT (d + 1)) (flat2 cq_X2_copyFrom) (none) Q
noncomputable def f_X2_copyFrom_26_80  (s : Sg) : Option (Unit × Sg) :=
  bd (f_X11_copyRow_94_40 s) (fun _ s2 =>
  bd (f_X11_copyRow_95_41 s2) (fun _ s4 =>
  bd (f_X11_copyRow_96_42 s4) (fun _ s6 =>
  bd (f_X11_copyRow_97_43 s6) (fun _ s8 =>
  bd (f_X11_copyRow_98_44 s8) (fun _ s10 =>
  nmx (pI (pI s10 80 5 (s10.1 26 5)) 80 6 ((pI s10 80 5 (s10.1 26 5)).1 26 6)) (fun s11 =>
  ck ((s11.1 26 7) = 0 ∨ (s11.1 26 7) = 1) (
  nmx (pI (pI s11 80 7 (s11.1 26 7)) 80 8 ((pI s11 80 7 (s11.1 26 7)).1 26 8)) (fun s13 =>
  nmx (pI (pI s13 80 9 (s13.1 26 9)) 80 10 ((pI s13 80 9 (s13.1 26 9)).1 26 10)) (fun s14 =>
  nmx (pI (pI s14 80 11 (s14.1 26 11)) 80 12 ((pI s14 80 11 (s14.1 26 11)).1 26 12)) (fun s15 =>
  some ((), s15)
  )
  )
  )
  )
  )
  )
  )
  )
  )
  )
set_option maxRecDepth 100000 in
theorem w_X2_copyFrom_26_80 {d : Nat} {s : Sg} {Q : Qt}  (H : OQ (f_X2_copyFrom_26_80  s) (fun _ s9 => Q none s9)) : WpM SHC MT (d + 2) 21 [.ref 80, .ref 26] s Q := by
  refine WpM.enter me_X2_copyFrom rfl rfl ?_
  show Y_X2_copyFrom_26_80 d Q 0 [(0, .ref 80), (1, .ref 26)] [] s
  unfold f_X2_copyFrom_26_80 at H
  refine Wp.f_al1_gfr (pc := 0) o_X2_copyFrom rfl rfl rfl fk_C_26_0 (Wp.f_al0_gfr (pc := 4) o_X2_copyFrom rfl rfl rfl fk_C_80_0 (Wp.r_cs2 (pc := 8) o_X2_copyFrom rfl (⟨rm8_ rfl, ?_⟩)))
  refine w_X11_copyRow_94_40 (d := d)  ?_
  refine oq_bd H (fun _ s2 H => ?_)
  refine Wp.f_al1_gfr (pc := 11) o_X2_copyFrom rfl rfl rfl fk_C_26_1 (Wp.f_al0_gfr (pc := 15) o_X2_copyFrom rfl rfl rfl fk_C_80_1 (Wp.r_cs2 (pc := 19) o_X2_copyFrom rfl (⟨rm8_ rfl, ?_⟩)))
  refine w_X11_copyRow_95_41 (d := d)  ?_
  refine oq_bd H (fun _ s4 H => ?_)
  refine Wp.f_al1_gfr (pc := 22) o_X2_copyFrom rfl rfl rfl fk_C_26_2 (Wp.f_al0_gfr (pc := 26) o_X2_copyFrom rfl rfl rfl fk_C_80_2 (Wp.r_cs2 (pc := 30) o_X2_copyFrom rfl (⟨rm8_ rfl, ?_⟩)))
  refine w_X11_copyRow_96_42 (d := d)  ?_
  refine oq_bd H (fun _ s6 H => ?_)
  refine Wp.f_al1_gfr (pc := 33) o_X2_copyFrom rfl rfl rfl fk_C_26_3 (Wp.f_al0_gfr (pc := 37) o_X2_copyFrom rfl rfl rfl fk_C_80_3 (Wp.r_cs2 (pc := 41) o_X2_copyFrom rfl (⟨rm8_ rfl, ?_⟩)))
  refine w_X11_copyRow_97_43 (d := d)  ?_
  refine oq_bd H (fun _ s8 H => ?_)
  refine Wp.f_al1_gfr (pc := 44) o_X2_copyFrom rfl rfl rfl fk_C_26_4 (Wp.f_al0_gfr (pc := 48) o_X2_copyFrom rfl rfl rfl fk_C_80_4 (Wp.r_cs2 (pc := 52) o_X2_copyFrom rfl (⟨rm8_ rfl, ?_⟩)))
  refine w_X11_copyRow_98_44 (d := d)  ?_
  refine oq_bd H (fun _ s10 H => ?_)
  refine Wp.r_aload_n0 (pc := 55) o_X2_copyFrom rfl rfl (Wp.f_al1_gfi (pc := 56) o_X2_copyFrom rfl rfl rfl fk_C_26_5 (Wp.r_pfi (pc := 60) o_X2_copyFrom rfl fk_C_80_5 (Wp.r_aload_n0 (pc := 63) o_X2_copyFrom rfl rfl (Wp.f_al1_gfi (pc := 64) o_X2_copyFrom rfl rfl rfl fk_C_26_6 (Wp.r_pfi (pc := 68) o_X2_copyFrom rfl fk_C_80_6 (show Y_X2_copyFrom_26_80 d Q 71 [(0, .ref 80), (1, .ref 26)] [] (pI (pI s10 80 5 (s10.1 26 5)) 80 6 ((pI s10 80 5 (s10.1 26 5)).1 26 6)) from ?_))))))
  revert H
  generalize pI (pI s10 80 5 (s10.1 26 5)) 80 6 ((pI s10 80 5 (s10.1 26 5)).1 26 6) = s11
  intro H
  have H := nmx_e H
  obtain ⟨hc12, H⟩ := oq_ck H
  refine Wp.r_aload_n0 (pc := 71) o_X2_copyFrom rfl rfl (Wp.f_al1_gfi (pc := 72) o_X2_copyFrom rfl rfl rfl fk_C_26_7 (Wp.r_pfz (pc := 76) o_X2_copyFrom rfl fk_C_80_7 (⟨hc12, ?_⟩)))
  refine Wp.r_aload_n0 (pc := 79) o_X2_copyFrom rfl rfl (Wp.f_al1_gfi (pc := 80) o_X2_copyFrom rfl rfl rfl fk_C_26_8 (Wp.r_pfi (pc := 84) o_X2_copyFrom rfl fk_C_80_8 (show Y_X2_copyFrom_26_80 d Q 87 [(0, .ref 80), (1, .ref 26)] [] (pI (pI s11 80 7 (s11.1 26 7)) 80 8 ((pI s11 80 7 (s11.1 26 7)).1 26 8)) from ?_)))
  revert H
  generalize pI (pI s11 80 7 (s11.1 26 7)) 80 8 ((pI s11 80 7 (s11.1 26 7)).1 26 8) = s13
  intro H
  have H := nmx_e H
  refine Wp.r_aload_n0 (pc := 87) o_X2_copyFrom rfl rfl (Wp.f_al1_gfi (pc := 88) o_X2_copyFrom rfl rfl rfl fk_C_26_9 (Wp.r_pfi (pc := 92) o_X2_copyFrom rfl fk_C_80_9 (Wp.r_aload_n0 (pc := 95) o_X2_copyFrom rfl rfl (Wp.f_al1_gfi (pc := 96) o_X2_copyFrom rfl rfl rfl fk_C_26_10 (Wp.r_pfi (pc := 100) o_X2_copyFrom rfl fk_C_80_10 (show Y_X2_copyFrom_26_80 d Q 103 [(0, .ref 80), (1, .ref 26)] [] (pI (pI s13 80 9 (s13.1 26 9)) 80 10 ((pI s13 80 9 (s13.1 26 9)).1 26 10)) from ?_))))))
  revert H
  generalize pI (pI s13 80 9 (s13.1 26 9)) 80 10 ((pI s13 80 9 (s13.1 26 9)).1 26 10) = s14
  intro H
  have H := nmx_e H
  refine Wp.r_aload_n0 (pc := 103) o_X2_copyFrom rfl rfl (Wp.f_al1_gfi (pc := 104) o_X2_copyFrom rfl rfl rfl fk_C_26_11 (Wp.r_pfi (pc := 108) o_X2_copyFrom rfl fk_C_80_11 (Wp.r_aload_n0 (pc := 111) o_X2_copyFrom rfl rfl (Wp.f_al1_gfi (pc := 112) o_X2_copyFrom rfl rfl rfl fk_C_26_12 (Wp.r_pfi (pc := 116) o_X2_copyFrom rfl fk_C_80_12 (show Y_X2_copyFrom_26_80 d Q 119 [(0, .ref 80), (1, .ref 26)] [] (pI (pI s14 80 11 (s14.1 26 11)) 80 12 ((pI s14 80 11 (s14.1 26 11)).1 26 12)) from ?_))))))
  revert H
  generalize pI (pI s14 80 11 (s14.1 26 11)) 80 12 ((pI s14 80 11 (s14.1 26 11)).1 26 12) = s15
  intro H
  have H := nmx_e H
  exact Wp.r_return (pc := 119) o_X2_copyFrom rfl (H)
noncomputable abbrev Y_X11_copyRow_99_45 (d : Nat) (Q : Qt) : Xt := Wp SHC (WpM SHC MT (d + 0)) (flat2 cq_X11_copyRow) (none) Q
noncomputable def f_X11_copyRow_99_45  (s : Sg) : Option (Unit × Sg) :=
  ck (¬ (0 : Int32) < 0 ∧ ¬ (0 : Int32) < 0 ∧ ¬ (if 60 < (60 : Int32) then 60 else (60 : Int32)) < 0 ∧ 0 + (if 60 < (60 : Int32) then 60 else (60 : Int32)).toNatClampNeg ≤ 60 ∧ 0 + (if 60 < (60 : Int32) then 60 else (60 : Int32)).toNatClampNeg ≤ 60) (
  some ((), pA s 99 (va_cpy (s.1 45) (s.1 99) 0 0 (if 60 < (60 : Int32) then 60 else (60 : Int32)).toNatClampNeg))
  )
set_option maxRecDepth 100000 in
theorem w_X11_copyRow_99_45 {d : Nat} {s : Sg} {Q : Qt}  (H : OQ (f_X11_copyRow_99_45  s) (fun _ s9 => Q none s9)) : WpM SHC MT (d + 1) 184 [.ref 45, .ref 99] s Q := by
  refine WpM.enter me_X11_copyRow rfl rfl ?_
  show Y_X11_copyRow_99_45 d Q 0 [(0, .ref 45), (1, .ref 99)] [] s
  unfold f_X11_copyRow_99_45 at H
  refine Wp.f_al0_iconst (pc := 0) o_X11_copyRow rfl rfl rfl (Wp.f_al1_iconst (pc := 2) o_X11_copyRow rfl rfl rfl (Wp.f_al0_alen (pc := 4) o_X11_copyRow rfl rfl rfl lk_C_45 (Wp.f_al1_alen (pc := 6) o_X11_copyRow rfl rfl rfl lk_C_99 (Wp.r_min (pc := 8) o_X11_copyRow rfl (⟨rm8_ rfl, ?_⟩)))))
  obtain ⟨c9, H⟩ := oq_ck H
  refine Wp.run 1 (show room8 [] ∧ (¬ (0 : Int32) < 0 ∧ ¬ (0 : Int32) < 0 ∧ ¬ (if 60 < (60 : Int32) then 60 else (60 : Int32)) < 0 ∧ 0 + (if 60 < (60 : Int32) then 60 else (60 : Int32)).toNatClampNeg ≤ 60 ∧ 0 + (if 60 < (60 : Int32) then 60 else (60 : Int32)).toNatClampNeg ≤ 60) ∧ Y_X11_copyRow_99_45 d Q 14 [(0, .ref 45), (1, .ref 99)] [] (pA s 99 (va_cpy (s.1 45) (s.1 99) 0 0 (if 60 < (60 : Int32) then 60 else (60 : Int32)).toNatClampNeg)) from ⟨rm8_ rfl, c9, ?_⟩)
  exact Wp.r_return (pc := 14) o_X11_copyRow rfl (H)
noncomputable abbrev Y_X11_copyRow_100_46 (d : Nat) (Q : Qt) : Xt := Wp SHC (WpM SHC MT (d + 0)) (flat2 cq_X11_copyRow) (none) Q
noncomputable def f_X11_copyRow_100_46  (s : Sg) : Option (Unit × Sg) :=
  ck (¬ (0 : Int32) < 0 ∧ ¬ (0 : Int32) < 0 ∧ ¬ (if 60 < (60 : Int32) then 60 else (60 : Int32)) < 0 ∧ 0 + (if 60 < (60 : Int32) then 60 else (60 : Int32)).toNatClampNeg ≤ 60 ∧ 0 + (if 60 < (60 : Int32) then 60 else (60 : Int32)).toNatClampNeg ≤ 60) (
  some ((), pA s 100 (va_cpy (s.1 46) (s.1 100) 0 0 (if 60 < (60 : Int32) then 60 else (60 : Int32)).toNatClampNeg))
  )
set_option maxRecDepth 100000 in
theorem w_X11_copyRow_100_46 {d : Nat} {s : Sg} {Q : Qt}  (H : OQ (f_X11_copyRow_100_46  s) (fun _ s9 => Q none s9)) : WpM SHC MT (d + 1) 184 [.ref 46, .ref 100] s Q := by
  refine WpM.enter me_X11_copyRow rfl rfl ?_
  show Y_X11_copyRow_100_46 d Q 0 [(0, .ref 46), (1, .ref 100)] [] s
  unfold f_X11_copyRow_100_46 at H
  refine Wp.f_al0_iconst (pc := 0) o_X11_copyRow rfl rfl rfl (Wp.f_al1_iconst (pc := 2) o_X11_copyRow rfl rfl rfl (Wp.f_al0_alen (pc := 4) o_X11_copyRow rfl rfl rfl lk_C_46 (Wp.f_al1_alen (pc := 6) o_X11_copyRow rfl rfl rfl lk_C_100 (Wp.r_min (pc := 8) o_X11_copyRow rfl (⟨rm8_ rfl, ?_⟩)))))
  obtain ⟨c9, H⟩ := oq_ck H
  refine Wp.run 1 (show room8 [] ∧ (¬ (0 : Int32) < 0 ∧ ¬ (0 : Int32) < 0 ∧ ¬ (if 60 < (60 : Int32) then 60 else (60 : Int32)) < 0 ∧ 0 + (if 60 < (60 : Int32) then 60 else (60 : Int32)).toNatClampNeg ≤ 60 ∧ 0 + (if 60 < (60 : Int32) then 60 else (60 : Int32)).toNatClampNeg ≤ 60) ∧ Y_X11_copyRow_100_46 d Q 14 [(0, .ref 46), (1, .ref 100)] [] (pA s 100 (va_cpy (s.1 46) (s.1 100) 0 0 (if 60 < (60 : Int32) then 60 else (60 : Int32)).toNatClampNeg)) from ⟨rm8_ rfl, c9, ?_⟩)
  exact Wp.r_return (pc := 14) o_X11_copyRow rfl (H)
noncomputable abbrev Y_X11_copyRow_101_47 (d : Nat) (Q : Qt) : Xt := Wp SHC (WpM SHC MT (d + 0)) (flat2 cq_X11_copyRow) (none) Q
noncomputable def f_X11_copyRow_101_47  (s : Sg) : Option (Unit × Sg) :=
  ck (¬ (0 : Int32) < 0 ∧ ¬ (0 : Int32) < 0 ∧ ¬ (if 60 < (60 : Int32) then 60 else (60 : Int32)) < 0 ∧ 0 + (if 60 < (60 : Int32) then 60 else (60 : Int32)).toNatClampNeg ≤ 60 ∧ 0 + (if 60 < (60 : Int32) then 60 else (60 : Int32)).toNatClampNeg ≤ 60) (
  some ((), pA s 101 (va_cpy (s.1 47) (s.1 101) 0 0 (if 60 < (60 : Int32) then 60 else (60 : Int32)).toNatClampNeg))
  )
set_option maxRecDepth 100000 in
theorem w_X11_copyRow_101_47 {d : Nat} {s : Sg} {Q : Qt}  (H : OQ (f_X11_copyRow_101_47  s) (fun _ s9 => Q none s9)) : WpM SHC MT (d + 1) 184 [.ref 47, .ref 101] s Q := by
  refine WpM.enter me_X11_copyRow rfl rfl ?_
  show Y_X11_copyRow_101_47 d Q 0 [(0, .ref 47), (1, .ref 101)] [] s
  unfold f_X11_copyRow_101_47 at H
  refine Wp.f_al0_iconst (pc := 0) o_X11_copyRow rfl rfl rfl (Wp.f_al1_iconst (pc := 2) o_X11_copyRow rfl rfl rfl (Wp.f_al0_alen (pc := 4) o_X11_copyRow rfl rfl rfl lk_C_47 (Wp.f_al1_alen (pc := 6) o_X11_copyRow rfl rfl rfl lk_C_101 (Wp.r_min (pc := 8) o_X11_copyRow rfl (⟨rm8_ rfl, ?_⟩)))))
  obtain ⟨c9, H⟩ := oq_ck H
  refine Wp.run 1 (show room8 [] ∧ (¬ (0 : Int32) < 0 ∧ ¬ (0 : Int32) < 0 ∧ ¬ (if 60 < (60 : Int32) then 60 else (60 : Int32)) < 0 ∧ 0 + (if 60 < (60 : Int32) then 60 else (60 : Int32)).toNatClampNeg ≤ 60 ∧ 0 + (if 60 < (60 : Int32) then 60 else (60 : Int32)).toNatClampNeg ≤ 60) ∧ Y_X11_copyRow_101_47 d Q 14 [(0, .ref 47), (1, .ref 101)] [] (pA s 101 (va_cpy (s.1 47) (s.1 101) 0 0 (if 60 < (60 : Int32) then 60 else (60 : Int32)).toNatClampNeg)) from ⟨rm8_ rfl, c9, ?_⟩)
  exact Wp.r_return (pc := 14) o_X11_copyRow rfl (H)
noncomputable abbrev Y_X11_copyRow_102_48 (d : Nat) (Q : Qt) : Xt := Wp SHC (WpM SHC MT (d + 0)) (flat2 cq_X11_copyRow) (none) Q
noncomputable def f_X11_copyRow_102_48  (s : Sg) : Option (Unit × Sg) :=
  ck (¬ (0 : Int32) < 0 ∧ ¬ (0 : Int32) < 0 ∧ ¬ (if 60 < (60 : Int32) then 60 else (60 : Int32)) < 0 ∧ 0 + (if 60 < (60 : Int32) then 60 else (60 : Int32)).toNatClampNeg ≤ 60 ∧ 0 + (if 60 < (60 : Int32) then 60 else (60 : Int32)).toNatClampNeg ≤ 60) (
  some ((), pA s 102 (va_cpy (s.1 48) (s.1 102) 0 0 (if 60 < (60 : Int32) then 60 else (60 : Int32)).toNatClampNeg))
  )
set_option maxRecDepth 100000 in
theorem w_X11_copyRow_102_48 {d : Nat} {s : Sg} {Q : Qt}  (H : OQ (f_X11_copyRow_102_48  s) (fun _ s9 => Q none s9)) : WpM SHC MT (d + 1) 184 [.ref 48, .ref 102] s Q := by
  refine WpM.enter me_X11_copyRow rfl rfl ?_
  show Y_X11_copyRow_102_48 d Q 0 [(0, .ref 48), (1, .ref 102)] [] s
  unfold f_X11_copyRow_102_48 at H
  refine Wp.f_al0_iconst (pc := 0) o_X11_copyRow rfl rfl rfl (Wp.f_al1_iconst (pc := 2) o_X11_copyRow rfl rfl rfl (Wp.f_al0_alen (pc := 4) o_X11_copyRow rfl rfl rfl lk_C_48 (Wp.f_al1_alen (pc := 6) o_X11_copyRow rfl rfl rfl lk_C_102 (Wp.r_min (pc := 8) o_X11_copyRow rfl (⟨rm8_ rfl, ?_⟩)))))
  obtain ⟨c9, H⟩ := oq_ck H
  refine Wp.run 1 (show room8 [] ∧ (¬ (0 : Int32) < 0 ∧ ¬ (0 : Int32) < 0 ∧ ¬ (if 60 < (60 : Int32) then 60 else (60 : Int32)) < 0 ∧ 0 + (if 60 < (60 : Int32) then 60 else (60 : Int32)).toNatClampNeg ≤ 60 ∧ 0 + (if 60 < (60 : Int32) then 60 else (60 : Int32)).toNatClampNeg ≤ 60) ∧ Y_X11_copyRow_102_48 d Q 14 [(0, .ref 48), (1, .ref 102)] [] (pA s 102 (va_cpy (s.1 48) (s.1 102) 0 0 (if 60 < (60 : Int32) then 60 else (60 : Int32)).toNatClampNeg)) from ⟨rm8_ rfl, c9, ?_⟩)
  exact Wp.r_return (pc := 14) o_X11_copyRow rfl (H)
noncomputable abbrev Y_X11_copyRow_103_49 (d : Nat) (Q : Qt) : Xt := Wp SHC (WpM SHC MT (d + 0)) (flat2 cq_X11_copyRow) (none) Q
noncomputable def f_X11_copyRow_103_49  (s : Sg) : Option (Unit × Sg) :=
  ck (¬ (0 : Int32) < 0 ∧ ¬ (0 : Int32) < 0 ∧ ¬ (if 60 < (60 : Int32) then 60 else (60 : Int32)) < 0 ∧ 0 + (if 60 < (60 : Int32) then 60 else (60 : Int32)).toNatClampNeg ≤ 60 ∧ 0 + (if 60 < (60 : Int32) then 60 else (60 : Int32)).toNatClampNeg ≤ 60) (
  some ((), pA s 103 (va_cpy (s.1 49) (s.1 103) 0 0 (if 60 < (60 : Int32) then 60 else (60 : Int32)).toNatClampNeg))
  )
set_option maxRecDepth 100000 in
theorem w_X11_copyRow_103_49 {d : Nat} {s : Sg} {Q : Qt}  (H : OQ (f_X11_copyRow_103_49  s) (fun _ s9 => Q none s9)) : WpM SHC MT (d + 1) 184 [.ref 49, .ref 103] s Q := by
  refine WpM.enter me_X11_copyRow rfl rfl ?_
  show Y_X11_copyRow_103_49 d Q 0 [(0, .ref 49), (1, .ref 103)] [] s
  unfold f_X11_copyRow_103_49 at H
  refine Wp.f_al0_iconst (pc := 0) o_X11_copyRow rfl rfl rfl (Wp.f_al1_iconst (pc := 2) o_X11_copyRow rfl rfl rfl (Wp.f_al0_alen (pc := 4) o_X11_copyRow rfl rfl rfl lk_C_49 (Wp.f_al1_alen (pc := 6) o_X11_copyRow rfl rfl rfl lk_C_103 (Wp.r_min (pc := 8) o_X11_copyRow rfl (⟨rm8_ rfl, ?_⟩)))))
  obtain ⟨c9, H⟩ := oq_ck H
  refine Wp.run 1 (show room8 [] ∧ (¬ (0 : Int32) < 0 ∧ ¬ (0 : Int32) < 0 ∧ ¬ (if 60 < (60 : Int32) then 60 else (60 : Int32)) < 0 ∧ 0 + (if 60 < (60 : Int32) then 60 else (60 : Int32)).toNatClampNeg ≤ 60 ∧ 0 + (if 60 < (60 : Int32) then 60 else (60 : Int32)).toNatClampNeg ≤ 60) ∧ Y_X11_copyRow_103_49 d Q 14 [(0, .ref 49), (1, .ref 103)] [] (pA s 103 (va_cpy (s.1 49) (s.1 103) 0 0 (if 60 < (60 : Int32) then 60 else (60 : Int32)).toNatClampNeg)) from ⟨rm8_ rfl, c9, ?_⟩)
  exact Wp.r_return (pc := 14) o_X11_copyRow rfl (H)
noncomputable abbrev Y_X11_copyRow_104_50 (d : Nat) (Q : Qt) : Xt := Wp SHC (WpM SHC MT (d + 0)) (flat2 cq_X11_copyRow) (none) Q
noncomputable def f_X11_copyRow_104_50  (s : Sg) : Option (Unit × Sg) :=
  ck (¬ (0 : Int32) < 0 ∧ ¬ (0 : Int32) < 0 ∧ ¬ (if 60 < (60 : Int32) then 60 else (60 : Int32)) < 0 ∧ 0 + (if 60 < (60 : Int32) then 60 else (60 : Int32)).toNatClampNeg ≤ 60 ∧ 0 + (if 60 < (60 : Int32) then 60 else (60 : Int32)).toNatClampNeg ≤ 60) (
  some ((), pA s 104 (va_cpy (s.1 50) (s.1 104) 0 0 (if 60 < (60 : Int32) then 60 else (60 : Int32)).toNatClampNeg))
  )
set_option maxRecDepth 100000 in
theorem w_X11_copyRow_104_50 {d : Nat} {s : Sg} {Q : Qt}  (H : OQ (f_X11_copyRow_104_50  s) (fun _ s9 => Q none s9)) : WpM SHC MT (d + 1) 184 [.ref 50, .ref 104] s Q := by
  refine WpM.enter me_X11_copyRow rfl rfl ?_
  show Y_X11_copyRow_104_50 d Q 0 [(0, .ref 50), (1, .ref 104)] [] s
  unfold f_X11_copyRow_104_50 at H
  refine Wp.f_al0_iconst (pc := 0) o_X11_copyRow rfl rfl rfl (Wp.f_al1_iconst (pc := 2) o_X11_copyRow rfl rfl rfl (Wp.f_al0_alen (pc := 4) o_X11_copyRow rfl rfl rfl lk_C_50 (Wp.f_al1_alen (pc := 6) o_X11_copyRow rfl rfl rfl lk_C_104 (Wp.r_min (pc := 8) o_X11_copyRow rfl (⟨rm8_ rfl, ?_⟩)))))
  obtain ⟨c9, H⟩ := oq_ck H
  refine Wp.run 1 (show room8 [] ∧ (¬ (0 : Int32) < 0 ∧ ¬ (0 : Int32) < 0 ∧ ¬ (if 60 < (60 : Int32) then 60 else (60 : Int32)) < 0 ∧ 0 + (if 60 < (60 : Int32) then 60 else (60 : Int32)).toNatClampNeg ≤ 60 ∧ 0 + (if 60 < (60 : Int32) then 60 else (60 : Int32)).toNatClampNeg ≤ 60) ∧ Y_X11_copyRow_104_50 d Q 14 [(0, .ref 50), (1, .ref 104)] [] (pA s 104 (va_cpy (s.1 50) (s.1 104) 0 0 (if 60 < (60 : Int32) then 60 else (60 : Int32)).toNatClampNeg)) from ⟨rm8_ rfl, c9, ?_⟩)
  exact Wp.r_return (pc := 14) o_X11_copyRow rfl (H)
noncomputable abbrev Y_X5_copyFrom_27_81 (d : Nat) (Q : Qt) : Xt := Wp SHC (WpM SHC MT (d + 1)) (flat2 cq_X5_copyFrom) (none) Q
noncomputable def f_X5_copyFrom_27_81  (s : Sg) : Option (Unit × Sg) :=
  bd (f_X11_copyRow_99_45 s) (fun _ s2 =>
  bd (f_X11_copyRow_100_46 s2) (fun _ s4 =>
  bd (f_X11_copyRow_101_47 s4) (fun _ s6 =>
  bd (f_X11_copyRow_102_48 s6) (fun _ s8 =>
  bd (f_X11_copyRow_103_49 s8) (fun _ s10 =>
  bd (f_X11_copyRow_104_50 s10) (fun _ s12 =>
  ck ((s12.1 27 6) = 0 ∨ (s12.1 27 6) = 1) (
  nmx (pI (pI s12 81 6 (s12.1 27 6)) 81 7 ((pI s12 81 6 (s12.1 27 6)).1 27 7)) (fun s14 =>
  some ((), pI s14 81 8 (s14.1 27 8))
  )
  )
  )
  )
  )
  )
  )
  )
set_option maxRecDepth 100000 in
theorem w_X5_copyFrom_27_81 {d : Nat} {s : Sg} {Q : Qt}  (H : OQ (f_X5_copyFrom_27_81  s) (fun _ s9 => Q none s9)) : WpM SHC MT (d + 2) 62 [.ref 81, .ref 27] s Q := by
  refine WpM.enter me_X5_copyFrom rfl rfl ?_
  show Y_X5_copyFrom_27_81 d Q 0 [(0, .ref 81), (1, .ref 27)] [] s
  unfold f_X5_copyFrom_27_81 at H
  refine Wp.f_al1_gfr (pc := 0) o_X5_copyFrom rfl rfl rfl fk_C_27_0 (Wp.f_al0_gfr (pc := 4) o_X5_copyFrom rfl rfl rfl fk_C_81_0 (Wp.r_cs2 (pc := 8) o_X5_copyFrom rfl (⟨rm8_ rfl, ?_⟩)))
  refine w_X11_copyRow_99_45 (d := d)  ?_
  refine oq_bd H (fun _ s2 H => ?_)
  refine Wp.f_al1_gfr (pc := 11) o_X5_copyFrom rfl rfl rfl fk_C_27_1 (Wp.f_al0_gfr (pc := 15) o_X5_copyFrom rfl rfl rfl fk_C_81_1 (Wp.r_cs2 (pc := 19) o_X5_copyFrom rfl (⟨rm8_ rfl, ?_⟩)))
  refine w_X11_copyRow_100_46 (d := d)  ?_
  refine oq_bd H (fun _ s4 H => ?_)
  refine Wp.f_al1_gfr (pc := 22) o_X5_copyFrom rfl rfl rfl fk_C_27_2 (Wp.f_al0_gfr (pc := 26) o_X5_copyFrom rfl rfl rfl fk_C_81_2 (Wp.r_cs2 (pc := 30) o_X5_copyFrom rfl (⟨rm8_ rfl, ?_⟩)))
  refine w_X11_copyRow_101_47 (d := d)  ?_
  refine oq_bd H (fun _ s6 H => ?_)
  refine Wp.f_al1_gfr (pc := 33) o_X5_copyFrom rfl rfl rfl fk_C_27_3 (Wp.f_al0_gfr (pc := 37) o_X5_copyFrom rfl rfl rfl fk_C_81_3 (Wp.r_cs2 (pc := 41) o_X5_copyFrom rfl (⟨rm8_ rfl, ?_⟩)))
  refine w_X11_copyRow_102_48 (d := d)  ?_
  refine oq_bd H (fun _ s8 H => ?_)
  refine Wp.f_al1_gfr (pc := 44) o_X5_copyFrom rfl rfl rfl fk_C_27_4 (Wp.f_al0_gfr (pc := 48) o_X5_copyFrom rfl rfl rfl fk_C_81_4 (Wp.r_cs2 (pc := 52) o_X5_copyFrom rfl (⟨rm8_ rfl, ?_⟩)))
  refine w_X11_copyRow_103_49 (d := d)  ?_
  refine oq_bd H (fun _ s10 H => ?_)
  refine Wp.f_al1_gfr (pc := 55) o_X5_copyFrom rfl rfl rfl fk_C_27_5 (Wp.f_al0_gfr (pc := 59) o_X5_copyFrom rfl rfl rfl fk_C_81_5 (Wp.r_cs2 (pc := 63) o_X5_copyFrom rfl (⟨rm8_ rfl, ?_⟩)))
  refine w_X11_copyRow_104_50 (d := d)  ?_
  refine oq_bd H (fun _ s12 H => ?_)
  obtain ⟨hc13, H⟩ := oq_ck H
  refine Wp.r_aload_n0 (pc := 66) o_X5_copyFrom rfl rfl (Wp.f_al1_gfi (pc := 67) o_X5_copyFrom rfl rfl rfl fk_C_27_6 (Wp.r_pfz (pc := 71) o_X5_copyFrom rfl fk_C_81_6 (⟨hc13, ?_⟩)))
  refine Wp.r_aload_n0 (pc := 74) o_X5_copyFrom rfl rfl (Wp.f_al1_gfi (pc := 75) o_X5_copyFrom rfl rfl rfl fk_C_27_7 (Wp.r_pfi (pc := 79) o_X5_copyFrom rfl fk_C_81_7 (show Y_X5_copyFrom_27_81 d Q 82 [(0, .ref 81), (1, .ref 27)] [] (pI (pI s12 81 6 (s12.1 27 6)) 81 7 ((pI s12 81 6 (s12.1 27 6)).1 27 7)) from ?_)))
  revert H
  generalize pI (pI s12 81 6 (s12.1 27 6)) 81 7 ((pI s12 81 6 (s12.1 27 6)).1 27 7) = s14
  intro H
  have H := nmx_e H
  exact Wp.r_aload_n0 (pc := 82) o_X5_copyFrom rfl rfl (Wp.f_al1_gfi (pc := 83) o_X5_copyFrom rfl rfl rfl fk_C_27_8 (Wp.r_pfi (pc := 87) o_X5_copyFrom rfl fk_C_81_8 (Wp.r_return (pc := 90) o_X5_copyFrom rfl (H))))
noncomputable abbrev Y_X10_copyFrom_24_78 (d : Nat) (Q : Qt) : Xt := Wp SHC (WpM SHC MT (d + 2)) (flat2 cq_X10_copyFrom) (none) Q
noncomputable def f_X10_copyFrom_24_78  (s : Sg) : Option (Unit × Sg) :=
  bd (f_X4_copyFrom_25_79 s) (fun _ s2 =>
  bd (f_X2_copyFrom_26_80 s2) (fun _ s4 =>
  bd (f_X5_copyFrom_27_81 s4) (fun _ s6 =>
  some ((), s6)
  )
  )
  )
set_option maxRecDepth 100000 in
theorem w_X10_copyFrom_24_78 {d : Nat} {s : Sg} {Q : Qt}  (H : OQ (f_X10_copyFrom_24_78  s) (fun _ s9 => Q none s9)) : WpM SHC MT (d + 3) 101 [.ref 78, .ref 24] s Q := by
  refine WpM.enter me_X10_copyFrom rfl rfl ?_
  show Y_X10_copyFrom_24_78 d Q 0 [(0, .ref 78), (1, .ref 24)] [] s
  unfold f_X10_copyFrom_24_78 at H
  refine Wp.f_al0_gfr (pc := 0) o_X10_copyFrom rfl rfl rfl fk_C_78_0 (Wp.f_al1_gfr (pc := 4) o_X10_copyFrom rfl rfl rfl fk_C_24_0 (Wp.r_cv2 (pc := 8) o_X10_copyFrom rfl fk_C_79_0 (⟨rm8_ rfl, ?_⟩)))
  refine w_X4_copyFrom_25_79 (d := d)  ?_
  refine oq_bd H (fun _ s2 H => ?_)
  refine Wp.f_al0_gfr (pc := 11) o_X10_copyFrom rfl rfl rfl fk_C_78_1 (Wp.f_al1_gfr (pc := 15) o_X10_copyFrom rfl rfl rfl fk_C_24_1 (Wp.r_cv2 (pc := 19) o_X10_copyFrom rfl fk_C_80_0 (⟨rm8_ rfl, ?_⟩)))
  refine w_X2_copyFrom_26_80 (d := d)  ?_
  refine oq_bd H (fun _ s4 H => ?_)
  refine Wp.f_al0_gfr (pc := 22) o_X10_copyFrom rfl rfl rfl fk_C_78_2 (Wp.f_al1_gfr (pc := 26) o_X10_copyFrom rfl rfl rfl fk_C_24_2 (Wp.r_cv2 (pc := 30) o_X10_copyFrom rfl fk_C_81_0 (⟨rm8_ rfl, ?_⟩)))
  refine w_X5_copyFrom_27_81 (d := d)  ?_
  refine oq_bd H (fun _ s6 H => ?_)
  exact Wp.r_return (pc := 33) o_X10_copyFrom rfl (H)
noncomputable abbrev Y_X11_copyRow_110_29 (d : Nat) (Q : Qt) : Xt := Wp SHC (WpM SHC MT (d + 0)) (flat2 cq_X11_copyRow) (none) Q
noncomputable def f_X11_copyRow_110_29  (s : Sg) : Option (Unit × Sg) :=
  ck (¬ (0 : Int32) < 0 ∧ ¬ (0 : Int32) < 0 ∧ ¬ (if 24 < (24 : Int32) then 24 else (24 : Int32)) < 0 ∧ 0 + (if 24 < (24 : Int32) then 24 else (24 : Int32)).toNatClampNeg ≤ 24 ∧ 0 + (if 24 < (24 : Int32) then 24 else (24 : Int32)).toNatClampNeg ≤ 24) (
  some ((), pA s 110 (va_cpy (s.1 29) (s.1 110) 0 0 (if 24 < (24 : Int32) then 24 else (24 : Int32)).toNatClampNeg))
  )
set_option maxRecDepth 100000 in
theorem w_X11_copyRow_110_29 {d : Nat} {s : Sg} {Q : Qt}  (H : OQ (f_X11_copyRow_110_29  s) (fun _ s9 => Q none s9)) : WpM SHC MT (d + 1) 184 [.ref 29, .ref 110] s Q := by
  refine WpM.enter me_X11_copyRow rfl rfl ?_
  show Y_X11_copyRow_110_29 d Q 0 [(0, .ref 29), (1, .ref 110)] [] s
  unfold f_X11_copyRow_110_29 at H
  refine Wp.f_al0_iconst (pc := 0) o_X11_copyRow rfl rfl rfl (Wp.f_al1_iconst (pc := 2) o_X11_copyRow rfl rfl rfl (Wp.f_al0_alen (pc := 4) o_X11_copyRow rfl rfl rfl lk_C_29 (Wp.f_al1_alen (pc := 6) o_X11_copyRow rfl rfl rfl lk_C_110 (Wp.r_min (pc := 8) o_X11_copyRow rfl (⟨rm8_ rfl, ?_⟩)))))
  obtain ⟨c9, H⟩ := oq_ck H
  refine Wp.run 1 (show room8 [] ∧ (¬ (0 : Int32) < 0 ∧ ¬ (0 : Int32) < 0 ∧ ¬ (if 24 < (24 : Int32) then 24 else (24 : Int32)) < 0 ∧ 0 + (if 24 < (24 : Int32) then 24 else (24 : Int32)).toNatClampNeg ≤ 24 ∧ 0 + (if 24 < (24 : Int32) then 24 else (24 : Int32)).toNatClampNeg ≤ 24) ∧ Y_X11_copyRow_110_29 d Q 14 [(0, .ref 29), (1, .ref 110)] [] (pA s 110 (va_cpy (s.1 29) (s.1 110) 0 0 (if 24 < (24 : Int32) then 24 else (24 : Int32)).toNatClampNeg)) from ⟨rm8_ rfl, c9, ?_⟩)
  exact Wp.r_return (pc := 14) o_X11_copyRow rfl (H)
noncomputable abbrev Y_X11_copyRow_111_30 (d : Nat) (Q : Qt) : Xt := Wp SHC (WpM SHC MT (d + 0)) (flat2 cq_X11_copyRow) (none) Q
noncomputable def f_X11_copyRow_111_30  (s : Sg) : Option (Unit × Sg) :=
  ck (¬ (0 : Int32) < 0 ∧ ¬ (0 : Int32) < 0 ∧ ¬ (if 24 < (24 : Int32) then 24 else (24 : Int32)) < 0 ∧ 0 + (if 24 < (24 : Int32) then 24 else (24 : Int32)).toNatClampNeg ≤ 24 ∧ 0 + (if 24 < (24 : Int32) then 24 else (24 : Int32)).toNatClampNeg ≤ 24) (
  some ((), pA s 111 (va_cpy (s.1 30) (s.1 111) 0 0 (if 24 < (24 : Int32) then 24 else (24 : Int32)).toNatClampNeg))
  )
set_option maxRecDepth 100000 in
theorem w_X11_copyRow_111_30 {d : Nat} {s : Sg} {Q : Qt}  (H : OQ (f_X11_copyRow_111_30  s) (fun _ s9 => Q none s9)) : WpM SHC MT (d + 1) 184 [.ref 30, .ref 111] s Q := by
  refine WpM.enter me_X11_copyRow rfl rfl ?_
  show Y_X11_copyRow_111_30 d Q 0 [(0, .ref 30), (1, .ref 111)] [] s
  unfold f_X11_copyRow_111_30 at H
  refine Wp.f_al0_iconst (pc := 0) o_X11_copyRow rfl rfl rfl (Wp.f_al1_iconst (pc := 2) o_X11_copyRow rfl rfl rfl (Wp.f_al0_alen (pc := 4) o_X11_copyRow rfl rfl rfl lk_C_30 (Wp.f_al1_alen (pc := 6) o_X11_copyRow rfl rfl rfl lk_C_111 (Wp.r_min (pc := 8) o_X11_copyRow rfl (⟨rm8_ rfl, ?_⟩)))))
  obtain ⟨c9, H⟩ := oq_ck H
  refine Wp.run 1 (show room8 [] ∧ (¬ (0 : Int32) < 0 ∧ ¬ (0 : Int32) < 0 ∧ ¬ (if 24 < (24 : Int32) then 24 else (24 : Int32)) < 0 ∧ 0 + (if 24 < (24 : Int32) then 24 else (24 : Int32)).toNatClampNeg ≤ 24 ∧ 0 + (if 24 < (24 : Int32) then 24 else (24 : Int32)).toNatClampNeg ≤ 24) ∧ Y_X11_copyRow_111_30 d Q 14 [(0, .ref 30), (1, .ref 111)] [] (pA s 111 (va_cpy (s.1 30) (s.1 111) 0 0 (if 24 < (24 : Int32) then 24 else (24 : Int32)).toNatClampNeg)) from ⟨rm8_ rfl, c9, ?_⟩)
  exact Wp.r_return (pc := 14) o_X11_copyRow rfl (H)
noncomputable abbrev Y_X11_copyRow_112_31 (d : Nat) (Q : Qt) : Xt := Wp SHC (WpM SHC MT (d + 0)) (flat2 cq_X11_copyRow) (none) Q
noncomputable def f_X11_copyRow_112_31  (s : Sg) : Option (Unit × Sg) :=
  ck (¬ (0 : Int32) < 0 ∧ ¬ (0 : Int32) < 0 ∧ ¬ (if 8 < (8 : Int32) then 8 else (8 : Int32)) < 0 ∧ 0 + (if 8 < (8 : Int32) then 8 else (8 : Int32)).toNatClampNeg ≤ 8 ∧ 0 + (if 8 < (8 : Int32) then 8 else (8 : Int32)).toNatClampNeg ≤ 8) (
  some ((), pA s 112 (va_cpy (s.1 31) (s.1 112) 0 0 (if 8 < (8 : Int32) then 8 else (8 : Int32)).toNatClampNeg))
  )
set_option maxRecDepth 100000 in
theorem w_X11_copyRow_112_31 {d : Nat} {s : Sg} {Q : Qt}  (H : OQ (f_X11_copyRow_112_31  s) (fun _ s9 => Q none s9)) : WpM SHC MT (d + 1) 184 [.ref 31, .ref 112] s Q := by
  refine WpM.enter me_X11_copyRow rfl rfl ?_
  show Y_X11_copyRow_112_31 d Q 0 [(0, .ref 31), (1, .ref 112)] [] s
  unfold f_X11_copyRow_112_31 at H
  refine Wp.f_al0_iconst (pc := 0) o_X11_copyRow rfl rfl rfl (Wp.f_al1_iconst (pc := 2) o_X11_copyRow rfl rfl rfl (Wp.f_al0_alen (pc := 4) o_X11_copyRow rfl rfl rfl lk_C_31 (Wp.f_al1_alen (pc := 6) o_X11_copyRow rfl rfl rfl lk_C_112 (Wp.r_min (pc := 8) o_X11_copyRow rfl (⟨rm8_ rfl, ?_⟩)))))
  obtain ⟨c9, H⟩ := oq_ck H
  refine Wp.run 1 (show room8 [] ∧ (¬ (0 : Int32) < 0 ∧ ¬ (0 : Int32) < 0 ∧ ¬ (if 8 < (8 : Int32) then 8 else (8 : Int32)) < 0 ∧ 0 + (if 8 < (8 : Int32) then 8 else (8 : Int32)).toNatClampNeg ≤ 8 ∧ 0 + (if 8 < (8 : Int32) then 8 else (8 : Int32)).toNatClampNeg ≤ 8) ∧ Y_X11_copyRow_112_31 d Q 14 [(0, .ref 31), (1, .ref 112)] [] (pA s 112 (va_cpy (s.1 31) (s.1 112) 0 0 (if 8 < (8 : Int32) then 8 else (8 : Int32)).toNatClampNeg)) from ⟨rm8_ rfl, c9, ?_⟩)
  exact Wp.r_return (pc := 14) o_X11_copyRow rfl (H)
noncomputable abbrev Y_X11_copyRow_113_32 (d : Nat) (Q : Qt) : Xt := Wp SHC (WpM SHC MT (d + 0)) (flat2 cq_X11_copyRow) (none) Q
noncomputable def f_X11_copyRow_113_32  (s : Sg) : Option (Unit × Sg) :=
  ck (¬ (0 : Int32) < 0 ∧ ¬ (0 : Int32) < 0 ∧ ¬ (if 8 < (8 : Int32) then 8 else (8 : Int32)) < 0 ∧ 0 + (if 8 < (8 : Int32) then 8 else (8 : Int32)).toNatClampNeg ≤ 8 ∧ 0 + (if 8 < (8 : Int32) then 8 else (8 : Int32)).toNatClampNeg ≤ 8) (
  some ((), pA s 113 (va_cpy (s.1 32) (s.1 113) 0 0 (if 8 < (8 : Int32) then 8 else (8 : Int32)).toNatClampNeg))
  )
set_option maxRecDepth 100000 in
theorem w_X11_copyRow_113_32 {d : Nat} {s : Sg} {Q : Qt}  (H : OQ (f_X11_copyRow_113_32  s) (fun _ s9 => Q none s9)) : WpM SHC MT (d + 1) 184 [.ref 32, .ref 113] s Q := by
  refine WpM.enter me_X11_copyRow rfl rfl ?_
  show Y_X11_copyRow_113_32 d Q 0 [(0, .ref 32), (1, .ref 113)] [] s
  unfold f_X11_copyRow_113_32 at H
  refine Wp.f_al0_iconst (pc := 0) o_X11_copyRow rfl rfl rfl (Wp.f_al1_iconst (pc := 2) o_X11_copyRow rfl rfl rfl (Wp.f_al0_alen (pc := 4) o_X11_copyRow rfl rfl rfl lk_C_32 (Wp.f_al1_alen (pc := 6) o_X11_copyRow rfl rfl rfl lk_C_113 (Wp.r_min (pc := 8) o_X11_copyRow rfl (⟨rm8_ rfl, ?_⟩)))))
  obtain ⟨c9, H⟩ := oq_ck H
  refine Wp.run 1 (show room8 [] ∧ (¬ (0 : Int32) < 0 ∧ ¬ (0 : Int32) < 0 ∧ ¬ (if 8 < (8 : Int32) then 8 else (8 : Int32)) < 0 ∧ 0 + (if 8 < (8 : Int32) then 8 else (8 : Int32)).toNatClampNeg ≤ 8 ∧ 0 + (if 8 < (8 : Int32) then 8 else (8 : Int32)).toNatClampNeg ≤ 8) ∧ Y_X11_copyRow_113_32 d Q 14 [(0, .ref 32), (1, .ref 113)] [] (pA s 113 (va_cpy (s.1 32) (s.1 113) 0 0 (if 8 < (8 : Int32) then 8 else (8 : Int32)).toNatClampNeg)) from ⟨rm8_ rfl, c9, ?_⟩)
  exact Wp.r_return (pc := 14) o_X11_copyRow rfl (H)
noncomputable abbrev Y_X11_copyRow_114_33 (d : Nat) (Q : Qt) : Xt := Wp SHC (WpM SHC MT (d + 0)) (flat2 cq_X11_copyRow) (none) Q
noncomputable def f_X11_copyRow_114_33  (s : Sg) : Option (Unit × Sg) :=
  ck (¬ (0 : Int32) < 0 ∧ ¬ (0 : Int32) < 0 ∧ ¬ (if 8 < (8 : Int32) then 8 else (8 : Int32)) < 0 ∧ 0 + (if 8 < (8 : Int32) then 8 else (8 : Int32)).toNatClampNeg ≤ 8 ∧ 0 + (if 8 < (8 : Int32) then 8 else (8 : Int32)).toNatClampNeg ≤ 8) (
  some ((), pA s 114 (va_cpy (s.1 33) (s.1 114) 0 0 (if 8 < (8 : Int32) then 8 else (8 : Int32)).toNatClampNeg))
  )
set_option maxRecDepth 100000 in
theorem w_X11_copyRow_114_33 {d : Nat} {s : Sg} {Q : Qt}  (H : OQ (f_X11_copyRow_114_33  s) (fun _ s9 => Q none s9)) : WpM SHC MT (d + 1) 184 [.ref 33, .ref 114] s Q := by
  refine WpM.enter me_X11_copyRow rfl rfl ?_
  show Y_X11_copyRow_114_33 d Q 0 [(0, .ref 33), (1, .ref 114)] [] s
  unfold f_X11_copyRow_114_33 at H
  refine Wp.f_al0_iconst (pc := 0) o_X11_copyRow rfl rfl rfl (Wp.f_al1_iconst (pc := 2) o_X11_copyRow rfl rfl rfl (Wp.f_al0_alen (pc := 4) o_X11_copyRow rfl rfl rfl lk_C_33 (Wp.f_al1_alen (pc := 6) o_X11_copyRow rfl rfl rfl lk_C_114 (Wp.r_min (pc := 8) o_X11_copyRow rfl (⟨rm8_ rfl, ?_⟩)))))
  obtain ⟨c9, H⟩ := oq_ck H
  refine Wp.run 1 (show room8 [] ∧ (¬ (0 : Int32) < 0 ∧ ¬ (0 : Int32) < 0 ∧ ¬ (if 8 < (8 : Int32) then 8 else (8 : Int32)) < 0 ∧ 0 + (if 8 < (8 : Int32) then 8 else (8 : Int32)).toNatClampNeg ≤ 8 ∧ 0 + (if 8 < (8 : Int32) then 8 else (8 : Int32)).toNatClampNeg ≤ 8) ∧ Y_X11_copyRow_114_33 d Q 14 [(0, .ref 33), (1, .ref 114)] [] (pA s 114 (va_cpy (s.1 33) (s.1 114) 0 0 (if 8 < (8 : Int32) then 8 else (8 : Int32)).toNatClampNeg)) from ⟨rm8_ rfl, c9, ?_⟩)
  exact Wp.r_return (pc := 14) o_X11_copyRow rfl (H)
noncomputable abbrev Y_X11_copyRow_115_34 (d : Nat) (Q : Qt) : Xt := Wp SHC (WpM SHC MT (d + 0)) (flat2 cq_X11_copyRow) (none) Q
noncomputable def f_X11_copyRow_115_34  (s : Sg) : Option (Unit × Sg) :=
  ck (¬ (0 : Int32) < 0 ∧ ¬ (0 : Int32) < 0 ∧ ¬ (if 8 < (8 : Int32) then 8 else (8 : Int32)) < 0 ∧ 0 + (if 8 < (8 : Int32) then 8 else (8 : Int32)).toNatClampNeg ≤ 8 ∧ 0 + (if 8 < (8 : Int32) then 8 else (8 : Int32)).toNatClampNeg ≤ 8) (
  some ((), pA s 115 (va_cpy (s.1 34) (s.1 115) 0 0 (if 8 < (8 : Int32) then 8 else (8 : Int32)).toNatClampNeg))
  )
set_option maxRecDepth 100000 in
theorem w_X11_copyRow_115_34 {d : Nat} {s : Sg} {Q : Qt}  (H : OQ (f_X11_copyRow_115_34  s) (fun _ s9 => Q none s9)) : WpM SHC MT (d + 1) 184 [.ref 34, .ref 115] s Q := by
  refine WpM.enter me_X11_copyRow rfl rfl ?_
  show Y_X11_copyRow_115_34 d Q 0 [(0, .ref 34), (1, .ref 115)] [] s
  unfold f_X11_copyRow_115_34 at H
  refine Wp.f_al0_iconst (pc := 0) o_X11_copyRow rfl rfl rfl (Wp.f_al1_iconst (pc := 2) o_X11_copyRow rfl rfl rfl (Wp.f_al0_alen (pc := 4) o_X11_copyRow rfl rfl rfl lk_C_34 (Wp.f_al1_alen (pc := 6) o_X11_copyRow rfl rfl rfl lk_C_115 (Wp.r_min (pc := 8) o_X11_copyRow rfl (⟨rm8_ rfl, ?_⟩)))))
  obtain ⟨c9, H⟩ := oq_ck H
  refine Wp.run 1 (show room8 [] ∧ (¬ (0 : Int32) < 0 ∧ ¬ (0 : Int32) < 0 ∧ ¬ (if 8 < (8 : Int32) then 8 else (8 : Int32)) < 0 ∧ 0 + (if 8 < (8 : Int32) then 8 else (8 : Int32)).toNatClampNeg ≤ 8 ∧ 0 + (if 8 < (8 : Int32) then 8 else (8 : Int32)).toNatClampNeg ≤ 8) ∧ Y_X11_copyRow_115_34 d Q 14 [(0, .ref 34), (1, .ref 115)] [] (pA s 115 (va_cpy (s.1 34) (s.1 115) 0 0 (if 8 < (8 : Int32) then 8 else (8 : Int32)).toNatClampNeg)) from ⟨rm8_ rfl, c9, ?_⟩)
  exact Wp.r_return (pc := 14) o_X11_copyRow rfl (H)
noncomputable abbrev Y_X11_copyRow_116_35 (d : Nat) (Q : Qt) : Xt := Wp SHC (WpM SHC MT (d + 0)) (flat2 cq_X11_copyRow) (none) Q
noncomputable def f_X11_copyRow_116_35  (s : Sg) : Option (Unit × Sg) :=
  ck (¬ (0 : Int32) < 0 ∧ ¬ (0 : Int32) < 0 ∧ ¬ (if 4 < (4 : Int32) then 4 else (4 : Int32)) < 0 ∧ 0 + (if 4 < (4 : Int32) then 4 else (4 : Int32)).toNatClampNeg ≤ 4 ∧ 0 + (if 4 < (4 : Int32) then 4 else (4 : Int32)).toNatClampNeg ≤ 4) (
  some ((), pA s 116 (va_cpy (s.1 35) (s.1 116) 0 0 (if 4 < (4 : Int32) then 4 else (4 : Int32)).toNatClampNeg))
  )
set_option maxRecDepth 100000 in
theorem w_X11_copyRow_116_35 {d : Nat} {s : Sg} {Q : Qt}  (H : OQ (f_X11_copyRow_116_35  s) (fun _ s9 => Q none s9)) : WpM SHC MT (d + 1) 184 [.ref 35, .ref 116] s Q := by
  refine WpM.enter me_X11_copyRow rfl rfl ?_
  show Y_X11_copyRow_116_35 d Q 0 [(0, .ref 35), (1, .ref 116)] [] s
  unfold f_X11_copyRow_116_35 at H
  refine Wp.f_al0_iconst (pc := 0) o_X11_copyRow rfl rfl rfl (Wp.f_al1_iconst (pc := 2) o_X11_copyRow rfl rfl rfl (Wp.f_al0_alen (pc := 4) o_X11_copyRow rfl rfl rfl lk_C_35 (Wp.f_al1_alen (pc := 6) o_X11_copyRow rfl rfl rfl lk_C_116 (Wp.r_min (pc := 8) o_X11_copyRow rfl (⟨rm8_ rfl, ?_⟩)))))
  obtain ⟨c9, H⟩ := oq_ck H
  refine Wp.run 1 (show room8 [] ∧ (¬ (0 : Int32) < 0 ∧ ¬ (0 : Int32) < 0 ∧ ¬ (if 4 < (4 : Int32) then 4 else (4 : Int32)) < 0 ∧ 0 + (if 4 < (4 : Int32) then 4 else (4 : Int32)).toNatClampNeg ≤ 4 ∧ 0 + (if 4 < (4 : Int32) then 4 else (4 : Int32)).toNatClampNeg ≤ 4) ∧ Y_X11_copyRow_116_35 d Q 14 [(0, .ref 35), (1, .ref 116)] [] (pA s 116 (va_cpy (s.1 35) (s.1 116) 0 0 (if 4 < (4 : Int32) then 4 else (4 : Int32)).toNatClampNeg)) from ⟨rm8_ rfl, c9, ?_⟩)
  exact Wp.r_return (pc := 14) o_X11_copyRow rfl (H)
noncomputable abbrev Y_X11_copyRow_117_36 (d : Nat) (Q : Qt) : Xt := Wp SHC (WpM SHC MT (d + 0)) (flat2 cq_X11_copyRow) (none) Q
noncomputable def f_X11_copyRow_117_36  (s : Sg) : Option (Unit × Sg) :=
  ck (¬ (0 : Int32) < 0 ∧ ¬ (0 : Int32) < 0 ∧ ¬ (if 4 < (4 : Int32) then 4 else (4 : Int32)) < 0 ∧ 0 + (if 4 < (4 : Int32) then 4 else (4 : Int32)).toNatClampNeg ≤ 4 ∧ 0 + (if 4 < (4 : Int32) then 4 else (4 : Int32)).toNatClampNeg ≤ 4) (
  some ((), pA s 117 (va_cpy (s.1 36) (s.1 117) 0 0 (if 4 < (4 : Int32) then 4 else (4 : Int32)).toNatClampNeg))
  )
set_option maxRecDepth 100000 in
theorem w_X11_copyRow_117_36 {d : Nat} {s : Sg} {Q : Qt}  (H : OQ (f_X11_copyRow_117_36  s) (fun _ s9 => Q none s9)) : WpM SHC MT (d + 1) 184 [.ref 36, .ref 117] s Q := by
  refine WpM.enter me_X11_copyRow rfl rfl ?_
  show Y_X11_copyRow_117_36 d Q 0 [(0, .ref 36), (1, .ref 117)] [] s
  unfold f_X11_copyRow_117_36 at H
  refine Wp.f_al0_iconst (pc := 0) o_X11_copyRow rfl rfl rfl (Wp.f_al1_iconst (pc := 2) o_X11_copyRow rfl rfl rfl (Wp.f_al0_alen (pc := 4) o_X11_copyRow rfl rfl rfl lk_C_36 (Wp.f_al1_alen (pc := 6) o_X11_copyRow rfl rfl rfl lk_C_117 (Wp.r_min (pc := 8) o_X11_copyRow rfl (⟨rm8_ rfl, ?_⟩)))))
  obtain ⟨c9, H⟩ := oq_ck H
  refine Wp.run 1 (show room8 [] ∧ (¬ (0 : Int32) < 0 ∧ ¬ (0 : Int32) < 0 ∧ ¬ (if 4 < (4 : Int32) then 4 else (4 : Int32)) < 0 ∧ 0 + (if 4 < (4 : Int32) then 4 else (4 : Int32)).toNatClampNeg ≤ 4 ∧ 0 + (if 4 < (4 : Int32) then 4 else (4 : Int32)).toNatClampNeg ≤ 4) ∧ Y_X11_copyRow_117_36 d Q 14 [(0, .ref 36), (1, .ref 117)] [] (pA s 117 (va_cpy (s.1 36) (s.1 117) 0 0 (if 4 < (4 : Int32) then 4 else (4 : Int32)).toNatClampNeg)) from ⟨rm8_ rfl, c9, ?_⟩)
  exact Wp.r_return (pc := 14) o_X11_copyRow rfl (H)
noncomputable abbrev Y_X11_copyRow_118_37 (d : Nat) (Q : Qt) : Xt := Wp SHC (WpM SHC MT (d + 0)) (flat2 cq_X11_copyRow) (none) Q
noncomputable def f_X11_copyRow_118_37  (s : Sg) : Option (Unit × Sg) :=
  ck (¬ (0 : Int32) < 0 ∧ ¬ (0 : Int32) < 0 ∧ ¬ (if 4 < (4 : Int32) then 4 else (4 : Int32)) < 0 ∧ 0 + (if 4 < (4 : Int32) then 4 else (4 : Int32)).toNatClampNeg ≤ 4 ∧ 0 + (if 4 < (4 : Int32) then 4 else (4 : Int32)).toNatClampNeg ≤ 4) (
  some ((), pA s 118 (va_cpy (s.1 37) (s.1 118) 0 0 (if 4 < (4 : Int32) then 4 else (4 : Int32)).toNatClampNeg))
  )
set_option maxRecDepth 100000 in
theorem w_X11_copyRow_118_37 {d : Nat} {s : Sg} {Q : Qt}  (H : OQ (f_X11_copyRow_118_37  s) (fun _ s9 => Q none s9)) : WpM SHC MT (d + 1) 184 [.ref 37, .ref 118] s Q := by
  refine WpM.enter me_X11_copyRow rfl rfl ?_
  show Y_X11_copyRow_118_37 d Q 0 [(0, .ref 37), (1, .ref 118)] [] s
  unfold f_X11_copyRow_118_37 at H
  refine Wp.f_al0_iconst (pc := 0) o_X11_copyRow rfl rfl rfl (Wp.f_al1_iconst (pc := 2) o_X11_copyRow rfl rfl rfl (Wp.f_al0_alen (pc := 4) o_X11_copyRow rfl rfl rfl lk_C_37 (Wp.f_al1_alen (pc := 6) o_X11_copyRow rfl rfl rfl lk_C_118 (Wp.r_min (pc := 8) o_X11_copyRow rfl (⟨rm8_ rfl, ?_⟩)))))
  obtain ⟨c9, H⟩ := oq_ck H
  refine Wp.run 1 (show room8 [] ∧ (¬ (0 : Int32) < 0 ∧ ¬ (0 : Int32) < 0 ∧ ¬ (if 4 < (4 : Int32) then 4 else (4 : Int32)) < 0 ∧ 0 + (if 4 < (4 : Int32) then 4 else (4 : Int32)).toNatClampNeg ≤ 4 ∧ 0 + (if 4 < (4 : Int32) then 4 else (4 : Int32)).toNatClampNeg ≤ 4) ∧ Y_X11_copyRow_118_37 d Q 14 [(0, .ref 37), (1, .ref 118)] [] (pA s 118 (va_cpy (s.1 37) (s.1 118) 0 0 (if 4 < (4 : Int32) then 4 else (4 : Int32)).toNatClampNeg)) from ⟨rm8_ rfl, c9, ?_⟩)
  exact Wp.r_return (pc := 14) o_X11_copyRow rfl (H)
noncomputable abbrev Y_X11_copyRow_119_38 (d : Nat) (Q : Qt) : Xt := Wp SHC (WpM SHC MT (d + 0)) (flat2 cq_X11_copyRow) (none) Q
noncomputable def f_X11_copyRow_119_38  (s : Sg) : Option (Unit × Sg) :=
  ck (¬ (0 : Int32) < 0 ∧ ¬ (0 : Int32) < 0 ∧ ¬ (if 4 < (4 : Int32) then 4 else (4 : Int32)) < 0 ∧ 0 + (if 4 < (4 : Int32) then 4 else (4 : Int32)).toNatClampNeg ≤ 4 ∧ 0 + (if 4 < (4 : Int32) then 4 else (4 : Int32)).toNatClampNeg ≤ 4) (
  some ((), pA s 119 (va_cpy (s.1 38) (s.1 119) 0 0 (if 4 < (4 : Int32) then 4 else (4 : Int32)).toNatClampNeg))
  )
set_option maxRecDepth 100000 in
theorem w_X11_copyRow_119_38 {d : Nat} {s : Sg} {Q : Qt}  (H : OQ (f_X11_copyRow_119_38  s) (fun _ s9 => Q none s9)) : WpM SHC MT (d + 1) 184 [.ref 38, .ref 119] s Q := by
  refine WpM.enter me_X11_copyRow rfl rfl ?_
  show Y_X11_copyRow_119_38 d Q 0 [(0, .ref 38), (1, .ref 119)] [] s
  unfold f_X11_copyRow_119_38 at H
  refine Wp.f_al0_iconst (pc := 0) o_X11_copyRow rfl rfl rfl (Wp.f_al1_iconst (pc := 2) o_X11_copyRow rfl rfl rfl (Wp.f_al0_alen (pc := 4) o_X11_copyRow rfl rfl rfl lk_C_38 (Wp.f_al1_alen (pc := 6) o_X11_copyRow rfl rfl rfl lk_C_119 (Wp.r_min (pc := 8) o_X11_copyRow rfl (⟨rm8_ rfl, ?_⟩)))))
  obtain ⟨c9, H⟩ := oq_ck H
  refine Wp.run 1 (show room8 [] ∧ (¬ (0 : Int32) < 0 ∧ ¬ (0 : Int32) < 0 ∧ ¬ (if 4 < (4 : Int32) then 4 else (4 : Int32)) < 0 ∧ 0 + (if 4 < (4 : Int32) then 4 else (4 : Int32)).toNatClampNeg ≤ 4 ∧ 0 + (if 4 < (4 : Int32) then 4 else (4 : Int32)).toNatClampNeg ≤ 4) ∧ Y_X11_copyRow_119_38 d Q 14 [(0, .ref 38), (1, .ref 119)] [] (pA s 119 (va_cpy (s.1 38) (s.1 119) 0 0 (if 4 < (4 : Int32) then 4 else (4 : Int32)).toNatClampNeg)) from ⟨rm8_ rfl, c9, ?_⟩)
  exact Wp.r_return (pc := 14) o_X11_copyRow rfl (H)
noncomputable abbrev Y_X11_copyRow_120_39 (d : Nat) (Q : Qt) : Xt := Wp SHC (WpM SHC MT (d + 0)) (flat2 cq_X11_copyRow) (none) Q
noncomputable def f_X11_copyRow_120_39  (s : Sg) : Option (Unit × Sg) :=
  ck (¬ (0 : Int32) < 0 ∧ ¬ (0 : Int32) < 0 ∧ ¬ (if 4 < (4 : Int32) then 4 else (4 : Int32)) < 0 ∧ 0 + (if 4 < (4 : Int32) then 4 else (4 : Int32)).toNatClampNeg ≤ 4 ∧ 0 + (if 4 < (4 : Int32) then 4 else (4 : Int32)).toNatClampNeg ≤ 4) (
  some ((), pA s 120 (va_cpy (s.1 39) (s.1 120) 0 0 (if 4 < (4 : Int32) then 4 else (4 : Int32)).toNatClampNeg))
  )
set_option maxRecDepth 100000 in
theorem w_X11_copyRow_120_39 {d : Nat} {s : Sg} {Q : Qt}  (H : OQ (f_X11_copyRow_120_39  s) (fun _ s9 => Q none s9)) : WpM SHC MT (d + 1) 184 [.ref 39, .ref 120] s Q := by
  refine WpM.enter me_X11_copyRow rfl rfl ?_
  show Y_X11_copyRow_120_39 d Q 0 [(0, .ref 39), (1, .ref 120)] [] s
  unfold f_X11_copyRow_120_39 at H
  refine Wp.f_al0_iconst (pc := 0) o_X11_copyRow rfl rfl rfl (Wp.f_al1_iconst (pc := 2) o_X11_copyRow rfl rfl rfl (Wp.f_al0_alen (pc := 4) o_X11_copyRow rfl rfl rfl lk_C_39 (Wp.f_al1_alen (pc := 6) o_X11_copyRow rfl rfl rfl lk_C_120 (Wp.r_min (pc := 8) o_X11_copyRow rfl (⟨rm8_ rfl, ?_⟩)))))
  obtain ⟨c9, H⟩ := oq_ck H
  refine Wp.run 1 (show room8 [] ∧ (¬ (0 : Int32) < 0 ∧ ¬ (0 : Int32) < 0 ∧ ¬ (if 4 < (4 : Int32) then 4 else (4 : Int32)) < 0 ∧ 0 + (if 4 < (4 : Int32) then 4 else (4 : Int32)).toNatClampNeg ≤ 4 ∧ 0 + (if 4 < (4 : Int32) then 4 else (4 : Int32)).toNatClampNeg ≤ 4) ∧ Y_X11_copyRow_120_39 d Q 14 [(0, .ref 39), (1, .ref 120)] [] (pA s 120 (va_cpy (s.1 39) (s.1 120) 0 0 (if 4 < (4 : Int32) then 4 else (4 : Int32)).toNatClampNeg)) from ⟨rm8_ rfl, c9, ?_⟩)
  exact Wp.r_return (pc := 14) o_X11_copyRow rfl (H)
noncomputable abbrev Y_X4_copyFrom_25_106 (d : Nat) (Q : Qt) : Xt := Wp SHC (WpM SHC MT (d + 1)) (flat2 cq_X4_copyFrom) (none) Q
noncomputable def f_X4_copyFrom_25_106  (s : Sg) : Option (Unit × Sg) :=
  bd (f_X11_copyRow_110_29 (pB s 109 (va_cpy (s.2 28) (s.2 109) 0 0 24))) (fun _ s2 =>
  bd (f_X11_copyRow_111_30 s2) (fun _ s4 =>
  bd (f_X11_copyRow_112_31 s4) (fun _ s6 =>
  bd (f_X11_copyRow_113_32 s6) (fun _ s8 =>
  bd (f_X11_copyRow_114_33 s8) (fun _ s10 =>
  bd (f_X11_copyRow_115_34 s10) (fun _ s12 =>
  bd (f_X11_copyRow_116_35 s12) (fun _ s14 =>
  bd (f_X11_copyRow_117_36 s14) (fun _ s16 =>
  bd (f_X11_copyRow_118_37 s16) (fun _ s18 =>
  bd (f_X11_copyRow_119_38 s18) (fun _ s20 =>
  bd (f_X11_copyRow_120_39 s20) (fun _ s22 =>
  nmx (pI (pI s22 106 12 (s22.1 25 12)) 106 13 ((pI s22 106 12 (s22.1 25 12)).1 25 13)) (fun s23 =>
  nmx (pI (pI s23 106 14 (s23.1 25 14)) 106 15 ((pI s23 106 14 (s23.1 25 14)).1 25 15)) (fun s24 =>
  nmx (pI (pI s24 106 16 (s24.1 25 16)) 106 17 ((pI s24 106 16 (s24.1 25 16)).1 25 17)) (fun s25 =>
  ck (((pI s25 106 18 (s25.1 25 18)).1 25 19) = 0 ∨ ((pI s25 106 18 (s25.1 25 18)).1 25 19) = 1) (
  some ((), pI (pI s25 106 18 (s25.1 25 18)) 106 19 ((pI s25 106 18 (s25.1 25 18)).1 25 19))
  )
  )
  )
  )
  )
  )
  )
  )
  )
  )
  )
  )
  )
  )
  )
set_option maxRecDepth 100000 in
theorem w_X4_copyFrom_25_106 {d : Nat} {s : Sg} {Q : Qt}  (H : OQ (f_X4_copyFrom_25_106  s) (fun _ s9 => Q none s9)) : WpM SHC MT (d + 2) 50 [.ref 106, .ref 25] s Q := by
  refine WpM.enter me_X4_copyFrom rfl rfl ?_
  show Y_X4_copyFrom_25_106 d Q 0 [(0, .ref 106), (1, .ref 25)] [] s
  unfold f_X4_copyFrom_25_106 at H
  refine Wp.f_al1_gfr (pc := 0) o_X4_copyFrom rfl rfl rfl fk_C_25_0 (Wp.r_iconst (pc := 4) o_X4_copyFrom rfl (Wp.f_al0_gfr (pc := 5) o_X4_copyFrom rfl rfl rfl fk_C_106_0 (Wp.r_iconst (pc := 9) o_X4_copyFrom rfl (Wp.r_bipush (pc := 10) o_X4_copyFrom rfl (Wp.run 1 (show room8 [] ∧ (¬ (0 : Int32) < 0 ∧ ¬ (0 : Int32) < 0 ∧ ¬ (24 : Int32) < 0 ∧ 0 + 24 ≤ 24 ∧ 0 + 24 ≤ 24) ∧ Y_X4_copyFrom_25_106 d Q 15 [(0, .ref 106), (1, .ref 25)] [] (pB s 109 (va_cpy (s.2 28) (s.2 109) 0 0 24)) from ⟨rm8_ rfl, by decide, ?_⟩))))))
  refine Wp.f_al1_gfr (pc := 15) o_X4_copyFrom rfl rfl rfl fk_C_25_1 (Wp.f_al0_gfr (pc := 19) o_X4_copyFrom rfl rfl rfl fk_C_106_1 (Wp.r_cs2 (pc := 23) o_X4_copyFrom rfl (⟨rm8_ rfl, ?_⟩)))
  refine w_X11_copyRow_110_29 (d := d)  ?_
  refine oq_bd H (fun _ s2 H => ?_)
  refine Wp.f_al1_gfr (pc := 26) o_X4_copyFrom rfl rfl rfl fk_C_25_2 (Wp.f_al0_gfr (pc := 30) o_X4_copyFrom rfl rfl rfl fk_C_106_2 (Wp.r_cs2 (pc := 34) o_X4_copyFrom rfl (⟨rm8_ rfl, ?_⟩)))
  refine w_X11_copyRow_111_30 (d := d)  ?_
  refine oq_bd H (fun _ s4 H => ?_)
  refine Wp.f_al1_gfr (pc := 37) o_X4_copyFrom rfl rfl rfl fk_C_25_3 (Wp.f_al0_gfr (pc := 41) o_X4_copyFrom rfl rfl rfl fk_C_106_3 (Wp.r_cs2 (pc := 45) o_X4_copyFrom rfl (⟨rm8_ rfl, ?_⟩)))
  refine w_X11_copyRow_112_31 (d := d)  ?_
  refine oq_bd H (fun _ s6 H => ?_)
  refine Wp.f_al1_gfr (pc := 48) o_X4_copyFrom rfl rfl rfl fk_C_25_4 (Wp.f_al0_gfr (pc := 52) o_X4_copyFrom rfl rfl rfl fk_C_106_4 (Wp.r_cs2 (pc := 56) o_X4_copyFrom rfl (⟨rm8_ rfl, ?_⟩)))
  refine w_X11_copyRow_113_32 (d := d)  ?_
  refine oq_bd H (fun _ s8 H => ?_)
  refine Wp.f_al1_gfr (pc := 59) o_X4_copyFrom rfl rfl rfl fk_C_25_5 (Wp.f_al0_gfr (pc := 63) o_X4_copyFrom rfl rfl rfl fk_C_106_5 (Wp.r_cs2 (pc := 67) o_X4_copyFrom rfl (⟨rm8_ rfl, ?_⟩)))
  refine w_X11_copyRow_114_33 (d := d)  ?_
  refine oq_bd H (fun _ s10 H => ?_)
  refine Wp.f_al1_gfr (pc := 70) o_X4_copyFrom rfl rfl rfl fk_C_25_6 (Wp.f_al0_gfr (pc := 74) o_X4_copyFrom rfl rfl rfl fk_C_106_6 (Wp.r_cs2 (pc := 78) o_X4_copyFrom rfl (⟨rm8_ rfl, ?_⟩)))
  refine w_X11_copyRow_115_34 (d := d)  ?_
  refine oq_bd H (fun _ s12 H => ?_)
  refine Wp.f_al1_gfr (pc := 81) o_X4_copyFrom rfl rfl rfl fk_C_25_7 (Wp.f_al0_gfr (pc := 85) o_X4_copyFrom rfl rfl rfl fk_C_106_7 (Wp.r_cs2 (pc := 89) o_X4_copyFrom rfl (⟨rm8_ rfl, ?_⟩)))
  refine w_X11_copyRow_116_35 (d := d)  ?_
  refine oq_bd H (fun _ s14 H => ?_)
  refine Wp.f_al1_gfr (pc := 92) o_X4_copyFrom rfl rfl rfl fk_C_25_8 (Wp.f_al0_gfr (pc := 96) o_X4_copyFrom rfl rfl rfl fk_C_106_8 (Wp.r_cs2 (pc := 100) o_X4_copyFrom rfl (⟨rm8_ rfl, ?_⟩)))
  refine w_X11_copyRow_117_36 (d := d)  ?_
  refine oq_bd H (fun _ s16 H => ?_)
  refine Wp.f_al1_gfr (pc := 103) o_X4_copyFrom rfl rfl rfl fk_C_25_9 (Wp.f_al0_gfr (pc := 107) o_X4_copyFrom rfl rfl rfl fk_C_106_9 (Wp.r_cs2 (pc := 111) o_X4_copyFrom rfl (⟨rm8_ rfl, ?_⟩)))
  refine w_X11_copyRow_118_37 (d := d)  ?_
  refine oq_bd H (fun _ s18 H => ?_)
  refine Wp.f_al1_gfr (pc := 114) o_X4_copyFrom rfl rfl rfl fk_C_25_10 (Wp.f_al0_gfr (pc := 118) o_X4_copyFrom rfl rfl rfl fk_C_106_10 (Wp.r_cs2 (pc := 122) o_X4_copyFrom rfl (⟨rm8_ rfl, ?_⟩)))
  refine w_X11_copyRow_119_38 (d := d)  ?_
  refine oq_bd H (fun _ s20 H => ?_)
  refine Wp.f_al1_gfr (pc := 125) o_X4_copyFrom rfl rfl rfl fk_C_25_11 (Wp.f_al0_gfr (pc := 129) o_X4_copyFrom rfl rfl rfl fk_C_106_11 (Wp.r_cs2 (pc := 133) o_X4_copyFrom rfl (⟨rm8_ rfl, ?_⟩)))
  refine w_X11_copyRow_120_39 (d := d)  ?_
  refine oq_bd H (fun _ s22 H => ?_)
  refine Wp.r_aload_n0 (pc := 136) o_X4_copyFrom rfl rfl (Wp.f_al1_gfi (pc := 137) o_X4_copyFrom rfl rfl rfl fk_C_25_12 (Wp.r_pfi (pc := 141) o_X4_copyFrom rfl fk_C_106_12 (Wp.r_aload_n0 (pc := 144) o_X4_copyFrom rfl rfl (Wp.f_al1_gfi (pc := 145) o_X4_copyFrom rfl rfl rfl fk_C_25_13 (Wp.r_pfi (pc := 149) o_X4_copyFrom rfl fk_C_106_13 (show Y_X4_copyFrom_25_106 d Q 152 [(0, .ref 106), (1, .ref 25)] [] (pI (pI s22 106 12 (s22.1 25 12)) 106 13 ((pI s22 106 12 (s22.1 25 12)).1 25 13)) from ?_))))))
  revert H
  generalize pI (pI s22 106 12 (s22.1 25 12)) 106 13 ((pI s22 106 12 (s22.1 25 12)).1 25 13) = s23
  intro H
  have H := nmx_e H
  refine Wp.r_aload_n0 (pc := 152) o_X4_copyFrom rfl rfl (Wp.f_al1_gfi (pc := 153) o_X4_copyFrom rfl rfl rfl fk_C_25_14 (Wp.r_pfi (pc := 157) o_X4_copyFrom rfl fk_C_106_14 (Wp.r_aload_n0 (pc := 160) o_X4_copyFrom rfl rfl (Wp.f_al1_gfi (pc := 161) o_X4_copyFrom rfl rfl rfl fk_C_25_15 (Wp.r_pfi (pc := 165) o_X4_copyFrom rfl fk_C_106_15 (show Y_X4_copyFrom_25_106 d Q 168 [(0, .ref 106), (1, .ref 25)] [] (pI (pI s23 106 14 (s23.1 25 14)) 106 15 ((pI s23 106 14 (s23.1 25 14)).1 25 15)) from ?_))))))
  revert H
  generalize pI (pI s23 106 14 (s23.1 25 14)) 106 15 ((pI s23 106 14 (s23.1 25 14)).1 25 15) = s24
  intro H
  have H := nmx_e H
  refine Wp.r_aload_n0 (pc := 168) o_X4_copyFrom rfl rfl (Wp.f_al1_gfi (pc := 169) o_X4_copyFrom rfl rfl rfl fk_C_25_16 (Wp.r_pfi (pc := 173) o_X4_copyFrom rfl fk_C_106_16 (Wp.r_aload_n0 (pc := 176) o_X4_copyFrom rfl rfl (Wp.f_al1_gfi (pc := 177) o_X4_copyFrom rfl rfl rfl fk_C_25_17 (Wp.r_pfi (pc := 181) o_X4_copyFrom rfl fk_C_106_17 (show Y_X4_copyFrom_25_106 d Q 184 [(0, .ref 106), (1, .ref 25)] [] (pI (pI s24 106 16 (s24.1 25 16)) 106 17 ((pI s24 106 16 (s24.1 25 16)).1 25 17)) from ?_))))))
  revert H
  generalize pI (pI s24 106 16 (s24.1 25 16)) 106 17 ((pI s24 106 16 (s24.1 25 16)).1 25 17) = s25
  intro H
  have H := nmx_e H
  obtain ⟨hc26, H⟩ := oq_ck H
  refine Wp.r_aload_n0 (pc := 184) o_X4_copyFrom rfl rfl (Wp.f_al1_gfi (pc := 185) o_X4_copyFrom rfl rfl rfl fk_C_25_18 (Wp.r_pfi (pc := 189) o_X4_copyFrom rfl fk_C_106_18 (Wp.r_aload_n0 (pc := 192) o_X4_copyFrom rfl rfl (Wp.f_al1_gfi (pc := 193) o_X4_copyFrom rfl rfl rfl fk_C_25_19 (Wp.r_pfz (pc := 197) o_X4_copyFrom rfl fk_C_106_19 (⟨hc26, ?_⟩))))))
  exact Wp.r_return (pc := 200) o_X4_copyFrom rfl (H)
noncomputable abbrev Y_X11_copyRow_121_40 (d : Nat) (Q : Qt) : Xt := Wp SHC (WpM SHC MT (d + 0)) (flat2 cq_X11_copyRow) (none) Q
noncomputable def f_X11_copyRow_121_40  (s : Sg) : Option (Unit × Sg) :=
  ck (¬ (0 : Int32) < 0 ∧ ¬ (0 : Int32) < 0 ∧ ¬ (if 8 < (8 : Int32) then 8 else (8 : Int32)) < 0 ∧ 0 + (if 8 < (8 : Int32) then 8 else (8 : Int32)).toNatClampNeg ≤ 8 ∧ 0 + (if 8 < (8 : Int32) then 8 else (8 : Int32)).toNatClampNeg ≤ 8) (
  some ((), pA s 121 (va_cpy (s.1 40) (s.1 121) 0 0 (if 8 < (8 : Int32) then 8 else (8 : Int32)).toNatClampNeg))
  )
set_option maxRecDepth 100000 in
theorem w_X11_copyRow_121_40 {d : Nat} {s : Sg} {Q : Qt}  (H : OQ (f_X11_copyRow_121_40  s) (fun _ s9 => Q none s9)) : WpM SHC MT (d + 1) 184 [.ref 40, .ref 121] s Q := by
  refine WpM.enter me_X11_copyRow rfl rfl ?_
  show Y_X11_copyRow_121_40 d Q 0 [(0, .ref 40), (1, .ref 121)] [] s
  unfold f_X11_copyRow_121_40 at H
  refine Wp.f_al0_iconst (pc := 0) o_X11_copyRow rfl rfl rfl (Wp.f_al1_iconst (pc := 2) o_X11_copyRow rfl rfl rfl (Wp.f_al0_alen (pc := 4) o_X11_copyRow rfl rfl rfl lk_C_40 (Wp.f_al1_alen (pc := 6) o_X11_copyRow rfl rfl rfl lk_C_121 (Wp.r_min (pc := 8) o_X11_copyRow rfl (⟨rm8_ rfl, ?_⟩)))))
  obtain ⟨c9, H⟩ := oq_ck H
  refine Wp.run 1 (show room8 [] ∧ (¬ (0 : Int32) < 0 ∧ ¬ (0 : Int32) < 0 ∧ ¬ (if 8 < (8 : Int32) then 8 else (8 : Int32)) < 0 ∧ 0 + (if 8 < (8 : Int32) then 8 else (8 : Int32)).toNatClampNeg ≤ 8 ∧ 0 + (if 8 < (8 : Int32) then 8 else (8 : Int32)).toNatClampNeg ≤ 8) ∧ Y_X11_copyRow_121_40 d Q 14 [(0, .ref 40), (1, .ref 121)] [] (pA s 121 (va_cpy (s.1 40) (s.1 121) 0 0 (if 8 < (8 : Int32) then 8 else (8 : Int32)).toNatClampNeg)) from ⟨rm8_ rfl, c9, ?_⟩)
  exact Wp.r_return (pc := 14) o_X11_copyRow rfl (H)
noncomputable abbrev Y_X11_copyRow_122_41 (d : Nat) (Q : Qt) : Xt := Wp SHC (WpM SHC MT (d + 0)) (flat2 cq_X11_copyRow) (none) Q
noncomputable def f_X11_copyRow_122_41  (s : Sg) : Option (Unit × Sg) :=
  ck (¬ (0 : Int32) < 0 ∧ ¬ (0 : Int32) < 0 ∧ ¬ (if 8 < (8 : Int32) then 8 else (8 : Int32)) < 0 ∧ 0 + (if 8 < (8 : Int32) then 8 else (8 : Int32)).toNatClampNeg ≤ 8 ∧ 0 + (if 8 < (8 : Int32) then 8 else (8 : Int32)).toNatClampNeg ≤ 8) (
  some ((), pA s 122 (va_cpy (s.1 41) (s.1 122) 0 0 (if 8 < (8 : Int32) then 8 else (8 : Int32)).toNatClampNeg))
  )
set_option maxRecDepth 100000 in
theorem w_X11_copyRow_122_41 {d : Nat} {s : Sg} {Q : Qt}  (H : OQ (f_X11_copyRow_122_41  s) (fun _ s9 => Q none s9)) : WpM SHC MT (d + 1) 184 [.ref 41, .ref 122] s Q := by
  refine WpM.enter me_X11_copyRow rfl rfl ?_
  show Y_X11_copyRow_122_41 d Q 0 [(0, .ref 41), (1, .ref 122)] [] s
  unfold f_X11_copyRow_122_41 at H
  refine Wp.f_al0_iconst (pc := 0) o_X11_copyRow rfl rfl rfl (Wp.f_al1_iconst (pc := 2) o_X11_copyRow rfl rfl rfl (Wp.f_al0_alen (pc := 4) o_X11_copyRow rfl rfl rfl lk_C_41 (Wp.f_al1_alen (pc := 6) o_X11_copyRow rfl rfl rfl lk_C_122 (Wp.r_min (pc := 8) o_X11_copyRow rfl (⟨rm8_ rfl, ?_⟩)))))
  obtain ⟨c9, H⟩ := oq_ck H
  refine Wp.run 1 (show room8 [] ∧ (¬ (0 : Int32) < 0 ∧ ¬ (0 : Int32) < 0 ∧ ¬ (if 8 < (8 : Int32) then 8 else (8 : Int32)) < 0 ∧ 0 + (if 8 < (8 : Int32) then 8 else (8 : Int32)).toNatClampNeg ≤ 8 ∧ 0 + (if 8 < (8 : Int32) then 8 else (8 : Int32)).toNatClampNeg ≤ 8) ∧ Y_X11_copyRow_122_41 d Q 14 [(0, .ref 41), (1, .ref 122)] [] (pA s 122 (va_cpy (s.1 41) (s.1 122) 0 0 (if 8 < (8 : Int32) then 8 else (8 : Int32)).toNatClampNeg)) from ⟨rm8_ rfl, c9, ?_⟩)
  exact Wp.r_return (pc := 14) o_X11_copyRow rfl (H)
noncomputable abbrev Y_X11_copyRow_123_42 (d : Nat) (Q : Qt) : Xt := Wp SHC (WpM SHC MT (d + 0)) (flat2 cq_X11_copyRow) (none) Q
noncomputable def f_X11_copyRow_123_42  (s : Sg) : Option (Unit × Sg) :=
  ck (¬ (0 : Int32) < 0 ∧ ¬ (0 : Int32) < 0 ∧ ¬ (if 8 < (8 : Int32) then 8 else (8 : Int32)) < 0 ∧ 0 + (if 8 < (8 : Int32) then 8 else (8 : Int32)).toNatClampNeg ≤ 8 ∧ 0 + (if 8 < (8 : Int32) then 8 else (8 : Int32)).toNatClampNeg ≤ 8) (
  some ((), pA s 123 (va_cpy (s.1 42) (s.1 123) 0 0 (if 8 < (8 : Int32) then 8 else (8 : Int32)).toNatClampNeg))
  )
set_option maxRecDepth 100000 in
theorem w_X11_copyRow_123_42 {d : Nat} {s : Sg} {Q : Qt}  (H : OQ (f_X11_copyRow_123_42  s) (fun _ s9 => Q none s9)) : WpM SHC MT (d + 1) 184 [.ref 42, .ref 123] s Q := by
  refine WpM.enter me_X11_copyRow rfl rfl ?_
  show Y_X11_copyRow_123_42 d Q 0 [(0, .ref 42), (1, .ref 123)] [] s
  unfold f_X11_copyRow_123_42 at H
  refine Wp.f_al0_iconst (pc := 0) o_X11_copyRow rfl rfl rfl (Wp.f_al1_iconst (pc := 2) o_X11_copyRow rfl rfl rfl (Wp.f_al0_alen (pc := 4) o_X11_copyRow rfl rfl rfl lk_C_42 (Wp.f_al1_alen (pc := 6) o_X11_copyRow rfl rfl rfl lk_C_123 (Wp.r_min (pc := 8) o_X11_copyRow rfl (⟨rm8_ rfl, ?_⟩)))))
  obtain ⟨c9, H⟩ := oq_ck H
  refine Wp.run 1 (show room8 [] ∧ (¬ (0 : Int32) < 0 ∧ ¬ (0 : Int32) < 0 ∧ ¬ (if 8 < (8 : Int32) then 8 else (8 : Int32)) < 0 ∧ 0 + (if 8 < (8 : Int32) then 8 else (8 : Int32)).toNatClampNeg ≤ 8 ∧ 0 + (if 8 < (8 : Int32) then 8 else (8 : Int32)).toNatClampNeg ≤ 8) ∧ Y_X11_copyRow_123_42 d Q 14 [(0, .ref 42), (1, .ref 123)] [] (pA s 123 (va_cpy (s.1 42) (s.1 123) 0 0 (if 8 < (8 : Int32) then 8 else (8 : Int32)).toNatClampNeg)) from ⟨rm8_ rfl, c9, ?_⟩)
  exact Wp.r_return (pc := 14) o_X11_copyRow rfl (H)
noncomputable abbrev Y_X11_copyRow_124_43 (d : Nat) (Q : Qt) : Xt := Wp SHC (WpM SHC MT (d + 0)) (flat2 cq_X11_copyRow) (none) Q
noncomputable def f_X11_copyRow_124_43  (s : Sg) : Option (Unit × Sg) :=
  ck (¬ (0 : Int32) < 0 ∧ ¬ (0 : Int32) < 0 ∧ ¬ (if 8 < (8 : Int32) then 8 else (8 : Int32)) < 0 ∧ 0 + (if 8 < (8 : Int32) then 8 else (8 : Int32)).toNatClampNeg ≤ 8 ∧ 0 + (if 8 < (8 : Int32) then 8 else (8 : Int32)).toNatClampNeg ≤ 8) (
  some ((), pA s 124 (va_cpy (s.1 43) (s.1 124) 0 0 (if 8 < (8 : Int32) then 8 else (8 : Int32)).toNatClampNeg))
  )
set_option maxRecDepth 100000 in
theorem w_X11_copyRow_124_43 {d : Nat} {s : Sg} {Q : Qt}  (H : OQ (f_X11_copyRow_124_43  s) (fun _ s9 => Q none s9)) : WpM SHC MT (d + 1) 184 [.ref 43, .ref 124] s Q := by
  refine WpM.enter me_X11_copyRow rfl rfl ?_
  show Y_X11_copyRow_124_43 d Q 0 [(0, .ref 43), (1, .ref 124)] [] s
  unfold f_X11_copyRow_124_43 at H
  refine Wp.f_al0_iconst (pc := 0) o_X11_copyRow rfl rfl rfl (Wp.f_al1_iconst (pc := 2) o_X11_copyRow rfl rfl rfl (Wp.f_al0_alen (pc := 4) o_X11_copyRow rfl rfl rfl lk_C_43 (Wp.f_al1_alen (pc := 6) o_X11_copyRow rfl rfl rfl lk_C_124 (Wp.r_min (pc := 8) o_X11_copyRow rfl (⟨rm8_ rfl, ?_⟩)))))
  obtain ⟨c9, H⟩ := oq_ck H
  refine Wp.run 1 (show room8 [] ∧ (¬ (0 : Int32) < 0 ∧ ¬ (0 : Int32) < 0 ∧ ¬ (if 8 < (8 : Int32) then 8 else (8 : Int32)) < 0 ∧ 0 + (if 8 < (8 : Int32) then 8 else (8 : Int32)).toNatClampNeg ≤ 8 ∧ 0 + (if 8 < (8 : Int32) then 8 else (8 : Int32)).toNatClampNeg ≤ 8) ∧ Y_X11_copyRow_124_43 d Q 14 [(0, .ref 43), (1, .ref 124)] [] (pA s 124 (va_cpy (s.1 43) (s.1 124) 0 0 (if 8 < (8 : Int32) then 8 else (8 : Int32)).toNatClampNeg)) from ⟨rm8_ rfl, c9, ?_⟩)
  exact Wp.r_return (pc := 14) o_X11_copyRow rfl (H)
noncomputable abbrev Y_X11_copyRow_125_44 (d : Nat) (Q : Qt) : Xt := Wp SHC (WpM SHC MT (d + 0)) (flat2 cq_X11_copyRow) (none) Q
noncomputable def f_X11_copyRow_125_44  (s : Sg) : Option (Unit × Sg) :=
  ck (¬ (0 : Int32) < 0 ∧ ¬ (0 : Int32) < 0 ∧ ¬ (if 4 < (4 : Int32) then 4 else (4 : Int32)) < 0 ∧ 0 + (if 4 < (4 : Int32) then 4 else (4 : Int32)).toNatClampNeg ≤ 4 ∧ 0 + (if 4 < (4 : Int32) then 4 else (4 : Int32)).toNatClampNeg ≤ 4) (
  some ((), pA s 125 (va_cpy (s.1 44) (s.1 125) 0 0 (if 4 < (4 : Int32) then 4 else (4 : Int32)).toNatClampNeg))
  )
set_option maxRecDepth 100000 in
theorem w_X11_copyRow_125_44 {d : Nat} {s : Sg} {Q : Qt}  (H : OQ (f_X11_copyRow_125_44  s) (fun _ s9 => Q none s9)) : WpM SHC MT (d + 1) 184 [.ref 44, .ref 125] s Q := by
  refine WpM.enter me_X11_copyRow rfl rfl ?_
  show Y_X11_copyRow_125_44 d Q 0 [(0, .ref 44), (1, .ref 125)] [] s
  unfold f_X11_copyRow_125_44 at H
  refine Wp.f_al0_iconst (pc := 0) o_X11_copyRow rfl rfl rfl (Wp.f_al1_iconst (pc := 2) o_X11_copyRow rfl rfl rfl (Wp.f_al0_alen (pc := 4) o_X11_copyRow rfl rfl rfl lk_C_44 (Wp.f_al1_alen (pc := 6) o_X11_copyRow rfl rfl rfl lk_C_125 (Wp.r_min (pc := 8) o_X11_copyRow rfl (⟨rm8_ rfl, ?_⟩)))))
  obtain ⟨c9, H⟩ := oq_ck H
  refine Wp.run 1 (show room8 [] ∧ (¬ (0 : Int32) < 0 ∧ ¬ (0 : Int32) < 0 ∧ ¬ (if 4 < (4 : Int32) then 4 else (4 : Int32)) < 0 ∧ 0 + (if 4 < (4 : Int32) then 4 else (4 : Int32)).toNatClampNeg ≤ 4 ∧ 0 + (if 4 < (4 : Int32) then 4 else (4 : Int32)).toNatClampNeg ≤ 4) ∧ Y_X11_copyRow_125_44 d Q 14 [(0, .ref 44), (1, .ref 125)] [] (pA s 125 (va_cpy (s.1 44) (s.1 125) 0 0 (if 4 < (4 : Int32) then 4 else (4 : Int32)).toNatClampNeg)) from ⟨rm8_ rfl, c9, ?_⟩)
  exact Wp.r_return (pc := 14) o_X11_copyRow rfl (H)
noncomputable abbrev Y_X2_copyFrom_26_107 (d : Nat) (Q : Qt) : Xt := Wp SHC (WpM SHC MT (d + 1)) (flat2 cq_X2_copyFrom) (none) Q
noncomputable def f_X2_copyFrom_26_107  (s : Sg) : Option (Unit × Sg) :=
  bd (f_X11_copyRow_121_40 s) (fun _ s2 =>
  bd (f_X11_copyRow_122_41 s2) (fun _ s4 =>
  bd (f_X11_copyRow_123_42 s4) (fun _ s6 =>
  bd (f_X11_copyRow_124_43 s6) (fun _ s8 =>
  bd (f_X11_copyRow_125_44 s8) (fun _ s10 =>
  nmx (pI (pI s10 107 5 (s10.1 26 5)) 107 6 ((pI s10 107 5 (s10.1 26 5)).1 26 6)) (fun s11 =>
  ck ((s11.1 26 7) = 0 ∨ (s11.1 26 7) = 1) (
  nmx (pI (pI s11 107 7 (s11.1 26 7)) 107 8 ((pI s11 107 7 (s11.1 26 7)).1 26 8)) (fun s13 =>
  nmx (pI (pI s13 107 9 (s13.1 26 9)) 107 10 ((pI s13 107 9 (s13.1 26 9)).1 26 10)) (fun s14 =>
  nmx (pI (pI s14 107 11 (s14.1 26 11)) 107 12 ((pI s14 107 11 (s14.1 26 11)).1 26 12)) (fun s15 =>
  some ((), s15)
  )
  )
  )
  )
  )
  )
  )
  )
  )
  )
set_option maxRecDepth 100000 in
theorem w_X2_copyFrom_26_107 {d : Nat} {s : Sg} {Q : Qt}  (H : OQ (f_X2_copyFrom_26_107  s) (fun _ s9 => Q none s9)) : WpM SHC MT (d + 2) 21 [.ref 107, .ref 26] s Q := by
  refine WpM.enter me_X2_copyFrom rfl rfl ?_
  show Y_X2_copyFrom_26_107 d Q 0 [(0, .ref 107), (1, .ref 26)] [] s
  unfold f_X2_copyFrom_26_107 at H
  refine Wp.f_al1_gfr (pc := 0) o_X2_copyFrom rfl rfl rfl fk_C_26_0 (Wp.f_al0_gfr (pc := 4) o_X2_copyFrom rfl rfl rfl fk_C_107_0 (Wp.r_cs2 (pc := 8) o_X2_copyFrom rfl (⟨rm8_ rfl, ?_⟩)))
  refine w_X11_copyRow_121_40 (d := d)  ?_
  refine oq_bd H (fun _ s2 H => ?_)
  refine Wp.f_al1_gfr (pc := 11) o_X2_copyFrom rfl rfl rfl fk_C_26_1 (Wp.f_al0_gfr (pc := 15) o_X2_copyFrom rfl rfl rfl fk_C_107_1 (Wp.r_cs2 (pc := 19) o_X2_copyFrom rfl (⟨rm8_ rfl, ?_⟩)))
  refine w_X11_copyRow_122_41 (d := d)  ?_
  refine oq_bd H (fun _ s4 H => ?_)
  refine Wp.f_al1_gfr (pc := 22) o_X2_copyFrom rfl rfl rfl fk_C_26_2 (Wp.f_al0_gfr (pc := 26) o_X2_copyFrom rfl rfl rfl fk_C_107_2 (Wp.r_cs2 (pc := 30) o_X2_copyFrom rfl (⟨rm8_ rfl, ?_⟩)))
  refine w_X11_copyRow_123_42 (d := d)  ?_
  refine oq_bd H (fun _ s6 H => ?_)
  refine Wp.f_al1_gfr (pc := 33) o_X2_copyFrom rfl rfl rfl fk_C_26_3 (Wp.f_al0_gfr (pc := 37) o_X2_copyFrom rfl rfl rfl fk_C_107_3 (Wp.r_cs2 (pc := 41) o_X2_copyFrom rfl (⟨rm8_ rfl, ?_⟩)))
  refine w_X11_copyRow_124_43 (d := d)  ?_
  refine oq_bd H (fun _ s8 H => ?_)
  refine Wp.f_al1_gfr (pc := 44) o_X2_copyFrom rfl rfl rfl fk_C_26_4 (Wp.f_al0_gfr (pc := 48) o_X2_copyFrom rfl rfl rfl fk_C_107_4 (Wp.r_cs2 (pc := 52) o_X2_copyFrom rfl (⟨rm8_ rfl, ?_⟩)))
  refine w_X11_copyRow_125_44 (d := d)  ?_
  refine oq_bd H (fun _ s10 H => ?_)
  refine Wp.r_aload_n0 (pc := 55) o_X2_copyFrom rfl rfl (Wp.f_al1_gfi (pc := 56) o_X2_copyFrom rfl rfl rfl fk_C_26_5 (Wp.r_pfi (pc := 60) o_X2_copyFrom rfl fk_C_107_5 (Wp.r_aload_n0 (pc := 63) o_X2_copyFrom rfl rfl (Wp.f_al1_gfi (pc := 64) o_X2_copyFrom rfl rfl rfl fk_C_26_6 (Wp.r_pfi (pc := 68) o_X2_copyFrom rfl fk_C_107_6 (show Y_X2_copyFrom_26_107 d Q 71 [(0, .ref 107), (1, .ref 26)] [] (pI (pI s10 107 5 (s10.1 26 5)) 107 6 ((pI s10 107 5 (s10.1 26 5)).1 26 6)) from ?_))))))
  revert H
  generalize pI (pI s10 107 5 (s10.1 26 5)) 107 6 ((pI s10 107 5 (s10.1 26 5)).1 26 6) = s11
  intro H
  have H := nmx_e H
  obtain ⟨hc12, H⟩ := oq_ck H
  refine Wp.r_aload_n0 (pc := 71) o_X2_copyFrom rfl rfl (Wp.f_al1_gfi (pc := 72) o_X2_copyFrom rfl rfl rfl fk_C_26_7 (Wp.r_pfz (pc := 76) o_X2_copyFrom rfl fk_C_107_7 (⟨hc12, ?_⟩)))
  refine Wp.r_aload_n0 (pc := 79) o_X2_copyFrom rfl rfl (Wp.f_al1_gfi (pc := 80) o_X2_copyFrom rfl rfl rfl fk_C_26_8 (Wp.r_pfi (pc := 84) o_X2_copyFrom rfl fk_C_107_8 (show Y_X2_copyFrom_26_107 d Q 87 [(0, .ref 107), (1, .ref 26)] [] (pI (pI s11 107 7 (s11.1 26 7)) 107 8 ((pI s11 107 7 (s11.1 26 7)).1 26 8)) from ?_)))
  revert H
  generalize pI (pI s11 107 7 (s11.1 26 7)) 107 8 ((pI s11 107 7 (s11.1 26 7)).1 26 8) = s13
  intro H
  have H := nmx_e H
  refine Wp.r_aload_n0 (pc := 87) o_X2_copyFrom rfl rfl (Wp.f_al1_gfi (pc := 88) o_X2_copyFrom rfl rfl rfl fk_C_26_9 (Wp.r_pfi (pc := 92) o_X2_copyFrom rfl fk_C_107_9 (Wp.r_aload_n0 (pc := 95) o_X2_copyFrom rfl rfl (Wp.f_al1_gfi (pc := 96) o_X2_copyFrom rfl rfl rfl fk_C_26_10 (Wp.r_pfi (pc := 100) o_X2_copyFrom rfl fk_C_107_10 (show Y_X2_copyFrom_26_107 d Q 103 [(0, .ref 107), (1, .ref 26)] [] (pI (pI s13 107 9 (s13.1 26 9)) 107 10 ((pI s13 107 9 (s13.1 26 9)).1 26 10)) from ?_))))))
  revert H
  generalize pI (pI s13 107 9 (s13.1 26 9)) 107 10 ((pI s13 107 9 (s13.1 26 9)).1 26 10) = s14
  intro H
  have H := nmx_e H
  refine Wp.r_aload_n0 (pc := 103) o_X2_copyFrom rfl rfl (Wp.f_al1_gfi (pc := 104) o_X2_copyFrom rfl rfl rfl fk_C_26_11 (Wp.r_pfi (pc := 108) o_X2_copyFrom rfl fk_C_107_11 (Wp.r_aload_n0 (pc := 111) o_X2_copyFrom rfl rfl (Wp.f_al1_gfi (pc := 112) o_X2_copyFrom rfl rfl rfl fk_C_26_12 (Wp.r_pfi (pc := 116) o_X2_copyFrom rfl fk_C_107_12 (show Y_X2_copyFrom_26_107 d Q 119 [(0, .ref 107), (1, .ref 26)] [] (pI (pI s14 107 11 (s14.1 26 11)) 107 12 ((pI s14 107 11 (s14.1 26 11)).1 26 12)) from ?_))))))
  revert H
  generalize pI (pI s14 107 11 (s14.1 26 11)) 107 12 ((pI s14 107 11 (s14.1 26 11)).1 26 12) = s15
  intro H
  have H := nmx_e H
  exact Wp.r_return (pc := 119) o_X2_copyFrom rfl (H)
noncomputable abbrev Y_X11_copyRow_126_45 (d : Nat) (Q : Qt) : Xt := Wp SHC (WpM SHC MT (d + 0)) (flat2 cq_X11_copyRow) (none) Q
noncomputable def f_X11_copyRow_126_45  (s : Sg) : Option (Unit × Sg) :=
  ck (¬ (0 : Int32) < 0 ∧ ¬ (0 : Int32) < 0 ∧ ¬ (if 60 < (60 : Int32) then 60 else (60 : Int32)) < 0 ∧ 0 + (if 60 < (60 : Int32) then 60 else (60 : Int32)).toNatClampNeg ≤ 60 ∧ 0 + (if 60 < (60 : Int32) then 60 else (60 : Int32)).toNatClampNeg ≤ 60) (
  some ((), pA s 126 (va_cpy (s.1 45) (s.1 126) 0 0 (if 60 < (60 : Int32) then 60 else (60 : Int32)).toNatClampNeg))
  )
set_option maxRecDepth 100000 in
theorem w_X11_copyRow_126_45 {d : Nat} {s : Sg} {Q : Qt}  (H : OQ (f_X11_copyRow_126_45  s) (fun _ s9 => Q none s9)) : WpM SHC MT (d + 1) 184 [.ref 45, .ref 126] s Q := by
  refine WpM.enter me_X11_copyRow rfl rfl ?_
  show Y_X11_copyRow_126_45 d Q 0 [(0, .ref 45), (1, .ref 126)] [] s
  unfold f_X11_copyRow_126_45 at H
  refine Wp.f_al0_iconst (pc := 0) o_X11_copyRow rfl rfl rfl (Wp.f_al1_iconst (pc := 2) o_X11_copyRow rfl rfl rfl (Wp.f_al0_alen (pc := 4) o_X11_copyRow rfl rfl rfl lk_C_45 (Wp.f_al1_alen (pc := 6) o_X11_copyRow rfl rfl rfl lk_C_126 (Wp.r_min (pc := 8) o_X11_copyRow rfl (⟨rm8_ rfl, ?_⟩)))))
  obtain ⟨c9, H⟩ := oq_ck H
  refine Wp.run 1 (show room8 [] ∧ (¬ (0 : Int32) < 0 ∧ ¬ (0 : Int32) < 0 ∧ ¬ (if 60 < (60 : Int32) then 60 else (60 : Int32)) < 0 ∧ 0 + (if 60 < (60 : Int32) then 60 else (60 : Int32)).toNatClampNeg ≤ 60 ∧ 0 + (if 60 < (60 : Int32) then 60 else (60 : Int32)).toNatClampNeg ≤ 60) ∧ Y_X11_copyRow_126_45 d Q 14 [(0, .ref 45), (1, .ref 126)] [] (pA s 126 (va_cpy (s.1 45) (s.1 126) 0 0 (if 60 < (60 : Int32) then 60 else (60 : Int32)).toNatClampNeg)) from ⟨rm8_ rfl, c9, ?_⟩)
  exact Wp.r_return (pc := 14) o_X11_copyRow rfl (H)
noncomputable abbrev Y_X11_copyRow_127_46 (d : Nat) (Q : Qt) : Xt := Wp SHC (WpM SHC MT (d + 0)) (flat2 cq_X11_copyRow) (none) Q
noncomputable def f_X11_copyRow_127_46  (s : Sg) : Option (Unit × Sg) :=
  ck (¬ (0 : Int32) < 0 ∧ ¬ (0 : Int32) < 0 ∧ ¬ (if 60 < (60 : Int32) then 60 else (60 : Int32)) < 0 ∧ 0 + (if 60 < (60 : Int32) then 60 else (60 : Int32)).toNatClampNeg ≤ 60 ∧ 0 + (if 60 < (60 : Int32) then 60 else (60 : Int32)).toNatClampNeg ≤ 60) (
  some ((), pA s 127 (va_cpy (s.1 46) (s.1 127) 0 0 (if 60 < (60 : Int32) then 60 else (60 : Int32)).toNatClampNeg))
  )
set_option maxRecDepth 100000 in
theorem w_X11_copyRow_127_46 {d : Nat} {s : Sg} {Q : Qt}  (H : OQ (f_X11_copyRow_127_46  s) (fun _ s9 => Q none s9)) : WpM SHC MT (d + 1) 184 [.ref 46, .ref 127] s Q := by
  refine WpM.enter me_X11_copyRow rfl rfl ?_
  show Y_X11_copyRow_127_46 d Q 0 [(0, .ref 46), (1, .ref 127)] [] s
  unfold f_X11_copyRow_127_46 at H
  refine Wp.f_al0_iconst (pc := 0) o_X11_copyRow rfl rfl rfl (Wp.f_al1_iconst (pc := 2) o_X11_copyRow rfl rfl rfl (Wp.f_al0_alen (pc := 4) o_X11_copyRow rfl rfl rfl lk_C_46 (Wp.f_al1_alen (pc := 6) o_X11_copyRow rfl rfl rfl lk_C_127 (Wp.r_min (pc := 8) o_X11_copyRow rfl (⟨rm8_ rfl, ?_⟩)))))
  obtain ⟨c9, H⟩ := oq_ck H
  refine Wp.run 1 (show room8 [] ∧ (¬ (0 : Int32) < 0 ∧ ¬ (0 : Int32) < 0 ∧ ¬ (if 60 < (60 : Int32) then 60 else (60 : Int32)) < 0 ∧ 0 + (if 60 < (60 : Int32) then 60 else (60 : Int32)).toNatClampNeg ≤ 60 ∧ 0 + (if 60 < (60 : Int32) then 60 else (60 : Int32)).toNatClampNeg ≤ 60) ∧ Y_X11_copyRow_127_46 d Q 14 [(0, .ref 46), (1, .ref 127)] [] (pA s 127 (va_cpy (s.1 46) (s.1 127) 0 0 (if 60 < (60 : Int32) then 60 else (60 : Int32)).toNatClampNeg)) from ⟨rm8_ rfl, c9, ?_⟩)
  exact Wp.r_return (pc := 14) o_X11_copyRow rfl (H)
noncomputable abbrev Y_X11_copyRow_128_47 (d : Nat) (Q : Qt) : Xt := Wp SHC (WpM SHC MT (d + 0)) (flat2 cq_X11_copyRow) (none) Q
noncomputable def f_X11_copyRow_128_47  (s : Sg) : Option (Unit × Sg) :=
  ck (¬ (0 : Int32) < 0 ∧ ¬ (0 : Int32) < 0 ∧ ¬ (if 60 < (60 : Int32) then 60 else (60 : Int32)) < 0 ∧ 0 + (if 60 < (60 : Int32) then 60 else (60 : Int32)).toNatClampNeg ≤ 60 ∧ 0 + (if 60 < (60 : Int32) then 60 else (60 : Int32)).toNatClampNeg ≤ 60) (
  some ((), pA s 128 (va_cpy (s.1 47) (s.1 128) 0 0 (if 60 < (60 : Int32) then 60 else (60 : Int32)).toNatClampNeg))
  )
set_option maxRecDepth 100000 in
theorem w_X11_copyRow_128_47 {d : Nat} {s : Sg} {Q : Qt}  (H : OQ (f_X11_copyRow_128_47  s) (fun _ s9 => Q none s9)) : WpM SHC MT (d + 1) 184 [.ref 47, .ref 128] s Q := by
  refine WpM.enter me_X11_copyRow rfl rfl ?_
  show Y_X11_copyRow_128_47 d Q 0 [(0, .ref 47), (1, .ref 128)] [] s
  unfold f_X11_copyRow_128_47 at H
  refine Wp.f_al0_iconst (pc := 0) o_X11_copyRow rfl rfl rfl (Wp.f_al1_iconst (pc := 2) o_X11_copyRow rfl rfl rfl (Wp.f_al0_alen (pc := 4) o_X11_copyRow rfl rfl rfl lk_C_47 (Wp.f_al1_alen (pc := 6) o_X11_copyRow rfl rfl rfl lk_C_128 (Wp.r_min (pc := 8) o_X11_copyRow rfl (⟨rm8_ rfl, ?_⟩)))))
  obtain ⟨c9, H⟩ := oq_ck H
  refine Wp.run 1 (show room8 [] ∧ (¬ (0 : Int32) < 0 ∧ ¬ (0 : Int32) < 0 ∧ ¬ (if 60 < (60 : Int32) then 60 else (60 : Int32)) < 0 ∧ 0 + (if 60 < (60 : Int32) then 60 else (60 : Int32)).toNatClampNeg ≤ 60 ∧ 0 + (if 60 < (60 : Int32) then 60 else (60 : Int32)).toNatClampNeg ≤ 60) ∧ Y_X11_copyRow_128_47 d Q 14 [(0, .ref 47), (1, .ref 128)] [] (pA s 128 (va_cpy (s.1 47) (s.1 128) 0 0 (if 60 < (60 : Int32) then 60 else (60 : Int32)).toNatClampNeg)) from ⟨rm8_ rfl, c9, ?_⟩)
  exact Wp.r_return (pc := 14) o_X11_copyRow rfl (H)
noncomputable abbrev Y_X11_copyRow_129_48 (d : Nat) (Q : Qt) : Xt := Wp SHC (WpM SHC MT (d + 0)) (flat2 cq_X11_copyRow) (none) Q
noncomputable def f_X11_copyRow_129_48  (s : Sg) : Option (Unit × Sg) :=
  ck (¬ (0 : Int32) < 0 ∧ ¬ (0 : Int32) < 0 ∧ ¬ (if 60 < (60 : Int32) then 60 else (60 : Int32)) < 0 ∧ 0 + (if 60 < (60 : Int32) then 60 else (60 : Int32)).toNatClampNeg ≤ 60 ∧ 0 + (if 60 < (60 : Int32) then 60 else (60 : Int32)).toNatClampNeg ≤ 60) (
  some ((), pA s 129 (va_cpy (s.1 48) (s.1 129) 0 0 (if 60 < (60 : Int32) then 60 else (60 : Int32)).toNatClampNeg))
  )
set_option maxRecDepth 100000 in
theorem w_X11_copyRow_129_48 {d : Nat} {s : Sg} {Q : Qt}  (H : OQ (f_X11_copyRow_129_48  s) (fun _ s9 => Q none s9)) : WpM SHC MT (d + 1) 184 [.ref 48, .ref 129] s Q := by
  refine WpM.enter me_X11_copyRow rfl rfl ?_
  show Y_X11_copyRow_129_48 d Q 0 [(0, .ref 48), (1, .ref 129)] [] s
  unfold f_X11_copyRow_129_48 at H
  refine Wp.f_al0_iconst (pc := 0) o_X11_copyRow rfl rfl rfl (Wp.f_al1_iconst (pc := 2) o_X11_copyRow rfl rfl rfl (Wp.f_al0_alen (pc := 4) o_X11_copyRow rfl rfl rfl lk_C_48 (Wp.f_al1_alen (pc := 6) o_X11_copyRow rfl rfl rfl lk_C_129 (Wp.r_min (pc := 8) o_X11_copyRow rfl (⟨rm8_ rfl, ?_⟩)))))
  obtain ⟨c9, H⟩ := oq_ck H
  refine Wp.run 1 (show room8 [] ∧ (¬ (0 : Int32) < 0 ∧ ¬ (0 : Int32) < 0 ∧ ¬ (if 60 < (60 : Int32) then 60 else (60 : Int32)) < 0 ∧ 0 + (if 60 < (60 : Int32) then 60 else (60 : Int32)).toNatClampNeg ≤ 60 ∧ 0 + (if 60 < (60 : Int32) then 60 else (60 : Int32)).toNatClampNeg ≤ 60) ∧ Y_X11_copyRow_129_48 d Q 14 [(0, .ref 48), (1, .ref 129)] [] (pA s 129 (va_cpy (s.1 48) (s.1 129) 0 0 (if 60 < (60 : Int32) then 60 else (60 : Int32)).toNatClampNeg)) from ⟨rm8_ rfl, c9, ?_⟩)
  exact Wp.r_return (pc := 14) o_X11_copyRow rfl (H)
noncomputable abbrev Y_X11_copyRow_130_49 (d : Nat) (Q : Qt) : Xt := Wp SHC (WpM SHC MT (d + 0)) (flat2 cq_X11_copyRow) (none) Q
noncomputable def f_X11_copyRow_130_49  (s : Sg) : Option (Unit × Sg) :=
  ck (¬ (0 : Int32) < 0 ∧ ¬ (0 : Int32) < 0 ∧ ¬ (if 60 < (60 : Int32) then 60 else (60 : Int32)) < 0 ∧ 0 + (if 60 < (60 : Int32) then 60 else (60 : Int32)).toNatClampNeg ≤ 60 ∧ 0 + (if 60 < (60 : Int32) then 60 else (60 : Int32)).toNatClampNeg ≤ 60) (
  some ((), pA s 130 (va_cpy (s.1 49) (s.1 130) 0 0 (if 60 < (60 : Int32) then 60 else (60 : Int32)).toNatClampNeg))
  )
set_option maxRecDepth 100000 in
theorem w_X11_copyRow_130_49 {d : Nat} {s : Sg} {Q : Qt}  (H : OQ (f_X11_copyRow_130_49  s) (fun _ s9 => Q none s9)) : WpM SHC MT (d + 1) 184 [.ref 49, .ref 130] s Q := by
  refine WpM.enter me_X11_copyRow rfl rfl ?_
  show Y_X11_copyRow_130_49 d Q 0 [(0, .ref 49), (1, .ref 130)] [] s
  unfold f_X11_copyRow_130_49 at H
  refine Wp.f_al0_iconst (pc := 0) o_X11_copyRow rfl rfl rfl (Wp.f_al1_iconst (pc := 2) o_X11_copyRow rfl rfl rfl (Wp.f_al0_alen (pc := 4) o_X11_copyRow rfl rfl rfl lk_C_49 (Wp.f_al1_alen (pc := 6) o_X11_copyRow rfl rfl rfl lk_C_130 (Wp.r_min (pc := 8) o_X11_copyRow rfl (⟨rm8_ rfl, ?_⟩)))))
  obtain ⟨c9, H⟩ := oq_ck H
  refine Wp.run 1 (show room8 [] ∧ (¬ (0 : Int32) < 0 ∧ ¬ (0 : Int32) < 0 ∧ ¬ (if 60 < (60 : Int32) then 60 else (60 : Int32)) < 0 ∧ 0 + (if 60 < (60 : Int32) then 60 else (60 : Int32)).toNatClampNeg ≤ 60 ∧ 0 + (if 60 < (60 : Int32) then 60 else (60 : Int32)).toNatClampNeg ≤ 60) ∧ Y_X11_copyRow_130_49 d Q 14 [(0, .ref 49), (1, .ref 130)] [] (pA s 130 (va_cpy (s.1 49) (s.1 130) 0 0 (if 60 < (60 : Int32) then 60 else (60 : Int32)).toNatClampNeg)) from ⟨rm8_ rfl, c9, ?_⟩)
  exact Wp.r_return (pc := 14) o_X11_copyRow rfl (H)
noncomputable abbrev Y_X11_copyRow_131_50 (d : Nat) (Q : Qt) : Xt := Wp SHC (WpM SHC MT (d + 0)) (flat2 cq_X11_copyRow) (none) Q
noncomputable def f_X11_copyRow_131_50  (s : Sg) : Option (Unit × Sg) :=
  ck (¬ (0 : Int32) < 0 ∧ ¬ (0 : Int32) < 0 ∧ ¬ (if 60 < (60 : Int32) then 60 else (60 : Int32)) < 0 ∧ 0 + (if 60 < (60 : Int32) then 60 else (60 : Int32)).toNatClampNeg ≤ 60 ∧ 0 + (if 60 < (60 : Int32) then 60 else (60 : Int32)).toNatClampNeg ≤ 60) (
  some ((), pA s 131 (va_cpy (s.1 50) (s.1 131) 0 0 (if 60 < (60 : Int32) then 60 else (60 : Int32)).toNatClampNeg))
  )
set_option maxRecDepth 100000 in
theorem w_X11_copyRow_131_50 {d : Nat} {s : Sg} {Q : Qt}  (H : OQ (f_X11_copyRow_131_50  s) (fun _ s9 => Q none s9)) : WpM SHC MT (d + 1) 184 [.ref 50, .ref 131] s Q := by
  refine WpM.enter me_X11_copyRow rfl rfl ?_
  show Y_X11_copyRow_131_50 d Q 0 [(0, .ref 50), (1, .ref 131)] [] s
  unfold f_X11_copyRow_131_50 at H
  refine Wp.f_al0_iconst (pc := 0) o_X11_copyRow rfl rfl rfl (Wp.f_al1_iconst (pc := 2) o_X11_copyRow rfl rfl rfl (Wp.f_al0_alen (pc := 4) o_X11_copyRow rfl rfl rfl lk_C_50 (Wp.f_al1_alen (pc := 6) o_X11_copyRow rfl rfl rfl lk_C_131 (Wp.r_min (pc := 8) o_X11_copyRow rfl (⟨rm8_ rfl, ?_⟩)))))
  obtain ⟨c9, H⟩ := oq_ck H
  refine Wp.run 1 (show room8 [] ∧ (¬ (0 : Int32) < 0 ∧ ¬ (0 : Int32) < 0 ∧ ¬ (if 60 < (60 : Int32) then 60 else (60 : Int32)) < 0 ∧ 0 + (if 60 < (60 : Int32) then 60 else (60 : Int32)).toNatClampNeg ≤ 60 ∧ 0 + (if 60 < (60 : Int32) then 60 else (60 : Int32)).toNatClampNeg ≤ 60) ∧ Y_X11_copyRow_131_50 d Q 14 [(0, .ref 50), (1, .ref 131)] [] (pA s 131 (va_cpy (s.1 50) (s.1 131) 0 0 (if 60 < (60 : Int32) then 60 else (60 : Int32)).toNatClampNeg)) from ⟨rm8_ rfl, c9, ?_⟩)
  exact Wp.r_return (pc := 14) o_X11_copyRow rfl (H)
noncomputable abbrev Y_X5_copyFrom_27_108 (d : Nat) (Q : Qt) : Xt := Wp SHC (WpM SHC MT (d + 1)) (flat2 cq_X5_copyFrom) (none) Q
noncomputable def f_X5_copyFrom_27_108  (s : Sg) : Option (Unit × Sg) :=
  bd (f_X11_copyRow_126_45 s) (fun _ s2 =>
  bd (f_X11_copyRow_127_46 s2) (fun _ s4 =>
  bd (f_X11_copyRow_128_47 s4) (fun _ s6 =>
  bd (f_X11_copyRow_129_48 s6) (fun _ s8 =>
  bd (f_X11_copyRow_130_49 s8) (fun _ s10 =>
  bd (f_X11_copyRow_131_50 s10) (fun _ s12 =>
  ck ((s12.1 27 6) = 0 ∨ (s12.1 27 6) = 1) (
  nmx (pI (pI s12 108 6 (s12.1 27 6)) 108 7 ((pI s12 108 6 (s12.1 27 6)).1 27 7)) (fun s14 =>
  some ((), pI s14 108 8 (s14.1 27 8))
  )
  )
  )
  )
  )
  )
  )
  )
set_option maxRecDepth 100000 in
theorem w_X5_copyFrom_27_108 {d : Nat} {s : Sg} {Q : Qt}  (H : OQ (f_X5_copyFrom_27_108  s) (fun _ s9 => Q none s9)) : WpM SHC MT (d + 2) 62 [.ref 108, .ref 27] s Q := by
  refine WpM.enter me_X5_copyFrom rfl rfl ?_
  show Y_X5_copyFrom_27_108 d Q 0 [(0, .ref 108), (1, .ref 27)] [] s
  unfold f_X5_copyFrom_27_108 at H
  refine Wp.f_al1_gfr (pc := 0) o_X5_copyFrom rfl rfl rfl fk_C_27_0 (Wp.f_al0_gfr (pc := 4) o_X5_copyFrom rfl rfl rfl fk_C_108_0 (Wp.r_cs2 (pc := 8) o_X5_copyFrom rfl (⟨rm8_ rfl, ?_⟩)))
  refine w_X11_copyRow_126_45 (d := d)  ?_
  refine oq_bd H (fun _ s2 H => ?_)
  refine Wp.f_al1_gfr (pc := 11) o_X5_copyFrom rfl rfl rfl fk_C_27_1 (Wp.f_al0_gfr (pc := 15) o_X5_copyFrom rfl rfl rfl fk_C_108_1 (Wp.r_cs2 (pc := 19) o_X5_copyFrom rfl (⟨rm8_ rfl, ?_⟩)))
  refine w_X11_copyRow_127_46 (d := d)  ?_
  refine oq_bd H (fun _ s4 H => ?_)
  refine Wp.f_al1_gfr (pc := 22) o_X5_copyFrom rfl rfl rfl fk_C_27_2 (Wp.f_al0_gfr (pc := 26) o_X5_copyFrom rfl rfl rfl fk_C_108_2 (Wp.r_cs2 (pc := 30) o_X5_copyFrom rfl (⟨rm8_ rfl, ?_⟩)))
  refine w_X11_copyRow_128_47 (d := d)  ?_
  refine oq_bd H (fun _ s6 H => ?_)
  refine Wp.f_al1_gfr (pc := 33) o_X5_copyFrom rfl rfl rfl fk_C_27_3 (Wp.f_al0_gfr (pc := 37) o_X5_copyFrom rfl rfl rfl fk_C_108_3 (Wp.r_cs2 (pc := 41) o_X5_copyFrom rfl (⟨rm8_ rfl, ?_⟩)))
  refine w_X11_copyRow_129_48 (d := d)  ?_
  refine oq_bd H (fun _ s8 H => ?_)
  refine Wp.f_al1_gfr (pc := 44) o_X5_copyFrom rfl rfl rfl fk_C_27_4 (Wp.f_al0_gfr (pc := 48) o_X5_copyFrom rfl rfl rfl fk_C_108_4 (Wp.r_cs2 (pc := 52) o_X5_copyFrom rfl (⟨rm8_ rfl, ?_⟩)))
  refine w_X11_copyRow_130_49 (d := d)  ?_
  refine oq_bd H (fun _ s10 H => ?_)
  refine Wp.f_al1_gfr (pc := 55) o_X5_copyFrom rfl rfl rfl fk_C_27_5 (Wp.f_al0_gfr (pc := 59) o_X5_copyFrom rfl rfl rfl fk_C_108_5 (Wp.r_cs2 (pc := 63) o_X5_copyFrom rfl (⟨rm8_ rfl, ?_⟩)))
  refine w_X11_copyRow_131_50 (d := d)  ?_
  refine oq_bd H (fun _ s12 H => ?_)
  obtain ⟨hc13, H⟩ := oq_ck H
  refine Wp.r_aload_n0 (pc := 66) o_X5_copyFrom rfl rfl (Wp.f_al1_gfi (pc := 67) o_X5_copyFrom rfl rfl rfl fk_C_27_6 (Wp.r_pfz (pc := 71) o_X5_copyFrom rfl fk_C_108_6 (⟨hc13, ?_⟩)))
  refine Wp.r_aload_n0 (pc := 74) o_X5_copyFrom rfl rfl (Wp.f_al1_gfi (pc := 75) o_X5_copyFrom rfl rfl rfl fk_C_27_7 (Wp.r_pfi (pc := 79) o_X5_copyFrom rfl fk_C_108_7 (show Y_X5_copyFrom_27_108 d Q 82 [(0, .ref 108), (1, .ref 27)] [] (pI (pI s12 108 6 (s12.1 27 6)) 108 7 ((pI s12 108 6 (s12.1 27 6)).1 27 7)) from ?_)))
  revert H
  generalize pI (pI s12 108 6 (s12.1 27 6)) 108 7 ((pI s12 108 6 (s12.1 27 6)).1 27 7) = s14
  intro H
  have H := nmx_e H
  exact Wp.r_aload_n0 (pc := 82) o_X5_copyFrom rfl rfl (Wp.f_al1_gfi (pc := 83) o_X5_copyFrom rfl rfl rfl fk_C_27_8 (Wp.r_pfi (pc := 87) o_X5_copyFrom rfl fk_C_108_8 (Wp.r_return (pc := 90) o_X5_copyFrom rfl (H))))
noncomputable abbrev Y_X10_copyFrom_24_105 (d : Nat) (Q : Qt) : Xt := Wp SHC (WpM SHC MT (d + 2)) (flat2 cq_X10_copyFrom) (none) Q
noncomputable def f_X10_copyFrom_24_105  (s : Sg) : Option (Unit × Sg) :=
  bd (f_X4_copyFrom_25_106 s) (fun _ s2 =>
  bd (f_X2_copyFrom_26_107 s2) (fun _ s4 =>
  bd (f_X5_copyFrom_27_108 s4) (fun _ s6 =>
  some ((), s6)
  )
  )
  )
set_option maxRecDepth 100000 in
theorem w_X10_copyFrom_24_105 {d : Nat} {s : Sg} {Q : Qt}  (H : OQ (f_X10_copyFrom_24_105  s) (fun _ s9 => Q none s9)) : WpM SHC MT (d + 3) 101 [.ref 105, .ref 24] s Q := by
  refine WpM.enter me_X10_copyFrom rfl rfl ?_
  show Y_X10_copyFrom_24_105 d Q 0 [(0, .ref 105), (1, .ref 24)] [] s
  unfold f_X10_copyFrom_24_105 at H
  refine Wp.f_al0_gfr (pc := 0) o_X10_copyFrom rfl rfl rfl fk_C_105_0 (Wp.f_al1_gfr (pc := 4) o_X10_copyFrom rfl rfl rfl fk_C_24_0 (Wp.r_cv2 (pc := 8) o_X10_copyFrom rfl fk_C_106_0 (⟨rm8_ rfl, ?_⟩)))
  refine w_X4_copyFrom_25_106 (d := d)  ?_
  refine oq_bd H (fun _ s2 H => ?_)
  refine Wp.f_al0_gfr (pc := 11) o_X10_copyFrom rfl rfl rfl fk_C_105_1 (Wp.f_al1_gfr (pc := 15) o_X10_copyFrom rfl rfl rfl fk_C_24_1 (Wp.r_cv2 (pc := 19) o_X10_copyFrom rfl fk_C_107_0 (⟨rm8_ rfl, ?_⟩)))
  refine w_X2_copyFrom_26_107 (d := d)  ?_
  refine oq_bd H (fun _ s4 H => ?_)
  refine Wp.f_al0_gfr (pc := 22) o_X10_copyFrom rfl rfl rfl fk_C_105_2 (Wp.f_al1_gfr (pc := 26) o_X10_copyFrom rfl rfl rfl fk_C_24_2 (Wp.r_cv2 (pc := 30) o_X10_copyFrom rfl fk_C_108_0 (⟨rm8_ rfl, ?_⟩)))
  refine w_X5_copyFrom_27_108 (d := d)  ?_
  refine oq_bd H (fun _ s6 H => ?_)
  exact Wp.r_return (pc := 33) o_X10_copyFrom rfl (H)
noncomputable abbrev Y_X11_copyRow_137_29 (d : Nat) (Q : Qt) : Xt := Wp SHC (WpM SHC MT (d + 0)) (flat2 cq_X11_copyRow) (none) Q
noncomputable def f_X11_copyRow_137_29  (s : Sg) : Option (Unit × Sg) :=
  ck (¬ (0 : Int32) < 0 ∧ ¬ (0 : Int32) < 0 ∧ ¬ (if 24 < (24 : Int32) then 24 else (24 : Int32)) < 0 ∧ 0 + (if 24 < (24 : Int32) then 24 else (24 : Int32)).toNatClampNeg ≤ 24 ∧ 0 + (if 24 < (24 : Int32) then 24 else (24 : Int32)).toNatClampNeg ≤ 24) (
  some ((), pA s 137 (va_cpy (s.1 29) (s.1 137) 0 0 (if 24 < (24 : Int32) then 24 else (24 : Int32)).toNatClampNeg))
  )
set_option maxRecDepth 100000 in
theorem w_X11_copyRow_137_29 {d : Nat} {s : Sg} {Q : Qt}  (H : OQ (f_X11_copyRow_137_29  s) (fun _ s9 => Q none s9)) : WpM SHC MT (d + 1) 184 [.ref 29, .ref 137] s Q := by
  refine WpM.enter me_X11_copyRow rfl rfl ?_
  show Y_X11_copyRow_137_29 d Q 0 [(0, .ref 29), (1, .ref 137)] [] s
  unfold f_X11_copyRow_137_29 at H
  refine Wp.f_al0_iconst (pc := 0) o_X11_copyRow rfl rfl rfl (Wp.f_al1_iconst (pc := 2) o_X11_copyRow rfl rfl rfl (Wp.f_al0_alen (pc := 4) o_X11_copyRow rfl rfl rfl lk_C_29 (Wp.f_al1_alen (pc := 6) o_X11_copyRow rfl rfl rfl lk_C_137 (Wp.r_min (pc := 8) o_X11_copyRow rfl (⟨rm8_ rfl, ?_⟩)))))
  obtain ⟨c9, H⟩ := oq_ck H
  refine Wp.run 1 (show room8 [] ∧ (¬ (0 : Int32) < 0 ∧ ¬ (0 : Int32) < 0 ∧ ¬ (if 24 < (24 : Int32) then 24 else (24 : Int32)) < 0 ∧ 0 + (if 24 < (24 : Int32) then 24 else (24 : Int32)).toNatClampNeg ≤ 24 ∧ 0 + (if 24 < (24 : Int32) then 24 else (24 : Int32)).toNatClampNeg ≤ 24) ∧ Y_X11_copyRow_137_29 d Q 14 [(0, .ref 29), (1, .ref 137)] [] (pA s 137 (va_cpy (s.1 29) (s.1 137) 0 0 (if 24 < (24 : Int32) then 24 else (24 : Int32)).toNatClampNeg)) from ⟨rm8_ rfl, c9, ?_⟩)
  exact Wp.r_return (pc := 14) o_X11_copyRow rfl (H)
noncomputable abbrev Y_X11_copyRow_138_30 (d : Nat) (Q : Qt) : Xt := Wp SHC (WpM SHC MT (d + 0)) (flat2 cq_X11_copyRow) (none) Q
noncomputable def f_X11_copyRow_138_30  (s : Sg) : Option (Unit × Sg) :=
  ck (¬ (0 : Int32) < 0 ∧ ¬ (0 : Int32) < 0 ∧ ¬ (if 24 < (24 : Int32) then 24 else (24 : Int32)) < 0 ∧ 0 + (if 24 < (24 : Int32) then 24 else (24 : Int32)).toNatClampNeg ≤ 24 ∧ 0 + (if 24 < (24 : Int32) then 24 else (24 : Int32)).toNatClampNeg ≤ 24) (
  some ((), pA s 138 (va_cpy (s.1 30) (s.1 138) 0 0 (if 24 < (24 : Int32) then 24 else (24 : Int32)).toNatClampNeg))
  )
set_option maxRecDepth 100000 in
theorem w_X11_copyRow_138_30 {d : Nat} {s : Sg} {Q : Qt}  (H : OQ (f_X11_copyRow_138_30  s) (fun _ s9 => Q none s9)) : WpM SHC MT (d + 1) 184 [.ref 30, .ref 138] s Q := by
  refine WpM.enter me_X11_copyRow rfl rfl ?_
  show Y_X11_copyRow_138_30 d Q 0 [(0, .ref 30), (1, .ref 138)] [] s
  unfold f_X11_copyRow_138_30 at H
  refine Wp.f_al0_iconst (pc := 0) o_X11_copyRow rfl rfl rfl (Wp.f_al1_iconst (pc := 2) o_X11_copyRow rfl rfl rfl (Wp.f_al0_alen (pc := 4) o_X11_copyRow rfl rfl rfl lk_C_30 (Wp.f_al1_alen (pc := 6) o_X11_copyRow rfl rfl rfl lk_C_138 (Wp.r_min (pc := 8) o_X11_copyRow rfl (⟨rm8_ rfl, ?_⟩)))))
  obtain ⟨c9, H⟩ := oq_ck H
  refine Wp.run 1 (show room8 [] ∧ (¬ (0 : Int32) < 0 ∧ ¬ (0 : Int32) < 0 ∧ ¬ (if 24 < (24 : Int32) then 24 else (24 : Int32)) < 0 ∧ 0 + (if 24 < (24 : Int32) then 24 else (24 : Int32)).toNatClampNeg ≤ 24 ∧ 0 + (if 24 < (24 : Int32) then 24 else (24 : Int32)).toNatClampNeg ≤ 24) ∧ Y_X11_copyRow_138_30 d Q 14 [(0, .ref 30), (1, .ref 138)] [] (pA s 138 (va_cpy (s.1 30) (s.1 138) 0 0 (if 24 < (24 : Int32) then 24 else (24 : Int32)).toNatClampNeg)) from ⟨rm8_ rfl, c9, ?_⟩)
  exact Wp.r_return (pc := 14) o_X11_copyRow rfl (H)
noncomputable abbrev Y_X11_copyRow_139_31 (d : Nat) (Q : Qt) : Xt := Wp SHC (WpM SHC MT (d + 0)) (flat2 cq_X11_copyRow) (none) Q
noncomputable def f_X11_copyRow_139_31  (s : Sg) : Option (Unit × Sg) :=
  ck (¬ (0 : Int32) < 0 ∧ ¬ (0 : Int32) < 0 ∧ ¬ (if 8 < (8 : Int32) then 8 else (8 : Int32)) < 0 ∧ 0 + (if 8 < (8 : Int32) then 8 else (8 : Int32)).toNatClampNeg ≤ 8 ∧ 0 + (if 8 < (8 : Int32) then 8 else (8 : Int32)).toNatClampNeg ≤ 8) (
  some ((), pA s 139 (va_cpy (s.1 31) (s.1 139) 0 0 (if 8 < (8 : Int32) then 8 else (8 : Int32)).toNatClampNeg))
  )
set_option maxRecDepth 100000 in
theorem w_X11_copyRow_139_31 {d : Nat} {s : Sg} {Q : Qt}  (H : OQ (f_X11_copyRow_139_31  s) (fun _ s9 => Q none s9)) : WpM SHC MT (d + 1) 184 [.ref 31, .ref 139] s Q := by
  refine WpM.enter me_X11_copyRow rfl rfl ?_
  show Y_X11_copyRow_139_31 d Q 0 [(0, .ref 31), (1, .ref 139)] [] s
  unfold f_X11_copyRow_139_31 at H
  refine Wp.f_al0_iconst (pc := 0) o_X11_copyRow rfl rfl rfl (Wp.f_al1_iconst (pc := 2) o_X11_copyRow rfl rfl rfl (Wp.f_al0_alen (pc := 4) o_X11_copyRow rfl rfl rfl lk_C_31 (Wp.f_al1_alen (pc := 6) o_X11_copyRow rfl rfl rfl lk_C_139 (Wp.r_min (pc := 8) o_X11_copyRow rfl (⟨rm8_ rfl, ?_⟩)))))
  obtain ⟨c9, H⟩ := oq_ck H
  refine Wp.run 1 (show room8 [] ∧ (¬ (0 : Int32) < 0 ∧ ¬ (0 : Int32) < 0 ∧ ¬ (if 8 < (8 : Int32) then 8 else (8 : Int32)) < 0 ∧ 0 + (if 8 < (8 : Int32) then 8 else (8 : Int32)).toNatClampNeg ≤ 8 ∧ 0 + (if 8 < (8 : Int32) then 8 else (8 : Int32)).toNatClampNeg ≤ 8) ∧ Y_X11_copyRow_139_31 d Q 14 [(0, .ref 31), (1, .ref 139)] [] (pA s 139 (va_cpy (s.1 31) (s.1 139) 0 0 (if 8 < (8 : Int32) then 8 else (8 : Int32)).toNatClampNeg)) from ⟨rm8_ rfl, c9, ?_⟩)
  exact Wp.r_return (pc := 14) o_X11_copyRow rfl (H)
noncomputable abbrev Y_X11_copyRow_140_32 (d : Nat) (Q : Qt) : Xt := Wp SHC (WpM SHC MT (d + 0)) (flat2 cq_X11_copyRow) (none) Q
noncomputable def f_X11_copyRow_140_32  (s : Sg) : Option (Unit × Sg) :=
  ck (¬ (0 : Int32) < 0 ∧ ¬ (0 : Int32) < 0 ∧ ¬ (if 8 < (8 : Int32) then 8 else (8 : Int32)) < 0 ∧ 0 + (if 8 < (8 : Int32) then 8 else (8 : Int32)).toNatClampNeg ≤ 8 ∧ 0 + (if 8 < (8 : Int32) then 8 else (8 : Int32)).toNatClampNeg ≤ 8) (
  some ((), pA s 140 (va_cpy (s.1 32) (s.1 140) 0 0 (if 8 < (8 : Int32) then 8 else (8 : Int32)).toNatClampNeg))
  )
set_option maxRecDepth 100000 in
theorem w_X11_copyRow_140_32 {d : Nat} {s : Sg} {Q : Qt}  (H : OQ (f_X11_copyRow_140_32  s) (fun _ s9 => Q none s9)) : WpM SHC MT (d + 1) 184 [.ref 32, .ref 140] s Q := by
  refine WpM.enter me_X11_copyRow rfl rfl ?_
  show Y_X11_copyRow_140_32 d Q 0 [(0, .ref 32), (1, .ref 140)] [] s
  unfold f_X11_copyRow_140_32 at H
  refine Wp.f_al0_iconst (pc := 0) o_X11_copyRow rfl rfl rfl (Wp.f_al1_iconst (pc := 2) o_X11_copyRow rfl rfl rfl (Wp.f_al0_alen (pc := 4) o_X11_copyRow rfl rfl rfl lk_C_32 (Wp.f_al1_alen (pc := 6) o_X11_copyRow rfl rfl rfl lk_C_140 (Wp.r_min (pc := 8) o_X11_copyRow rfl (⟨rm8_ rfl, ?_⟩)))))
  obtain ⟨c9, H⟩ := oq_ck H
  refine Wp.run 1 (show room8 [] ∧ (¬ (0 : Int32) < 0 ∧ ¬ (0 : Int32) < 0 ∧ ¬ (if 8 < (8 : Int32) then 8 else (8 : Int32)) < 0 ∧ 0 + (if 8 < (8 : Int32) then 8 else (8 : Int32)).toNatClampNeg ≤ 8 ∧ 0 + (if 8 < (8 : Int32) then 8 else (8 : Int32)).toNatClampNeg ≤ 8) ∧ Y_X11_copyRow_140_32 d Q 14 [(0, .ref 32), (1, .ref 140)] [] (pA s 140 (va_cpy (s.1 32) (s.1 140) 0 0 (if 8 < (8 : Int32) then 8 else (8 : Int32)).toNatClampNeg)) from ⟨rm8_ rfl, c9, ?_⟩)
  exact Wp.r_return (pc := 14) o_X11_copyRow rfl (H)
noncomputable abbrev Y_X11_copyRow_141_33 (d : Nat) (Q : Qt) : Xt := Wp SHC (WpM SHC MT (d + 0)) (flat2 cq_X11_copyRow) (none) Q
noncomputable def f_X11_copyRow_141_33  (s : Sg) : Option (Unit × Sg) :=
  ck (¬ (0 : Int32) < 0 ∧ ¬ (0 : Int32) < 0 ∧ ¬ (if 8 < (8 : Int32) then 8 else (8 : Int32)) < 0 ∧ 0 + (if 8 < (8 : Int32) then 8 else (8 : Int32)).toNatClampNeg ≤ 8 ∧ 0 + (if 8 < (8 : Int32) then 8 else (8 : Int32)).toNatClampNeg ≤ 8) (
  some ((), pA s 141 (va_cpy (s.1 33) (s.1 141) 0 0 (if 8 < (8 : Int32) then 8 else (8 : Int32)).toNatClampNeg))
  )
set_option maxRecDepth 100000 in
theorem w_X11_copyRow_141_33 {d : Nat} {s : Sg} {Q : Qt}  (H : OQ (f_X11_copyRow_141_33  s) (fun _ s9 => Q none s9)) : WpM SHC MT (d + 1) 184 [.ref 33, .ref 141] s Q := by
  refine WpM.enter me_X11_copyRow rfl rfl ?_
  show Y_X11_copyRow_141_33 d Q 0 [(0, .ref 33), (1, .ref 141)] [] s
  unfold f_X11_copyRow_141_33 at H
  refine Wp.f_al0_iconst (pc := 0) o_X11_copyRow rfl rfl rfl (Wp.f_al1_iconst (pc := 2) o_X11_copyRow rfl rfl rfl (Wp.f_al0_alen (pc := 4) o_X11_copyRow rfl rfl rfl lk_C_33 (Wp.f_al1_alen (pc := 6) o_X11_copyRow rfl rfl rfl lk_C_141 (Wp.r_min (pc := 8) o_X11_copyRow rfl (⟨rm8_ rfl, ?_⟩)))))
  obtain ⟨c9, H⟩ := oq_ck H
  refine Wp.run 1 (show room8 [] ∧ (¬ (0 : Int32) < 0 ∧ ¬ (0 : Int32) < 0 ∧ ¬ (if 8 < (8 : Int32) then 8 else (8 : Int32)) < 0 ∧ 0 + (if 8 < (8 : Int32) then 8 else (8 : Int32)).toNatClampNeg ≤ 8 ∧ 0 + (if 8 < (8 : Int32) then 8 else (8 : Int32)).toNatClampNeg ≤ 8) ∧ Y_X11_copyRow_141_33 d Q 14 [(0, .ref 33), (1, .ref 141)] [] (pA s 141 (va_cpy (s.1 33) (s.1 141) 0 0 (if 8 < (8 : Int32) then 8 else (8 : Int32)).toNatClampNeg)) from ⟨rm8_ rfl, c9, ?_⟩)
  exact Wp.r_return (pc := 14) o_X11_copyRow rfl (H)
noncomputable abbrev Y_X11_copyRow_142_34 (d : Nat) (Q : Qt) : Xt := Wp SHC (WpM SHC MT (d + 0)) (flat2 cq_X11_copyRow) (none) Q
noncomputable def f_X11_copyRow_142_34  (s : Sg) : Option (Unit × Sg) :=
  ck (¬ (0 : Int32) < 0 ∧ ¬ (0 : Int32) < 0 ∧ ¬ (if 8 < (8 : Int32) then 8 else (8 : Int32)) < 0 ∧ 0 + (if 8 < (8 : Int32) then 8 else (8 : Int32)).toNatClampNeg ≤ 8 ∧ 0 + (if 8 < (8 : Int32) then 8 else (8 : Int32)).toNatClampNeg ≤ 8) (
  some ((), pA s 142 (va_cpy (s.1 34) (s.1 142) 0 0 (if 8 < (8 : Int32) then 8 else (8 : Int32)).toNatClampNeg))
  )
set_option maxRecDepth 100000 in
theorem w_X11_copyRow_142_34 {d : Nat} {s : Sg} {Q : Qt}  (H : OQ (f_X11_copyRow_142_34  s) (fun _ s9 => Q none s9)) : WpM SHC MT (d + 1) 184 [.ref 34, .ref 142] s Q := by
  refine WpM.enter me_X11_copyRow rfl rfl ?_
  show Y_X11_copyRow_142_34 d Q 0 [(0, .ref 34), (1, .ref 142)] [] s
  unfold f_X11_copyRow_142_34 at H
  refine Wp.f_al0_iconst (pc := 0) o_X11_copyRow rfl rfl rfl (Wp.f_al1_iconst (pc := 2) o_X11_copyRow rfl rfl rfl (Wp.f_al0_alen (pc := 4) o_X11_copyRow rfl rfl rfl lk_C_34 (Wp.f_al1_alen (pc := 6) o_X11_copyRow rfl rfl rfl lk_C_142 (Wp.r_min (pc := 8) o_X11_copyRow rfl (⟨rm8_ rfl, ?_⟩)))))
  obtain ⟨c9, H⟩ := oq_ck H
  refine Wp.run 1 (show room8 [] ∧ (¬ (0 : Int32) < 0 ∧ ¬ (0 : Int32) < 0 ∧ ¬ (if 8 < (8 : Int32) then 8 else (8 : Int32)) < 0 ∧ 0 + (if 8 < (8 : Int32) then 8 else (8 : Int32)).toNatClampNeg ≤ 8 ∧ 0 + (if 8 < (8 : Int32) then 8 else (8 : Int32)).toNatClampNeg ≤ 8) ∧ Y_X11_copyRow_142_34 d Q 14 [(0, .ref 34), (1, .ref 142)] [] (pA s 142 (va_cpy (s.1 34) (s.1 142) 0 0 (if 8 < (8 : Int32) then 8 else (8 : Int32)).toNatClampNeg)) from ⟨rm8_ rfl, c9, ?_⟩)
  exact Wp.r_return (pc := 14) o_X11_copyRow rfl (H)
noncomputable abbrev Y_X11_copyRow_143_35 (d : Nat) (Q : Qt) : Xt := Wp SHC (WpM SHC MT (d + 0)) (flat2 cq_X11_copyRow) (none) Q
noncomputable def f_X11_copyRow_143_35  (s : Sg) : Option (Unit × Sg) :=
  ck (¬ (0 : Int32) < 0 ∧ ¬ (0 : Int32) < 0 ∧ ¬ (if 4 < (4 : Int32) then 4 else (4 : Int32)) < 0 ∧ 0 + (if 4 < (4 : Int32) then 4 else (4 : Int32)).toNatClampNeg ≤ 4 ∧ 0 + (if 4 < (4 : Int32) then 4 else (4 : Int32)).toNatClampNeg ≤ 4) (
  some ((), pA s 143 (va_cpy (s.1 35) (s.1 143) 0 0 (if 4 < (4 : Int32) then 4 else (4 : Int32)).toNatClampNeg))
  )
set_option maxRecDepth 100000 in
theorem w_X11_copyRow_143_35 {d : Nat} {s : Sg} {Q : Qt}  (H : OQ (f_X11_copyRow_143_35  s) (fun _ s9 => Q none s9)) : WpM SHC MT (d + 1) 184 [.ref 35, .ref 143] s Q := by
  refine WpM.enter me_X11_copyRow rfl rfl ?_
  show Y_X11_copyRow_143_35 d Q 0 [(0, .ref 35), (1, .ref 143)] [] s
  unfold f_X11_copyRow_143_35 at H
  refine Wp.f_al0_iconst (pc := 0) o_X11_copyRow rfl rfl rfl (Wp.f_al1_iconst (pc := 2) o_X11_copyRow rfl rfl rfl (Wp.f_al0_alen (pc := 4) o_X11_copyRow rfl rfl rfl lk_C_35 (Wp.f_al1_alen (pc := 6) o_X11_copyRow rfl rfl rfl lk_C_143 (Wp.r_min (pc := 8) o_X11_copyRow rfl (⟨rm8_ rfl, ?_⟩)))))
  obtain ⟨c9, H⟩ := oq_ck H
  refine Wp.run 1 (show room8 [] ∧ (¬ (0 : Int32) < 0 ∧ ¬ (0 : Int32) < 0 ∧ ¬ (if 4 < (4 : Int32) then 4 else (4 : Int32)) < 0 ∧ 0 + (if 4 < (4 : Int32) then 4 else (4 : Int32)).toNatClampNeg ≤ 4 ∧ 0 + (if 4 < (4 : Int32) then 4 else (4 : Int32)).toNatClampNeg ≤ 4) ∧ Y_X11_copyRow_143_35 d Q 14 [(0, .ref 35), (1, .ref 143)] [] (pA s 143 (va_cpy (s.1 35) (s.1 143) 0 0 (if 4 < (4 : Int32) then 4 else (4 : Int32)).toNatClampNeg)) from ⟨rm8_ rfl, c9, ?_⟩)
  exact Wp.r_return (pc := 14) o_X11_copyRow rfl (H)
noncomputable abbrev Y_X11_copyRow_144_36 (d : Nat) (Q : Qt) : Xt := Wp SHC (WpM SHC MT (d + 0)) (flat2 cq_X11_copyRow) (none) Q
noncomputable def f_X11_copyRow_144_36  (s : Sg) : Option (Unit × Sg) :=
  ck (¬ (0 : Int32) < 0 ∧ ¬ (0 : Int32) < 0 ∧ ¬ (if 4 < (4 : Int32) then 4 else (4 : Int32)) < 0 ∧ 0 + (if 4 < (4 : Int32) then 4 else (4 : Int32)).toNatClampNeg ≤ 4 ∧ 0 + (if 4 < (4 : Int32) then 4 else (4 : Int32)).toNatClampNeg ≤ 4) (
  some ((), pA s 144 (va_cpy (s.1 36) (s.1 144) 0 0 (if 4 < (4 : Int32) then 4 else (4 : Int32)).toNatClampNeg))
  )
set_option maxRecDepth 100000 in
theorem w_X11_copyRow_144_36 {d : Nat} {s : Sg} {Q : Qt}  (H : OQ (f_X11_copyRow_144_36  s) (fun _ s9 => Q none s9)) : WpM SHC MT (d + 1) 184 [.ref 36, .ref 144] s Q := by
  refine WpM.enter me_X11_copyRow rfl rfl ?_
  show Y_X11_copyRow_144_36 d Q 0 [(0, .ref 36), (1, .ref 144)] [] s
  unfold f_X11_copyRow_144_36 at H
  refine Wp.f_al0_iconst (pc := 0) o_X11_copyRow rfl rfl rfl (Wp.f_al1_iconst (pc := 2) o_X11_copyRow rfl rfl rfl (Wp.f_al0_alen (pc := 4) o_X11_copyRow rfl rfl rfl lk_C_36 (Wp.f_al1_alen (pc := 6) o_X11_copyRow rfl rfl rfl lk_C_144 (Wp.r_min (pc := 8) o_X11_copyRow rfl (⟨rm8_ rfl, ?_⟩)))))
  obtain ⟨c9, H⟩ := oq_ck H
  refine Wp.run 1 (show room8 [] ∧ (¬ (0 : Int32) < 0 ∧ ¬ (0 : Int32) < 0 ∧ ¬ (if 4 < (4 : Int32) then 4 else (4 : Int32)) < 0 ∧ 0 + (if 4 < (4 : Int32) then 4 else (4 : Int32)).toNatClampNeg ≤ 4 ∧ 0 + (if 4 < (4 : Int32) then 4 else (4 : Int32)).toNatClampNeg ≤ 4) ∧ Y_X11_copyRow_144_36 d Q 14 [(0, .ref 36), (1, .ref 144)] [] (pA s 144 (va_cpy (s.1 36) (s.1 144) 0 0 (if 4 < (4 : Int32) then 4 else (4 : Int32)).toNatClampNeg)) from ⟨rm8_ rfl, c9, ?_⟩)
  exact Wp.r_return (pc := 14) o_X11_copyRow rfl (H)
noncomputable abbrev Y_X11_copyRow_145_37 (d : Nat) (Q : Qt) : Xt := Wp SHC (WpM SHC MT (d + 0)) (flat2 cq_X11_copyRow) (none) Q
noncomputable def f_X11_copyRow_145_37  (s : Sg) : Option (Unit × Sg) :=
  ck (¬ (0 : Int32) < 0 ∧ ¬ (0 : Int32) < 0 ∧ ¬ (if 4 < (4 : Int32) then 4 else (4 : Int32)) < 0 ∧ 0 + (if 4 < (4 : Int32) then 4 else (4 : Int32)).toNatClampNeg ≤ 4 ∧ 0 + (if 4 < (4 : Int32) then 4 else (4 : Int32)).toNatClampNeg ≤ 4) (
  some ((), pA s 145 (va_cpy (s.1 37) (s.1 145) 0 0 (if 4 < (4 : Int32) then 4 else (4 : Int32)).toNatClampNeg))
  )
set_option maxRecDepth 100000 in
theorem w_X11_copyRow_145_37 {d : Nat} {s : Sg} {Q : Qt}  (H : OQ (f_X11_copyRow_145_37  s) (fun _ s9 => Q none s9)) : WpM SHC MT (d + 1) 184 [.ref 37, .ref 145] s Q := by
  refine WpM.enter me_X11_copyRow rfl rfl ?_
  show Y_X11_copyRow_145_37 d Q 0 [(0, .ref 37), (1, .ref 145)] [] s
  unfold f_X11_copyRow_145_37 at H
  refine Wp.f_al0_iconst (pc := 0) o_X11_copyRow rfl rfl rfl (Wp.f_al1_iconst (pc := 2) o_X11_copyRow rfl rfl rfl (Wp.f_al0_alen (pc := 4) o_X11_copyRow rfl rfl rfl lk_C_37 (Wp.f_al1_alen (pc := 6) o_X11_copyRow rfl rfl rfl lk_C_145 (Wp.r_min (pc := 8) o_X11_copyRow rfl (⟨rm8_ rfl, ?_⟩)))))
  obtain ⟨c9, H⟩ := oq_ck H
  refine Wp.run 1 (show room8 [] ∧ (¬ (0 : Int32) < 0 ∧ ¬ (0 : Int32) < 0 ∧ ¬ (if 4 < (4 : Int32) then 4 else (4 : Int32)) < 0 ∧ 0 + (if 4 < (4 : Int32) then 4 else (4 : Int32)).toNatClampNeg ≤ 4 ∧ 0 + (if 4 < (4 : Int32) then 4 else (4 : Int32)).toNatClampNeg ≤ 4) ∧ Y_X11_copyRow_145_37 d Q 14 [(0, .ref 37), (1, .ref 145)] [] (pA s 145 (va_cpy (s.1 37) (s.1 145) 0 0 (if 4 < (4 : Int32) then 4 else (4 : Int32)).toNatClampNeg)) from ⟨rm8_ rfl, c9, ?_⟩)
  exact Wp.r_return (pc := 14) o_X11_copyRow rfl (H)
noncomputable abbrev Y_X11_copyRow_146_38 (d : Nat) (Q : Qt) : Xt := Wp SHC (WpM SHC MT (d + 0)) (flat2 cq_X11_copyRow) (none) Q
noncomputable def f_X11_copyRow_146_38  (s : Sg) : Option (Unit × Sg) :=
  ck (¬ (0 : Int32) < 0 ∧ ¬ (0 : Int32) < 0 ∧ ¬ (if 4 < (4 : Int32) then 4 else (4 : Int32)) < 0 ∧ 0 + (if 4 < (4 : Int32) then 4 else (4 : Int32)).toNatClampNeg ≤ 4 ∧ 0 + (if 4 < (4 : Int32) then 4 else (4 : Int32)).toNatClampNeg ≤ 4) (
  some ((), pA s 146 (va_cpy (s.1 38) (s.1 146) 0 0 (if 4 < (4 : Int32) then 4 else (4 : Int32)).toNatClampNeg))
  )
set_option maxRecDepth 100000 in
theorem w_X11_copyRow_146_38 {d : Nat} {s : Sg} {Q : Qt}  (H : OQ (f_X11_copyRow_146_38  s) (fun _ s9 => Q none s9)) : WpM SHC MT (d + 1) 184 [.ref 38, .ref 146] s Q := by
  refine WpM.enter me_X11_copyRow rfl rfl ?_
  show Y_X11_copyRow_146_38 d Q 0 [(0, .ref 38), (1, .ref 146)] [] s
  unfold f_X11_copyRow_146_38 at H
  refine Wp.f_al0_iconst (pc := 0) o_X11_copyRow rfl rfl rfl (Wp.f_al1_iconst (pc := 2) o_X11_copyRow rfl rfl rfl (Wp.f_al0_alen (pc := 4) o_X11_copyRow rfl rfl rfl lk_C_38 (Wp.f_al1_alen (pc := 6) o_X11_copyRow rfl rfl rfl lk_C_146 (Wp.r_min (pc := 8) o_X11_copyRow rfl (⟨rm8_ rfl, ?_⟩)))))
  obtain ⟨c9, H⟩ := oq_ck H
  refine Wp.run 1 (show room8 [] ∧ (¬ (0 : Int32) < 0 ∧ ¬ (0 : Int32) < 0 ∧ ¬ (if 4 < (4 : Int32) then 4 else (4 : Int32)) < 0 ∧ 0 + (if 4 < (4 : Int32) then 4 else (4 : Int32)).toNatClampNeg ≤ 4 ∧ 0 + (if 4 < (4 : Int32) then 4 else (4 : Int32)).toNatClampNeg ≤ 4) ∧ Y_X11_copyRow_146_38 d Q 14 [(0, .ref 38), (1, .ref 146)] [] (pA s 146 (va_cpy (s.1 38) (s.1 146) 0 0 (if 4 < (4 : Int32) then 4 else (4 : Int32)).toNatClampNeg)) from ⟨rm8_ rfl, c9, ?_⟩)
  exact Wp.r_return (pc := 14) o_X11_copyRow rfl (H)
noncomputable abbrev Y_X11_copyRow_147_39 (d : Nat) (Q : Qt) : Xt := Wp SHC (WpM SHC MT (d + 0)) (flat2 cq_X11_copyRow) (none) Q
noncomputable def f_X11_copyRow_147_39  (s : Sg) : Option (Unit × Sg) :=
  ck (¬ (0 : Int32) < 0 ∧ ¬ (0 : Int32) < 0 ∧ ¬ (if 4 < (4 : Int32) then 4 else (4 : Int32)) < 0 ∧ 0 + (if 4 < (4 : Int32) then 4 else (4 : Int32)).toNatClampNeg ≤ 4 ∧ 0 + (if 4 < (4 : Int32) then 4 else (4 : Int32)).toNatClampNeg ≤ 4) (
  some ((), pA s 147 (va_cpy (s.1 39) (s.1 147) 0 0 (if 4 < (4 : Int32) then 4 else (4 : Int32)).toNatClampNeg))
  )
set_option maxRecDepth 100000 in
theorem w_X11_copyRow_147_39 {d : Nat} {s : Sg} {Q : Qt}  (H : OQ (f_X11_copyRow_147_39  s) (fun _ s9 => Q none s9)) : WpM SHC MT (d + 1) 184 [.ref 39, .ref 147] s Q := by
  refine WpM.enter me_X11_copyRow rfl rfl ?_
  show Y_X11_copyRow_147_39 d Q 0 [(0, .ref 39), (1, .ref 147)] [] s
  unfold f_X11_copyRow_147_39 at H
  refine Wp.f_al0_iconst (pc := 0) o_X11_copyRow rfl rfl rfl (Wp.f_al1_iconst (pc := 2) o_X11_copyRow rfl rfl rfl (Wp.f_al0_alen (pc := 4) o_X11_copyRow rfl rfl rfl lk_C_39 (Wp.f_al1_alen (pc := 6) o_X11_copyRow rfl rfl rfl lk_C_147 (Wp.r_min (pc := 8) o_X11_copyRow rfl (⟨rm8_ rfl, ?_⟩)))))
  obtain ⟨c9, H⟩ := oq_ck H
  refine Wp.run 1 (show room8 [] ∧ (¬ (0 : Int32) < 0 ∧ ¬ (0 : Int32) < 0 ∧ ¬ (if 4 < (4 : Int32) then 4 else (4 : Int32)) < 0 ∧ 0 + (if 4 < (4 : Int32) then 4 else (4 : Int32)).toNatClampNeg ≤ 4 ∧ 0 + (if 4 < (4 : Int32) then 4 else (4 : Int32)).toNatClampNeg ≤ 4) ∧ Y_X11_copyRow_147_39 d Q 14 [(0, .ref 39), (1, .ref 147)] [] (pA s 147 (va_cpy (s.1 39) (s.1 147) 0 0 (if 4 < (4 : Int32) then 4 else (4 : Int32)).toNatClampNeg)) from ⟨rm8_ rfl, c9, ?_⟩)
  exact Wp.r_return (pc := 14) o_X11_copyRow rfl (H)
noncomputable abbrev Y_X4_copyFrom_25_133 (d : Nat) (Q : Qt) : Xt := Wp SHC (WpM SHC MT (d + 1)) (flat2 cq_X4_copyFrom) (none) Q
noncomputable def f_X4_copyFrom_25_133  (s : Sg) : Option (Unit × Sg) :=
  bd (f_X11_copyRow_137_29 (pB s 136 (va_cpy (s.2 28) (s.2 136) 0 0 24))) (fun _ s2 =>
  bd (f_X11_copyRow_138_30 s2) (fun _ s4 =>
  bd (f_X11_copyRow_139_31 s4) (fun _ s6 =>
  bd (f_X11_copyRow_140_32 s6) (fun _ s8 =>
  bd (f_X11_copyRow_141_33 s8) (fun _ s10 =>
  bd (f_X11_copyRow_142_34 s10) (fun _ s12 =>
  bd (f_X11_copyRow_143_35 s12) (fun _ s14 =>
  bd (f_X11_copyRow_144_36 s14) (fun _ s16 =>
  bd (f_X11_copyRow_145_37 s16) (fun _ s18 =>
  bd (f_X11_copyRow_146_38 s18) (fun _ s20 =>
  bd (f_X11_copyRow_147_39 s20) (fun _ s22 =>
  nmx (pI (pI s22 133 12 (s22.1 25 12)) 133 13 ((pI s22 133 12 (s22.1 25 12)).1 25 13)) (fun s23 =>
  nmx (pI (pI s23 133 14 (s23.1 25 14)) 133 15 ((pI s23 133 14 (s23.1 25 14)).1 25 15)) (fun s24 =>
  nmx (pI (pI s24 133 16 (s24.1 25 16)) 133 17 ((pI s24 133 16 (s24.1 25 16)).1 25 17)) (fun s25 =>
  ck (((pI s25 133 18 (s25.1 25 18)).1 25 19) = 0 ∨ ((pI s25 133 18 (s25.1 25 18)).1 25 19) = 1) (
  some ((), pI (pI s25 133 18 (s25.1 25 18)) 133 19 ((pI s25 133 18 (s25.1 25 18)).1 25 19))
  )
  )
  )
  )
  )
  )
  )
  )
  )
  )
  )
  )
  )
  )
  )
set_option maxRecDepth 100000 in
theorem w_X4_copyFrom_25_133 {d : Nat} {s : Sg} {Q : Qt}  (H : OQ (f_X4_copyFrom_25_133  s) (fun _ s9 => Q none s9)) : WpM SHC MT (d + 2) 50 [.ref 133, .ref 25] s Q := by
  refine WpM.enter me_X4_copyFrom rfl rfl ?_
  show Y_X4_copyFrom_25_133 d Q 0 [(0, .ref 133), (1, .ref 25)] [] s
  unfold f_X4_copyFrom_25_133 at H
  refine Wp.f_al1_gfr (pc := 0) o_X4_copyFrom rfl rfl rfl fk_C_25_0 (Wp.r_iconst (pc := 4) o_X4_copyFrom rfl (Wp.f_al0_gfr (pc := 5) o_X4_copyFrom rfl rfl rfl fk_C_133_0 (Wp.r_iconst (pc := 9) o_X4_copyFrom rfl (Wp.r_bipush (pc := 10) o_X4_copyFrom rfl (Wp.run 1 (show room8 [] ∧ (¬ (0 : Int32) < 0 ∧ ¬ (0 : Int32) < 0 ∧ ¬ (24 : Int32) < 0 ∧ 0 + 24 ≤ 24 ∧ 0 + 24 ≤ 24) ∧ Y_X4_copyFrom_25_133 d Q 15 [(0, .ref 133), (1, .ref 25)] [] (pB s 136 (va_cpy (s.2 28) (s.2 136) 0 0 24)) from ⟨rm8_ rfl, by decide, ?_⟩))))))
  refine Wp.f_al1_gfr (pc := 15) o_X4_copyFrom rfl rfl rfl fk_C_25_1 (Wp.f_al0_gfr (pc := 19) o_X4_copyFrom rfl rfl rfl fk_C_133_1 (Wp.r_cs2 (pc := 23) o_X4_copyFrom rfl (⟨rm8_ rfl, ?_⟩)))
  refine w_X11_copyRow_137_29 (d := d)  ?_
  refine oq_bd H (fun _ s2 H => ?_)
  refine Wp.f_al1_gfr (pc := 26) o_X4_copyFrom rfl rfl rfl fk_C_25_2 (Wp.f_al0_gfr (pc := 30) o_X4_copyFrom rfl rfl rfl fk_C_133_2 (Wp.r_cs2 (pc := 34) o_X4_copyFrom rfl (⟨rm8_ rfl, ?_⟩)))
  refine w_X11_copyRow_138_30 (d := d)  ?_
  refine oq_bd H (fun _ s4 H => ?_)
  refine Wp.f_al1_gfr (pc := 37) o_X4_copyFrom rfl rfl rfl fk_C_25_3 (Wp.f_al0_gfr (pc := 41) o_X4_copyFrom rfl rfl rfl fk_C_133_3 (Wp.r_cs2 (pc := 45) o_X4_copyFrom rfl (⟨rm8_ rfl, ?_⟩)))
  refine w_X11_copyRow_139_31 (d := d)  ?_
  refine oq_bd H (fun _ s6 H => ?_)
  refine Wp.f_al1_gfr (pc := 48) o_X4_copyFrom rfl rfl rfl fk_C_25_4 (Wp.f_al0_gfr (pc := 52) o_X4_copyFrom rfl rfl rfl fk_C_133_4 (Wp.r_cs2 (pc := 56) o_X4_copyFrom rfl (⟨rm8_ rfl, ?_⟩)))
  refine w_X11_copyRow_140_32 (d := d)  ?_
  refine oq_bd H (fun _ s8 H => ?_)
  refine Wp.f_al1_gfr (pc := 59) o_X4_copyFrom rfl rfl rfl fk_C_25_5 (Wp.f_al0_gfr (pc := 63) o_X4_copyFrom rfl rfl rfl fk_C_133_5 (Wp.r_cs2 (pc := 67) o_X4_copyFrom rfl (⟨rm8_ rfl, ?_⟩)))
  refine w_X11_copyRow_141_33 (d := d)  ?_
  refine oq_bd H (fun _ s10 H => ?_)
  refine Wp.f_al1_gfr (pc := 70) o_X4_copyFrom rfl rfl rfl fk_C_25_6 (Wp.f_al0_gfr (pc := 74) o_X4_copyFrom rfl rfl rfl fk_C_133_6 (Wp.r_cs2 (pc := 78) o_X4_copyFrom rfl (⟨rm8_ rfl, ?_⟩)))
  refine w_X11_copyRow_142_34 (d := d)  ?_
  refine oq_bd H (fun _ s12 H => ?_)
  refine Wp.f_al1_gfr (pc := 81) o_X4_copyFrom rfl rfl rfl fk_C_25_7 (Wp.f_al0_gfr (pc := 85) o_X4_copyFrom rfl rfl rfl fk_C_133_7 (Wp.r_cs2 (pc := 89) o_X4_copyFrom rfl (⟨rm8_ rfl, ?_⟩)))
  refine w_X11_copyRow_143_35 (d := d)  ?_
  refine oq_bd H (fun _ s14 H => ?_)
  refine Wp.f_al1_gfr (pc := 92) o_X4_copyFrom rfl rfl rfl fk_C_25_8 (Wp.f_al0_gfr (pc := 96) o_X4_copyFrom rfl rfl rfl fk_C_133_8 (Wp.r_cs2 (pc := 100) o_X4_copyFrom rfl (⟨rm8_ rfl, ?_⟩)))
  refine w_X11_copyRow_144_36 (d := d)  ?_
  refine oq_bd H (fun _ s16 H => ?_)
  refine Wp.f_al1_gfr (pc := 103) o_X4_copyFrom rfl rfl rfl fk_C_25_9 (Wp.f_al0_gfr (pc := 107) o_X4_copyFrom rfl rfl rfl fk_C_133_9 (Wp.r_cs2 (pc := 111) o_X4_copyFrom rfl (⟨rm8_ rfl, ?_⟩)))
  refine w_X11_copyRow_145_37 (d := d)  ?_
  refine oq_bd H (fun _ s18 H => ?_)
  refine Wp.f_al1_gfr (pc := 114) o_X4_copyFrom rfl rfl rfl fk_C_25_10 (Wp.f_al0_gfr (pc := 118) o_X4_copyFrom rfl rfl rfl fk_C_133_10 (Wp.r_cs2 (pc := 122) o_X4_copyFrom rfl (⟨rm8_ rfl, ?_⟩)))
  refine w_X11_copyRow_146_38 (d := d)  ?_
  refine oq_bd H (fun _ s20 H => ?_)
  refine Wp.f_al1_gfr (pc := 125) o_X4_copyFrom rfl rfl rfl fk_C_25_11 (Wp.f_al0_gfr (pc := 129) o_X4_copyFrom rfl rfl rfl fk_C_133_11 (Wp.r_cs2 (pc := 133) o_X4_copyFrom rfl (⟨rm8_ rfl, ?_⟩)))
  refine w_X11_copyRow_147_39 (d := d)  ?_
  refine oq_bd H (fun _ s22 H => ?_)
  refine Wp.r_aload_n0 (pc := 136) o_X4_copyFrom rfl rfl (Wp.f_al1_gfi (pc := 137) o_X4_copyFrom rfl rfl rfl fk_C_25_12 (Wp.r_pfi (pc := 141) o_X4_copyFrom rfl fk_C_133_12 (Wp.r_aload_n0 (pc := 144) o_X4_copyFrom rfl rfl (Wp.f_al1_gfi (pc := 145) o_X4_copyFrom rfl rfl rfl fk_C_25_13 (Wp.r_pfi (pc := 149) o_X4_copyFrom rfl fk_C_133_13 (show Y_X4_copyFrom_25_133 d Q 152 [(0, .ref 133), (1, .ref 25)] [] (pI (pI s22 133 12 (s22.1 25 12)) 133 13 ((pI s22 133 12 (s22.1 25 12)).1 25 13)) from ?_))))))
  revert H
  generalize pI (pI s22 133 12 (s22.1 25 12)) 133 13 ((pI s22 133 12 (s22.1 25 12)).1 25 13) = s23
  intro H
  have H := nmx_e H
  refine Wp.r_aload_n0 (pc := 152) o_X4_copyFrom rfl rfl (Wp.f_al1_gfi (pc := 153) o_X4_copyFrom rfl rfl rfl fk_C_25_14 (Wp.r_pfi (pc := 157) o_X4_copyFrom rfl fk_C_133_14 (Wp.r_aload_n0 (pc := 160) o_X4_copyFrom rfl rfl (Wp.f_al1_gfi (pc := 161) o_X4_copyFrom rfl rfl rfl fk_C_25_15 (Wp.r_pfi (pc := 165) o_X4_copyFrom rfl fk_C_133_15 (show Y_X4_copyFrom_25_133 d Q 168 [(0, .ref 133), (1, .ref 25)] [] (pI (pI s23 133 14 (s23.1 25 14)) 133 15 ((pI s23 133 14 (s23.1 25 14)).1 25 15)) from ?_))))))
  revert H
  generalize pI (pI s23 133 14 (s23.1 25 14)) 133 15 ((pI s23 133 14 (s23.1 25 14)).1 25 15) = s24
  intro H
  have H := nmx_e H
  refine Wp.r_aload_n0 (pc := 168) o_X4_copyFrom rfl rfl (Wp.f_al1_gfi (pc := 169) o_X4_copyFrom rfl rfl rfl fk_C_25_16 (Wp.r_pfi (pc := 173) o_X4_copyFrom rfl fk_C_133_16 (Wp.r_aload_n0 (pc := 176) o_X4_copyFrom rfl rfl (Wp.f_al1_gfi (pc := 177) o_X4_copyFrom rfl rfl rfl fk_C_25_17 (Wp.r_pfi (pc := 181) o_X4_copyFrom rfl fk_C_133_17 (show Y_X4_copyFrom_25_133 d Q 184 [(0, .ref 133), (1, .ref 25)] [] (pI (pI s24 133 16 (s24.1 25 16)) 133 17 ((pI s24 133 16 (s24.1 25 16)).1 25 17)) from ?_))))))
  revert H
  generalize pI (pI s24 133 16 (s24.1 25 16)) 133 17 ((pI s24 133 16 (s24.1 25 16)).1 25 17) = s25
  intro H
  have H := nmx_e H
  obtain ⟨hc26, H⟩ := oq_ck H
  refine Wp.r_aload_n0 (pc := 184) o_X4_copyFrom rfl rfl (Wp.f_al1_gfi (pc := 185) o_X4_copyFrom rfl rfl rfl fk_C_25_18 (Wp.r_pfi (pc := 189) o_X4_copyFrom rfl fk_C_133_18 (Wp.r_aload_n0 (pc := 192) o_X4_copyFrom rfl rfl (Wp.f_al1_gfi (pc := 193) o_X4_copyFrom rfl rfl rfl fk_C_25_19 (Wp.r_pfz (pc := 197) o_X4_copyFrom rfl fk_C_133_19 (⟨hc26, ?_⟩))))))
  exact Wp.r_return (pc := 200) o_X4_copyFrom rfl (H)
noncomputable abbrev Y_X11_copyRow_148_40 (d : Nat) (Q : Qt) : Xt := Wp SHC (WpM SHC MT (d + 0)) (flat2 cq_X11_copyRow) (none) Q
noncomputable def f_X11_copyRow_148_40  (s : Sg) : Option (Unit × Sg) :=
  ck (¬ (0 : Int32) < 0 ∧ ¬ (0 : Int32) < 0 ∧ ¬ (if 8 < (8 : Int32) then 8 else (8 : Int32)) < 0 ∧ 0 + (if 8 < (8 : Int32) then 8 else (8 : Int32)).toNatClampNeg ≤ 8 ∧ 0 + (if 8 < (8 : Int32) then 8 else (8 : Int32)).toNatClampNeg ≤ 8) (
  some ((), pA s 148 (va_cpy (s.1 40) (s.1 148) 0 0 (if 8 < (8 : Int32) then 8 else (8 : Int32)).toNatClampNeg))
  )
set_option maxRecDepth 100000 in
theorem w_X11_copyRow_148_40 {d : Nat} {s : Sg} {Q : Qt}  (H : OQ (f_X11_copyRow_148_40  s) (fun _ s9 => Q none s9)) : WpM SHC MT (d + 1) 184 [.ref 40, .ref 148] s Q := by
  refine WpM.enter me_X11_copyRow rfl rfl ?_
  show Y_X11_copyRow_148_40 d Q 0 [(0, .ref 40), (1, .ref 148)] [] s
  unfold f_X11_copyRow_148_40 at H
  refine Wp.f_al0_iconst (pc := 0) o_X11_copyRow rfl rfl rfl (Wp.f_al1_iconst (pc := 2) o_X11_copyRow rfl rfl rfl (Wp.f_al0_alen (pc := 4) o_X11_copyRow rfl rfl rfl lk_C_40 (Wp.f_al1_alen (pc := 6) o_X11_copyRow rfl rfl rfl lk_C_148 (Wp.r_min (pc := 8) o_X11_copyRow rfl (⟨rm8_ rfl, ?_⟩)))))
  obtain ⟨c9, H⟩ := oq_ck H
  refine Wp.run 1 (show room8 [] ∧ (¬ (0 : Int32) < 0 ∧ ¬ (0 : Int32) < 0 ∧ ¬ (if 8 < (8 : Int32) then 8 else (8 : Int32)) < 0 ∧ 0 + (if 8 < (8 : Int32) then 8 else (8 : Int32)).toNatClampNeg ≤ 8 ∧ 0 + (if 8 < (8 : Int32) then 8 else (8 : Int32)).toNatClampNeg ≤ 8) ∧ Y_X11_copyRow_148_40 d Q 14 [(0, .ref 40), (1, .ref 148)] [] (pA s 148 (va_cpy (s.1 40) (s.1 148) 0 0 (if 8 < (8 : Int32) then 8 else (8 : Int32)).toNatClampNeg)) from ⟨rm8_ rfl, c9, ?_⟩)
  exact Wp.r_return (pc := 14) o_X11_copyRow rfl (H)
noncomputable abbrev Y_X11_copyRow_149_41 (d : Nat) (Q : Qt) : Xt := Wp SHC (WpM SHC MT (d + 0)) (flat2 cq_X11_copyRow) (none) Q
noncomputable def f_X11_copyRow_149_41  (s : Sg) : Option (Unit × Sg) :=
  ck (¬ (0 : Int32) < 0 ∧ ¬ (0 : Int32) < 0 ∧ ¬ (if 8 < (8 : Int32) then 8 else (8 : Int32)) < 0 ∧ 0 + (if 8 < (8 : Int32) then 8 else (8 : Int32)).toNatClampNeg ≤ 8 ∧ 0 + (if 8 < (8 : Int32) then 8 else (8 : Int32)).toNatClampNeg ≤ 8) (
  some ((), pA s 149 (va_cpy (s.1 41) (s.1 149) 0 0 (if 8 < (8 : Int32) then 8 else (8 : Int32)).toNatClampNeg))
  )
set_option maxRecDepth 100000 in
theorem w_X11_copyRow_149_41 {d : Nat} {s : Sg} {Q : Qt}  (H : OQ (f_X11_copyRow_149_41  s) (fun _ s9 => Q none s9)) : WpM SHC MT (d + 1) 184 [.ref 41, .ref 149] s Q := by
  refine WpM.enter me_X11_copyRow rfl rfl ?_
  show Y_X11_copyRow_149_41 d Q 0 [(0, .ref 41), (1, .ref 149)] [] s
  unfold f_X11_copyRow_149_41 at H
  refine Wp.f_al0_iconst (pc := 0) o_X11_copyRow rfl rfl rfl (Wp.f_al1_iconst (pc := 2) o_X11_copyRow rfl rfl rfl (Wp.f_al0_alen (pc := 4) o_X11_copyRow rfl rfl rfl lk_C_41 (Wp.f_al1_alen (pc := 6) o_X11_copyRow rfl rfl rfl lk_C_149 (Wp.r_min (pc := 8) o_X11_copyRow rfl (⟨rm8_ rfl, ?_⟩)))))
  obtain ⟨c9, H⟩ := oq_ck H
  refine Wp.run 1 (show room8 [] ∧ (¬ (0 : Int32) < 0 ∧ ¬ (0 : Int32) < 0 ∧ ¬ (if 8 < (8 : Int32) then 8 else (8 : Int32)) < 0 ∧ 0 + (if 8 < (8 : Int32) then 8 else (8 : Int32)).toNatClampNeg ≤ 8 ∧ 0 + (if 8 < (8 : Int32) then 8 else (8 : Int32)).toNatClampNeg ≤ 8) ∧ Y_X11_copyRow_149_41 d Q 14 [(0, .ref 41), (1, .ref 149)] [] (pA s 149 (va_cpy (s.1 41) (s.1 149) 0 0 (if 8 < (8 : Int32) then 8 else (8 : Int32)).toNatClampNeg)) from ⟨rm8_ rfl, c9, ?_⟩)
  exact Wp.r_return (pc := 14) o_X11_copyRow rfl (H)
noncomputable abbrev Y_X11_copyRow_150_42 (d : Nat) (Q : Qt) : Xt := Wp SHC (WpM SHC MT (d + 0)) (flat2 cq_X11_copyRow) (none) Q
noncomputable def f_X11_copyRow_150_42  (s : Sg) : Option (Unit × Sg) :=
  ck (¬ (0 : Int32) < 0 ∧ ¬ (0 : Int32) < 0 ∧ ¬ (if 8 < (8 : Int32) then 8 else (8 : Int32)) < 0 ∧ 0 + (if 8 < (8 : Int32) then 8 else (8 : Int32)).toNatClampNeg ≤ 8 ∧ 0 + (if 8 < (8 : Int32) then 8 else (8 : Int32)).toNatClampNeg ≤ 8) (
  some ((), pA s 150 (va_cpy (s.1 42) (s.1 150) 0 0 (if 8 < (8 : Int32) then 8 else (8 : Int32)).toNatClampNeg))
  )
set_option maxRecDepth 100000 in
theorem w_X11_copyRow_150_42 {d : Nat} {s : Sg} {Q : Qt}  (H : OQ (f_X11_copyRow_150_42  s) (fun _ s9 => Q none s9)) : WpM SHC MT (d + 1) 184 [.ref 42, .ref 150] s Q := by
  refine WpM.enter me_X11_copyRow rfl rfl ?_
  show Y_X11_copyRow_150_42 d Q 0 [(0, .ref 42), (1, .ref 150)] [] s
  unfold f_X11_copyRow_150_42 at H
  refine Wp.f_al0_iconst (pc := 0) o_X11_copyRow rfl rfl rfl (Wp.f_al1_iconst (pc := 2) o_X11_copyRow rfl rfl rfl (Wp.f_al0_alen (pc := 4) o_X11_copyRow rfl rfl rfl lk_C_42 (Wp.f_al1_alen (pc := 6) o_X11_copyRow rfl rfl rfl lk_C_150 (Wp.r_min (pc := 8) o_X11_copyRow rfl (⟨rm8_ rfl, ?_⟩)))))
  obtain ⟨c9, H⟩ := oq_ck H
  refine Wp.run 1 (show room8 [] ∧ (¬ (0 : Int32) < 0 ∧ ¬ (0 : Int32) < 0 ∧ ¬ (if 8 < (8 : Int32) then 8 else (8 : Int32)) < 0 ∧ 0 + (if 8 < (8 : Int32) then 8 else (8 : Int32)).toNatClampNeg ≤ 8 ∧ 0 + (if 8 < (8 : Int32) then 8 else (8 : Int32)).toNatClampNeg ≤ 8) ∧ Y_X11_copyRow_150_42 d Q 14 [(0, .ref 42), (1, .ref 150)] [] (pA s 150 (va_cpy (s.1 42) (s.1 150) 0 0 (if 8 < (8 : Int32) then 8 else (8 : Int32)).toNatClampNeg)) from ⟨rm8_ rfl, c9, ?_⟩)
  exact Wp.r_return (pc := 14) o_X11_copyRow rfl (H)
noncomputable abbrev Y_X11_copyRow_151_43 (d : Nat) (Q : Qt) : Xt := Wp SHC (WpM SHC MT (d + 0)) (flat2 cq_X11_copyRow) (none) Q
noncomputable def f_X11_copyRow_151_43  (s : Sg) : Option (Unit × Sg) :=
  ck (¬ (0 : Int32) < 0 ∧ ¬ (0 : Int32) < 0 ∧ ¬ (if 8 < (8 : Int32) then 8 else (8 : Int32)) < 0 ∧ 0 + (if 8 < (8 : Int32) then 8 else (8 : Int32)).toNatClampNeg ≤ 8 ∧ 0 + (if 8 < (8 : Int32) then 8 else (8 : Int32)).toNatClampNeg ≤ 8) (
  some ((), pA s 151 (va_cpy (s.1 43) (s.1 151) 0 0 (if 8 < (8 : Int32) then 8 else (8 : Int32)).toNatClampNeg))
  )
set_option maxRecDepth 100000 in
theorem w_X11_copyRow_151_43 {d : Nat} {s : Sg} {Q : Qt}  (H : OQ (f_X11_copyRow_151_43  s) (fun _ s9 => Q none s9)) : WpM SHC MT (d + 1) 184 [.ref 43, .ref 151] s Q := by
  refine WpM.enter me_X11_copyRow rfl rfl ?_
  show Y_X11_copyRow_151_43 d Q 0 [(0, .ref 43), (1, .ref 151)] [] s
  unfold f_X11_copyRow_151_43 at H
  refine Wp.f_al0_iconst (pc := 0) o_X11_copyRow rfl rfl rfl (Wp.f_al1_iconst (pc := 2) o_X11_copyRow rfl rfl rfl (Wp.f_al0_alen (pc := 4) o_X11_copyRow rfl rfl rfl lk_C_43 (Wp.f_al1_alen (pc := 6) o_X11_copyRow rfl rfl rfl lk_C_151 (Wp.r_min (pc := 8) o_X11_copyRow rfl (⟨rm8_ rfl, ?_⟩)))))
  obtain ⟨c9, H⟩ := oq_ck H
  refine Wp.run 1 (show room8 [] ∧ (¬ (0 : Int32) < 0 ∧ ¬ (0 : Int32) < 0 ∧ ¬ (if 8 < (8 : Int32) then 8 else (8 : Int32)) < 0 ∧ 0 + (if 8 < (8 : Int32) then 8 else (8 : Int32)).toNatClampNeg ≤ 8 ∧ 0 + (if 8 < (8 : Int32) then 8 else (8 : Int32)).toNatClampNeg ≤ 8) ∧ Y_X11_copyRow_151_43 d Q 14 [(0, .ref 43), (1, .ref 151)] [] (pA s 151 (va_cpy (s.1 43) (s.1 151) 0 0 (if 8 < (8 : Int32) then 8 else (8 : Int32)).toNatClampNeg)) from ⟨rm8_ rfl, c9, ?_⟩)
  exact Wp.r_return (pc := 14) o_X11_copyRow rfl (H)
noncomputable abbrev Y_X11_copyRow_152_44 (d : Nat) (Q : Qt) : Xt := Wp SHC (WpM SHC MT (d + 0)) (flat2 cq_X11_copyRow) (none) Q
noncomputable def f_X11_copyRow_152_44  (s : Sg) : Option (Unit × Sg) :=
  ck (¬ (0 : Int32) < 0 ∧ ¬ (0 : Int32) < 0 ∧ ¬ (if 4 < (4 : Int32) then 4 else (4 : Int32)) < 0 ∧ 0 + (if 4 < (4 : Int32) then 4 else (4 : Int32)).toNatClampNeg ≤ 4 ∧ 0 + (if 4 < (4 : Int32) then 4 else (4 : Int32)).toNatClampNeg ≤ 4) (
  some ((), pA s 152 (va_cpy (s.1 44) (s.1 152) 0 0 (if 4 < (4 : Int32) then 4 else (4 : Int32)).toNatClampNeg))
  )
set_option maxRecDepth 100000 in
theorem w_X11_copyRow_152_44 {d : Nat} {s : Sg} {Q : Qt}  (H : OQ (f_X11_copyRow_152_44  s) (fun _ s9 => Q none s9)) : WpM SHC MT (d + 1) 184 [.ref 44, .ref 152] s Q := by
  refine WpM.enter me_X11_copyRow rfl rfl ?_
  show Y_X11_copyRow_152_44 d Q 0 [(0, .ref 44), (1, .ref 152)] [] s
  unfold f_X11_copyRow_152_44 at H
  refine Wp.f_al0_iconst (pc := 0) o_X11_copyRow rfl rfl rfl (Wp.f_al1_iconst (pc := 2) o_X11_copyRow rfl rfl rfl (Wp.f_al0_alen (pc := 4) o_X11_copyRow rfl rfl rfl lk_C_44 (Wp.f_al1_alen (pc := 6) o_X11_copyRow rfl rfl rfl lk_C_152 (Wp.r_min (pc := 8) o_X11_copyRow rfl (⟨rm8_ rfl, ?_⟩)))))
  obtain ⟨c9, H⟩ := oq_ck H
  refine Wp.run 1 (show room8 [] ∧ (¬ (0 : Int32) < 0 ∧ ¬ (0 : Int32) < 0 ∧ ¬ (if 4 < (4 : Int32) then 4 else (4 : Int32)) < 0 ∧ 0 + (if 4 < (4 : Int32) then 4 else (4 : Int32)).toNatClampNeg ≤ 4 ∧ 0 + (if 4 < (4 : Int32) then 4 else (4 : Int32)).toNatClampNeg ≤ 4) ∧ Y_X11_copyRow_152_44 d Q 14 [(0, .ref 44), (1, .ref 152)] [] (pA s 152 (va_cpy (s.1 44) (s.1 152) 0 0 (if 4 < (4 : Int32) then 4 else (4 : Int32)).toNatClampNeg)) from ⟨rm8_ rfl, c9, ?_⟩)
  exact Wp.r_return (pc := 14) o_X11_copyRow rfl (H)
noncomputable abbrev Y_X2_copyFrom_26_134 (d : Nat) (Q : Qt) : Xt := Wp SHC (WpM SHC MT (d + 1)) (flat2 cq_X2_copyFrom) (none) Q
noncomputable def f_X2_copyFrom_26_134  (s : Sg) : Option (Unit × Sg) :=
  bd (f_X11_copyRow_148_40 s) (fun _ s2 =>
  bd (f_X11_copyRow_149_41 s2) (fun _ s4 =>
  bd (f_X11_copyRow_150_42 s4) (fun _ s6 =>
  bd (f_X11_copyRow_151_43 s6) (fun _ s8 =>
  bd (f_X11_copyRow_152_44 s8) (fun _ s10 =>
  nmx (pI (pI s10 134 5 (s10.1 26 5)) 134 6 ((pI s10 134 5 (s10.1 26 5)).1 26 6)) (fun s11 =>
  ck ((s11.1 26 7) = 0 ∨ (s11.1 26 7) = 1) (
  nmx (pI (pI s11 134 7 (s11.1 26 7)) 134 8 ((pI s11 134 7 (s11.1 26 7)).1 26 8)) (fun s13 =>
  nmx (pI (pI s13 134 9 (s13.1 26 9)) 134 10 ((pI s13 134 9 (s13.1 26 9)).1 26 10)) (fun s14 =>
  nmx (pI (pI s14 134 11 (s14.1 26 11)) 134 12 ((pI s14 134 11 (s14.1 26 11)).1 26 12)) (fun s15 =>
  some ((), s15)
  )
  )
  )
  )
  )
  )
  )
  )
  )
  )
set_option maxRecDepth 100000 in
theorem w_X2_copyFrom_26_134 {d : Nat} {s : Sg} {Q : Qt}  (H : OQ (f_X2_copyFrom_26_134  s) (fun _ s9 => Q none s9)) : WpM SHC MT (d + 2) 21 [.ref 134, .ref 26] s Q := by
  refine WpM.enter me_X2_copyFrom rfl rfl ?_
  show Y_X2_copyFrom_26_134 d Q 0 [(0, .ref 134), (1, .ref 26)] [] s
  unfold f_X2_copyFrom_26_134 at H
  refine Wp.f_al1_gfr (pc := 0) o_X2_copyFrom rfl rfl rfl fk_C_26_0 (Wp.f_al0_gfr (pc := 4) o_X2_copyFrom rfl rfl rfl fk_C_134_0 (Wp.r_cs2 (pc := 8) o_X2_copyFrom rfl (⟨rm8_ rfl, ?_⟩)))
  refine w_X11_copyRow_148_40 (d := d)  ?_
  refine oq_bd H (fun _ s2 H => ?_)
  refine Wp.f_al1_gfr (pc := 11) o_X2_copyFrom rfl rfl rfl fk_C_26_1 (Wp.f_al0_gfr (pc := 15) o_X2_copyFrom rfl rfl rfl fk_C_134_1 (Wp.r_cs2 (pc := 19) o_X2_copyFrom rfl (⟨rm8_ rfl, ?_⟩)))
  refine w_X11_copyRow_149_41 (d := d)  ?_
  refine oq_bd H (fun _ s4 H => ?_)
  refine Wp.f_al1_gfr (pc := 22) o_X2_copyFrom rfl rfl rfl fk_C_26_2 (Wp.f_al0_gfr (pc := 26) o_X2_copyFrom rfl rfl rfl fk_C_134_2 (Wp.r_cs2 (pc := 30) o_X2_copyFrom rfl (⟨rm8_ rfl, ?_⟩)))
  refine w_X11_copyRow_150_42 (d := d)  ?_
  refine oq_bd H (fun _ s6 H => ?_)
  refine Wp.f_al1_gfr (pc := 33) o_X2_copyFrom rfl rfl rfl fk_C_26_3 (Wp.f_al0_gfr (pc := 37) o_X2_copyFrom rfl rfl rfl fk_C_134_3 (Wp.r_cs2 (pc := 41) o_X2_copyFrom rfl (⟨rm8_ rfl, ?_⟩)))
  refine w_X11_copyRow_151_43 (d := d)  ?_
  refine oq_bd H (fun _ s8 H => ?_)
  refine Wp.f_al1_gfr (pc := 44) o_X2_copyFrom rfl rfl rfl fk_C_26_4 (Wp.f_al0_gfr (pc := 48) o_X2_copyFrom rfl rfl rfl fk_C_134_4 (Wp.r_cs2 (pc := 52) o_X2_copyFrom rfl (⟨rm8_ rfl, ?_⟩)))
  refine w_X11_copyRow_152_44 (d := d)  ?_
  refine oq_bd H (fun _ s10 H => ?_)
  refine Wp.r_aload_n0 (pc := 55) o_X2_copyFrom rfl rfl (Wp.f_al1_gfi (pc := 56) o_X2_copyFrom rfl rfl rfl fk_C_26_5 (Wp.r_pfi (pc := 60) o_X2_copyFrom rfl fk_C_134_5 (Wp.r_aload_n0 (pc := 63) o_X2_copyFrom rfl rfl (Wp.f_al1_gfi (pc := 64) o_X2_copyFrom rfl rfl rfl fk_C_26_6 (Wp.r_pfi (pc := 68) o_X2_copyFrom rfl fk_C_134_6 (show Y_X2_copyFrom_26_134 d Q 71 [(0, .ref 134), (1, .ref 26)] [] (pI (pI s10 134 5 (s10.1 26 5)) 134 6 ((pI s10 134 5 (s10.1 26 5)).1 26 6)) from ?_))))))
  revert H
  generalize pI (pI s10 134 5 (s10.1 26 5)) 134 6 ((pI s10 134 5 (s10.1 26 5)).1 26 6) = s11
  intro H
  have H := nmx_e H
  obtain ⟨hc12, H⟩ := oq_ck H
  refine Wp.r_aload_n0 (pc := 71) o_X2_copyFrom rfl rfl (Wp.f_al1_gfi (pc := 72) o_X2_copyFrom rfl rfl rfl fk_C_26_7 (Wp.r_pfz (pc := 76) o_X2_copyFrom rfl fk_C_134_7 (⟨hc12, ?_⟩)))
  refine Wp.r_aload_n0 (pc := 79) o_X2_copyFrom rfl rfl (Wp.f_al1_gfi (pc := 80) o_X2_copyFrom rfl rfl rfl fk_C_26_8 (Wp.r_pfi (pc := 84) o_X2_copyFrom rfl fk_C_134_8 (show Y_X2_copyFrom_26_134 d Q 87 [(0, .ref 134), (1, .ref 26)] [] (pI (pI s11 134 7 (s11.1 26 7)) 134 8 ((pI s11 134 7 (s11.1 26 7)).1 26 8)) from ?_)))
  revert H
  generalize pI (pI s11 134 7 (s11.1 26 7)) 134 8 ((pI s11 134 7 (s11.1 26 7)).1 26 8) = s13
  intro H
  have H := nmx_e H
  refine Wp.r_aload_n0 (pc := 87) o_X2_copyFrom rfl rfl (Wp.f_al1_gfi (pc := 88) o_X2_copyFrom rfl rfl rfl fk_C_26_9 (Wp.r_pfi (pc := 92) o_X2_copyFrom rfl fk_C_134_9 (Wp.r_aload_n0 (pc := 95) o_X2_copyFrom rfl rfl (Wp.f_al1_gfi (pc := 96) o_X2_copyFrom rfl rfl rfl fk_C_26_10 (Wp.r_pfi (pc := 100) o_X2_copyFrom rfl fk_C_134_10 (show Y_X2_copyFrom_26_134 d Q 103 [(0, .ref 134), (1, .ref 26)] [] (pI (pI s13 134 9 (s13.1 26 9)) 134 10 ((pI s13 134 9 (s13.1 26 9)).1 26 10)) from ?_))))))
  revert H
  generalize pI (pI s13 134 9 (s13.1 26 9)) 134 10 ((pI s13 134 9 (s13.1 26 9)).1 26 10) = s14
  intro H
  have H := nmx_e H
  refine Wp.r_aload_n0 (pc := 103) o_X2_copyFrom rfl rfl (Wp.f_al1_gfi (pc := 104) o_X2_copyFrom rfl rfl rfl fk_C_26_11 (Wp.r_pfi (pc := 108) o_X2_copyFrom rfl fk_C_134_11 (Wp.r_aload_n0 (pc := 111) o_X2_copyFrom rfl rfl (Wp.f_al1_gfi (pc := 112) o_X2_copyFrom rfl rfl rfl fk_C_26_12 (Wp.r_pfi (pc := 116) o_X2_copyFrom rfl fk_C_134_12 (show Y_X2_copyFrom_26_134 d Q 119 [(0, .ref 134), (1, .ref 26)] [] (pI (pI s14 134 11 (s14.1 26 11)) 134 12 ((pI s14 134 11 (s14.1 26 11)).1 26 12)) from ?_))))))
  revert H
  generalize pI (pI s14 134 11 (s14.1 26 11)) 134 12 ((pI s14 134 11 (s14.1 26 11)).1 26 12) = s15
  intro H
  have H := nmx_e H
  exact Wp.r_return (pc := 119) o_X2_copyFrom rfl (H)
noncomputable abbrev Y_X11_copyRow_153_45 (d : Nat) (Q : Qt) : Xt := Wp SHC (WpM SHC MT (d + 0)) (flat2 cq_X11_copyRow) (none) Q
noncomputable def f_X11_copyRow_153_45  (s : Sg) : Option (Unit × Sg) :=
  ck (¬ (0 : Int32) < 0 ∧ ¬ (0 : Int32) < 0 ∧ ¬ (if 60 < (60 : Int32) then 60 else (60 : Int32)) < 0 ∧ 0 + (if 60 < (60 : Int32) then 60 else (60 : Int32)).toNatClampNeg ≤ 60 ∧ 0 + (if 60 < (60 : Int32) then 60 else (60 : Int32)).toNatClampNeg ≤ 60) (
  some ((), pA s 153 (va_cpy (s.1 45) (s.1 153) 0 0 (if 60 < (60 : Int32) then 60 else (60 : Int32)).toNatClampNeg))
  )
set_option maxRecDepth 100000 in
theorem w_X11_copyRow_153_45 {d : Nat} {s : Sg} {Q : Qt}  (H : OQ (f_X11_copyRow_153_45  s) (fun _ s9 => Q none s9)) : WpM SHC MT (d + 1) 184 [.ref 45, .ref 153] s Q := by
  refine WpM.enter me_X11_copyRow rfl rfl ?_
  show Y_X11_copyRow_153_45 d Q 0 [(0, .ref 45), (1, .ref 153)] [] s
  unfold f_X11_copyRow_153_45 at H
  refine Wp.f_al0_iconst (pc := 0) o_X11_copyRow rfl rfl rfl (Wp.f_al1_iconst (pc := 2) o_X11_copyRow rfl rfl rfl (Wp.f_al0_alen (pc := 4) o_X11_copyRow rfl rfl rfl lk_C_45 (Wp.f_al1_alen (pc := 6) o_X11_copyRow rfl rfl rfl lk_C_153 (Wp.r_min (pc := 8) o_X11_copyRow rfl (⟨rm8_ rfl, ?_⟩)))))
  obtain ⟨c9, H⟩ := oq_ck H
  refine Wp.run 1 (show room8 [] ∧ (¬ (0 : Int32) < 0 ∧ ¬ (0 : Int32) < 0 ∧ ¬ (if 60 < (60 : Int32) then 60 else (60 : Int32)) < 0 ∧ 0 + (if 60 < (60 : Int32) then 60 else (60 : Int32)).toNatClampNeg ≤ 60 ∧ 0 + (if 60 < (60 : Int32) then 60 else (60 : Int32)).toNatClampNeg ≤ 60) ∧ Y_X11_copyRow_153_45 d Q 14 [(0, .ref 45), (1, .ref 153)] [] (pA s 153 (va_cpy (s.1 45) (s.1 153) 0 0 (if 60 < (60 : Int32) then 60 else (60 : Int32)).toNatClampNeg)) from ⟨rm8_ rfl, c9, ?_⟩)
  exact Wp.r_return (pc := 14) o_X11_copyRow rfl (H)
noncomputable abbrev Y_X11_copyRow_154_46 (d : Nat) (Q : Qt) : Xt := Wp SHC (WpM SHC MT (d + 0)) (flat2 cq_X11_copyRow) (none) Q
noncomputable def f_X11_copyRow_154_46  (s : Sg) : Option (Unit × Sg) :=
  ck (¬ (0 : Int32) < 0 ∧ ¬ (0 : Int32) < 0 ∧ ¬ (if 60 < (60 : Int32) then 60 else (60 : Int32)) < 0 ∧ 0 + (if 60 < (60 : Int32) then 60 else (60 : Int32)).toNatClampNeg ≤ 60 ∧ 0 + (if 60 < (60 : Int32) then 60 else (60 : Int32)).toNatClampNeg ≤ 60) (
  some ((), pA s 154 (va_cpy (s.1 46) (s.1 154) 0 0 (if 60 < (60 : Int32) then 60 else (60 : Int32)).toNatClampNeg))
  )
set_option maxRecDepth 100000 in
theorem w_X11_copyRow_154_46 {d : Nat} {s : Sg} {Q : Qt}  (H : OQ (f_X11_copyRow_154_46  s) (fun _ s9 => Q none s9)) : WpM SHC MT (d + 1) 184 [.ref 46, .ref 154] s Q := by
  refine WpM.enter me_X11_copyRow rfl rfl ?_
  show Y_X11_copyRow_154_46 d Q 0 [(0, .ref 46), (1, .ref 154)] [] s
  unfold f_X11_copyRow_154_46 at H
  refine Wp.f_al0_iconst (pc := 0) o_X11_copyRow rfl rfl rfl (Wp.f_al1_iconst (pc := 2) o_X11_copyRow rfl rfl rfl (Wp.f_al0_alen (pc := 4) o_X11_copyRow rfl rfl rfl lk_C_46 (Wp.f_al1_alen (pc := 6) o_X11_copyRow rfl rfl rfl lk_C_154 (Wp.r_min (pc := 8) o_X11_copyRow rfl (⟨rm8_ rfl, ?_⟩)))))
  obtain ⟨c9, H⟩ := oq_ck H
  refine Wp.run 1 (show room8 [] ∧ (¬ (0 : Int32) < 0 ∧ ¬ (0 : Int32) < 0 ∧ ¬ (if 60 < (60 : Int32) then 60 else (60 : Int32)) < 0 ∧ 0 + (if 60 < (60 : Int32) then 60 else (60 : Int32)).toNatClampNeg ≤ 60 ∧ 0 + (if 60 < (60 : Int32) then 60 else (60 : Int32)).toNatClampNeg ≤ 60) ∧ Y_X11_copyRow_154_46 d Q 14 [(0, .ref 46), (1, .ref 154)] [] (pA s 154 (va_cpy (s.1 46) (s.1 154) 0 0 (if 60 < (60 : Int32) then 60 else (60 : Int32)).toNatClampNeg)) from ⟨rm8_ rfl, c9, ?_⟩)
  exact Wp.r_return (pc := 14) o_X11_copyRow rfl (H)
noncomputable abbrev Y_X11_copyRow_155_47 (d : Nat) (Q : Qt) : Xt := Wp SHC (WpM SHC MT (d + 0)) (flat2 cq_X11_copyRow) (none) Q
noncomputable def f_X11_copyRow_155_47  (s : Sg) : Option (Unit × Sg) :=
  ck (¬ (0 : Int32) < 0 ∧ ¬ (0 : Int32) < 0 ∧ ¬ (if 60 < (60 : Int32) then 60 else (60 : Int32)) < 0 ∧ 0 + (if 60 < (60 : Int32) then 60 else (60 : Int32)).toNatClampNeg ≤ 60 ∧ 0 + (if 60 < (60 : Int32) then 60 else (60 : Int32)).toNatClampNeg ≤ 60) (
  some ((), pA s 155 (va_cpy (s.1 47) (s.1 155) 0 0 (if 60 < (60 : Int32) then 60 else (60 : Int32)).toNatClampNeg))
  )
set_option maxRecDepth 100000 in
theorem w_X11_copyRow_155_47 {d : Nat} {s : Sg} {Q : Qt}  (H : OQ (f_X11_copyRow_155_47  s) (fun _ s9 => Q none s9)) : WpM SHC MT (d + 1) 184 [.ref 47, .ref 155] s Q := by
  refine WpM.enter me_X11_copyRow rfl rfl ?_
  show Y_X11_copyRow_155_47 d Q 0 [(0, .ref 47), (1, .ref 155)] [] s
  unfold f_X11_copyRow_155_47 at H
  refine Wp.f_al0_iconst (pc := 0) o_X11_copyRow rfl rfl rfl (Wp.f_al1_iconst (pc := 2) o_X11_copyRow rfl rfl rfl (Wp.f_al0_alen (pc := 4) o_X11_copyRow rfl rfl rfl lk_C_47 (Wp.f_al1_alen (pc := 6) o_X11_copyRow rfl rfl rfl lk_C_155 (Wp.r_min (pc := 8) o_X11_copyRow rfl (⟨rm8_ rfl, ?_⟩)))))
  obtain ⟨c9, H⟩ := oq_ck H
  refine Wp.run 1 (show room8 [] ∧ (¬ (0 : Int32) < 0 ∧ ¬ (0 : Int32) < 0 ∧ ¬ (if 60 < (60 : Int32) then 60 else (60 : Int32)) < 0 ∧ 0 + (if 60 < (60 : Int32) then 60 else (60 : Int32)).toNatClampNeg ≤ 60 ∧ 0 + (if 60 < (60 : Int32) then 60 else (60 : Int32)).toNatClampNeg ≤ 60) ∧ Y_X11_copyRow_155_47 d Q 14 [(0, .ref 47), (1, .ref 155)] [] (pA s 155 (va_cpy (s.1 47) (s.1 155) 0 0 (if 60 < (60 : Int32) then 60 else (60 : Int32)).toNatClampNeg)) from ⟨rm8_ rfl, c9, ?_⟩)
  exact Wp.r_return (pc := 14) o_X11_copyRow rfl (H)
noncomputable abbrev Y_X11_copyRow_156_48 (d : Nat) (Q : Qt) : Xt := Wp SHC (WpM SHC MT (d + 0)) (flat2 cq_X11_copyRow) (none) Q
noncomputable def f_X11_copyRow_156_48  (s : Sg) : Option (Unit × Sg) :=
  ck (¬ (0 : Int32) < 0 ∧ ¬ (0 : Int32) < 0 ∧ ¬ (if 60 < (60 : Int32) then 60 else (60 : Int32)) < 0 ∧ 0 + (if 60 < (60 : Int32) then 60 else (60 : Int32)).toNatClampNeg ≤ 60 ∧ 0 + (if 60 < (60 : Int32) then 60 else (60 : Int32)).toNatClampNeg ≤ 60) (
  some ((), pA s 156 (va_cpy (s.1 48) (s.1 156) 0 0 (if 60 < (60 : Int32) then 60 else (60 : Int32)).toNatClampNeg))
  )
set_option maxRecDepth 100000 in
theorem w_X11_copyRow_156_48 {d : Nat} {s : Sg} {Q : Qt}  (H : OQ (f_X11_copyRow_156_48  s) (fun _ s9 => Q none s9)) : WpM SHC MT (d + 1) 184 [.ref 48, .ref 156] s Q := by
  refine WpM.enter me_X11_copyRow rfl rfl ?_
  show Y_X11_copyRow_156_48 d Q 0 [(0, .ref 48), (1, .ref 156)] [] s
  unfold f_X11_copyRow_156_48 at H
  refine Wp.f_al0_iconst (pc := 0) o_X11_copyRow rfl rfl rfl (Wp.f_al1_iconst (pc := 2) o_X11_copyRow rfl rfl rfl (Wp.f_al0_alen (pc := 4) o_X11_copyRow rfl rfl rfl lk_C_48 (Wp.f_al1_alen (pc := 6) o_X11_copyRow rfl rfl rfl lk_C_156 (Wp.r_min (pc := 8) o_X11_copyRow rfl (⟨rm8_ rfl, ?_⟩)))))
  obtain ⟨c9, H⟩ := oq_ck H
  refine Wp.run 1 (show room8 [] ∧ (¬ (0 : Int32) < 0 ∧ ¬ (0 : Int32) < 0 ∧ ¬ (if 60 < (60 : Int32) then 60 else (60 : Int32)) < 0 ∧ 0 + (if 60 < (60 : Int32) then 60 else (60 : Int32)).toNatClampNeg ≤ 60 ∧ 0 + (if 60 < (60 : Int32) then 60 else (60 : Int32)).toNatClampNeg ≤ 60) ∧ Y_X11_copyRow_156_48 d Q 14 [(0, .ref 48), (1, .ref 156)] [] (pA s 156 (va_cpy (s.1 48) (s.1 156) 0 0 (if 60 < (60 : Int32) then 60 else (60 : Int32)).toNatClampNeg)) from ⟨rm8_ rfl, c9, ?_⟩)
  exact Wp.r_return (pc := 14) o_X11_copyRow rfl (H)
noncomputable abbrev Y_X11_copyRow_157_49 (d : Nat) (Q : Qt) : Xt := Wp SHC (WpM SHC MT (d + 0)) (flat2 cq_X11_copyRow) (none) Q
noncomputable def f_X11_copyRow_157_49  (s : Sg) : Option (Unit × Sg) :=
  ck (¬ (0 : Int32) < 0 ∧ ¬ (0 : Int32) < 0 ∧ ¬ (if 60 < (60 : Int32) then 60 else (60 : Int32)) < 0 ∧ 0 + (if 60 < (60 : Int32) then 60 else (60 : Int32)).toNatClampNeg ≤ 60 ∧ 0 + (if 60 < (60 : Int32) then 60 else (60 : Int32)).toNatClampNeg ≤ 60) (
  some ((), pA s 157 (va_cpy (s.1 49) (s.1 157) 0 0 (if 60 < (60 : Int32) then 60 else (60 : Int32)).toNatClampNeg))
  )
set_option maxRecDepth 100000 in
theorem w_X11_copyRow_157_49 {d : Nat} {s : Sg} {Q : Qt}  (H : OQ (f_X11_copyRow_157_49  s) (fun _ s9 => Q none s9)) : WpM SHC MT (d + 1) 184 [.ref 49, .ref 157] s Q := by
  refine WpM.enter me_X11_copyRow rfl rfl ?_
  show Y_X11_copyRow_157_49 d Q 0 [(0, .ref 49), (1, .ref 157)] [] s
  unfold f_X11_copyRow_157_49 at H
  refine Wp.f_al0_iconst (pc := 0) o_X11_copyRow rfl rfl rfl (Wp.f_al1_iconst (pc := 2) o_X11_copyRow rfl rfl rfl (Wp.f_al0_alen (pc := 4) o_X11_copyRow rfl rfl rfl lk_C_49 (Wp.f_al1_alen (pc := 6) o_X11_copyRow rfl rfl rfl lk_C_157 (Wp.r_min (pc := 8) o_X11_copyRow rfl (⟨rm8_ rfl, ?_⟩)))))
  obtain ⟨c9, H⟩ := oq_ck H
  refine Wp.run 1 (show room8 [] ∧ (¬ (0 : Int32) < 0 ∧ ¬ (0 : Int32) < 0 ∧ ¬ (if 60 < (60 : Int32) then 60 else (60 : Int32)) < 0 ∧ 0 + (if 60 < (60 : Int32) then 60 else (60 : Int32)).toNatClampNeg ≤ 60 ∧ 0 + (if 60 < (60 : Int32) then 60 else (60 : Int32)).toNatClampNeg ≤ 60) ∧ Y_X11_copyRow_157_49 d Q 14 [(0, .ref 49), (1, .ref 157)] [] (pA s 157 (va_cpy (s.1 49) (s.1 157) 0 0 (if 60 < (60 : Int32) then 60 else (60 : Int32)).toNatClampNeg)) from ⟨rm8_ rfl, c9, ?_⟩)
  exact Wp.r_return (pc := 14) o_X11_copyRow rfl (H)
noncomputable abbrev Y_X11_copyRow_158_50 (d : Nat) (Q : Qt) : Xt := Wp SHC (WpM SHC MT (d + 0)) (flat2 cq_X11_copyRow) (none) Q
noncomputable def f_X11_copyRow_158_50  (s : Sg) : Option (Unit × Sg) :=
  ck (¬ (0 : Int32) < 0 ∧ ¬ (0 : Int32) < 0 ∧ ¬ (if 60 < (60 : Int32) then 60 else (60 : Int32)) < 0 ∧ 0 + (if 60 < (60 : Int32) then 60 else (60 : Int32)).toNatClampNeg ≤ 60 ∧ 0 + (if 60 < (60 : Int32) then 60 else (60 : Int32)).toNatClampNeg ≤ 60) (
  some ((), pA s 158 (va_cpy (s.1 50) (s.1 158) 0 0 (if 60 < (60 : Int32) then 60 else (60 : Int32)).toNatClampNeg))
  )
set_option maxRecDepth 100000 in
theorem w_X11_copyRow_158_50 {d : Nat} {s : Sg} {Q : Qt}  (H : OQ (f_X11_copyRow_158_50  s) (fun _ s9 => Q none s9)) : WpM SHC MT (d + 1) 184 [.ref 50, .ref 158] s Q := by
  refine WpM.enter me_X11_copyRow rfl rfl ?_
  show Y_X11_copyRow_158_50 d Q 0 [(0, .ref 50), (1, .ref 158)] [] s
  unfold f_X11_copyRow_158_50 at H
  refine Wp.f_al0_iconst (pc := 0) o_X11_copyRow rfl rfl rfl (Wp.f_al1_iconst (pc := 2) o_X11_copyRow rfl rfl rfl (Wp.f_al0_alen (pc := 4) o_X11_copyRow rfl rfl rfl lk_C_50 (Wp.f_al1_alen (pc := 6) o_X11_copyRow rfl rfl rfl lk_C_158 (Wp.r_min (pc := 8) o_X11_copyRow rfl (⟨rm8_ rfl, ?_⟩)))))
  obtain ⟨c9, H⟩ := oq_ck H
  refine Wp.run 1 (show room8 [] ∧ (¬ (0 : Int32) < 0 ∧ ¬ (0 : Int32) < 0 ∧ ¬ (if 60 < (60 : Int32) then 60 else (60 : Int32)) < 0 ∧ 0 + (if 60 < (60 : Int32) then 60 else (60 : Int32)).toNatClampNeg ≤ 60 ∧ 0 + (if 60 < (60 : Int32) then 60 else (60 : Int32)).toNatClampNeg ≤ 60) ∧ Y_X11_copyRow_158_50 d Q 14 [(0, .ref 50), (1, .ref 158)] [] (pA s 158 (va_cpy (s.1 50) (s.1 158) 0 0 (if 60 < (60 : Int32) then 60 else (60 : Int32)).toNatClampNeg)) from ⟨rm8_ rfl, c9, ?_⟩)
  exact Wp.r_return (pc := 14) o_X11_copyRow rfl (H)
noncomputable abbrev Y_X5_copyFrom_27_135 (d : Nat) (Q : Qt) : Xt := Wp SHC (WpM SHC MT (d + 1)) (flat2 cq_X5_copyFrom) (none) Q
noncomputable def f_X5_copyFrom_27_135  (s : Sg) : Option (Unit × Sg) :=
  bd (f_X11_copyRow_153_45 s) (fun _ s2 =>
  bd (f_X11_copyRow_154_46 s2) (fun _ s4 =>
  bd (f_X11_copyRow_155_47 s4) (fun _ s6 =>
  bd (f_X11_copyRow_156_48 s6) (fun _ s8 =>
  bd (f_X11_copyRow_157_49 s8) (fun _ s10 =>
  bd (f_X11_copyRow_158_50 s10) (fun _ s12 =>
  ck ((s12.1 27 6) = 0 ∨ (s12.1 27 6) = 1) (
  nmx (pI (pI s12 135 6 (s12.1 27 6)) 135 7 ((pI s12 135 6 (s12.1 27 6)).1 27 7)) (fun s14 =>
  some ((), pI s14 135 8 (s14.1 27 8))
  )
  )
  )
  )
  )
  )
  )
  )
set_option maxRecDepth 100000 in
theorem w_X5_copyFrom_27_135 {d : Nat} {s : Sg} {Q : Qt}  (H : OQ (f_X5_copyFrom_27_135  s) (fun _ s9 => Q none s9)) : WpM SHC MT (d + 2) 62 [.ref 135, .ref 27] s Q := by
  refine WpM.enter me_X5_copyFrom rfl rfl ?_
  show Y_X5_copyFrom_27_135 d Q 0 [(0, .ref 135), (1, .ref 27)] [] s
  unfold f_X5_copyFrom_27_135 at H
  refine Wp.f_al1_gfr (pc := 0) o_X5_copyFrom rfl rfl rfl fk_C_27_0 (Wp.f_al0_gfr (pc := 4) o_X5_copyFrom rfl rfl rfl fk_C_135_0 (Wp.r_cs2 (pc := 8) o_X5_copyFrom rfl (⟨rm8_ rfl, ?_⟩)))
  refine w_X11_copyRow_153_45 (d := d)  ?_
  refine oq_bd H (fun _ s2 H => ?_)
  refine Wp.f_al1_gfr (pc := 11) o_X5_copyFrom rfl rfl rfl fk_C_27_1 (Wp.f_al0_gfr (pc := 15) o_X5_copyFrom rfl rfl rfl fk_C_135_1 (Wp.r_cs2 (pc := 19) o_X5_copyFrom rfl (⟨rm8_ rfl, ?_⟩)))
  refine w_X11_copyRow_154_46 (d := d)  ?_
  refine oq_bd H (fun _ s4 H => ?_)
  refine Wp.f_al1_gfr (pc := 22) o_X5_copyFrom rfl rfl rfl fk_C_27_2 (Wp.f_al0_gfr (pc := 26) o_X5_copyFrom rfl rfl rfl fk_C_135_2 (Wp.r_cs2 (pc := 30) o_X5_copyFrom rfl (⟨rm8_ rfl, ?_⟩)))
  refine w_X11_copyRow_155_47 (d := d)  ?_
  refine oq_bd H (fun _ s6 H => ?_)
  refine Wp.f_al1_gfr (pc := 33) o_X5_copyFrom rfl rfl rfl fk_C_27_3 (Wp.f_al0_gfr (pc := 37) o_X5_copyFrom rfl rfl rfl fk_C_135_3 (Wp.r_cs2 (pc := 41) o_X5_copyFrom rfl (⟨rm8_ rfl, ?_⟩)))
  refine w_X11_copyRow_156_48 (d := d)  ?_
  refine oq_bd H (fun _ s8 H => ?_)
  refine Wp.f_al1_gfr (pc := 44) o_X5_copyFrom rfl rfl rfl fk_C_27_4 (Wp.f_al0_gfr (pc := 48) o_X5_copyFrom rfl rfl rfl fk_C_135_4 (Wp.r_cs2 (pc := 52) o_X5_copyFrom rfl (⟨rm8_ rfl, ?_⟩)))
  refine w_X11_copyRow_157_49 (d := d)  ?_
  refine oq_bd H (fun _ s10 H => ?_)
  refine Wp.f_al1_gfr (pc := 55) o_X5_copyFrom rfl rfl rfl fk_C_27_5 (Wp.f_al0_gfr (pc := 59) o_X5_copyFrom rfl rfl rfl fk_C_135_5 (Wp.r_cs2 (pc := 63) o_X5_copyFrom rfl (⟨rm8_ rfl, ?_⟩)))
  refine w_X11_copyRow_158_50 (d := d)  ?_
  refine oq_bd H (fun _ s12 H => ?_)
  obtain ⟨hc13, H⟩ := oq_ck H
  refine Wp.r_aload_n0 (pc := 66) o_X5_copyFrom rfl rfl (Wp.f_al1_gfi (pc := 67) o_X5_copyFrom rfl rfl rfl fk_C_27_6 (Wp.r_pfz (pc := 71) o_X5_copyFrom rfl fk_C_135_6 (⟨hc13, ?_⟩)))
  refine Wp.r_aload_n0 (pc := 74) o_X5_copyFrom rfl rfl (Wp.f_al1_gfi (pc := 75) o_X5_copyFrom rfl rfl rfl fk_C_27_7 (Wp.r_pfi (pc := 79) o_X5_copyFrom rfl fk_C_135_7 (show Y_X5_copyFrom_27_135 d Q 82 [(0, .ref 135), (1, .ref 27)] [] (pI (pI s12 135 6 (s12.1 27 6)) 135 7 ((pI s12 135 6 (s12.1 27 6)).1 27 7)) from ?_)))
  revert H
  generalize pI (pI s12 135 6 (s12.1 27 6)) 135 7 ((pI s12 135 6 (s12.1 27 6)).1 27 7) = s14
  intro H
  have H := nmx_e H
  exact Wp.r_aload_n0 (pc := 82) o_X5_copyFrom rfl rfl (Wp.f_al1_gfi (pc := 83) o_X5_copyFrom rfl rfl rfl fk_C_27_8 (Wp.r_pfi (pc := 87) o_X5_copyFrom rfl fk_C_135_8 (Wp.r_return (pc := 90) o_X5_copyFrom rfl (H))))
noncomputable abbrev Y_X10_copyFrom_24_132 (d : Nat) (Q : Qt) : Xt := Wp SHC (WpM SHC MT (d + 2)) (flat2 cq_X10_copyFrom) (none) Q
noncomputable def f_X10_copyFrom_24_132  (s : Sg) : Option (Unit × Sg) :=
  bd (f_X4_copyFrom_25_133 s) (fun _ s2 =>
  bd (f_X2_copyFrom_26_134 s2) (fun _ s4 =>
  bd (f_X5_copyFrom_27_135 s4) (fun _ s6 =>
  some ((), s6)
  )
  )
  )
set_option maxRecDepth 100000 in
theorem w_X10_copyFrom_24_132 {d : Nat} {s : Sg} {Q : Qt}  (H : OQ (f_X10_copyFrom_24_132  s) (fun _ s9 => Q none s9)) : WpM SHC MT (d + 3) 101 [.ref 132, .ref 24] s Q := by
  refine WpM.enter me_X10_copyFrom rfl rfl ?_
  show Y_X10_copyFrom_24_132 d Q 0 [(0, .ref 132), (1, .ref 24)] [] s
  unfold f_X10_copyFrom_24_132 at H
  refine Wp.f_al0_gfr (pc := 0) o_X10_copyFrom rfl rfl rfl fk_C_132_0 (Wp.f_al1_gfr (pc := 4) o_X10_copyFrom rfl rfl rfl fk_C_24_0 (Wp.r_cv2 (pc := 8) o_X10_copyFrom rfl fk_C_133_0 (⟨rm8_ rfl, ?_⟩)))
  refine w_X4_copyFrom_25_133 (d := d)  ?_
  refine oq_bd H (fun _ s2 H => ?_)
  refine Wp.f_al0_gfr (pc := 11) o_X10_copyFrom rfl rfl rfl fk_C_132_1 (Wp.f_al1_gfr (pc := 15) o_X10_copyFrom rfl rfl rfl fk_C_24_1 (Wp.r_cv2 (pc := 19) o_X10_copyFrom rfl fk_C_134_0 (⟨rm8_ rfl, ?_⟩)))
  refine w_X2_copyFrom_26_134 (d := d)  ?_
  refine oq_bd H (fun _ s4 H => ?_)
  refine Wp.f_al0_gfr (pc := 22) o_X10_copyFrom rfl rfl rfl fk_C_132_2 (Wp.f_al1_gfr (pc := 26) o_X10_copyFrom rfl rfl rfl fk_C_24_2 (Wp.r_cv2 (pc := 30) o_X10_copyFrom rfl fk_C_135_0 (⟨rm8_ rfl, ?_⟩)))
  refine w_X5_copyFrom_27_135 (d := d)  ?_
  refine oq_bd H (fun _ s6 H => ?_)
  exact Wp.r_return (pc := 33) o_X10_copyFrom rfl (H)
noncomputable abbrev Y_X11_mark (d : Nat) (Q : Qt) : Xt := Wp SHC (WpM SHC MT (d + 3)) (flat2 cq_X11_mark) (some .int) Q
noncomputable def f_X11_mark  (s : Sg) : Option (Int32 × Sg) :=
  if (s.1 0 14) < 3 then
    ck (inr (s.1 0 14) 3) (
    sel3 (s.1 0 14)
      (
        bd (f_X10_copyFrom_24_78 s) (fun _ s3 =>
        bd (f_X11_answer ((pI s3 0 14 ((s3.1 0 14) + 1)).1 0 14) (pI s3 0 14 ((s3.1 0 14) + 1))) (fun r4 s5 =>
        some (r4, s5)
        )
        )
      )
      (
        bd (f_X10_copyFrom_24_105 s) (fun _ s7 =>
        bd (f_X11_answer ((pI s7 0 14 ((s7.1 0 14) + 1)).1 0 14) (pI s7 0 14 ((s7.1 0 14) + 1))) (fun r8 s9 =>
        some (r8, s9)
        )
        )
      )
      (
        bd (f_X10_copyFrom_24_132 s) (fun _ s11 =>
        bd (f_X11_answer ((pI s11 0 14 ((s11.1 0 14) + 1)).1 0 14) (pI s11 0 14 ((s11.1 0 14) + 1))) (fun r12 s13 =>
        some (r12, s13)
        )
        )
      )
    )
  else
    bd (f_X11_refuse 4 s) (fun r14 s15 =>
    some (r14, s15)
    )
set_option maxRecDepth 100000 in
theorem w_X11_mark {d : Nat} {s : Sg} {Q : Qt}  (H : OQ (f_X11_mark  s) (fun r9 s9 => Q (some (.int r9)) s9)) : WpM SHC MT (d + 4) 162 [.ref 0] s Q := by
  refine WpM.enter me_X11_mark rfl rfl ?_
  show Y_X11_mark d Q 0 [(0, .ref 0)] [] s
  unfold f_X11_mark at H
  refine Wp.f_al0_gfi (pc := 0) o_X11_mark rfl rfl rfl fk_C_0_14 (Wp.r_iconst (pc := 4) o_X11_mark rfl (Wp.r_icmp_lt (pc := 5) o_X11_mark rfl (fun c9 => ?_) (fun c9 => ?_)))
  · have H := oq_t c9 H
    obtain ⟨c9, H⟩ := oq_ck H
    refine Wp.f_al0_gfr (pc := 14) o_X11_mark rfl rfl rfl fk_C_0_4 (Wp.f_al0_gfi (pc := 18) o_X11_mark rfl rfl rfl fk_C_0_14 (Wp.run 1 (show vp_in (s.1 0 14) 3 ∧ ((s.1 0 14) = nI 0 → Y_X11_mark d Q 23 [(0, .ref 0)] [.ref 78] s) ∧ ((s.1 0 14) = nI 1 → Y_X11_mark d Q 23 [(0, .ref 0)] [.ref 105] s) ∧ ((s.1 0 14) = nI 2 → Y_X11_mark d Q 23 [(0, .ref 0)] [.ref 132] s) ∧ True from ⟨c9, fun e9 => ?_, fun e9 => ?_, fun e9 => ?_, trivial⟩)))
    · have ek1 := e9
      have H := oq_sel3_0 (i := (s.1 0 14)) e9 H
      refine Wp.f_al0_gfr (pc := 23) o_X11_mark rfl rfl rfl fk_C_0_2 (Wp.r_cv2 (pc := 27) o_X11_mark rfl fk_C_78_0 (⟨rm8_ rfl, ?_⟩))
      refine w_X10_copyFrom_24_78 (d := d)  ?_
      refine oq_bd H (fun _ s3 H => ?_)
      refine Wp.r_aload_n0 (pc := 30) o_X11_mark rfl rfl (Wp.r_dup_r (pc := 31) o_X11_mark rfl (Wp.r_gfi (pc := 32) o_X11_mark rfl fk_C_0_14 (Wp.r_iconst (pc := 35) o_X11_mark rfl (Wp.r_iadd (pc := 36) o_X11_mark rfl (Wp.r_pfi (pc := 37) o_X11_mark rfl fk_C_0_14 (Wp.r_aload_n0 (pc := 40) o_X11_mark rfl rfl (Wp.f_al0_gfi (pc := 41) o_X11_mark rfl rfl rfl fk_C_0_14 (Wp.r_cv2 (pc := 45) o_X11_mark rfl fk_C_0_0 (⟨rm8_ rfl, ?_⟩)))))))))
      refine w_X11_answer (d := d + 2) _ ?_
      refine oq_bd H (fun r4 s5 H => ?_)
      exact Wp.r_ireturn (pc := 48) o_X11_mark rfl (⟨rfl, H⟩)
    · have ek1 := e9
      have H := oq_sel3_1 (i := (s.1 0 14)) e9 H
      refine Wp.f_al0_gfr (pc := 23) o_X11_mark rfl rfl rfl fk_C_0_2 (Wp.r_cv2 (pc := 27) o_X11_mark rfl fk_C_105_0 (⟨rm8_ rfl, ?_⟩))
      refine w_X10_copyFrom_24_105 (d := d)  ?_
      refine oq_bd H (fun _ s7 H => ?_)
      refine Wp.r_aload_n0 (pc := 30) o_X11_mark rfl rfl (Wp.r_dup_r (pc := 31) o_X11_mark rfl (Wp.r_gfi (pc := 32) o_X11_mark rfl fk_C_0_14 (Wp.r_iconst (pc := 35) o_X11_mark rfl (Wp.r_iadd (pc := 36) o_X11_mark rfl (Wp.r_pfi (pc := 37) o_X11_mark rfl fk_C_0_14 (Wp.r_aload_n0 (pc := 40) o_X11_mark rfl rfl (Wp.f_al0_gfi (pc := 41) o_X11_mark rfl rfl rfl fk_C_0_14 (Wp.r_cv2 (pc := 45) o_X11_mark rfl fk_C_0_0 (⟨rm8_ rfl, ?_⟩)))))))))
      refine w_X11_answer (d := d + 2) _ ?_
      refine oq_bd H (fun r8 s9 H => ?_)
      exact Wp.r_ireturn (pc := 48) o_X11_mark rfl (⟨rfl, H⟩)
    · have ek1 := e9
      have H := oq_sel3_2 (i := (s.1 0 14)) e9 H
      refine Wp.f_al0_gfr (pc := 23) o_X11_mark rfl rfl rfl fk_C_0_2 (Wp.r_cv2 (pc := 27) o_X11_mark rfl fk_C_132_0 (⟨rm8_ rfl, ?_⟩))
      refine w_X10_copyFrom_24_132 (d := d)  ?_
      refine oq_bd H (fun _ s11 H => ?_)
      refine Wp.r_aload_n0 (pc := 30) o_X11_mark rfl rfl (Wp.r_dup_r (pc := 31) o_X11_mark rfl (Wp.r_gfi (pc := 32) o_X11_mark rfl fk_C_0_14 (Wp.r_iconst (pc := 35) o_X11_mark rfl (Wp.r_iadd (pc := 36) o_X11_mark rfl (Wp.r_pfi (pc := 37) o_X11_mark rfl fk_C_0_14 (Wp.r_aload_n0 (pc := 40) o_X11_mark rfl rfl (Wp.f_al0_gfi (pc := 41) o_X11_mark rfl rfl rfl fk_C_0_14 (Wp.r_cv2 (pc := 45) o_X11_mark rfl fk_C_0_0 (⟨rm8_ rfl, ?_⟩)))))))))
      refine w_X11_answer (d := d + 2) _ ?_
      refine oq_bd H (fun r12 s13 H => ?_)
      exact Wp.r_ireturn (pc := 48) o_X11_mark rfl (⟨rfl, H⟩)
  · have H := oq_f c9 H
    refine Wp.f_al0_iconst (pc := 8) o_X11_mark rfl rfl rfl (Wp.r_cv2 (pc := 10) o_X11_mark rfl fk_C_0_0 (⟨rm8_ rfl, ?_⟩))
    refine w_X11_refuse (d := d + 2) _ ?_
    refine oq_bd H (fun r14 s15 H => ?_)
    exact Wp.r_ireturn (pc := 13) o_X11_mark rfl (⟨rfl, H⟩)
noncomputable abbrev Y_X11_copyRow_29_83 (d : Nat) (Q : Qt) : Xt := Wp SHC (WpM SHC MT (d + 0)) (flat2 cq_X11_copyRow) (none) Q
noncomputable def f_X11_copyRow_29_83  (s : Sg) : Option (Unit × Sg) :=
  ck (¬ (0 : Int32) < 0 ∧ ¬ (0 : Int32) < 0 ∧ ¬ (if 24 < (24 : Int32) then 24 else (24 : Int32)) < 0 ∧ 0 + (if 24 < (24 : Int32) then 24 else (24 : Int32)).toNatClampNeg ≤ 24 ∧ 0 + (if 24 < (24 : Int32) then 24 else (24 : Int32)).toNatClampNeg ≤ 24) (
  some ((), pA s 29 (va_cpy (s.1 83) (s.1 29) 0 0 (if 24 < (24 : Int32) then 24 else (24 : Int32)).toNatClampNeg))
  )
set_option maxRecDepth 100000 in
theorem w_X11_copyRow_29_83 {d : Nat} {s : Sg} {Q : Qt}  (H : OQ (f_X11_copyRow_29_83  s) (fun _ s9 => Q none s9)) : WpM SHC MT (d + 1) 184 [.ref 83, .ref 29] s Q := by
  refine WpM.enter me_X11_copyRow rfl rfl ?_
  show Y_X11_copyRow_29_83 d Q 0 [(0, .ref 83), (1, .ref 29)] [] s
  unfold f_X11_copyRow_29_83 at H
  refine Wp.f_al0_iconst (pc := 0) o_X11_copyRow rfl rfl rfl (Wp.f_al1_iconst (pc := 2) o_X11_copyRow rfl rfl rfl (Wp.f_al0_alen (pc := 4) o_X11_copyRow rfl rfl rfl lk_C_83 (Wp.f_al1_alen (pc := 6) o_X11_copyRow rfl rfl rfl lk_C_29 (Wp.r_min (pc := 8) o_X11_copyRow rfl (⟨rm8_ rfl, ?_⟩)))))
  obtain ⟨c9, H⟩ := oq_ck H
  refine Wp.run 1 (show room8 [] ∧ (¬ (0 : Int32) < 0 ∧ ¬ (0 : Int32) < 0 ∧ ¬ (if 24 < (24 : Int32) then 24 else (24 : Int32)) < 0 ∧ 0 + (if 24 < (24 : Int32) then 24 else (24 : Int32)).toNatClampNeg ≤ 24 ∧ 0 + (if 24 < (24 : Int32) then 24 else (24 : Int32)).toNatClampNeg ≤ 24) ∧ Y_X11_copyRow_29_83 d Q 14 [(0, .ref 83), (1, .ref 29)] [] (pA s 29 (va_cpy (s.1 83) (s.1 29) 0 0 (if 24 < (24 : Int32) then 24 else (24 : Int32)).toNatClampNeg)) from ⟨rm8_ rfl, c9, ?_⟩)
  exact Wp.r_return (pc := 14) o_X11_copyRow rfl (H)
noncomputable abbrev Y_X11_copyRow_30_84 (d : Nat) (Q : Qt) : Xt := Wp SHC (WpM SHC MT (d + 0)) (flat2 cq_X11_copyRow) (none) Q
noncomputable def f_X11_copyRow_30_84  (s : Sg) : Option (Unit × Sg) :=
  ck (¬ (0 : Int32) < 0 ∧ ¬ (0 : Int32) < 0 ∧ ¬ (if 24 < (24 : Int32) then 24 else (24 : Int32)) < 0 ∧ 0 + (if 24 < (24 : Int32) then 24 else (24 : Int32)).toNatClampNeg ≤ 24 ∧ 0 + (if 24 < (24 : Int32) then 24 else (24 : Int32)).toNatClampNeg ≤ 24) (
  some ((), pA s 30 (va_cpy (s.1 84) (s.1 30) 0 0 (if 24 < (24 : Int32) then 24 else (24 : Int32)).toNatClampNeg))
  )
set_option maxRecDepth 100000 in
theorem w_X11_copyRow_30_84 {d : Nat} {s : Sg} {Q : Qt}  (H : OQ (f_X11_copyRow_30_84  s) (fun _ s9 => Q none s9)) : WpM SHC MT (d + 1) 184 [.ref 84, .ref 30] s Q := by
  refine WpM.enter me_X11_copyRow rfl rfl ?_
  show Y_X11_copyRow_30_84 d Q 0 [(0, .ref 84), (1, .ref 30)] [] s
  unfold f_X11_copyRow_30_84 at H
  refine Wp.f_al0_iconst (pc := 0) o_X11_copyRow rfl rfl rfl (Wp.f_al1_iconst (pc := 2) o_X11_copyRow rfl rfl rfl (Wp.f_al0_alen (pc := 4) o_X11_copyRow rfl rfl rfl lk_C_84 (Wp.f_al1_alen (pc := 6) o_X11_copyRow rfl rfl rfl lk_C_30 (Wp.r_min (pc := 8) o_X11_copyRow rfl (⟨rm8_ rfl, ?_⟩)))))
  obtain ⟨c9, H⟩ := oq_ck H
  refine Wp.run 1 (show room8 [] ∧ (¬ (0 : Int32) < 0 ∧ ¬ (0 : Int32) < 0 ∧ ¬ (if 24 < (24 : Int32) then 24 else (24 : Int32)) < 0 ∧ 0 + (if 24 < (24 : Int32) then 24 else (24 : Int32)).toNatClampNeg ≤ 24 ∧ 0 + (if 24 < (24 : Int32) then 24 else (24 : Int32)).toNatClampNeg ≤ 24) ∧ Y_X11_copyRow_30_84 d Q 14 [(0, .ref 84), (1, .ref 30)] [] (pA s 30 (va_cpy (s.1 84) (s.1 30) 0 0 (if 24 < (24 : Int32) then 24 else (24 : Int32)).toNatClampNeg)) from ⟨rm8_ rfl, c9, ?_⟩)
  exact Wp.r_return (pc := 14) o_X11_copyRow rfl (H)
noncomputable abbrev Y_X11_copyRow_31_85 (d : Nat) (Q : Qt) : Xt := Wp SHC (WpM SHC MT (d + 0)) (flat2 cq_X11_copyRow) (none) Q
noncomputable def f_X11_copyRow_31_85  (s : Sg) : Option (Unit × Sg) :=
  ck (¬ (0 : Int32) < 0 ∧ ¬ (0 : Int32) < 0 ∧ ¬ (if 8 < (8 : Int32) then 8 else (8 : Int32)) < 0 ∧ 0 + (if 8 < (8 : Int32) then 8 else (8 : Int32)).toNatClampNeg ≤ 8 ∧ 0 + (if 8 < (8 : Int32) then 8 else (8 : Int32)).toNatClampNeg ≤ 8) (
  some ((), pA s 31 (va_cpy (s.1 85) (s.1 31) 0 0 (if 8 < (8 : Int32) then 8 else (8 : Int32)).toNatClampNeg))
  )
set_option maxRecDepth 100000 in
theorem w_X11_copyRow_31_85 {d : Nat} {s : Sg} {Q : Qt}  (H : OQ (f_X11_copyRow_31_85  s) (fun _ s9 => Q none s9)) : WpM SHC MT (d + 1) 184 [.ref 85, .ref 31] s Q := by
  refine WpM.enter me_X11_copyRow rfl rfl ?_
  show Y_X11_copyRow_31_85 d Q 0 [(0, .ref 85), (1, .ref 31)] [] s
  unfold f_X11_copyRow_31_85 at H
  refine Wp.f_al0_iconst (pc := 0) o_X11_copyRow rfl rfl rfl (Wp.f_al1_iconst (pc := 2) o_X11_copyRow rfl rfl rfl (Wp.f_al0_alen (pc := 4) o_X11_copyRow rfl rfl rfl lk_C_85 (Wp.f_al1_alen (pc := 6) o_X11_copyRow rfl rfl rfl lk_C_31 (Wp.r_min (pc := 8) o_X11_copyRow rfl (⟨rm8_ rfl, ?_⟩)))))
  obtain ⟨c9, H⟩ := oq_ck H
  refine Wp.run 1 (show room8 [] ∧ (¬ (0 : Int32) < 0 ∧ ¬ (0 : Int32) < 0 ∧ ¬ (if 8 < (8 : Int32) then 8 else (8 : Int32)) < 0 ∧ 0 + (if 8 < (8 : Int32) then 8 else (8 : Int32)).toNatClampNeg ≤ 8 ∧ 0 + (if 8 < (8 : Int32) then 8 else (8 : Int32)).toNatClampNeg ≤ 8) ∧ Y_X11_copyRow_31_85 d Q 14 [(0, .ref 85), (1, .ref 31)] [] (pA s 31 (va_cpy (s.1 85) (s.1 31) 0 0 (if 8 < (8 : Int32) then 8 else (8 : Int32)).toNatClampNeg)) from ⟨rm8_ rfl, c9, ?_⟩)
  exact Wp.r_return (pc := 14) o_X11_copyRow rfl (H)
noncomputable abbrev Y_X11_copyRow_32_86 (d : Nat) (Q : Qt) : Xt := Wp SHC (WpM SHC MT (d + 0)) (flat2 cq_X11_copyRow) (none) Q
noncomputable def f_X11_copyRow_32_86  (s : Sg) : Option (Unit × Sg) :=
  ck (¬ (0 : Int32) < 0 ∧ ¬ (0 : Int32) < 0 ∧ ¬ (if 8 < (8 : Int32) then 8 else (8 : Int32)) < 0 ∧ 0 + (if 8 < (8 : Int32) then 8 else (8 : Int32)).toNatClampNeg ≤ 8 ∧ 0 + (if 8 < (8 : Int32) then 8 else (8 : Int32)).toNatClampNeg ≤ 8) (
  some ((), pA s 32 (va_cpy (s.1 86) (s.1 32) 0 0 (if 8 < (8 : Int32) then 8 else (8 : Int32)).toNatClampNeg))
  )
set_option maxRecDepth 100000 in
theorem w_X11_copyRow_32_86 {d : Nat} {s : Sg} {Q : Qt}  (H : OQ (f_X11_copyRow_32_86  s) (fun _ s9 => Q none s9)) : WpM SHC MT (d + 1) 184 [.ref 86, .ref 32] s Q := by
  refine WpM.enter me_X11_copyRow rfl rfl ?_
  show Y_X11_copyRow_32_86 d Q 0 [(0, .ref 86), (1, .ref 32)] [] s
  unfold f_X11_copyRow_32_86 at H
  refine Wp.f_al0_iconst (pc := 0) o_X11_copyRow rfl rfl rfl (Wp.f_al1_iconst (pc := 2) o_X11_copyRow rfl rfl rfl (Wp.f_al0_alen (pc := 4) o_X11_copyRow rfl rfl rfl lk_C_86 (Wp.f_al1_alen (pc := 6) o_X11_copyRow rfl rfl rfl lk_C_32 (Wp.r_min (pc := 8) o_X11_copyRow rfl (⟨rm8_ rfl, ?_⟩)))))
  obtain ⟨c9, H⟩ := oq_ck H
  refine Wp.run 1 (show room8 [] ∧ (¬ (0 : Int32) < 0 ∧ ¬ (0 : Int32) < 0 ∧ ¬ (if 8 < (8 : Int32) then 8 else (8 : Int32)) < 0 ∧ 0 + (if 8 < (8 : Int32) then 8 else (8 : Int32)).toNatClampNeg ≤ 8 ∧ 0 + (if 8 < (8 : Int32) then 8 else (8 : Int32)).toNatClampNeg ≤ 8) ∧ Y_X11_copyRow_32_86 d Q 14 [(0, .ref 86), (1, .ref 32)] [] (pA s 32 (va_cpy (s.1 86) (s.1 32) 0 0 (if 8 < (8 : Int32) then 8 else (8 : Int32)).toNatClampNeg)) from ⟨rm8_ rfl, c9, ?_⟩)
  exact Wp.r_return (pc := 14) o_X11_copyRow rfl (H)
noncomputable abbrev Y_X11_copyRow_33_87 (d : Nat) (Q : Qt) : Xt := Wp SHC (WpM SHC MT (d + 0)) (flat2 cq_X11_copyRow) (none) Q
noncomputable def f_X11_copyRow_33_87  (s : Sg) : Option (Unit × Sg) :=
  ck (¬ (0 : Int32) < 0 ∧ ¬ (0 : Int32) < 0 ∧ ¬ (if 8 < (8 : Int32) then 8 else (8 : Int32)) < 0 ∧ 0 + (if 8 < (8 : Int32) then 8 else (8 : Int32)).toNatClampNeg ≤ 8 ∧ 0 + (if 8 < (8 : Int32) then 8 else (8 : Int32)).toNatClampNeg ≤ 8) (
  some ((), pA s 33 (va_cpy (s.1 87) (s.1 33) 0 0 (if 8 < (8 : Int32) then 8 else (8 : Int32)).toNatClampNeg))
  )
set_option maxRecDepth 100000 in
theorem w_X11_copyRow_33_87 {d : Nat} {s : Sg} {Q : Qt}  (H : OQ (f_X11_copyRow_33_87  s) (fun _ s9 => Q none s9)) : WpM SHC MT (d + 1) 184 [.ref 87, .ref 33] s Q := by
  refine WpM.enter me_X11_copyRow rfl rfl ?_
  show Y_X11_copyRow_33_87 d Q 0 [(0, .ref 87), (1, .ref 33)] [] s
  unfold f_X11_copyRow_33_87 at H
  refine Wp.f_al0_iconst (pc := 0) o_X11_copyRow rfl rfl rfl (Wp.f_al1_iconst (pc := 2) o_X11_copyRow rfl rfl rfl (Wp.f_al0_alen (pc := 4) o_X11_copyRow rfl rfl rfl lk_C_87 (Wp.f_al1_alen (pc := 6) o_X11_copyRow rfl rfl rfl lk_C_33 (Wp.r_min (pc := 8) o_X11_copyRow rfl (⟨rm8_ rfl, ?_⟩)))))
  obtain ⟨c9, H⟩ := oq_ck H
  refine Wp.run 1 (show room8 [] ∧ (¬ (0 : Int32) < 0 ∧ ¬ (0 : Int32) < 0 ∧ ¬ (if 8 < (8 : Int32) then 8 else (8 : Int32)) < 0 ∧ 0 + (if 8 < (8 : Int32) then 8 else (8 : Int32)).toNatClampNeg ≤ 8 ∧ 0 + (if 8 < (8 : Int32) then 8 else (8 : Int32)).toNatClampNeg ≤ 8) ∧ Y_X11_copyRow_33_87 d Q 14 [(0, .ref 87), (1, .ref 33)] [] (pA s 33 (va_cpy (s.1 87) (s.1 33) 0 0 (if 8 < (8 : Int32) then 8 else (8 : Int32)).toNatClampNeg)) from ⟨rm8_ rfl, c9, ?_⟩)
  exact Wp.r_return (pc := 14) o_X11_copyRow rfl (H)
noncomputable abbrev Y_X11_copyRow_34_88 (d : Nat) (Q : Qt) : Xt := Wp SHC (WpM SHC MT (d + 0)) (flat2 cq_X11_copyRow) (none) Q
noncomputable def f_X11_copyRow_34_88  (s : Sg) : Option (Unit × Sg) :=
  ck (¬ (0 : Int32) < 0 ∧ ¬ (0 : Int32) < 0 ∧ ¬ (if 8 < (8 : Int32) then 8 else (8 : Int32)) < 0 ∧ 0 + (if 8 < (8 : Int32) then 8 else (8 : Int32)).toNatClampNeg ≤ 8 ∧ 0 + (if 8 < (8 : Int32) then 8 else (8 : Int32)).toNatClampNeg ≤ 8) (
  some ((), pA s 34 (va_cpy (s.1 88) (s.1 34) 0 0 (if 8 < (8 : Int32) then 8 else (8 : Int32)).toNatClampNeg))
  )
set_option maxRecDepth 100000 in
theorem w_X11_copyRow_34_88 {d : Nat} {s : Sg} {Q : Qt}  (H : OQ (f_X11_copyRow_34_88  s) (fun _ s9 => Q none s9)) : WpM SHC MT (d + 1) 184 [.ref 88, .ref 34] s Q := by
  refine WpM.enter me_X11_copyRow rfl rfl ?_
  show Y_X11_copyRow_34_88 d Q 0 [(0, .ref 88), (1, .ref 34)] [] s
  unfold f_X11_copyRow_34_88 at H
  refine Wp.f_al0_iconst (pc := 0) o_X11_copyRow rfl rfl rfl (Wp.f_al1_iconst (pc := 2) o_X11_copyRow rfl rfl rfl (Wp.f_al0_alen (pc := 4) o_X11_copyRow rfl rfl rfl lk_C_88 (Wp.f_al1_alen (pc := 6) o_X11_copyRow rfl rfl rfl lk_C_34 (Wp.r_min (pc := 8) o_X11_copyRow rfl (⟨rm8_ rfl, ?_⟩)))))
  obtain ⟨c9, H⟩ := oq_ck H
  refine Wp.run 1 (show room8 [] ∧ (¬ (0 : Int32) < 0 ∧ ¬ (0 : Int32) < 0 ∧ ¬ (if 8 < (8 : Int32) then 8 else (8 : Int32)) < 0 ∧ 0 + (if 8 < (8 : Int32) then 8 else (8 : Int32)).toNatClampNeg ≤ 8 ∧ 0 + (if 8 < (8 : Int32) then 8 else (8 : Int32)).toNatClampNeg ≤ 8) ∧ Y_X11_copyRow_34_88 d Q 14 [(0, .ref 88), (1, .ref 34)] [] (pA s 34 (va_cpy (s.1 88) (s.1 34) 0 0 (if 8 < (8 : Int32) then 8 else (8 : Int32)).toNatClampNeg)) from ⟨rm8_ rfl, c9, ?_⟩)
  exact Wp.r_return (pc := 14) o_X11_copyRow rfl (H)
noncomputable abbrev Y_X11_copyRow_35_89 (d : Nat) (Q : Qt) : Xt := Wp SHC (WpM SHC MT (d + 0)) (flat2 cq_X11_copyRow) (none) Q
noncomputable def f_X11_copyRow_35_89  (s : Sg) : Option (Unit × Sg) :=
  ck (¬ (0 : Int32) < 0 ∧ ¬ (0 : Int32) < 0 ∧ ¬ (if 4 < (4 : Int32) then 4 else (4 : Int32)) < 0 ∧ 0 + (if 4 < (4 : Int32) then 4 else (4 : Int32)).toNatClampNeg ≤ 4 ∧ 0 + (if 4 < (4 : Int32) then 4 else (4 : Int32)).toNatClampNeg ≤ 4) (
  some ((), pA s 35 (va_cpy (s.1 89) (s.1 35) 0 0 (if 4 < (4 : Int32) then 4 else (4 : Int32)).toNatClampNeg))
  )
set_option maxRecDepth 100000 in
theorem w_X11_copyRow_35_89 {d : Nat} {s : Sg} {Q : Qt}  (H : OQ (f_X11_copyRow_35_89  s) (fun _ s9 => Q none s9)) : WpM SHC MT (d + 1) 184 [.ref 89, .ref 35] s Q := by
  refine WpM.enter me_X11_copyRow rfl rfl ?_
  show Y_X11_copyRow_35_89 d Q 0 [(0, .ref 89), (1, .ref 35)] [] s
  unfold f_X11_copyRow_35_89 at H
  refine Wp.f_al0_iconst (pc := 0) o_X11_copyRow rfl rfl rfl (Wp.f_al1_iconst (pc := 2) o_X11_copyRow rfl rfl rfl (Wp.f_al0_alen (pc := 4) o_X11_copyRow rfl rfl rfl lk_C_89 (Wp.f_al1_alen (pc := 6) o_X11_copyRow rfl rfl rfl lk_C_35 (Wp.r_min (pc := 8) o_X11_copyRow rfl (⟨rm8_ rfl, ?_⟩)))))
  obtain ⟨c9, H⟩ := oq_ck H
  refine Wp.run 1 (show room8 [] ∧ (¬ (0 : Int32) < 0 ∧ ¬ (0 : Int32) < 0 ∧ ¬ (if 4 < (4 : Int32) then 4 else (4 : Int32)) < 0 ∧ 0 + (if 4 < (4 : Int32) then 4 else (4 : Int32)).toNatClampNeg ≤ 4 ∧ 0 + (if 4 < (4 : Int32) then 4 else (4 : Int32)).toNatClampNeg ≤ 4) ∧ Y_X11_copyRow_35_89 d Q 14 [(0, .ref 89), (1, .ref 35)] [] (pA s 35 (va_cpy (s.1 89) (s.1 35) 0 0 (if 4 < (4 : Int32) then 4 else (4 : Int32)).toNatClampNeg)) from ⟨rm8_ rfl, c9, ?_⟩)
  exact Wp.r_return (pc := 14) o_X11_copyRow rfl (H)
noncomputable abbrev Y_X11_copyRow_36_90 (d : Nat) (Q : Qt) : Xt := Wp SHC (WpM SHC MT (d + 0)) (flat2 cq_X11_copyRow) (none) Q
noncomputable def f_X11_copyRow_36_90  (s : Sg) : Option (Unit × Sg) :=
  ck (¬ (0 : Int32) < 0 ∧ ¬ (0 : Int32) < 0 ∧ ¬ (if 4 < (4 : Int32) then 4 else (4 : Int32)) < 0 ∧ 0 + (if 4 < (4 : Int32) then 4 else (4 : Int32)).toNatClampNeg ≤ 4 ∧ 0 + (if 4 < (4 : Int32) then 4 else (4 : Int32)).toNatClampNeg ≤ 4) (
  some ((), pA s 36 (va_cpy (s.1 90) (s.1 36) 0 0 (if 4 < (4 : Int32) then 4 else (4 : Int32)).toNatClampNeg))
  )
set_option maxRecDepth 100000 in
theorem w_X11_copyRow_36_90 {d : Nat} {s : Sg} {Q : Qt}  (H : OQ (f_X11_copyRow_36_90  s) (fun _ s9 => Q none s9)) : WpM SHC MT (d + 1) 184 [.ref 90, .ref 36] s Q := by
  refine WpM.enter me_X11_copyRow rfl rfl ?_
  show Y_X11_copyRow_36_90 d Q 0 [(0, .ref 90), (1, .ref 36)] [] s
  unfold f_X11_copyRow_36_90 at H
  refine Wp.f_al0_iconst (pc := 0) o_X11_copyRow rfl rfl rfl (Wp.f_al1_iconst (pc := 2) o_X11_copyRow rfl rfl rfl (Wp.f_al0_alen (pc := 4) o_X11_copyRow rfl rfl rfl lk_C_90 (Wp.f_al1_alen (pc := 6) o_X11_copyRow rfl rfl rfl lk_C_36 (Wp.r_min (pc := 8) o_X11_copyRow rfl (⟨rm8_ rfl, ?_⟩)))))
  obtain ⟨c9, H⟩ := oq_ck H
  refine Wp.run 1 (show room8 [] ∧ (¬ (0 : Int32) < 0 ∧ ¬ (0 : Int32) < 0 ∧ ¬ (if 4 < (4 : Int32) then 4 else (4 : Int32)) < 0 ∧ 0 + (if 4 < (4 : Int32) then 4 else (4 : Int32)).toNatClampNeg ≤ 4 ∧ 0 + (if 4 < (4 : Int32) then 4 else (4 : Int32)).toNatClampNeg ≤ 4) ∧ Y_X11_copyRow_36_90 d Q 14 [(0, .ref 90), (1, .ref 36)] [] (pA s 36 (va_cpy (s.1 90) (s.1 36) 0 0 (if 4 < (4 : Int32) then 4 else (4 : Int32)).toNatClampNeg)) from ⟨rm8_ rfl, c9, ?_⟩)
  exact Wp.r_return (pc := 14) o_X11_copyRow rfl (H)
noncomputable abbrev Y_X11_copyRow_37_91 (d : Nat) (Q : Qt) : Xt := Wp SHC (WpM SHC MT (d + 0)) (flat2 cq_X11_copyRow) (none) Q
noncomputable def f_X11_copyRow_37_91  (s : Sg) : Option (Unit × Sg) :=
  ck (¬ (0 : Int32) < 0 ∧ ¬ (0 : Int32) < 0 ∧ ¬ (if 4 < (4 : Int32) then 4 else (4 : Int32)) < 0 ∧ 0 + (if 4 < (4 : Int32) then 4 else (4 : Int32)).toNatClampNeg ≤ 4 ∧ 0 + (if 4 < (4 : Int32) then 4 else (4 : Int32)).toNatClampNeg ≤ 4) (
  some ((), pA s 37 (va_cpy (s.1 91) (s.1 37) 0 0 (if 4 < (4 : Int32) then 4 else (4 : Int32)).toNatClampNeg))
  )
set_option maxRecDepth 100000 in
theorem w_X11_copyRow_37_91 {d : Nat} {s : Sg} {Q : Qt}  (H : OQ (f_X11_copyRow_37_91  s) (fun _ s9 => Q none s9)) : WpM SHC MT (d + 1) 184 [.ref 91, .ref 37] s Q := by
  refine WpM.enter me_X11_copyRow rfl rfl ?_
  show Y_X11_copyRow_37_91 d Q 0 [(0, .ref 91), (1, .ref 37)] [] s
  unfold f_X11_copyRow_37_91 at H
  refine Wp.f_al0_iconst (pc := 0) o_X11_copyRow rfl rfl rfl (Wp.f_al1_iconst (pc := 2) o_X11_copyRow rfl rfl rfl (Wp.f_al0_alen (pc := 4) o_X11_copyRow rfl rfl rfl lk_C_91 (Wp.f_al1_alen (pc := 6) o_X11_copyRow rfl rfl rfl lk_C_37 (Wp.r_min (pc := 8) o_X11_copyRow rfl (⟨rm8_ rfl, ?_⟩)))))
  obtain ⟨c9, H⟩ := oq_ck H
  refine Wp.run 1 (show room8 [] ∧ (¬ (0 : Int32) < 0 ∧ ¬ (0 : Int32) < 0 ∧ ¬ (if 4 < (4 : Int32) then 4 else (4 : Int32)) < 0 ∧ 0 + (if 4 < (4 : Int32) then 4 else (4 : Int32)).toNatClampNeg ≤ 4 ∧ 0 + (if 4 < (4 : Int32) then 4 else (4 : Int32)).toNatClampNeg ≤ 4) ∧ Y_X11_copyRow_37_91 d Q 14 [(0, .ref 91), (1, .ref 37)] [] (pA s 37 (va_cpy (s.1 91) (s.1 37) 0 0 (if 4 < (4 : Int32) then 4 else (4 : Int32)).toNatClampNeg)) from ⟨rm8_ rfl, c9, ?_⟩)
  exact Wp.r_return (pc := 14) o_X11_copyRow rfl (H)
noncomputable abbrev Y_X11_copyRow_38_92 (d : Nat) (Q : Qt) : Xt := Wp SHC (WpM SHC MT (d + 0)) (flat2 cq_X11_copyRow) (none) Q
noncomputable def f_X11_copyRow_38_92  (s : Sg) : Option (Unit × Sg) :=
  ck (¬ (0 : Int32) < 0 ∧ ¬ (0 : Int32) < 0 ∧ ¬ (if 4 < (4 : Int32) then 4 else (4 : Int32)) < 0 ∧ 0 + (if 4 < (4 : Int32) then 4 else (4 : Int32)).toNatClampNeg ≤ 4 ∧ 0 + (if 4 < (4 : Int32) then 4 else (4 : Int32)).toNatClampNeg ≤ 4) (
  some ((), pA s 38 (va_cpy (s.1 92) (s.1 38) 0 0 (if 4 < (4 : Int32) then 4 else (4 : Int32)).toNatClampNeg))
  )
set_option maxRecDepth 100000 in
theorem w_X11_copyRow_38_92 {d : Nat} {s : Sg} {Q : Qt}  (H : OQ (f_X11_copyRow_38_92  s) (fun _ s9 => Q none s9)) : WpM SHC MT (d + 1) 184 [.ref 92, .ref 38] s Q := by
  refine WpM.enter me_X11_copyRow rfl rfl ?_
  show Y_X11_copyRow_38_92 d Q 0 [(0, .ref 92), (1, .ref 38)] [] s
  unfold f_X11_copyRow_38_92 at H
  refine Wp.f_al0_iconst (pc := 0) o_X11_copyRow rfl rfl rfl (Wp.f_al1_iconst (pc := 2) o_X11_copyRow rfl rfl rfl (Wp.f_al0_alen (pc := 4) o_X11_copyRow rfl rfl rfl lk_C_92 (Wp.f_al1_alen (pc := 6) o_X11_copyRow rfl rfl rfl lk_C_38 (Wp.r_min (pc := 8) o_X11_copyRow rfl (⟨rm8_ rfl, ?_⟩)))))
  obtain ⟨c9, H⟩ := oq_ck H
  refine Wp.run 1 (show room8 [] ∧ (¬ (0 : Int32) < 0 ∧ ¬ (0 : Int32) < 0 ∧ ¬ (if 4 < (4 : Int32) then 4 else (4 : Int32)) < 0 ∧ 0 + (if 4 < (4 : Int32) then 4 else (4 : Int32)).toNatClampNeg ≤ 4 ∧ 0 + (if 4 < (4 : Int32) then 4 else (4 : Int32)).toNatClampNeg ≤ 4) ∧ Y_X11_copyRow_38_92 d Q 14 [(0, .ref 92), (1, .ref 38)] [] (pA s 38 (va_cpy (s.1 92) (s.1 38) 0 0 (if 4 < (4 : Int32) then 4 else (4 : Int32)).toNatClampNeg)) from ⟨rm8_ rfl, c9, ?_⟩)
  exact Wp.r_return (pc := 14) o_X11_copyRow rfl (H)
noncomputable abbrev Y_X11_copyRow_39_93 (d : Nat) (Q : Qt) : Xt := Wp SHC (WpM SHC MT (d + 0)) (flat2 cq_X11_copyRow) (none) Q
noncomputable def f_X11_copyRow_39_93  (s : Sg) : Option (Unit × Sg) :=
  ck (¬ (0 : Int32) < 0 ∧ ¬ (0 : Int32) < 0 ∧ ¬ (if 4 < (4 : Int32) then 4 else (4 : Int32)) < 0 ∧ 0 + (if 4 < (4 : Int32) then 4 else (4 : Int32)).toNatClampNeg ≤ 4 ∧ 0 + (if 4 < (4 : Int32) then 4 else (4 : Int32)).toNatClampNeg ≤ 4) (
  some ((), pA s 39 (va_cpy (s.1 93) (s.1 39) 0 0 (if 4 < (4 : Int32) then 4 else (4 : Int32)).toNatClampNeg))
  )
set_option maxRecDepth 100000 in
theorem w_X11_copyRow_39_93 {d : Nat} {s : Sg} {Q : Qt}  (H : OQ (f_X11_copyRow_39_93  s) (fun _ s9 => Q none s9)) : WpM SHC MT (d + 1) 184 [.ref 93, .ref 39] s Q := by
  refine WpM.enter me_X11_copyRow rfl rfl ?_
  show Y_X11_copyRow_39_93 d Q 0 [(0, .ref 93), (1, .ref 39)] [] s
  unfold f_X11_copyRow_39_93 at H
  refine Wp.f_al0_iconst (pc := 0) o_X11_copyRow rfl rfl rfl (Wp.f_al1_iconst (pc := 2) o_X11_copyRow rfl rfl rfl (Wp.f_al0_alen (pc := 4) o_X11_copyRow rfl rfl rfl lk_C_93 (Wp.f_al1_alen (pc := 6) o_X11_copyRow rfl rfl rfl lk_C_39 (Wp.r_min (pc := 8) o_X11_copyRow rfl (⟨rm8_ rfl, ?_⟩)))))
  obtain ⟨c9, H⟩ := oq_ck H
  refine Wp.run 1 (show room8 [] ∧ (¬ (0 : Int32) < 0 ∧ ¬ (0 : Int32) < 0 ∧ ¬ (if 4 < (4 : Int32) then 4 else (4 : Int32)) < 0 ∧ 0 + (if 4 < (4 : Int32) then 4 else (4 : Int32)).toNatClampNeg ≤ 4 ∧ 0 + (if 4 < (4 : Int32) then 4 else (4 : Int32)).toNatClampNeg ≤ 4) ∧ Y_X11_copyRow_39_93 d Q 14 [(0, .ref 93), (1, .ref 39)] [] (pA s 39 (va_cpy (s.1 93) (s.1 39) 0 0 (if 4 < (4 : Int32) then 4 else (4 : Int32)).toNatClampNeg)) from ⟨rm8_ rfl, c9, ?_⟩)
  exact Wp.r_return (pc := 14) o_X11_copyRow rfl (H)
noncomputable abbrev Y_X4_copyFrom_79 (d : Nat) (Q : Qt) : Xt := Wp SHC (WpM SHC MT (d + 1)) (flat2 cq_X4_copyFrom) (none) Q
noncomputable def f_X4_copyFrom_79  (s : Sg) : Option (Unit × Sg) :=
  bd (f_X11_copyRow_29_83 (pB s 28 (va_cpy (s.2 82) (s.2 28) 0 0 24))) (fun _ s2 =>
  bd (f_X11_copyRow_30_84 s2) (fun _ s4 =>
  bd (f_X11_copyRow_31_85 s4) (fun _ s6 =>
  bd (f_X11_copyRow_32_86 s6) (fun _ s8 =>
  bd (f_X11_copyRow_33_87 s8) (fun _ s10 =>
  bd (f_X11_copyRow_34_88 s10) (fun _ s12 =>
  bd (f_X11_copyRow_35_89 s12) (fun _ s14 =>
  bd (f_X11_copyRow_36_90 s14) (fun _ s16 =>
  bd (f_X11_copyRow_37_91 s16) (fun _ s18 =>
  bd (f_X11_copyRow_38_92 s18) (fun _ s20 =>
  bd (f_X11_copyRow_39_93 s20) (fun _ s22 =>
  nmx (pI (pI s22 25 12 (s22.1 79 12)) 25 13 ((pI s22 25 12 (s22.1 79 12)).1 79 13)) (fun s23 =>
  nmx (pI (pI s23 25 14 (s23.1 79 14)) 25 15 ((pI s23 25 14 (s23.1 79 14)).1 79 15)) (fun s24 =>
  nmx (pI (pI s24 25 16 (s24.1 79 16)) 25 17 ((pI s24 25 16 (s24.1 79 16)).1 79 17)) (fun s25 =>
  ck (((pI s25 25 18 (s25.1 79 18)).1 79 19) = 0 ∨ ((pI s25 25 18 (s25.1 79 18)).1 79 19) = 1) (
  some ((), pI (pI s25 25 18 (s25.1 79 18)) 25 19 ((pI s25 25 18 (s25.1 79 18)).1 79 19))
  )
  )
  )
  )
  )
  )
  )
  )
  )
  )
  )
  )
  )
  )
  )
set_option maxRecDepth 100000 in
theorem w_X4_copyFrom_79 {d : Nat} {s : Sg} {Q : Qt}  (H : OQ (f_X4_copyFrom_79  s) (fun _ s9 => Q none s9)) : WpM SHC MT (d + 2) 50 [.ref 25, .ref 79] s Q := by
  refine WpM.enter me_X4_copyFrom rfl rfl ?_
  show Y_X4_copyFrom_79 d Q 0 [(0, .ref 25), (1, .ref 79)] [] s
  unfold f_X4_copyFrom_79 at H
  refine Wp.f_al1_gfr (pc := 0) o_X4_copyFrom rfl rfl rfl fk_C_79_0 (Wp.r_iconst (pc := 4) o_X4_copyFrom rfl (Wp.f_al0_gfr (pc := 5) o_X4_copyFrom rfl rfl rfl fk_C_25_0 (Wp.r_iconst (pc := 9) o_X4_copyFrom rfl (Wp.r_bipush (pc := 10) o_X4_copyFrom rfl (Wp.run 1 (show room8 [] ∧ (¬ (0 : Int32) < 0 ∧ ¬ (0 : Int32) < 0 ∧ ¬ (24 : Int32) < 0 ∧ 0 + 24 ≤ 24 ∧ 0 + 24 ≤ 24) ∧ Y_X4_copyFrom_79 d Q 15 [(0, .ref 25), (1, .ref 79)] [] (pB s 28 (va_cpy (s.2 82) (s.2 28) 0 0 24)) from ⟨rm8_ rfl, by decide, ?_⟩))))))
  refine Wp.f_al1_gfr (pc := 15) o_X4_copyFrom rfl rfl rfl fk_C_79_1 (Wp.f_al0_gfr (pc := 19) o_X4_copyFrom rfl rfl rfl fk_C_25_1 (Wp.r_cs2 (pc := 23) o_X4_copyFrom rfl (⟨rm8_ rfl, ?_⟩)))
  refine w_X11_copyRow_29_83 (d := d)  ?_
  refine oq_bd H (fun _ s2 H => ?_)
  refine Wp.f_al1_gfr (pc := 26) o_X4_copyFrom rfl rfl rfl fk_C_79_2 (Wp.f_al0_gfr (pc := 30) o_X4_copyFrom rfl rfl rfl fk_C_25_2 (Wp.r_cs2 (pc := 34) o_X4_copyFrom rfl (⟨rm8_ rfl, ?_⟩)))
  refine w_X11_copyRow_30_84 (d := d)  ?_
  refine oq_bd H (fun _ s4 H => ?_)
  refine Wp.f_al1_gfr (pc := 37) o_X4_copyFrom rfl rfl rfl fk_C_79_3 (Wp.f_al0_gfr (pc := 41) o_X4_copyFrom rfl rfl rfl fk_C_25_3 (Wp.r_cs2 (pc := 45) o_X4_copyFrom rfl (⟨rm8_ rfl, ?_⟩)))
  refine w_X11_copyRow_31_85 (d := d)  ?_
  refine oq_bd H (fun _ s6 H => ?_)
  refine Wp.f_al1_gfr (pc := 48) o_X4_copyFrom rfl rfl rfl fk_C_79_4 (Wp.f_al0_gfr (pc := 52) o_X4_copyFrom rfl rfl rfl fk_C_25_4 (Wp.r_cs2 (pc := 56) o_X4_copyFrom rfl (⟨rm8_ rfl, ?_⟩)))
  refine w_X11_copyRow_32_86 (d := d)  ?_
  refine oq_bd H (fun _ s8 H => ?_)
  refine Wp.f_al1_gfr (pc := 59) o_X4_copyFrom rfl rfl rfl fk_C_79_5 (Wp.f_al0_gfr (pc := 63) o_X4_copyFrom rfl rfl rfl fk_C_25_5 (Wp.r_cs2 (pc := 67) o_X4_copyFrom rfl (⟨rm8_ rfl, ?_⟩)))
  refine w_X11_copyRow_33_87 (d := d)  ?_
  refine oq_bd H (fun _ s10 H => ?_)
  refine Wp.f_al1_gfr (pc := 70) o_X4_copyFrom rfl rfl rfl fk_C_79_6 (Wp.f_al0_gfr (pc := 74) o_X4_copyFrom rfl rfl rfl fk_C_25_6 (Wp.r_cs2 (pc := 78) o_X4_copyFrom rfl (⟨rm8_ rfl, ?_⟩)))
  refine w_X11_copyRow_34_88 (d := d)  ?_
  refine oq_bd H (fun _ s12 H => ?_)
  refine Wp.f_al1_gfr (pc := 81) o_X4_copyFrom rfl rfl rfl fk_C_79_7 (Wp.f_al0_gfr (pc := 85) o_X4_copyFrom rfl rfl rfl fk_C_25_7 (Wp.r_cs2 (pc := 89) o_X4_copyFrom rfl (⟨rm8_ rfl, ?_⟩)))
  refine w_X11_copyRow_35_89 (d := d)  ?_
  refine oq_bd H (fun _ s14 H => ?_)
  refine Wp.f_al1_gfr (pc := 92) o_X4_copyFrom rfl rfl rfl fk_C_79_8 (Wp.f_al0_gfr (pc := 96) o_X4_copyFrom rfl rfl rfl fk_C_25_8 (Wp.r_cs2 (pc := 100) o_X4_copyFrom rfl (⟨rm8_ rfl, ?_⟩)))
  refine w_X11_copyRow_36_90 (d := d)  ?_
  refine oq_bd H (fun _ s16 H => ?_)
  refine Wp.f_al1_gfr (pc := 103) o_X4_copyFrom rfl rfl rfl fk_C_79_9 (Wp.f_al0_gfr (pc := 107) o_X4_copyFrom rfl rfl rfl fk_C_25_9 (Wp.r_cs2 (pc := 111) o_X4_copyFrom rfl (⟨rm8_ rfl, ?_⟩)))
  refine w_X11_copyRow_37_91 (d := d)  ?_
  refine oq_bd H (fun _ s18 H => ?_)
  refine Wp.f_al1_gfr (pc := 114) o_X4_copyFrom rfl rfl rfl fk_C_79_10 (Wp.f_al0_gfr (pc := 118) o_X4_copyFrom rfl rfl rfl fk_C_25_10 (Wp.r_cs2 (pc := 122) o_X4_copyFrom rfl (⟨rm8_ rfl, ?_⟩)))
  refine w_X11_copyRow_38_92 (d := d)  ?_
  refine oq_bd H (fun _ s20 H => ?_)
  refine Wp.f_al1_gfr (pc := 125) o_X4_copyFrom rfl rfl rfl fk_C_79_11 (Wp.f_al0_gfr (pc := 129) o_X4_copyFrom rfl rfl rfl fk_C_25_11 (Wp.r_cs2 (pc := 133) o_X4_copyFrom rfl (⟨rm8_ rfl, ?_⟩)))
  refine w_X11_copyRow_39_93 (d := d)  ?_
  refine oq_bd H (fun _ s22 H => ?_)
  refine Wp.r_aload_n0 (pc := 136) o_X4_copyFrom rfl rfl (Wp.f_al1_gfi (pc := 137) o_X4_copyFrom rfl rfl rfl fk_C_79_12 (Wp.r_pfi (pc := 141) o_X4_copyFrom rfl fk_C_25_12 (Wp.r_aload_n0 (pc := 144) o_X4_copyFrom rfl rfl (Wp.f_al1_gfi (pc := 145) o_X4_copyFrom rfl rfl rfl fk_C_79_13 (Wp.r_pfi (pc := 149) o_X4_copyFrom rfl fk_C_25_13 (show Y_X4_copyFrom_79 d Q 152 [(0, .ref 25), (1, .ref 79)] [] (pI (pI s22 25 12 (s22.1 79 12)) 25 13 ((pI s22 25 12 (s22.1 79 12)).1 79 13)) from ?_))))))
  revert H
  generalize pI (pI s22 25 12 (s22.1 79 12)) 25 13 ((pI s22 25 12 (s22.1 79 12)).1 79 13) = s23
  intro H
  have H := nmx_e H
  refine Wp.r_aload_n0 (pc := 152) o_X4_copyFrom rfl rfl (Wp.f_al1_gfi (pc := 153) o_X4_copyFrom rfl rfl rfl fk_C_79_14 (Wp.r_pfi (pc := 157) o_X4_copyFrom rfl fk_C_25_14 (Wp.r_aload_n0 (pc := 160) o_X4_copyFrom rfl rfl (Wp.f_al1_gfi (pc := 161) o_X4_copyFrom rfl rfl rfl fk_C_79_15 (Wp.r_pfi (pc := 165) o_X4_copyFrom rfl fk_C_25_15 (show Y_X4_copyFrom_79 d Q 168 [(0, .ref 25), (1, .ref 79)] [] (pI (pI s23 25 14 (s23.1 79 14)) 25 15 ((pI s23 25 14 (s23.1 79 14)).1 79 15)) from ?_))))))
  revert H
  generalize pI (pI s23 25 14 (s23.1 79 14)) 25 15 ((pI s23 25 14 (s23.1 79 14)).1 79 15) = s24
  intro H
  have H := nmx_e H
  refine Wp.r_aload_n0 (pc := 168) o_X4_copyFrom rfl rfl (Wp.f_al1_gfi (pc := 169) o_X4_copyFrom rfl rfl rfl fk_C_79_16 (Wp.r_pfi (pc := 173) o_X4_copyFrom rfl fk_C_25_16 (Wp.r_aload_n0 (pc := 176) o_X4_copyFrom rfl rfl (Wp.f_al1_gfi (pc := 177) o_X4_copyFrom rfl rfl rfl fk_C_79_17 (Wp.r_pfi (pc := 181) o_X4_copyFrom rfl fk_C_25_17 (show Y_X4_copyFrom_79 d Q 184 [(0, .ref 25), (1, .ref 79)] [] (pI (pI s24 25 16 (s24.1 79 16)) 25 17 ((pI s24 25 16 (s24.1 79 16)).1 79 17)) from ?_))))))
  revert H
  generalize pI (pI s24 25 16 (s24.1 79 16)) 25 17 ((pI s24 25 16 (s24.1 79 16)).1 79 17) = s25
  intro H
  have H := nmx_e H
  obtain ⟨hc26, H⟩ := oq_ck H
  refine Wp.r_aload_n0 (pc := 184) o_X4_copyFrom rfl rfl (Wp.f_al1_gfi (pc := 185) o_X4_copyFrom rfl rfl rfl fk_C_79_18 (Wp.r_pfi (pc := 189) o_X4_copyFrom rfl fk_C_25_18 (Wp.r_aload_n0 (pc := 192) o_X4_copyFrom rfl rfl (Wp.f_al1_gfi (pc := 193) o_X4_copyFrom rfl rfl rfl fk_C_79_19 (Wp.r_pfz (pc := 197) o_X4_copyFrom rfl fk_C_25_19 (⟨hc26, ?_⟩))))))
  exact Wp.r_return (pc := 200) o_X4_copyFrom rfl (H)
noncomputable abbrev Y_X11_copyRow_40_94 (d : Nat) (Q : Qt) : Xt := Wp SHC (WpM SHC MT (d + 0)) (flat2 cq_X11_copyRow) (none) Q
noncomputable def f_X11_copyRow_40_94  (s : Sg) : Option (Unit × Sg) :=
  ck (¬ (0 : Int32) < 0 ∧ ¬ (0 : Int32) < 0 ∧ ¬ (if 8 < (8 : Int32) then 8 else (8 : Int32)) < 0 ∧ 0 + (if 8 < (8 : Int32) then 8 else (8 : Int32)).toNatClampNeg ≤ 8 ∧ 0 + (if 8 < (8 : Int32) then 8 else (8 : Int32)).toNatClampNeg ≤ 8) (
  some ((), pA s 40 (va_cpy (s.1 94) (s.1 40) 0 0 (if 8 < (8 : Int32) then 8 else (8 : Int32)).toNatClampNeg))
  )
set_option maxRecDepth 100000 in
theorem w_X11_copyRow_40_94 {d : Nat} {s : Sg} {Q : Qt}  (H : OQ (f_X11_copyRow_40_94  s) (fun _ s9 => Q none s9)) : WpM SHC MT (d + 1) 184 [.ref 94, .ref 40] s Q := by
  refine WpM.enter me_X11_copyRow rfl rfl ?_
  show Y_X11_copyRow_40_94 d Q 0 [(0, .ref 94), (1, .ref 40)] [] s
  unfold f_X11_copyRow_40_94 at H
  refine Wp.f_al0_iconst (pc := 0) o_X11_copyRow rfl rfl rfl (Wp.f_al1_iconst (pc := 2) o_X11_copyRow rfl rfl rfl (Wp.f_al0_alen (pc := 4) o_X11_copyRow rfl rfl rfl lk_C_94 (Wp.f_al1_alen (pc := 6) o_X11_copyRow rfl rfl rfl lk_C_40 (Wp.r_min (pc := 8) o_X11_copyRow rfl (⟨rm8_ rfl, ?_⟩)))))
  obtain ⟨c9, H⟩ := oq_ck H
  refine Wp.run 1 (show room8 [] ∧ (¬ (0 : Int32) < 0 ∧ ¬ (0 : Int32) < 0 ∧ ¬ (if 8 < (8 : Int32) then 8 else (8 : Int32)) < 0 ∧ 0 + (if 8 < (8 : Int32) then 8 else (8 : Int32)).toNatClampNeg ≤ 8 ∧ 0 + (if 8 < (8 : Int32) then 8 else (8 : Int32)).toNatClampNeg ≤ 8) ∧ Y_X11_copyRow_40_94 d Q 14 [(0, .ref 94), (1, .ref 40)] [] (pA s 40 (va_cpy (s.1 94) (s.1 40) 0 0 (if 8 < (8 : Int32) then 8 else (8 : Int32)).toNatClampNeg)) from ⟨rm8_ rfl, c9, ?_⟩)
  exact Wp.r_return (pc := 14) o_X11_copyRow rfl (H)
noncomputable abbrev Y_X11_copyRow_41_95 (d : Nat) (Q : Qt) : Xt := Wp SHC (WpM SHC MT (d + 0)) (flat2 cq_X11_copyRow) (none) Q
noncomputable def f_X11_copyRow_41_95  (s : Sg) : Option (Unit × Sg) :=
  ck (¬ (0 : Int32) < 0 ∧ ¬ (0 : Int32) < 0 ∧ ¬ (if 8 < (8 : Int32) then 8 else (8 : Int32)) < 0 ∧ 0 + (if 8 < (8 : Int32) then 8 else (8 : Int32)).toNatClampNeg ≤ 8 ∧ 0 + (if 8 < (8 : Int32) then 8 else (8 : Int32)).toNatClampNeg ≤ 8) (
  some ((), pA s 41 (va_cpy (s.1 95) (s.1 41) 0 0 (if 8 < (8 : Int32) then 8 else (8 : Int32)).toNatClampNeg))
  )
set_option maxRecDepth 100000 in
theorem w_X11_copyRow_41_95 {d : Nat} {s : Sg} {Q : Qt}  (H : OQ (f_X11_copyRow_41_95  s) (fun _ s9 => Q none s9)) : WpM SHC MT (d + 1) 184 [.ref 95, .ref 41] s Q := by
  refine WpM.enter me_X11_copyRow rfl rfl ?_
  show Y_X11_copyRow_41_95 d Q 0 [(0, .ref 95), (1, .ref 41)] [] s
  unfold f_X11_copyRow_41_95 at H
  refine Wp.f_al0_iconst (pc := 0) o_X11_copyRow rfl rfl rfl (Wp.f_al1_iconst (pc := 2) o_X11_copyRow rfl rfl rfl (Wp.f_al0_alen (pc := 4) o_X11_copyRow rfl rfl rfl lk_C_95 (Wp.f_al1_alen (pc := 6) o_X11_copyRow rfl rfl rfl lk_C_41 (Wp.r_min (pc := 8) o_X11_copyRow rfl (⟨rm8_ rfl, ?_⟩)))))
  obtain ⟨c9, H⟩ := oq_ck H
  refine Wp.run 1 (show room8 [] ∧ (¬ (0 : Int32) < 0 ∧ ¬ (0 : Int32) < 0 ∧ ¬ (if 8 < (8 : Int32) then 8 else (8 : Int32)) < 0 ∧ 0 + (if 8 < (8 : Int32) then 8 else (8 : Int32)).toNatClampNeg ≤ 8 ∧ 0 + (if 8 < (8 : Int32) then 8 else (8 : Int32)).toNatClampNeg ≤ 8) ∧ Y_X11_copyRow_41_95 d Q 14 [(0, .ref 95), (1, .ref 41)] [] (pA s 41 (va_cpy (s.1 95) (s.1 41) 0 0 (if 8 < (8 : Int32) then 8 else (8 : Int32)).toNatClampNeg)) from ⟨rm8_ rfl, c9, ?_⟩)
  exact Wp.r_return (pc := 14) o_X11_copyRow rfl (H)
noncomputable abbrev Y_X11_copyRow_42_96 (d : Nat) (Q : Qt) : Xt := Wp SHC (WpM SHC MT (d + 0)) (flat2 cq_X11_copyRow) (none) Q
noncomputable def f_X11_copyRow_42_96  (s : Sg) : Option (Unit × Sg) :=
  ck (¬ (0 : Int32) < 0 ∧ ¬ (0 : Int32) < 0 ∧ ¬ (if 8 < (8 : Int32) then 8 else (8 : Int32)) < 0 ∧ 0 + (if 8 < (8 : Int32) then 8 else (8 : Int32)).toNatClampNeg ≤ 8 ∧ 0 + (if 8 < (8 : Int32) then 8 else (8 : Int32)).toNatClampNeg ≤ 8) (
  some ((), pA s 42 (va_cpy (s.1 96) (s.1 42) 0 0 (if 8 < (8 : Int32) then 8 else (8 : Int32)).toNatClampNeg))
  )
set_option maxRecDepth 100000 in
theorem w_X11_copyRow_42_96 {d : Nat} {s : Sg} {Q : Qt}  (H : OQ (f_X11_copyRow_42_96  s) (fun _ s9 => Q none s9)) : WpM SHC MT (d + 1) 184 [.ref 96, .ref 42] s Q := by
  refine WpM.enter me_X11_copyRow rfl rfl ?_
  show Y_X11_copyRow_42_96 d Q 0 [(0, .ref 96), (1, .ref 42)] [] s
  unfold f_X11_copyRow_42_96 at H
  refine Wp.f_al0_iconst (pc := 0) o_X11_copyRow rfl rfl rfl (Wp.f_al1_iconst (pc := 2) o_X11_copyRow rfl rfl rfl (Wp.f_al0_alen (pc := 4) o_X11_copyRow rfl rfl rfl lk_C_96 (Wp.f_al1_alen (pc := 6) o_X11_copyRow rfl rfl rfl lk_C_42 (Wp.r_min (pc := 8) o_X11_copyRow rfl (⟨rm8_ rfl, ?_⟩)))))
  obtain ⟨c9, H⟩ := oq_ck H
  refine Wp.run 1 (show room8 [] ∧ (¬ (0 : Int32) < 0 ∧ ¬ (0 : Int32) < 0 ∧ ¬ (if 8 < (8 : Int32) then 8 else (8 : Int32)) < 0 ∧ 0 + (if 8 < (8 : Int32) then 8 else (8 : Int32)).toNatClampNeg ≤ 8 ∧ 0 + (if 8 < (8 : Int32) then 8 else (8 : Int32)).toNatClampNeg ≤ 8) ∧ Y_X11_copyRow_42_96 d Q 14 [(0, .ref 96), (1, .ref 42)] [] (pA s 42 (va_cpy (s.1 96) (s.1 42) 0 0 (if 8 < (8 : Int32) then 8 else (8 : Int32)).toNatClampNeg)) from ⟨rm8_ rfl, c9, ?_⟩)
  exact Wp.r_return (pc := 14) o_X11_copyRow rfl (H)
noncomputable abbrev Y_X11_copyRow_43_97 (d : Nat) (Q : Qt) : Xt := Wp SHC (WpM SHC MT (d + 0)) (flat2 cq_X11_copyRow) (none) Q
noncomputable def f_X11_copyRow_43_97  (s : Sg) : Option (Unit × Sg) :=
  ck (¬ (0 : Int32) < 0 ∧ ¬ (0 : Int32) < 0 ∧ ¬ (if 8 < (8 : Int32) then 8 else (8 : Int32)) < 0 ∧ 0 + (if 8 < (8 : Int32) then 8 else (8 : Int32)).toNatClampNeg ≤ 8 ∧ 0 + (if 8 < (8 : Int32) then 8 else (8 : Int32)).toNatClampNeg ≤ 8) (
  some ((), pA s 43 (va_cpy (s.1 97) (s.1 43) 0 0 (if 8 < (8 : Int32) then 8 else (8 : Int32)).toNatClampNeg))
  )
set_option maxRecDepth 100000 in
theorem w_X11_copyRow_43_97 {d : Nat} {s : Sg} {Q : Qt}  (H : OQ (f_X11_copyRow_43_97  s) (fun _ s9 => Q none s9)) : WpM SHC MT (d + 1) 184 [.ref 97, .ref 43] s Q := by
  refine WpM.enter me_X11_copyRow rfl rfl ?_
  show Y_X11_copyRow_43_97 d Q 0 [(0, .ref 97), (1, .ref 43)] [] s
  unfold f_X11_copyRow_43_97 at H
  refine Wp.f_al0_iconst (pc := 0) o_X11_copyRow rfl rfl rfl (Wp.f_al1_iconst (pc := 2) o_X11_copyRow rfl rfl rfl (Wp.f_al0_alen (pc := 4) o_X11_copyRow rfl rfl rfl lk_C_97 (Wp.f_al1_alen (pc := 6) o_X11_copyRow rfl rfl rfl lk_C_43 (Wp.r_min (pc := 8) o_X11_copyRow rfl (⟨rm8_ rfl, ?_⟩)))))
  obtain ⟨c9, H⟩ := oq_ck H
  refine Wp.run 1 (show room8 [] ∧ (¬ (0 : Int32) < 0 ∧ ¬ (0 : Int32) < 0 ∧ ¬ (if 8 < (8 : Int32) then 8 else (8 : Int32)) < 0 ∧ 0 + (if 8 < (8 : Int32) then 8 else (8 : Int32)).toNatClampNeg ≤ 8 ∧ 0 + (if 8 < (8 : Int32) then 8 else (8 : Int32)).toNatClampNeg ≤ 8) ∧ Y_X11_copyRow_43_97 d Q 14 [(0, .ref 97), (1, .ref 43)] [] (pA s 43 (va_cpy (s.1 97) (s.1 43) 0 0 (if 8 < (8 : Int32) then 8 else (8 : Int32)).toNatClampNeg)) from ⟨rm8_ rfl, c9, ?_⟩)
  exact Wp.r_return (pc := 14) o_X11_copyRow rfl (H)
noncomputable abbrev Y_X11_copyRow_44_98 (d : Nat) (Q : Qt) : Xt := Wp SHC (WpM SHC MT (d + 0)) (flat2 cq_X11_copyRow) (none) Q
noncomputable def f_X11_copyRow_44_98  (s : Sg) : Option (Unit × Sg) :=
  ck (¬ (0 : Int32) < 0 ∧ ¬ (0 : Int32) < 0 ∧ ¬ (if 4 < (4 : Int32) then 4 else (4 : Int32)) < 0 ∧ 0 + (if 4 < (4 : Int32) then 4 else (4 : Int32)).toNatClampNeg ≤ 4 ∧ 0 + (if 4 < (4 : Int32) then 4 else (4 : Int32)).toNatClampNeg ≤ 4) (
  some ((), pA s 44 (va_cpy (s.1 98) (s.1 44) 0 0 (if 4 < (4 : Int32) then 4 else (4 : Int32)).toNatClampNeg))
  )
set_option maxRecDepth 100000 in
theorem w_X11_copyRow_44_98 {d : Nat} {s : Sg} {Q : Qt}  (H : OQ (f_X11_copyRow_44_98  s) (fun _ s9 => Q none s9)) : WpM SHC MT (d + 1) 184 [.ref 98, .ref 44] s Q := by
  refine WpM.enter me_X11_copyRow rfl rfl ?_
  show Y_X11_copyRow_44_98 d Q 0 [(0, .ref 98), (1, .ref 44)] [] s
  unfold f_X11_copyRow_44_98 at H
  refine Wp.f_al0_iconst (pc := 0) o_X11_copyRow rfl rfl rfl (Wp.f_al1_iconst (pc := 2) o_X11_copyRow rfl rfl rfl (Wp.f_al0_alen (pc := 4) o_X11_copyRow rfl rfl rfl lk_C_98 (Wp.f_al1_alen (pc := 6) o_X11_copyRow rfl rfl rfl lk_C_44 (Wp.r_min (pc := 8) o_X11_copyRow rfl (⟨rm8_ rfl, ?_⟩)))))
  obtain ⟨c9, H⟩ := oq_ck H
  refine Wp.run 1 (show room8 [] ∧ (¬ (0 : Int32) < 0 ∧ ¬ (0 : Int32) < 0 ∧ ¬ (if 4 < (4 : Int32) then 4 else (4 : Int32)) < 0 ∧ 0 + (if 4 < (4 : Int32) then 4 else (4 : Int32)).toNatClampNeg ≤ 4 ∧ 0 + (if 4 < (4 : Int32) then 4 else (4 : Int32)).toNatClampNeg ≤ 4) ∧ Y_X11_copyRow_44_98 d Q 14 [(0, .ref 98), (1, .ref 44)] [] (pA s 44 (va_cpy (s.1 98) (s.1 44) 0 0 (if 4 < (4 : Int32) then 4 else (4 : Int32)).toNatClampNeg)) from ⟨rm8_ rfl, c9, ?_⟩)
  exact Wp.r_return (pc := 14) o_X11_copyRow rfl (H)
noncomputable abbrev Y_X2_copyFrom_80 (d : Nat) (Q : Qt) : Xt := Wp SHC (WpM SHC MT (d + 1)) (flat2 cq_X2_copyFrom) (none) Q
noncomputable def f_X2_copyFrom_80  (s : Sg) : Option (Unit × Sg) :=
  bd (f_X11_copyRow_40_94 s) (fun _ s2 =>
  bd (f_X11_copyRow_41_95 s2) (fun _ s4 =>
  bd (f_X11_copyRow_42_96 s4) (fun _ s6 =>
  bd (f_X11_copyRow_43_97 s6) (fun _ s8 =>
  bd (f_X11_copyRow_44_98 s8) (fun _ s10 =>
  nmx (pI (pI s10 26 5 (s10.1 80 5)) 26 6 ((pI s10 26 5 (s10.1 80 5)).1 80 6)) (fun s11 =>
  ck ((s11.1 80 7) = 0 ∨ (s11.1 80 7) = 1) (
  nmx (pI (pI s11 26 7 (s11.1 80 7)) 26 8 ((pI s11 26 7 (s11.1 80 7)).1 80 8)) (fun s13 =>
  nmx (pI (pI s13 26 9 (s13.1 80 9)) 26 10 ((pI s13 26 9 (s13.1 80 9)).1 80 10)) (fun s14 =>
  nmx (pI (pI s14 26 11 (s14.1 80 11)) 26 12 ((pI s14 26 11 (s14.1 80 11)).1 80 12)) (fun s15 =>
  some ((), s15)
  )
  )
  )
  )
  )
  )
  )
  )
  )
  )
set_option maxRecDepth 100000 in
theorem w_X2_copyFrom_80 {d : Nat} {s : Sg} {Q : Qt}  (H : OQ (f_X2_copyFrom_80  s) (fun _ s9 => Q none s9)) : WpM SHC MT (d + 2) 21 [.ref 26, .ref 80] s Q := by
  refine WpM.enter me_X2_copyFrom rfl rfl ?_
  show Y_X2_copyFrom_80 d Q 0 [(0, .ref 26), (1, .ref 80)] [] s
  unfold f_X2_copyFrom_80 at H
  refine Wp.f_al1_gfr (pc := 0) o_X2_copyFrom rfl rfl rfl fk_C_80_0 (Wp.f_al0_gfr (pc := 4) o_X2_copyFrom rfl rfl rfl fk_C_26_0 (Wp.r_cs2 (pc := 8) o_X2_copyFrom rfl (⟨rm8_ rfl, ?_⟩)))
  refine w_X11_copyRow_40_94 (d := d)  ?_
  refine oq_bd H (fun _ s2 H => ?_)
  refine Wp.f_al1_gfr (pc := 11) o_X2_copyFrom rfl rfl rfl fk_C_80_1 (Wp.f_al0_gfr (pc := 15) o_X2_copyFrom rfl rfl rfl fk_C_26_1 (Wp.r_cs2 (pc := 19) o_X2_copyFrom rfl (⟨rm8_ rfl, ?_⟩)))
  refine w_X11_copyRow_41_95 (d := d)  ?_
  refine oq_bd H (fun _ s4 H => ?_)
  refine Wp.f_al1_gfr (pc := 22) o_X2_copyFrom rfl rfl rfl fk_C_80_2 (Wp.f_al0_gfr (pc := 26) o_X2_copyFrom rfl rfl rfl fk_C_26_2 (Wp.r_cs2 (pc := 30) o_X2_copyFrom rfl (⟨rm8_ rfl, ?_⟩)))
  refine w_X11_copyRow_42_96 (d := d)  ?_
  refine oq_bd H (fun _ s6 H => ?_)
  refine Wp.f_al1_gfr (pc := 33) o_X2_copyFrom rfl rfl rfl fk_C_80_3 (Wp.f_al0_gfr (pc := 37) o_X2_copyFrom rfl rfl rfl fk_C_26_3 (Wp.r_cs2 (pc := 41) o_X2_copyFrom rfl (⟨rm8_ rfl, ?_⟩)))
  refine w_X11_copyRow_43_97 (d := d)  ?_
  refine oq_bd H (fun _ s8 H => ?_)
  refine Wp.f_al1_gfr (pc := 44) o_X2_copyFrom rfl rfl rfl fk_C_80_4 (Wp.f_al0_gfr (pc := 48) o_X2_copyFrom rfl rfl rfl fk_C_26_4 (Wp.r_cs2 (pc := 52) o_X2_copyFrom rfl (⟨rm8_ rfl, ?_⟩)))
  refine w_X11_copyRow_44_98 (d := d)  ?_
  refine oq_bd H (fun _ s10 H => ?_)
  refine Wp.r_aload_n0 (pc := 55) o_X2_copyFrom rfl rfl (Wp.f_al1_gfi (pc := 56) o_X2_copyFrom rfl rfl rfl fk_C_80_5 (Wp.r_pfi (pc := 60) o_X2_copyFrom rfl fk_C_26_5 (Wp.r_aload_n0 (pc := 63) o_X2_copyFrom rfl rfl (Wp.f_al1_gfi (pc := 64) o_X2_copyFrom rfl rfl rfl fk_C_80_6 (Wp.r_pfi (pc := 68) o_X2_copyFrom rfl fk_C_26_6 (show Y_X2_copyFrom_80 d Q 71 [(0, .ref 26), (1, .ref 80)] [] (pI (pI s10 26 5 (s10.1 80 5)) 26 6 ((pI s10 26 5 (s10.1 80 5)).1 80 6)) from ?_))))))
  revert H
  generalize pI (pI s10 26 5 (s10.1 80 5)) 26 6 ((pI s10 26 5 (s10.1 80 5)).1 80 6) = s11
  intro H
  have H := nmx_e H
  obtain ⟨hc12, H⟩ := oq_ck H
  refine Wp.r_aload_n0 (pc := 71) o_X2_copyFrom rfl rfl (Wp.f_al1_gfi (pc := 72) o_X2_copyFrom rfl rfl rfl fk_C_80_7 (Wp.r_pfz (pc := 76) o_X2_copyFrom rfl fk_C_26_7 (⟨hc12, ?_⟩)))
  refine Wp.r_aload_n0 (pc := 79) o_X2_copyFrom rfl rfl (Wp.f_al1_gfi (pc := 80) o_X2_copyFrom rfl rfl rfl fk_C_80_8 (Wp.r_pfi (pc := 84) o_X2_copyFrom rfl fk_C_26_8 (show Y_X2_copyFrom_80 d Q 87 [(0, .ref 26), (1, .ref 80)] [] (pI (pI s11 26 7 (s11.1 80 7)) 26 8 ((pI s11 26 7 (s11.1 80 7)).1 80 8)) from ?_)))
  revert H
  generalize pI (pI s11 26 7 (s11.1 80 7)) 26 8 ((pI s11 26 7 (s11.1 80 7)).1 80 8) = s13
  intro H
  have H := nmx_e H
  refine Wp.r_aload_n0 (pc := 87) o_X2_copyFrom rfl rfl (Wp.f_al1_gfi (pc := 88) o_X2_copyFrom rfl rfl rfl fk_C_80_9 (Wp.r_pfi (pc := 92) o_X2_copyFrom rfl fk_C_26_9 (Wp.r_aload_n0 (pc := 95) o_X2_copyFrom rfl rfl (Wp.f_al1_gfi (pc := 96) o_X2_copyFrom rfl rfl rfl fk_C_80_10 (Wp.r_pfi (pc := 100) o_X2_copyFrom rfl fk_C_26_10 (show Y_X2_copyFrom_80 d Q 103 [(0, .ref 26), (1, .ref 80)] [] (pI (pI s13 26 9 (s13.1 80 9)) 26 10 ((pI s13 26 9 (s13.1 80 9)).1 80 10)) from ?_))))))
  revert H
  generalize pI (pI s13 26 9 (s13.1 80 9)) 26 10 ((pI s13 26 9 (s13.1 80 9)).1 80 10) = s14
  intro H
  have H := nmx_e H
  refine Wp.r_aload_n0 (pc := 103) o_X2_copyFrom rfl rfl (Wp.f_al1_gfi (pc := 104) o_X2_copyFrom rfl rfl rfl fk_C_80_11 (Wp.r_pfi (pc := 108) o_X2_copyFrom rfl fk_C_26_11 (Wp.r_aload_n0 (pc := 111) o_X2_copyFrom rfl rfl (Wp.f_al1_gfi (pc := 112) o_X2_copyFrom rfl rfl rfl fk_C_80_12 (Wp.r_pfi (pc := 116) o_X2_copyFrom rfl fk_C_26_12 (show Y_X2_copyFrom_80 d Q 119 [(0, .ref 26), (1, .ref 80)] [] (pI (pI s14 26 11 (s14.1 80 11)) 26 12 ((pI s14 26 11 (s14.1 80 11)).1 80 12)) from ?_))))))
  revert H
  generalize pI (pI s14 26 11 (s14.1 80 11)) 26 12 ((pI s14 26 11 (s14.1 80 11)).1 80 12) = s15
  intro H
  have H := nmx_e H
  exact Wp.r_return (pc := 119) o_X2_copyFrom rfl (H)
noncomputable abbrev Y_X11_copyRow_45_99 (d : Nat) (Q : Qt) : Xt := Wp SHC (WpM SHC MT (d + 0)) (flat2 cq_X11_copyRow) (none) Q
noncomputable def f_X11_copyRow_45_99  (s : Sg) : Option (Unit × Sg) :=
  ck (¬ (0 : Int32) < 0 ∧ ¬ (0 : Int32) < 0 ∧ ¬ (if 60 < (60 : Int32) then 60 else (60 : Int32)) < 0 ∧ 0 + (if 60 < (60 : Int32) then 60 else (60 : Int32)).toNatClampNeg ≤ 60 ∧ 0 + (if 60 < (60 : Int32) then 60 else (60 : Int32)).toNatClampNeg ≤ 60) (
  some ((), pA s 45 (va_cpy (s.1 99) (s.1 45) 0 0 (if 60 < (60 : Int32) then 60 else (60 : Int32)).toNatClampNeg))
  )
set_option maxRecDepth 100000 in
theorem w_X11_copyRow_45_99 {d : Nat} {s : Sg} {Q : Qt}  (H : OQ (f_X11_copyRow_45_99  s) (fun _ s9 => Q none s9)) : WpM SHC MT (d + 1) 184 [.ref 99, .ref 45] s Q := by
  refine WpM.enter me_X11_copyRow rfl rfl ?_
  show Y_X11_copyRow_45_99 d Q 0 [(0, .ref 99), (1, .ref 45)] [] s
  unfold f_X11_copyRow_45_99 at H
  refine Wp.f_al0_iconst (pc := 0) o_X11_copyRow rfl rfl rfl (Wp.f_al1_iconst (pc := 2) o_X11_copyRow rfl rfl rfl (Wp.f_al0_alen (pc := 4) o_X11_copyRow rfl rfl rfl lk_C_99 (Wp.f_al1_alen (pc := 6) o_X11_copyRow rfl rfl rfl lk_C_45 (Wp.r_min (pc := 8) o_X11_copyRow rfl (⟨rm8_ rfl, ?_⟩)))))
  obtain ⟨c9, H⟩ := oq_ck H
  refine Wp.run 1 (show room8 [] ∧ (¬ (0 : Int32) < 0 ∧ ¬ (0 : Int32) < 0 ∧ ¬ (if 60 < (60 : Int32) then 60 else (60 : Int32)) < 0 ∧ 0 + (if 60 < (60 : Int32) then 60 else (60 : Int32)).toNatClampNeg ≤ 60 ∧ 0 + (if 60 < (60 : Int32) then 60 else (60 : Int32)).toNatClampNeg ≤ 60) ∧ Y_X11_copyRow_45_99 d Q 14 [(0, .ref 99), (1, .ref 45)] [] (pA s 45 (va_cpy (s.1 99) (s.1 45) 0 0 (if 60 < (60 : Int32) then 60 else (60 : Int32)).toNatClampNeg)) from ⟨rm8_ rfl, c9, ?_⟩)
  exact Wp.r_return (pc := 14) o_X11_copyRow rfl (H)
noncomputable abbrev Y_X11_copyRow_46_100 (d : Nat) (Q : Qt) : Xt := Wp SHC (WpM SHC MT (d + 0)) (flat2 cq_X11_copyRow) (none) Q
noncomputable def f_X11_copyRow_46_100  (s : Sg) : Option (Unit × Sg) :=
  ck (¬ (0 : Int32) < 0 ∧ ¬ (0 : Int32) < 0 ∧ ¬ (if 60 < (60 : Int32) then 60 else (60 : Int32)) < 0 ∧ 0 + (if 60 < (60 : Int32) then 60 else (60 : Int32)).toNatClampNeg ≤ 60 ∧ 0 + (if 60 < (60 : Int32) then 60 else (60 : Int32)).toNatClampNeg ≤ 60) (
  some ((), pA s 46 (va_cpy (s.1 100) (s.1 46) 0 0 (if 60 < (60 : Int32) then 60 else (60 : Int32)).toNatClampNeg))
  )
set_option maxRecDepth 100000 in
theorem w_X11_copyRow_46_100 {d : Nat} {s : Sg} {Q : Qt}  (H : OQ (f_X11_copyRow_46_100  s) (fun _ s9 => Q none s9)) : WpM SHC MT (d + 1) 184 [.ref 100, .ref 46] s Q := by
  refine WpM.enter me_X11_copyRow rfl rfl ?_
  show Y_X11_copyRow_46_100 d Q 0 [(0, .ref 100), (1, .ref 46)] [] s
  unfold f_X11_copyRow_46_100 at H
  refine Wp.f_al0_iconst (pc := 0) o_X11_copyRow rfl rfl rfl (Wp.f_al1_iconst (pc := 2) o_X11_copyRow rfl rfl rfl (Wp.f_al0_alen (pc := 4) o_X11_copyRow rfl rfl rfl lk_C_100 (Wp.f_al1_alen (pc := 6) o_X11_copyRow rfl rfl rfl lk_C_46 (Wp.r_min (pc := 8) o_X11_copyRow rfl (⟨rm8_ rfl, ?_⟩)))))
  obtain ⟨c9, H⟩ := oq_ck H
  refine Wp.run 1 (show room8 [] ∧ (¬ (0 : Int32) < 0 ∧ ¬ (0 : Int32) < 0 ∧ ¬ (if 60 < (60 : Int32) then 60 else (60 : Int32)) < 0 ∧ 0 + (if 60 < (60 : Int32) then 60 else (60 : Int32)).toNatClampNeg ≤ 60 ∧ 0 + (if 60 < (60 : Int32) then 60 else (60 : Int32)).toNatClampNeg ≤ 60) ∧ Y_X11_copyRow_46_100 d Q 14 [(0, .ref 100), (1, .ref 46)] [] (pA s 46 (va_cpy (s.1 100) (s.1 46) 0 0 (if 60 < (60 : Int32) then 60 else (60 : Int32)).toNatClampNeg)) from ⟨rm8_ rfl, c9, ?_⟩)
  exact Wp.r_return (pc := 14) o_X11_copyRow rfl (H)
noncomputable abbrev Y_X11_copyRow_47_101 (d : Nat) (Q : Qt) : Xt := Wp SHC (WpM SHC MT (d + 0)) (flat2 cq_X11_copyRow) (none) Q
noncomputable def f_X11_copyRow_47_101  (s : Sg) : Option (Unit × Sg) :=
  ck (¬ (0 : Int32) < 0 ∧ ¬ (0 : Int32) < 0 ∧ ¬ (if 60 < (60 : Int32) then 60 else (60 : Int32)) < 0 ∧ 0 + (if 60 < (60 : Int32) then 60 else (60 : Int32)).toNatClampNeg ≤ 60 ∧ 0 + (if 60 < (60 : Int32) then 60 else (60 : Int32)).toNatClampNeg ≤ 60) (
  some ((), pA s 47 (va_cpy (s.1 101) (s.1 47) 0 0 (if 60 < (60 : Int32) then 60 else (60 : Int32)).toNatClampNeg))
  )
set_option maxRecDepth 100000 in
theorem w_X11_copyRow_47_101 {d : Nat} {s : Sg} {Q : Qt}  (H : OQ (f_X11_copyRow_47_101  s) (fun _ s9 => Q none s9)) : WpM SHC MT (d + 1) 184 [.ref 101, .ref 47] s Q := by
  refine WpM.enter me_X11_copyRow rfl rfl ?_
  show Y_X11_copyRow_47_101 d Q 0 [(0, .ref 101), (1, .ref 47)] [] s
  unfold f_X11_copyRow_47_101 at H
  refine Wp.f_al0_iconst (pc := 0) o_X11_copyRow rfl rfl rfl (Wp.f_al1_iconst (pc := 2) o_X11_copyRow rfl rfl rfl (Wp.f_al0_alen (pc := 4) o_X11_copyRow rfl rfl rfl lk_C_101 (Wp.f_al1_alen (pc := 6) o_X11_copyRow rfl rfl rfl lk_C_47 (Wp.r_min (pc := 8) o_X11_copyRow rfl (⟨rm8_ rfl, ?_⟩)))))
  obtain ⟨c9, H⟩ := oq_ck H
  refine Wp.run 1 (show room8 [] ∧ (¬ (0 : Int32) < 0 ∧ ¬ (0 : Int32) < 0 ∧ ¬ (if 60 < (60 : Int32) then 60 else (60 : Int32)) < 0 ∧ 0 + (if 60 < (60 : Int32) then 60 else (60 : Int32)).toNatClampNeg ≤ 60 ∧ 0 + (if 60 < (60 : Int32) then 60 else (60 : Int32)).toNatClampNeg ≤ 60) ∧ Y_X11_copyRow_47_101 d Q 14 [(0, .ref 101), (1, .ref 47)] [] (pA s 47 (va_cpy (s.1 101) (s.1 47) 0 0 (if 60 < (60 : Int32) then 60 else (60 : Int32)).toNatClampNeg)) from ⟨rm8_ rfl, c9, ?_⟩)
  exact Wp.r_return (pc := 14) o_X11_copyRow rfl (H)
noncomputable abbrev Y_X11_copyRow_48_102 (d : Nat) (Q : Qt) : Xt := Wp SHC (WpM SHC MT (d + 0)) (flat2 cq_X11_copyRow) (none) Q
noncomputable def f_X11_copyRow_48_102  (s : Sg) : Option (Unit × Sg) :=
  ck (¬ (0 : Int32) < 0 ∧ ¬ (0 : Int32) < 0 ∧ ¬ (if 60 < (60 : Int32) then 60 else (60 : Int32)) < 0 ∧ 0 + (if 60 < (60 : Int32) then 60 else (60 : Int32)).toNatClampNeg ≤ 60 ∧ 0 + (if 60 < (60 : Int32) then 60 else (60 : Int32)).toNatClampNeg ≤ 60) (
  some ((), pA s 48 (va_cpy (s.1 102) (s.1 48) 0 0 (if 60 < (60 : Int32) then 60 else (60 : Int32)).toNatClampNeg))
  )
set_option maxRecDepth 100000 in
theorem w_X11_copyRow_48_102 {d : Nat} {s : Sg} {Q : Qt}  (H : OQ (f_X11_copyRow_48_102  s) (fun _ s9 => Q none s9)) : WpM SHC MT (d + 1) 184 [.ref 102, .ref 48] s Q := by
  refine WpM.enter me_X11_copyRow rfl rfl ?_
  show Y_X11_copyRow_48_102 d Q 0 [(0, .ref 102), (1, .ref 48)] [] s
  unfold f_X11_copyRow_48_102 at H
  refine Wp.f_al0_iconst (pc := 0) o_X11_copyRow rfl rfl rfl (Wp.f_al1_iconst (pc := 2) o_X11_copyRow rfl rfl rfl (Wp.f_al0_alen (pc := 4) o_X11_copyRow rfl rfl rfl lk_C_102 (Wp.f_al1_alen (pc := 6) o_X11_copyRow rfl rfl rfl lk_C_48 (Wp.r_min (pc := 8) o_X11_copyRow rfl (⟨rm8_ rfl, ?_⟩)))))
  obtain ⟨c9, H⟩ := oq_ck H
  refine Wp.run 1 (show room8 [] ∧ (¬ (0 : Int32) < 0 ∧ ¬ (0 : Int32) < 0 ∧ ¬ (if 60 < (60 : Int32) then 60 else (60 : Int32)) < 0 ∧ 0 + (if 60 < (60 : Int32) then 60 else (60 : Int32)).toNatClampNeg ≤ 60 ∧ 0 + (if 60 < (60 : Int32) then 60 else (60 : Int32)).toNatClampNeg ≤ 60) ∧ Y_X11_copyRow_48_102 d Q 14 [(0, .ref 102), (1, .ref 48)] [] (pA s 48 (va_cpy (s.1 102) (s.1 48) 0 0 (if 60 < (60 : Int32) then 60 else (60 : Int32)).toNatClampNeg)) from ⟨rm8_ rfl, c9, ?_⟩)
  exact Wp.r_return (pc := 14) o_X11_copyRow rfl (H)
noncomputable abbrev Y_X11_copyRow_49_103 (d : Nat) (Q : Qt) : Xt := Wp SHC (WpM SHC MT (d + 0)) (flat2 cq_X11_copyRow) (none) Q
noncomputable def f_X11_copyRow_49_103  (s : Sg) : Option (Unit × Sg) :=
  ck (¬ (0 : Int32) < 0 ∧ ¬ (0 : Int32) < 0 ∧ ¬ (if 60 < (60 : Int32) then 60 else (60 : Int32)) < 0 ∧ 0 + (if 60 < (60 : Int32) then 60 else (60 : Int32)).toNatClampNeg ≤ 60 ∧ 0 + (if 60 < (60 : Int32) then 60 else (60 : Int32)).toNatClampNeg ≤ 60) (
  some ((), pA s 49 (va_cpy (s.1 103) (s.1 49) 0 0 (if 60 < (60 : Int32) then 60 else (60 : Int32)).toNatClampNeg))
  )
set_option maxRecDepth 100000 in
theorem w_X11_copyRow_49_103 {d : Nat} {s : Sg} {Q : Qt}  (H : OQ (f_X11_copyRow_49_103  s) (fun _ s9 => Q none s9)) : WpM SHC MT (d + 1) 184 [.ref 103, .ref 49] s Q := by
  refine WpM.enter me_X11_copyRow rfl rfl ?_
  show Y_X11_copyRow_49_103 d Q 0 [(0, .ref 103), (1, .ref 49)] [] s
  unfold f_X11_copyRow_49_103 at H
  refine Wp.f_al0_iconst (pc := 0) o_X11_copyRow rfl rfl rfl (Wp.f_al1_iconst (pc := 2) o_X11_copyRow rfl rfl rfl (Wp.f_al0_alen (pc := 4) o_X11_copyRow rfl rfl rfl lk_C_103 (Wp.f_al1_alen (pc := 6) o_X11_copyRow rfl rfl rfl lk_C_49 (Wp.r_min (pc := 8) o_X11_copyRow rfl (⟨rm8_ rfl, ?_⟩)))))
  obtain ⟨c9, H⟩ := oq_ck H
  refine Wp.run 1 (show room8 [] ∧ (¬ (0 : Int32) < 0 ∧ ¬ (0 : Int32) < 0 ∧ ¬ (if 60 < (60 : Int32) then 60 else (60 : Int32)) < 0 ∧ 0 + (if 60 < (60 : Int32) then 60 else (60 : Int32)).toNatClampNeg ≤ 60 ∧ 0 + (if 60 < (60 : Int32) then 60 else (60 : Int32)).toNatClampNeg ≤ 60) ∧ Y_X11_copyRow_49_103 d Q 14 [(0, .ref 103), (1, .ref 49)] [] (pA s 49 (va_cpy (s.1 103) (s.1 49) 0 0 (if 60 < (60 : Int32) then 60 else (60 : Int32)).toNatClampNeg)) from ⟨rm8_ rfl, c9, ?_⟩)
  exact Wp.r_return (pc := 14) o_X11_copyRow rfl (H)
noncomputable abbrev Y_X11_copyRow_50_104 (d : Nat) (Q : Qt) : Xt := Wp SHC (WpM SHC MT (d + 0)) (flat2 cq_X11_copyRow) (none) Q
noncomputable def f_X11_copyRow_50_104  (s : Sg) : Option (Unit × Sg) :=
  ck (¬ (0 : Int32) < 0 ∧ ¬ (0 : Int32) < 0 ∧ ¬ (if 60 < (60 : Int32) then 60 else (60 : Int32)) < 0 ∧ 0 + (if 60 < (60 : Int32) then 60 else (60 : Int32)).toNatClampNeg ≤ 60 ∧ 0 + (if 60 < (60 : Int32) then 60 else (60 : Int32)).toNatClampNeg ≤ 60) (
  some ((), pA s 50 (va_cpy (s.1 104) (s.1 50) 0 0 (if 60 < (60 : Int32) then 60 else (60 : Int32)).toNatClampNeg))
  )
set_option maxRecDepth 100000 in
theorem w_X11_copyRow_50_104 {d : Nat} {s : Sg} {Q : Qt}  (H : OQ (f_X11_copyRow_50_104  s) (fun _ s9 => Q none s9)) : WpM SHC MT (d + 1) 184 [.ref 104, .ref 50] s Q := by
  refine WpM.enter me_X11_copyRow rfl rfl ?_
  show Y_X11_copyRow_50_104 d Q 0 [(0, .ref 104), (1, .ref 50)] [] s
  unfold f_X11_copyRow_50_104 at H
  refine Wp.f_al0_iconst (pc := 0) o_X11_copyRow rfl rfl rfl (Wp.f_al1_iconst (pc := 2) o_X11_copyRow rfl rfl rfl (Wp.f_al0_alen (pc := 4) o_X11_copyRow rfl rfl rfl lk_C_104 (Wp.f_al1_alen (pc := 6) o_X11_copyRow rfl rfl rfl lk_C_50 (Wp.r_min (pc := 8) o_X11_copyRow rfl (⟨rm8_ rfl, ?_⟩)))))
  obtain ⟨c9, H⟩ := oq_ck H
  refine Wp.run 1 (show room8 [] ∧ (¬ (0 : Int32) < 0 ∧ ¬ (0 : Int32) < 0 ∧ ¬ (if 60 < (60 : Int32) then 60 else (60 : Int32)) < 0 ∧ 0 + (if 60 < (60 : Int32) then 60 else (60 : Int32)).toNatClampNeg ≤ 60 ∧ 0 + (if 60 < (60 : Int32) then 60 else (60 : Int32)).toNatClampNeg ≤ 60) ∧ Y_X11_copyRow_50_104 d Q 14 [(0, .ref 104), (1, .ref 50)] [] (pA s 50 (va_cpy (s.1 104) (s.1 50) 0 0 (if 60 < (60 : Int32) then 60 else (60 : Int32)).toNatClampNeg)) from ⟨rm8_ rfl, c9, ?_⟩)
  exact Wp.r_return (pc := 14) o_X11_copyRow rfl (H)
noncomputable abbrev Y_X5_copyFrom_81 (d : Nat) (Q : Qt) : Xt := Wp SHC (WpM SHC MT (d + 1)) (flat2 cq_X5_copyFrom) (none) Q
noncomputable def f_X5_copyFrom_81  (s : Sg) : Option (Unit × Sg) :=
  bd (f_X11_copyRow_45_99 s) (fun _ s2 =>
  bd (f_X11_copyRow_46_100 s2) (fun _ s4 =>
  bd (f_X11_copyRow_47_101 s4) (fun _ s6 =>
  bd (f_X11_copyRow_48_102 s6) (fun _ s8 =>
  bd (f_X11_copyRow_49_103 s8) (fun _ s10 =>
  bd (f_X11_copyRow_50_104 s10) (fun _ s12 =>
  ck ((s12.1 81 6) = 0 ∨ (s12.1 81 6) = 1) (
  nmx (pI (pI s12 27 6 (s12.1 81 6)) 27 7 ((pI s12 27 6 (s12.1 81 6)).1 81 7)) (fun s14 =>
  some ((), pI s14 27 8 (s14.1 81 8))
  )
  )
  )
  )
  )
  )
  )
  )
set_option maxRecDepth 100000 in
theorem w_X5_copyFrom_81 {d : Nat} {s : Sg} {Q : Qt}  (H : OQ (f_X5_copyFrom_81  s) (fun _ s9 => Q none s9)) : WpM SHC MT (d + 2) 62 [.ref 27, .ref 81] s Q := by
  refine WpM.enter me_X5_copyFrom rfl rfl ?_
  show Y_X5_copyFrom_81 d Q 0 [(0, .ref 27), (1, .ref 81)] [] s
  unfold f_X5_copyFrom_81 at H
  refine Wp.f_al1_gfr (pc := 0) o_X5_copyFrom rfl rfl rfl fk_C_81_0 (Wp.f_al0_gfr (pc := 4) o_X5_copyFrom rfl rfl rfl fk_C_27_0 (Wp.r_cs2 (pc := 8) o_X5_copyFrom rfl (⟨rm8_ rfl, ?_⟩)))
  refine w_X11_copyRow_45_99 (d := d)  ?_
  refine oq_bd H (fun _ s2 H => ?_)
  refine Wp.f_al1_gfr (pc := 11) o_X5_copyFrom rfl rfl rfl fk_C_81_1 (Wp.f_al0_gfr (pc := 15) o_X5_copyFrom rfl rfl rfl fk_C_27_1 (Wp.r_cs2 (pc := 19) o_X5_copyFrom rfl (⟨rm8_ rfl, ?_⟩)))
  refine w_X11_copyRow_46_100 (d := d)  ?_
  refine oq_bd H (fun _ s4 H => ?_)
  refine Wp.f_al1_gfr (pc := 22) o_X5_copyFrom rfl rfl rfl fk_C_81_2 (Wp.f_al0_gfr (pc := 26) o_X5_copyFrom rfl rfl rfl fk_C_27_2 (Wp.r_cs2 (pc := 30) o_X5_copyFrom rfl (⟨rm8_ rfl, ?_⟩)))
  refine w_X11_copyRow_47_101 (d := d)  ?_
  refine oq_bd H (fun _ s6 H => ?_)
  refine Wp.f_al1_gfr (pc := 33) o_X5_copyFrom rfl rfl rfl fk_C_81_3 (Wp.f_al0_gfr (pc := 37) o_X5_copyFrom rfl rfl rfl fk_C_27_3 (Wp.r_cs2 (pc := 41) o_X5_copyFrom rfl (⟨rm8_ rfl, ?_⟩)))
  refine w_X11_copyRow_48_102 (d := d)  ?_
  refine oq_bd H (fun _ s8 H => ?_)
  refine Wp.f_al1_gfr (pc := 44) o_X5_copyFrom rfl rfl rfl fk_C_81_4 (Wp.f_al0_gfr (pc := 48) o_X5_copyFrom rfl rfl rfl fk_C_27_4 (Wp.r_cs2 (pc := 52) o_X5_copyFrom rfl (⟨rm8_ rfl, ?_⟩)))
  refine w_X11_copyRow_49_103 (d := d)  ?_
  refine oq_bd H (fun _ s10 H => ?_)
  refine Wp.f_al1_gfr (pc := 55) o_X5_copyFrom rfl rfl rfl fk_C_81_5 (Wp.f_al0_gfr (pc := 59) o_X5_copyFrom rfl rfl rfl fk_C_27_5 (Wp.r_cs2 (pc := 63) o_X5_copyFrom rfl (⟨rm8_ rfl, ?_⟩)))
  refine w_X11_copyRow_50_104 (d := d)  ?_
  refine oq_bd H (fun _ s12 H => ?_)
  obtain ⟨hc13, H⟩ := oq_ck H
  refine Wp.r_aload_n0 (pc := 66) o_X5_copyFrom rfl rfl (Wp.f_al1_gfi (pc := 67) o_X5_copyFrom rfl rfl rfl fk_C_81_6 (Wp.r_pfz (pc := 71) o_X5_copyFrom rfl fk_C_27_6 (⟨hc13, ?_⟩)))
  refine Wp.r_aload_n0 (pc := 74) o_X5_copyFrom rfl rfl (Wp.f_al1_gfi (pc := 75) o_X5_copyFrom rfl rfl rfl fk_C_81_7 (Wp.r_pfi (pc := 79) o_X5_copyFrom rfl fk_C_27_7 (show Y_X5_copyFrom_81 d Q 82 [(0, .ref 27), (1, .ref 81)] [] (pI (pI s12 27 6 (s12.1 81 6)) 27 7 ((pI s12 27 6 (s12.1 81 6)).1 81 7)) from ?_)))
  revert H
  generalize pI (pI s12 27 6 (s12.1 81 6)) 27 7 ((pI s12 27 6 (s12.1 81 6)).1 81 7) = s14
  intro H
  have H := nmx_e H
  exact Wp.r_aload_n0 (pc := 82) o_X5_copyFrom rfl rfl (Wp.f_al1_gfi (pc := 83) o_X5_copyFrom rfl rfl rfl fk_C_81_8 (Wp.r_pfi (pc := 87) o_X5_copyFrom rfl fk_C_27_8 (Wp.r_return (pc := 90) o_X5_copyFrom rfl (H))))
noncomputable abbrev Y_X10_copyFrom_78 (d : Nat) (Q : Qt) : Xt := Wp SHC (WpM SHC MT (d + 2)) (flat2 cq_X10_copyFrom) (none) Q
noncomputable def f_X10_copyFrom_78  (s : Sg) : Option (Unit × Sg) :=
  bd (f_X4_copyFrom_79 s) (fun _ s2 =>
  bd (f_X2_copyFrom_80 s2) (fun _ s4 =>
  bd (f_X5_copyFrom_81 s4) (fun _ s6 =>
  some ((), s6)
  )
  )
  )
set_option maxRecDepth 100000 in
theorem w_X10_copyFrom_78 {d : Nat} {s : Sg} {Q : Qt}  (H : OQ (f_X10_copyFrom_78  s) (fun _ s9 => Q none s9)) : WpM SHC MT (d + 3) 101 [.ref 24, .ref 78] s Q := by
  refine WpM.enter me_X10_copyFrom rfl rfl ?_
  show Y_X10_copyFrom_78 d Q 0 [(0, .ref 24), (1, .ref 78)] [] s
  unfold f_X10_copyFrom_78 at H
  refine Wp.f_al0_gfr (pc := 0) o_X10_copyFrom rfl rfl rfl fk_C_24_0 (Wp.f_al1_gfr (pc := 4) o_X10_copyFrom rfl rfl rfl fk_C_78_0 (Wp.r_cv2 (pc := 8) o_X10_copyFrom rfl fk_C_25_0 (⟨rm8_ rfl, ?_⟩)))
  refine w_X4_copyFrom_79 (d := d)  ?_
  refine oq_bd H (fun _ s2 H => ?_)
  refine Wp.f_al0_gfr (pc := 11) o_X10_copyFrom rfl rfl rfl fk_C_24_1 (Wp.f_al1_gfr (pc := 15) o_X10_copyFrom rfl rfl rfl fk_C_78_1 (Wp.r_cv2 (pc := 19) o_X10_copyFrom rfl fk_C_26_0 (⟨rm8_ rfl, ?_⟩)))
  refine w_X2_copyFrom_80 (d := d)  ?_
  refine oq_bd H (fun _ s4 H => ?_)
  refine Wp.f_al0_gfr (pc := 22) o_X10_copyFrom rfl rfl rfl fk_C_24_2 (Wp.f_al1_gfr (pc := 26) o_X10_copyFrom rfl rfl rfl fk_C_78_2 (Wp.r_cv2 (pc := 30) o_X10_copyFrom rfl fk_C_27_0 (⟨rm8_ rfl, ?_⟩)))
  refine w_X5_copyFrom_81 (d := d)  ?_
  refine oq_bd H (fun _ s6 H => ?_)
  exact Wp.r_return (pc := 33) o_X10_copyFrom rfl (H)
noncomputable abbrev Y_X11_copyRow_29_110 (d : Nat) (Q : Qt) : Xt := Wp SHC (WpM SHC MT (d + 0)) (flat2 cq_X11_copyRow) (none) Q
noncomputable def f_X11_copyRow_29_110  (s : Sg) : Option (Unit × Sg) :=
  ck (¬ (0 : Int32) < 0 ∧ ¬ (0 : Int32) < 0 ∧ ¬ (if 24 < (24 : Int32) then 24 else (24 : Int32)) < 0 ∧ 0 + (if 24 < (24 : Int32) then 24 else (24 : Int32)).toNatClampNeg ≤ 24 ∧ 0 + (if 24 < (24 : Int32) then 24 else (24 : Int32)).toNatClampNeg ≤ 24) (
  some ((), pA s 29 (va_cpy (s.1 110) (s.1 29) 0 0 (if 24 < (24 : Int32) then 24 else (24 : Int32)).toNatClampNeg))
  )
set_option maxRecDepth 100000 in
theorem w_X11_copyRow_29_110 {d : Nat} {s : Sg} {Q : Qt}  (H : OQ (f_X11_copyRow_29_110  s) (fun _ s9 => Q none s9)) : WpM SHC MT (d + 1) 184 [.ref 110, .ref 29] s Q := by
  refine WpM.enter me_X11_copyRow rfl rfl ?_
  show Y_X11_copyRow_29_110 d Q 0 [(0, .ref 110), (1, .ref 29)] [] s
  unfold f_X11_copyRow_29_110 at H
  refine Wp.f_al0_iconst (pc := 0) o_X11_copyRow rfl rfl rfl (Wp.f_al1_iconst (pc := 2) o_X11_copyRow rfl rfl rfl (Wp.f_al0_alen (pc := 4) o_X11_copyRow rfl rfl rfl lk_C_110 (Wp.f_al1_alen (pc := 6) o_X11_copyRow rfl rfl rfl lk_C_29 (Wp.r_min (pc := 8) o_X11_copyRow rfl (⟨rm8_ rfl, ?_⟩)))))
  obtain ⟨c9, H⟩ := oq_ck H
  refine Wp.run 1 (show room8 [] ∧ (¬ (0 : Int32) < 0 ∧ ¬ (0 : Int32) < 0 ∧ ¬ (if 24 < (24 : Int32) then 24 else (24 : Int32)) < 0 ∧ 0 + (if 24 < (24 : Int32) then 24 else (24 : Int32)).toNatClampNeg ≤ 24 ∧ 0 + (if 24 < (24 : Int32) then 24 else (24 : Int32)).toNatClampNeg ≤ 24) ∧ Y_X11_copyRow_29_110 d Q 14 [(0, .ref 110), (1, .ref 29)] [] (pA s 29 (va_cpy (s.1 110) (s.1 29) 0 0 (if 24 < (24 : Int32) then 24 else (24 : Int32)).toNatClampNeg)) from ⟨rm8_ rfl, c9, ?_⟩)
  exact Wp.r_return (pc := 14) o_X11_copyRow rfl (H)
noncomputable abbrev Y_X11_copyRow_30_111 (d : Nat) (Q : Qt) : Xt := Wp SHC (WpM SHC MT (d + 0)) (flat2 cq_X11_copyRow) (none) Q
noncomputable def f_X11_copyRow_30_111  (s : Sg) : Option (Unit × Sg) :=
  ck (¬ (0 : Int32) < 0 ∧ ¬ (0 : Int32) < 0 ∧ ¬ (if 24 < (24 : Int32) then 24 else (24 : Int32)) < 0 ∧ 0 + (if 24 < (24 : Int32) then 24 else (24 : Int32)).toNatClampNeg ≤ 24 ∧ 0 + (if 24 < (24 : Int32) then 24 else (24 : Int32)).toNatClampNeg ≤ 24) (
  some ((), pA s 30 (va_cpy (s.1 111) (s.1 30) 0 0 (if 24 < (24 : Int32) then 24 else (24 : Int32)).toNatClampNeg))
  )
set_option maxRecDepth 100000 in
theorem w_X11_copyRow_30_111 {d : Nat} {s : Sg} {Q : Qt}  (H : OQ (f_X11_copyRow_30_111  s) (fun _ s9 => Q none s9)) : WpM SHC MT (d + 1) 184 [.ref 111, .ref 30] s Q := by
  refine WpM.enter me_X11_copyRow rfl rfl ?_
  show Y_X11_copyRow_30_111 d Q 0 [(0, .ref 111), (1, .ref 30)] [] s
  unfold f_X11_copyRow_30_111 at H
  refine Wp.f_al0_iconst (pc := 0) o_X11_copyRow rfl rfl rfl (Wp.f_al1_iconst (pc := 2) o_X11_copyRow rfl rfl rfl (Wp.f_al0_alen (pc := 4) o_X11_copyRow rfl rfl rfl lk_C_111 (Wp.f_al1_alen (pc := 6) o_X11_copyRow rfl rfl rfl lk_C_30 (Wp.r_min (pc := 8) o_X11_copyRow rfl (⟨rm8_ rfl, ?_⟩)))))
  obtain ⟨c9, H⟩ := oq_ck H
  refine Wp.run 1 (show room8 [] ∧ (¬ (0 : Int32) < 0 ∧ ¬ (0 : Int32) < 0 ∧ ¬ (if 24 < (24 : Int32) then 24 else (24 : Int32)) < 0 ∧ 0 + (if 24 < (24 : Int32) then 24 else (24 : Int32)).toNatClampNeg ≤ 24 ∧ 0 + (if 24 < (24 : Int32) then 24 else (24 : Int32)).toNatClampNeg ≤ 24) ∧ Y_X11_copyRow_30_111 d Q 14 [(0, .ref 111), (1, .ref 30)] [] (pA s 30 (va_cpy (s.1 111) (s.1 30) 0 0 (if 24 < (24 : Int32) then 24 else (24 : Int32)).toNatClampNeg)) from ⟨rm8_ rfl, c9, ?_⟩)
  exact Wp.r_return (pc := 14) o_X11_copyRow rfl (H)
noncomputable abbrev Y_X11_copyRow_31_112 (d : Nat) (Q : Qt) : Xt := Wp SHC (WpM SHC MT (d + 0)) (flat2 cq_X11_copyRow) (none) Q
noncomputable def f_X11_copyRow_31_112  (s : Sg) : Option (Unit × Sg) :=
  ck (¬ (0 : Int32) < 0 ∧ ¬ (0 : Int32) < 0 ∧ ¬ (if 8 < (8 : Int32) then 8 else (8 : Int32)) < 0 ∧ 0 + (if 8 < (8 : Int32) then 8 else (8 : Int32)).toNatClampNeg ≤ 8 ∧ 0 + (if 8 < (8 : Int32) then 8 else (8 : Int32)).toNatClampNeg ≤ 8) (
  some ((), pA s 31 (va_cpy (s.1 112) (s.1 31) 0 0 (if 8 < (8 : Int32) then 8 else (8 : Int32)).toNatClampNeg))
  )
set_option maxRecDepth 100000 in
theorem w_X11_copyRow_31_112 {d : Nat} {s : Sg} {Q : Qt}  (H : OQ (f_X11_copyRow_31_112  s) (fun _ s9 => Q none s9)) : WpM SHC MT (d + 1) 184 [.ref 112, .ref 31] s Q := by
  refine WpM.enter me_X11_copyRow rfl rfl ?_
  show Y_X11_copyRow_31_112 d Q 0 [(0, .ref 112), (1, .ref 31)] [] s
  unfold f_X11_copyRow_31_112 at H
  refine Wp.f_al0_iconst (pc := 0) o_X11_copyRow rfl rfl rfl (Wp.f_al1_iconst (pc := 2) o_X11_copyRow rfl rfl rfl (Wp.f_al0_alen (pc := 4) o_X11_copyRow rfl rfl rfl lk_C_112 (Wp.f_al1_alen (pc := 6) o_X11_copyRow rfl rfl rfl lk_C_31 (Wp.r_min (pc := 8) o_X11_copyRow rfl (⟨rm8_ rfl, ?_⟩)))))
  obtain ⟨c9, H⟩ := oq_ck H
  refine Wp.run 1 (show room8 [] ∧ (¬ (0 : Int32) < 0 ∧ ¬ (0 : Int32) < 0 ∧ ¬ (if 8 < (8 : Int32) then 8 else (8 : Int32)) < 0 ∧ 0 + (if 8 < (8 : Int32) then 8 else (8 : Int32)).toNatClampNeg ≤ 8 ∧ 0 + (if 8 < (8 : Int32) then 8 else (8 : Int32)).toNatClampNeg ≤ 8) ∧ Y_X11_copyRow_31_112 d Q 14 [(0, .ref 112), (1, .ref 31)] [] (pA s 31 (va_cpy (s.1 112) (s.1 31) 0 0 (if 8 < (8 : Int32) then 8 else (8 : Int32)).toNatClampNeg)) from ⟨rm8_ rfl, c9, ?_⟩)
  exact Wp.r_return (pc := 14) o_X11_copyRow rfl (H)
noncomputable abbrev Y_X11_copyRow_32_113 (d : Nat) (Q : Qt) : Xt := Wp SHC (WpM SHC MT (d + 0)) (flat2 cq_X11_copyRow) (none) Q
noncomputable def f_X11_copyRow_32_113  (s : Sg) : Option (Unit × Sg) :=
  ck (¬ (0 : Int32) < 0 ∧ ¬ (0 : Int32) < 0 ∧ ¬ (if 8 < (8 : Int32) then 8 else (8 : Int32)) < 0 ∧ 0 + (if 8 < (8 : Int32) then 8 else (8 : Int32)).toNatClampNeg ≤ 8 ∧ 0 + (if 8 < (8 : Int32) then 8 else (8 : Int32)).toNatClampNeg ≤ 8) (
  some ((), pA s 32 (va_cpy (s.1 113) (s.1 32) 0 0 (if 8 < (8 : Int32) then 8 else (8 : Int32)).toNatClampNeg))
  )
set_option maxRecDepth 100000 in
theorem w_X11_copyRow_32_113 {d : Nat} {s : Sg} {Q : Qt}  (H : OQ (f_X11_copyRow_32_113  s) (fun _ s9 => Q none s9)) : WpM SHC MT (d + 1) 184 [.ref 113, .ref 32] s Q := by
  refine WpM.enter me_X11_copyRow rfl rfl ?_
  show Y_X11_copyRow_32_113 d Q 0 [(0, .ref 113), (1, .ref 32)] [] s
  unfold f_X11_copyRow_32_113 at H
  refine Wp.f_al0_iconst (pc := 0) o_X11_copyRow rfl rfl rfl (Wp.f_al1_iconst (pc := 2) o_X11_copyRow rfl rfl rfl (Wp.f_al0_alen (pc := 4) o_X11_copyRow rfl rfl rfl lk_C_113 (Wp.f_al1_alen (pc := 6) o_X11_copyRow rfl rfl rfl lk_C_32 (Wp.r_min (pc := 8) o_X11_copyRow rfl (⟨rm8_ rfl, ?_⟩)))))
  obtain ⟨c9, H⟩ := oq_ck H
  refine Wp.run 1 (show room8 [] ∧ (¬ (0 : Int32) < 0 ∧ ¬ (0 : Int32) < 0 ∧ ¬ (if 8 < (8 : Int32) then 8 else (8 : Int32)) < 0 ∧ 0 + (if 8 < (8 : Int32) then 8 else (8 : Int32)).toNatClampNeg ≤ 8 ∧ 0 + (if 8 < (8 : Int32) then 8 else (8 : Int32)).toNatClampNeg ≤ 8) ∧ Y_X11_copyRow_32_113 d Q 14 [(0, .ref 113), (1, .ref 32)] [] (pA s 32 (va_cpy (s.1 113) (s.1 32) 0 0 (if 8 < (8 : Int32) then 8 else (8 : Int32)).toNatClampNeg)) from ⟨rm8_ rfl, c9, ?_⟩)
  exact Wp.r_return (pc := 14) o_X11_copyRow rfl (H)
noncomputable abbrev Y_X11_copyRow_33_114 (d : Nat) (Q : Qt) : Xt := Wp SHC (WpM SHC MT (d + 0)) (flat2 cq_X11_copyRow) (none) Q
noncomputable def f_X11_copyRow_33_114  (s : Sg) : Option (Unit × Sg) :=
  ck (¬ (0 : Int32) < 0 ∧ ¬ (0 : Int32) < 0 ∧ ¬ (if 8 < (8 : Int32) then 8 else (8 : Int32)) < 0 ∧ 0 + (if 8 < (8 : Int32) then 8 else (8 : Int32)).toNatClampNeg ≤ 8 ∧ 0 + (if 8 < (8 : Int32) then 8 else (8 : Int32)).toNatClampNeg ≤ 8) (
  some ((), pA s 33 (va_cpy (s.1 114) (s.1 33) 0 0 (if 8 < (8 : Int32) then 8 else (8 : Int32)).toNatClampNeg))
  )
set_option maxRecDepth 100000 in
theorem w_X11_copyRow_33_114 {d : Nat} {s : Sg} {Q : Qt}  (H : OQ (f_X11_copyRow_33_114  s) (fun _ s9 => Q none s9)) : WpM SHC MT (d + 1) 184 [.ref 114, .ref 33] s Q := by
  refine WpM.enter me_X11_copyRow rfl rfl ?_
  show Y_X11_copyRow_33_114 d Q 0 [(0, .ref 114), (1, .ref 33)] [] s
  unfold f_X11_copyRow_33_114 at H
  refine Wp.f_al0_iconst (pc := 0) o_X11_copyRow rfl rfl rfl (Wp.f_al1_iconst (pc := 2) o_X11_copyRow rfl rfl rfl (Wp.f_al0_alen (pc := 4) o_X11_copyRow rfl rfl rfl lk_C_114 (Wp.f_al1_alen (pc := 6) o_X11_copyRow rfl rfl rfl lk_C_33 (Wp.r_min (pc := 8) o_X11_copyRow rfl (⟨rm8_ rfl, ?_⟩)))))
  obtain ⟨c9, H⟩ := oq_ck H
  refine Wp.run 1 (show room8 [] ∧ (¬ (0 : Int32) < 0 ∧ ¬ (0 : Int32) < 0 ∧ ¬ (if 8 < (8 : Int32) then 8 else (8 : Int32)) < 0 ∧ 0 + (if 8 < (8 : Int32) then 8 else (8 : Int32)).toNatClampNeg ≤ 8 ∧ 0 + (if 8 < (8 : Int32) then 8 else (8 : Int32)).toNatClampNeg ≤ 8) ∧ Y_X11_copyRow_33_114 d Q 14 [(0, .ref 114), (1, .ref 33)] [] (pA s 33 (va_cpy (s.1 114) (s.1 33) 0 0 (if 8 < (8 : Int32) then 8 else (8 : Int32)).toNatClampNeg)) from ⟨rm8_ rfl, c9, ?_⟩)
  exact Wp.r_return (pc := 14) o_X11_copyRow rfl (H)
noncomputable abbrev Y_X11_copyRow_34_115 (d : Nat) (Q : Qt) : Xt := Wp SHC (WpM SHC MT (d + 0)) (flat2 cq_X11_copyRow) (none) Q
noncomputable def f_X11_copyRow_34_115  (s : Sg) : Option (Unit × Sg) :=
  ck (¬ (0 : Int32) < 0 ∧ ¬ (0 : Int32) < 0 ∧ ¬ (if 8 < (8 : Int32) then 8 else (8 : Int32)) < 0 ∧ 0 + (if 8 < (8 : Int32) then 8 else (8 : Int32)).toNatClampNeg ≤ 8 ∧ 0 + (if 8 < (8 : Int32) then 8 else (8 : Int32)).toNatClampNeg ≤ 8) (
  some ((), pA s 34 (va_cpy (s.1 115) (s.1 34) 0 0 (if 8 < (8 : Int32) then 8 else (8 : Int32)).toNatClampNeg))
  )
set_option maxRecDepth 100000 in
theorem w_X11_copyRow_34_115 {d : Nat} {s : Sg} {Q : Qt}  (H : OQ (f_X11_copyRow_34_115  s) (fun _ s9 => Q none s9)) : WpM SHC MT (d + 1) 184 [.ref 115, .ref 34] s Q := by
  refine WpM.enter me_X11_copyRow rfl rfl ?_
  show Y_X11_copyRow_34_115 d Q 0 [(0, .ref 115), (1, .ref 34)] [] s
  unfold f_X11_copyRow_34_115 at H
  refine Wp.f_al0_iconst (pc := 0) o_X11_copyRow rfl rfl rfl (Wp.f_al1_iconst (pc := 2) o_X11_copyRow rfl rfl rfl (Wp.f_al0_alen (pc := 4) o_X11_copyRow rfl rfl rfl lk_C_115 (Wp.f_al1_alen (pc := 6) o_X11_copyRow rfl rfl rfl lk_C_34 (Wp.r_min (pc := 8) o_X11_copyRow rfl (⟨rm8_ rfl, ?_⟩)))))
  obtain ⟨c9, H⟩ := oq_ck H
  refine Wp.run 1 (show room8 [] ∧ (¬ (0 : Int32) < 0 ∧ ¬ (0 : Int32) < 0 ∧ ¬ (if 8 < (8 : Int32) then 8 else (8 : Int32)) < 0 ∧ 0 + (if 8 < (8 : Int32) then 8 else (8 : Int32)).toNatClampNeg ≤ 8 ∧ 0 + (if 8 < (8 : Int32) then 8 else (8 : Int32)).toNatClampNeg ≤ 8) ∧ Y_X11_copyRow_34_115 d Q 14 [(0, .ref 115), (1, .ref 34)] [] (pA s 34 (va_cpy (s.1 115) (s.1 34) 0 0 (if 8 < (8 : Int32) then 8 else (8 : Int32)).toNatClampNeg)) from ⟨rm8_ rfl, c9, ?_⟩)
  exact Wp.r_return (pc := 14) o_X11_copyRow rfl (H)
noncomputable abbrev Y_X11_copyRow_35_116 (d : Nat) (Q : Qt) : Xt := Wp SHC (WpM SHC MT (d + 0)) (flat2 cq_X11_copyRow) (none) Q
noncomputable def f_X11_copyRow_35_116  (s : Sg) : Option (Unit × Sg) :=
  ck (¬ (0 : Int32) < 0 ∧ ¬ (0 : Int32) < 0 ∧ ¬ (if 4 < (4 : Int32) then 4 else (4 : Int32)) < 0 ∧ 0 + (if 4 < (4 : Int32) then 4 else (4 : Int32)).toNatClampNeg ≤ 4 ∧ 0 + (if 4 < (4 : Int32) then 4 else (4 : Int32)).toNatClampNeg ≤ 4) (
  some ((), pA s 35 (va_cpy (s.1 116) (s.1 35) 0 0 (if 4 < (4 : Int32) then 4 else (4 : Int32)).toNatClampNeg))
  )
set_option maxRecDepth 100000 in
theorem w_X11_copyRow_35_116 {d : Nat} {s : Sg} {Q : Qt}  (H : OQ (f_X11_copyRow_35_116  s) (fun _ s9 => Q none s9)) : WpM SHC MT (d + 1) 184 [.ref 116, .ref 35] s Q := by
  refine WpM.enter me_X11_copyRow rfl rfl ?_
  show Y_X11_copyRow_35_116 d Q 0 [(0, .ref 116), (1, .ref 35)] [] s
  unfold f_X11_copyRow_35_116 at H
  refine Wp.f_al0_iconst (pc := 0) o_X11_copyRow rfl rfl rfl (Wp.f_al1_iconst (pc := 2) o_X11_copyRow rfl rfl rfl (Wp.f_al0_alen (pc := 4) o_X11_copyRow rfl rfl rfl lk_C_116 (Wp.f_al1_alen (pc := 6) o_X11_copyRow rfl rfl rfl lk_C_35 (Wp.r_min (pc := 8) o_X11_copyRow rfl (⟨rm8_ rfl, ?_⟩)))))
  obtain ⟨c9, H⟩ := oq_ck H
  refine Wp.run 1 (show room8 [] ∧ (¬ (0 : Int32) < 0 ∧ ¬ (0 : Int32) < 0 ∧ ¬ (if 4 < (4 : Int32) then 4 else (4 : Int32)) < 0 ∧ 0 + (if 4 < (4 : Int32) then 4 else (4 : Int32)).toNatClampNeg ≤ 4 ∧ 0 + (if 4 < (4 : Int32) then 4 else (4 : Int32)).toNatClampNeg ≤ 4) ∧ Y_X11_copyRow_35_116 d Q 14 [(0, .ref 116), (1, .ref 35)] [] (pA s 35 (va_cpy (s.1 116) (s.1 35) 0 0 (if 4 < (4 : Int32) then 4 else (4 : Int32)).toNatClampNeg)) from ⟨rm8_ rfl, c9, ?_⟩)
  exact Wp.r_return (pc := 14) o_X11_copyRow rfl (H)
noncomputable abbrev Y_X11_copyRow_36_117 (d : Nat) (Q : Qt) : Xt := Wp SHC (WpM SHC MT (d + 0)) (flat2 cq_X11_copyRow) (none) Q
noncomputable def f_X11_copyRow_36_117  (s : Sg) : Option (Unit × Sg) :=
  ck (¬ (0 : Int32) < 0 ∧ ¬ (0 : Int32) < 0 ∧ ¬ (if 4 < (4 : Int32) then 4 else (4 : Int32)) < 0 ∧ 0 + (if 4 < (4 : Int32) then 4 else (4 : Int32)).toNatClampNeg ≤ 4 ∧ 0 + (if 4 < (4 : Int32) then 4 else (4 : Int32)).toNatClampNeg ≤ 4) (
  some ((), pA s 36 (va_cpy (s.1 117) (s.1 36) 0 0 (if 4 < (4 : Int32) then 4 else (4 : Int32)).toNatClampNeg))
  )
set_option maxRecDepth 100000 in
theorem w_X11_copyRow_36_117 {d : Nat} {s : Sg} {Q : Qt}  (H : OQ (f_X11_copyRow_36_117  s) (fun _ s9 => Q none s9)) : WpM SHC MT (d + 1) 184 [.ref 117, .ref 36] s Q := by
  refine WpM.enter me_X11_copyRow rfl rfl ?_
  show Y_X11_copyRow_36_117 d Q 0 [(0, .ref 117), (1, .ref 36)] [] s
  unfold f_X11_copyRow_36_117 at H
  refine Wp.f_al0_iconst (pc := 0) o_X11_copyRow rfl rfl rfl (Wp.f_al1_iconst (pc := 2) o_X11_copyRow rfl rfl rfl (Wp.f_al0_alen (pc := 4) o_X11_copyRow rfl rfl rfl lk_C_117 (Wp.f_al1_alen (pc := 6) o_X11_copyRow rfl rfl rfl lk_C_36 (Wp.r_min (pc := 8) o_X11_copyRow rfl (⟨rm8_ rfl, ?_⟩)))))
  obtain ⟨c9, H⟩ := oq_ck H
  refine Wp.run 1 (show room8 [] ∧ (¬ (0 : Int32) < 0 ∧ ¬ (0 : Int32) < 0 ∧ ¬ (if 4 < (4 : Int32) then 4 else (4 : Int32)) < 0 ∧ 0 + (if 4 < (4 : Int32) then 4 else (4 : Int32)).toNatClampNeg ≤ 4 ∧ 0 + (if 4 < (4 : Int32) then 4 else (4 : Int32)).toNatClampNeg ≤ 4) ∧ Y_X11_copyRow_36_117 d Q 14 [(0, .ref 117), (1, .ref 36)] [] (pA s 36 (va_cpy (s.1 117) (s.1 36) 0 0 (if 4 < (4 : Int32) then 4 else (4 : Int32)).toNatClampNeg)) from ⟨rm8_ rfl, c9, ?_⟩)
  exact Wp.r_return (pc := 14) o_X11_copyRow rfl (H)
noncomputable abbrev Y_X11_copyRow_37_118 (d : Nat) (Q : Qt) : Xt := Wp SHC (WpM SHC MT (d + 0)) (flat2 cq_X11_copyRow) (none) Q
noncomputable def f_X11_copyRow_37_118  (s : Sg) : Option (Unit × Sg) :=
  ck (¬ (0 : Int32) < 0 ∧ ¬ (0 : Int32) < 0 ∧ ¬ (if 4 < (4 : Int32) then 4 else (4 : Int32)) < 0 ∧ 0 + (if 4 < (4 : Int32) then 4 else (4 : Int32)).toNatClampNeg ≤ 4 ∧ 0 + (if 4 < (4 : Int32) then 4 else (4 : Int32)).toNatClampNeg ≤ 4) (
  some ((), pA s 37 (va_cpy (s.1 118) (s.1 37) 0 0 (if 4 < (4 : Int32) then 4 else (4 : Int32)).toNatClampNeg))
  )
set_option maxRecDepth 100000 in
theorem w_X11_copyRow_37_118 {d : Nat} {s : Sg} {Q : Qt}  (H : OQ (f_X11_copyRow_37_118  s) (fun _ s9 => Q none s9)) : WpM SHC MT (d + 1) 184 [.ref 118, .ref 37] s Q := by
  refine WpM.enter me_X11_copyRow rfl rfl ?_
  show Y_X11_copyRow_37_118 d Q 0 [(0, .ref 118), (1, .ref 37)] [] s
  unfold f_X11_copyRow_37_118 at H
  refine Wp.f_al0_iconst (pc := 0) o_X11_copyRow rfl rfl rfl (Wp.f_al1_iconst (pc := 2) o_X11_copyRow rfl rfl rfl (Wp.f_al0_alen (pc := 4) o_X11_copyRow rfl rfl rfl lk_C_118 (Wp.f_al1_alen (pc := 6) o_X11_copyRow rfl rfl rfl lk_C_37 (Wp.r_min (pc := 8) o_X11_copyRow rfl (⟨rm8_ rfl, ?_⟩)))))
  obtain ⟨c9, H⟩ := oq_ck H
  refine Wp.run 1 (show room8 [] ∧ (¬ (0 : Int32) < 0 ∧ ¬ (0 : Int32) < 0 ∧ ¬ (if 4 < (4 : Int32) then 4 else (4 : Int32)) < 0 ∧ 0 + (if 4 < (4 : Int32) then 4 else (4 : Int32)).toNatClampNeg ≤ 4 ∧ 0 + (if 4 < (4 : Int32) then 4 else (4 : Int32)).toNatClampNeg ≤ 4) ∧ Y_X11_copyRow_37_118 d Q 14 [(0, .ref 118), (1, .ref 37)] [] (pA s 37 (va_cpy (s.1 118) (s.1 37) 0 0 (if 4 < (4 : Int32) then 4 else (4 : Int32)).toNatClampNeg)) from ⟨rm8_ rfl, c9, ?_⟩)
  exact Wp.r_return (pc := 14) o_X11_copyRow rfl (H)
noncomputable abbrev Y_X11_copyRow_38_119 (d : Nat) (Q : Qt) : Xt := Wp SHC (WpM SHC MT (d + 0)) (flat2 cq_X11_copyRow) (none) Q
noncomputable def f_X11_copyRow_38_119  (s : Sg) : Option (Unit × Sg) :=
  ck (¬ (0 : Int32) < 0 ∧ ¬ (0 : Int32) < 0 ∧ ¬ (if 4 < (4 : Int32) then 4 else (4 : Int32)) < 0 ∧ 0 + (if 4 < (4 : Int32) then 4 else (4 : Int32)).toNatClampNeg ≤ 4 ∧ 0 + (if 4 < (4 : Int32) then 4 else (4 : Int32)).toNatClampNeg ≤ 4) (
  some ((), pA s 38 (va_cpy (s.1 119) (s.1 38) 0 0 (if 4 < (4 : Int32) then 4 else (4 : Int32)).toNatClampNeg))
  )
set_option maxRecDepth 100000 in
theorem w_X11_copyRow_38_119 {d : Nat} {s : Sg} {Q : Qt}  (H : OQ (f_X11_copyRow_38_119  s) (fun _ s9 => Q none s9)) : WpM SHC MT (d + 1) 184 [.ref 119, .ref 38] s Q := by
  refine WpM.enter me_X11_copyRow rfl rfl ?_
  show Y_X11_copyRow_38_119 d Q 0 [(0, .ref 119), (1, .ref 38)] [] s
  unfold f_X11_copyRow_38_119 at H
  refine Wp.f_al0_iconst (pc := 0) o_X11_copyRow rfl rfl rfl (Wp.f_al1_iconst (pc := 2) o_X11_copyRow rfl rfl rfl (Wp.f_al0_alen (pc := 4) o_X11_copyRow rfl rfl rfl lk_C_119 (Wp.f_al1_alen (pc := 6) o_X11_copyRow rfl rfl rfl lk_C_38 (Wp.r_min (pc := 8) o_X11_copyRow rfl (⟨rm8_ rfl, ?_⟩)))))
  obtain ⟨c9, H⟩ := oq_ck H
  refine Wp.run 1 (show room8 [] ∧ (¬ (0 : Int32) < 0 ∧ ¬ (0 : Int32) < 0 ∧ ¬ (if 4 < (4 : Int32) then 4 else (4 : Int32)) < 0 ∧ 0 + (if 4 < (4 : Int32) then 4 else (4 : Int32)).toNatClampNeg ≤ 4 ∧ 0 + (if 4 < (4 : Int32) then 4 else (4 : Int32)).toNatClampNeg ≤ 4) ∧ Y_X11_copyRow_38_119 d Q 14 [(0, .ref 119), (1, .ref 38)] [] (pA s 38 (va_cpy (s.1 119) (s.1 38) 0 0 (if 4 < (4 : Int32) then 4 else (4 : Int32)).toNatClampNeg)) from ⟨rm8_ rfl, c9, ?_⟩)
  exact Wp.r_return (pc := 14) o_X11_copyRow rfl (H)
noncomputable abbrev Y_X11_copyRow_39_120 (d : Nat) (Q : Qt) : Xt := Wp SHC (WpM SHC MT (d + 0)) (flat2 cq_X11_copyRow) (none) Q
noncomputable def f_X11_copyRow_39_120  (s : Sg) : Option (Unit × Sg) :=
  ck (¬ (0 : Int32) < 0 ∧ ¬ (0 : Int32) < 0 ∧ ¬ (if 4 < (4 : Int32) then 4 else (4 : Int32)) < 0 ∧ 0 + (if 4 < (4 : Int32) then 4 else (4 : Int32)).toNatClampNeg ≤ 4 ∧ 0 + (if 4 < (4 : Int32) then 4 else (4 : Int32)).toNatClampNeg ≤ 4) (
  some ((), pA s 39 (va_cpy (s.1 120) (s.1 39) 0 0 (if 4 < (4 : Int32) then 4 else (4 : Int32)).toNatClampNeg))
  )
set_option maxRecDepth 100000 in
theorem w_X11_copyRow_39_120 {d : Nat} {s : Sg} {Q : Qt}  (H : OQ (f_X11_copyRow_39_120  s) (fun _ s9 => Q none s9)) : WpM SHC MT (d + 1) 184 [.ref 120, .ref 39] s Q := by
  refine WpM.enter me_X11_copyRow rfl rfl ?_
  show Y_X11_copyRow_39_120 d Q 0 [(0, .ref 120), (1, .ref 39)] [] s
  unfold f_X11_copyRow_39_120 at H
  refine Wp.f_al0_iconst (pc := 0) o_X11_copyRow rfl rfl rfl (Wp.f_al1_iconst (pc := 2) o_X11_copyRow rfl rfl rfl (Wp.f_al0_alen (pc := 4) o_X11_copyRow rfl rfl rfl lk_C_120 (Wp.f_al1_alen (pc := 6) o_X11_copyRow rfl rfl rfl lk_C_39 (Wp.r_min (pc := 8) o_X11_copyRow rfl (⟨rm8_ rfl, ?_⟩)))))
  obtain ⟨c9, H⟩ := oq_ck H
  refine Wp.run 1 (show room8 [] ∧ (¬ (0 : Int32) < 0 ∧ ¬ (0 : Int32) < 0 ∧ ¬ (if 4 < (4 : Int32) then 4 else (4 : Int32)) < 0 ∧ 0 + (if 4 < (4 : Int32) then 4 else (4 : Int32)).toNatClampNeg ≤ 4 ∧ 0 + (if 4 < (4 : Int32) then 4 else (4 : Int32)).toNatClampNeg ≤ 4) ∧ Y_X11_copyRow_39_120 d Q 14 [(0, .ref 120), (1, .ref 39)] [] (pA s 39 (va_cpy (s.1 120) (s.1 39) 0 0 (if 4 < (4 : Int32) then 4 else (4 : Int32)).toNatClampNeg)) from ⟨rm8_ rfl, c9, ?_⟩)
  exact Wp.r_return (pc := 14) o_X11_copyRow rfl (H)
noncomputable abbrev Y_X4_copyFrom_106 (d : Nat) (Q : Qt) : Xt := Wp SHC (WpM SHC MT (d + 1)) (flat2 cq_X4_copyFrom) (none) Q
noncomputable def f_X4_copyFrom_106  (s : Sg) : Option (Unit × Sg) :=
  bd (f_X11_copyRow_29_110 (pB s 28 (va_cpy (s.2 109) (s.2 28) 0 0 24))) (fun _ s2 =>
  bd (f_X11_copyRow_30_111 s2) (fun _ s4 =>
  bd (f_X11_copyRow_31_112 s4) (fun _ s6 =>
  bd (f_X11_copyRow_32_113 s6) (fun _ s8 =>
  bd (f_X11_copyRow_33_114 s8) (fun _ s10 =>
  bd (f_X11_copyRow_34_115 s10) (fun _ s12 =>
  bd (f_X11_copyRow_35_116 s12) (fun _ s14 =>
  bd (f_X11_copyRow_36_117 s14) (fun _ s16 =>
  bd (f_X11_copyRow_37_118 s16) (fun _ s18 =>
  bd (f_X11_copyRow_38_119 s18) (fun _ s20 =>
  bd (f_X11_copyRow_39_120 s20) (fun _ s22 =>
  nmx (pI (pI s22 25 12 (s22.1 106 12)) 25 13 ((pI s22 25 12 (s22.1 106 12)).1 106 13)) (fun s23 =>
  nmx (pI (pI s23 25 14 (s23.1 106 14)) 25 15 ((pI s23 25 14 (s23.1 106 14)).1 106 15)) (fun s24 =>
  nmx (pI (pI s24 25 16 (s24.1 106 16)) 25 17 ((pI s24 25 16 (s24.1 106 16)).1 106 17)) (fun s25 =>
  ck (((pI s25 25 18 (s25.1 106 18)).1 106 19) = 0 ∨ ((pI s25 25 18 (s25.1 106 18)).1 106 19) = 1) (
  some ((), pI (pI s25 25 18 (s25.1 106 18)) 25 19 ((pI s25 25 18 (s25.1 106 18)).1 106 19))
  )
  )
  )
  )
  )
  )
  )
  )
  )
  )
  )
  )
  )
  )
  )
set_option maxRecDepth 100000 in
theorem w_X4_copyFrom_106 {d : Nat} {s : Sg} {Q : Qt}  (H : OQ (f_X4_copyFrom_106  s) (fun _ s9 => Q none s9)) : WpM SHC MT (d + 2) 50 [.ref 25, .ref 106] s Q := by
  refine WpM.enter me_X4_copyFrom rfl rfl ?_
  show Y_X4_copyFrom_106 d Q 0 [(0, .ref 25), (1, .ref 106)] [] s
  unfold f_X4_copyFrom_106 at H
  refine Wp.f_al1_gfr (pc := 0) o_X4_copyFrom rfl rfl rfl fk_C_106_0 (Wp.r_iconst (pc := 4) o_X4_copyFrom rfl (Wp.f_al0_gfr (pc := 5) o_X4_copyFrom rfl rfl rfl fk_C_25_0 (Wp.r_iconst (pc := 9) o_X4_copyFrom rfl (Wp.r_bipush (pc := 10) o_X4_copyFrom rfl (Wp.run 1 (show room8 [] ∧ (¬ (0 : Int32) < 0 ∧ ¬ (0 : Int32) < 0 ∧ ¬ (24 : Int32) < 0 ∧ 0 + 24 ≤ 24 ∧ 0 + 24 ≤ 24) ∧ Y_X4_copyFrom_106 d Q 15 [(0, .ref 25), (1, .ref 106)] [] (pB s 28 (va_cpy (s.2 109) (s.2 28) 0 0 24)) from ⟨rm8_ rfl, by decide, ?_⟩))))))
  refine Wp.f_al1_gfr (pc := 15) o_X4_copyFrom rfl rfl rfl fk_C_106_1 (Wp.f_al0_gfr (pc := 19) o_X4_copyFrom rfl rfl rfl fk_C_25_1 (Wp.r_cs2 (pc := 23) o_X4_copyFrom rfl (⟨rm8_ rfl, ?_⟩)))
  refine w_X11_copyRow_29_110 (d := d)  ?_
  refine oq_bd H (fun _ s2 H => ?_)
  refine Wp.f_al1_gfr (pc := 26) o_X4_copyFrom rfl rfl rfl fk_C_106_2 (Wp.f_al0_gfr (pc := 30) o_X4_copyFrom rfl rfl rfl fk_C_25_2 (Wp.r_cs2 (pc := 34) o_X4_copyFrom rfl (⟨rm8_ rfl, ?_⟩)))
  refine w_X11_copyRow_30_111 (d := d)  ?_
  refine oq_bd H (fun _ s4 H => ?_)
  refine Wp.f_al1_gfr (pc := 37) o_X4_copyFrom rfl rfl rfl fk_C_106_3 (Wp.f_al0_gfr (pc := 41) o_X4_copyFrom rfl rfl rfl fk_C_25_3 (Wp.r_cs2 (pc := 45) o_X4_copyFrom rfl (⟨rm8_ rfl, ?_⟩)))
  refine w_X11_copyRow_31_112 (d := d)  ?_
  refine oq_bd H (fun _ s6 H => ?_)
  refine Wp.f_al1_gfr (pc := 48) o_X4_copyFrom rfl rfl rfl fk_C_106_4 (Wp.f_al0_gfr (pc := 52) o_X4_copyFrom rfl rfl rfl fk_C_25_4 (Wp.r_cs2 (pc := 56) o_X4_copyFrom rfl (⟨rm8_ rfl, ?_⟩)))
  refine w_X11_copyRow_32_113 (d := d)  ?_
  refine oq_bd H (fun _ s8 H => ?_)
  refine Wp.f_al1_gfr (pc := 59) o_X4_copyFrom rfl rfl rfl fk_C_106_5 (Wp.f_al0_gfr (pc := 63) o_X4_copyFrom rfl rfl rfl fk_C_25_5 (Wp.r_cs2 (pc := 67) o_X4_copyFrom rfl (⟨rm8_ rfl, ?_⟩)))
  refine w_X11_copyRow_33_114 (d := d)  ?_
  refine oq_bd H (fun _ s10 H => ?_)
  refine Wp.f_al1_gfr (pc := 70) o_X4_copyFrom rfl rfl rfl fk_C_106_6 (Wp.f_al0_gfr (pc := 74) o_X4_copyFrom rfl rfl rfl fk_C_25_6 (Wp.r_cs2 (pc := 78) o_X4_copyFrom rfl (⟨rm8_ rfl, ?_⟩)))
  refine w_X11_copyRow_34_115 (d := d)  ?_
  refine oq_bd H (fun _ s12 H => ?_)
  refine Wp.f_al1_gfr (pc := 81) o_X4_copyFrom rfl rfl rfl fk_C_106_7 (Wp.f_al0_gfr (pc := 85) o_X4_copyFrom rfl rfl rfl fk_C_25_7 (Wp.r_cs2 (pc := 89) o_X4_copyFrom rfl (⟨rm8_ rfl, ?_⟩)))
  refine w_X11_copyRow_35_116 (d := d)  ?_
  refine oq_bd H (fun _ s14 H => ?_)
  refine Wp.f_al1_gfr (pc := 92) o_X4_copyFrom rfl rfl rfl fk_C_106_8 (Wp.f_al0_gfr (pc := 96) o_X4_copyFrom rfl rfl rfl fk_C_25_8 (Wp.r_cs2 (pc := 100) o_X4_copyFrom rfl (⟨rm8_ rfl, ?_⟩)))
  refine w_X11_copyRow_36_117 (d := d)  ?_
  refine oq_bd H (fun _ s16 H => ?_)
  refine Wp.f_al1_gfr (pc := 103) o_X4_copyFrom rfl rfl rfl fk_C_106_9 (Wp.f_al0_gfr (pc := 107) o_X4_copyFrom rfl rfl rfl fk_C_25_9 (Wp.r_cs2 (pc := 111) o_X4_copyFrom rfl (⟨rm8_ rfl, ?_⟩)))
  refine w_X11_copyRow_37_118 (d := d)  ?_
  refine oq_bd H (fun _ s18 H => ?_)
  refine Wp.f_al1_gfr (pc := 114) o_X4_copyFrom rfl rfl rfl fk_C_106_10 (Wp.f_al0_gfr (pc := 118) o_X4_copyFrom rfl rfl rfl fk_C_25_10 (Wp.r_cs2 (pc := 122) o_X4_copyFrom rfl (⟨rm8_ rfl, ?_⟩)))
  refine w_X11_copyRow_38_119 (d := d)  ?_
  refine oq_bd H (fun _ s20 H => ?_)
  refine Wp.f_al1_gfr (pc := 125) o_X4_copyFrom rfl rfl rfl fk_C_106_11 (Wp.f_al0_gfr (pc := 129) o_X4_copyFrom rfl rfl rfl fk_C_25_11 (Wp.r_cs2 (pc := 133) o_X4_copyFrom rfl (⟨rm8_ rfl, ?_⟩)))
  refine w_X11_copyRow_39_120 (d := d)  ?_
  refine oq_bd H (fun _ s22 H => ?_)
  refine Wp.r_aload_n0 (pc := 136) o_X4_copyFrom rfl rfl (Wp.f_al1_gfi (pc := 137) o_X4_copyFrom rfl rfl rfl fk_C_106_12 (Wp.r_pfi (pc := 141) o_X4_copyFrom rfl fk_C_25_12 (Wp.r_aload_n0 (pc := 144) o_X4_copyFrom rfl rfl (Wp.f_al1_gfi (pc := 145) o_X4_copyFrom rfl rfl rfl fk_C_106_13 (Wp.r_pfi (pc := 149) o_X4_copyFrom rfl fk_C_25_13 (show Y_X4_copyFrom_106 d Q 152 [(0, .ref 25), (1, .ref 106)] [] (pI (pI s22 25 12 (s22.1 106 12)) 25 13 ((pI s22 25 12 (s22.1 106 12)).1 106 13)) from ?_))))))
  revert H
  generalize pI (pI s22 25 12 (s22.1 106 12)) 25 13 ((pI s22 25 12 (s22.1 106 12)).1 106 13) = s23
  intro H
  have H := nmx_e H
  refine Wp.r_aload_n0 (pc := 152) o_X4_copyFrom rfl rfl (Wp.f_al1_gfi (pc := 153) o_X4_copyFrom rfl rfl rfl fk_C_106_14 (Wp.r_pfi (pc := 157) o_X4_copyFrom rfl fk_C_25_14 (Wp.r_aload_n0 (pc := 160) o_X4_copyFrom rfl rfl (Wp.f_al1_gfi (pc := 161) o_X4_copyFrom rfl rfl rfl fk_C_106_15 (Wp.r_pfi (pc := 165) o_X4_copyFrom rfl fk_C_25_15 (show Y_X4_copyFrom_106 d Q 168 [(0, .ref 25), (1, .ref 106)] [] (pI (pI s23 25 14 (s23.1 106 14)) 25 15 ((pI s23 25 14 (s23.1 106 14)).1 106 15)) from ?_))))))
  revert H
  generalize pI (pI s23 25 14 (s23.1 106 14)) 25 15 ((pI s23 25 14 (s23.1 106 14)).1 106 15) = s24
  intro H
  have H := nmx_e H
  refine Wp.r_aload_n0 (pc := 168) o_X4_copyFrom rfl rfl (Wp.f_al1_gfi (pc := 169) o_X4_copyFrom rfl rfl rfl fk_C_106_16 (Wp.r_pfi (pc := 173) o_X4_copyFrom rfl fk_C_25_16 (Wp.r_aload_n0 (pc := 176) o_X4_copyFrom rfl rfl (Wp.f_al1_gfi (pc := 177) o_X4_copyFrom rfl rfl rfl fk_C_106_17 (Wp.r_pfi (pc := 181) o_X4_copyFrom rfl fk_C_25_17 (show Y_X4_copyFrom_106 d Q 184 [(0, .ref 25), (1, .ref 106)] [] (pI (pI s24 25 16 (s24.1 106 16)) 25 17 ((pI s24 25 16 (s24.1 106 16)).1 106 17)) from ?_))))))
  revert H
  generalize pI (pI s24 25 16 (s24.1 106 16)) 25 17 ((pI s24 25 16 (s24.1 106 16)).1 106 17) = s25
  intro H
  have H := nmx_e H
  obtain ⟨hc26, H⟩ := oq_ck H
  refine Wp.r_aload_n0 (pc := 184) o_X4_copyFrom rfl rfl (Wp.f_al1_gfi (pc := 185) o_X4_copyFrom rfl rfl rfl fk_C_106_18 (Wp.r_pfi (pc := 189) o_X4_copyFrom rfl fk_C_25_18 (Wp.r_aload_n0 (pc := 192) o_X4_copyFrom rfl rfl (Wp.f_al1_gfi (pc := 193) o_X4_copyFrom rfl rfl rfl fk_C_106_19 (Wp.r_pfz (pc := 197) o_X4_copyFrom rfl fk_C_25_19 (⟨hc26, ?_⟩))))))
  exact Wp.r_return (pc := 200) o_X4_copyFrom rfl (H)
noncomputable abbrev Y_X11_copyRow_40_121 (d : Nat) (Q : Qt) : Xt := Wp SHC (WpM SHC MT (d + 0)) (flat2 cq_X11_copyRow) (none) Q
noncomputable def f_X11_copyRow_40_121  (s : Sg) : Option (Unit × Sg) :=
  ck (¬ (0 : Int32) < 0 ∧ ¬ (0 : Int32) < 0 ∧ ¬ (if 8 < (8 : Int32) then 8 else (8 : Int32)) < 0 ∧ 0 + (if 8 < (8 : Int32) then 8 else (8 : Int32)).toNatClampNeg ≤ 8 ∧ 0 + (if 8 < (8 : Int32) then 8 else (8 : Int32)).toNatClampNeg ≤ 8) (
  some ((), pA s 40 (va_cpy (s.1 121) (s.1 40) 0 0 (if 8 < (8 : Int32) then 8 else (8 : Int32)).toNatClampNeg))
  )
set_option maxRecDepth 100000 in
theorem w_X11_copyRow_40_121 {d : Nat} {s : Sg} {Q : Qt}  (H : OQ (f_X11_copyRow_40_121  s) (fun _ s9 => Q none s9)) : WpM SHC MT (d + 1) 184 [.ref 121, .ref 40] s Q := by
  refine WpM.enter me_X11_copyRow rfl rfl ?_
  show Y_X11_copyRow_40_121 d Q 0 [(0, .ref 121), (1, .ref 40)] [] s
  unfold f_X11_copyRow_40_121 at H
  refine Wp.f_al0_iconst (pc := 0) o_X11_copyRow rfl rfl rfl (Wp.f_al1_iconst (pc := 2) o_X11_copyRow rfl rfl rfl (Wp.f_al0_alen (pc := 4) o_X11_copyRow rfl rfl rfl lk_C_121 (Wp.f_al1_alen (pc := 6) o_X11_copyRow rfl rfl rfl lk_C_40 (Wp.r_min (pc := 8) o_X11_copyRow rfl (⟨rm8_ rfl, ?_⟩)))))
  obtain ⟨c9, H⟩ := oq_ck H
  refine Wp.run 1 (show room8 [] ∧ (¬ (0 : Int32) < 0 ∧ ¬ (0 : Int32) < 0 ∧ ¬ (if 8 < (8 : Int32) then 8 else (8 : Int32)) < 0 ∧ 0 + (if 8 < (8 : Int32) then 8 else (8 : Int32)).toNatClampNeg ≤ 8 ∧ 0 + (if 8 < (8 : Int32) then 8 else (8 : Int32)).toNatClampNeg ≤ 8) ∧ Y_X11_copyRow_40_121 d Q 14 [(0, .ref 121), (1, .ref 40)] [] (pA s 40 (va_cpy (s.1 121) (s.1 40) 0 0 (if 8 < (8 : Int32) then 8 else (8 : Int32)).toNatClampNeg)) from ⟨rm8_ rfl, c9, ?_⟩)
  exact Wp.r_return (pc := 14) o_X11_copyRow rfl (H)
noncomputable abbrev Y_X11_copyRow_41_122 (d : Nat) (Q : Qt) : Xt := Wp SHC (WpM SHC MT (d + 0)) (flat2 cq_X11_copyRow) (none) Q
noncomputable def f_X11_copyRow_41_122  (s : Sg) : Option (Unit × Sg) :=
  ck (¬ (0 : Int32) < 0 ∧ ¬ (0 : Int32) < 0 ∧ ¬ (if 8 < (8 : Int32) then 8 else (8 : Int32)) < 0 ∧ 0 + (if 8 < (8 : Int32) then 8 else (8 : Int32)).toNatClampNeg ≤ 8 ∧ 0 + (if 8 < (8 : Int32) then 8 else (8 : Int32)).toNatClampNeg ≤ 8) (
  some ((), pA s 41 (va_cpy (s.1 122) (s.1 41) 0 0 (if 8 < (8 : Int32) then 8 else (8 : Int32)).toNatClampNeg))
  )
set_option maxRecDepth 100000 in
theorem w_X11_copyRow_41_122 {d : Nat} {s : Sg} {Q : Qt}  (H : OQ (f_X11_copyRow_41_122  s) (fun _ s9 => Q none s9)) : WpM SHC MT (d + 1) 184 [.ref 122, .ref 41] s Q := by
  refine WpM.enter me_X11_copyRow rfl rfl ?_
  show Y_X11_copyRow_41_122 d Q 0 [(0, .ref 122), (1, .ref 41)] [] s
  unfold f_X11_copyRow_41_122 at H
  refine Wp.f_al0_iconst (pc := 0) o_X11_copyRow rfl rfl rfl (Wp.f_al1_iconst (pc := 2) o_X11_copyRow rfl rfl rfl (Wp.f_al0_alen (pc := 4) o_X11_copyRow rfl rfl rfl lk_C_122 (Wp.f_al1_alen (pc := 6) o_X11_copyRow rfl rfl rfl lk_C_41 (Wp.r_min (pc := 8) o_X11_copyRow rfl (⟨rm8_ rfl, ?_⟩)))))
  obtain ⟨c9, H⟩ := oq_ck H
  refine Wp.run 1 (show room8 [] ∧ (¬ (0 : Int32) < 0 ∧ ¬ (0 : Int32) < 0 ∧ ¬ (if 8 < (8 : Int32) then 8 else (8 : Int32)) < 0 ∧ 0 + (if 8 < (8 : Int32) then 8 else (8 : Int32)).toNatClampNeg ≤ 8 ∧ 0 + (if 8 < (8 : Int32) then 8 else (8 : Int32)).toNatClampNeg ≤ 8) ∧ Y_X11_copyRow_41_122 d Q 14 [(0, .ref 122), (1, .ref 41)] [] (pA s 41 (va_cpy (s.1 122) (s.1 41) 0 0 (if 8 < (8 : Int32) then 8 else (8 : Int32)).toNatClampNeg)) from ⟨rm8_ rfl, c9, ?_⟩)
  exact Wp.r_return (pc := 14) o_X11_copyRow rfl (H)
noncomputable abbrev Y_X11_copyRow_42_123 (d : Nat) (Q : Qt) : Xt := Wp SHC (WpM SHC MT (d + 0)) (flat2 cq_X11_copyRow) (none) Q
noncomputable def f_X11_copyRow_42_123  (s : Sg) : Option (Unit × Sg) :=
  ck (¬ (0 : Int32) < 0 ∧ ¬ (0 : Int32) < 0 ∧ ¬ (if 8 < (8 : Int32) then 8 else (8 : Int32)) < 0 ∧ 0 + (if 8 < (8 : Int32) then 8 else (8 : Int32)).toNatClampNeg ≤ 8 ∧ 0 + (if 8 < (8 : Int32) then 8 else (8 : Int32)).toNatClampNeg ≤ 8) (
  some ((), pA s 42 (va_cpy (s.1 123) (s.1 42) 0 0 (if 8 < (8 : Int32) then 8 else (8 : Int32)).toNatClampNeg))
  )
set_option maxRecDepth 100000 in
theorem w_X11_copyRow_42_123 {d : Nat} {s : Sg} {Q : Qt}  (H : OQ (f_X11_copyRow_42_123  s) (fun _ s9 => Q none s9)) : WpM SHC MT (d + 1) 184 [.ref 123, .ref 42] s Q := by
  refine WpM.enter me_X11_copyRow rfl rfl ?_
  show Y_X11_copyRow_42_123 d Q 0 [(0, .ref 123), (1, .ref 42)] [] s
  unfold f_X11_copyRow_42_123 at H
  refine Wp.f_al0_iconst (pc := 0) o_X11_copyRow rfl rfl rfl (Wp.f_al1_iconst (pc := 2) o_X11_copyRow rfl rfl rfl (Wp.f_al0_alen (pc := 4) o_X11_copyRow rfl rfl rfl lk_C_123 (Wp.f_al1_alen (pc := 6) o_X11_copyRow rfl rfl rfl lk_C_42 (Wp.r_min (pc := 8) o_X11_copyRow rfl (⟨rm8_ rfl, ?_⟩)))))
  obtain ⟨c9, H⟩ := oq_ck H
  refine Wp.run 1 (show room8 [] ∧ (¬ (0 : Int32) < 0 ∧ ¬ (0 : Int32) < 0 ∧ ¬ (if 8 < (8 : Int32) then 8 else (8 : Int32)) < 0 ∧ 0 + (if 8 < (8 : Int32) then 8 else (8 : Int32)).toNatClampNeg ≤ 8 ∧ 0 + (if 8 < (8 : Int32) then 8 else (8 : Int32)).toNatClampNeg ≤ 8) ∧ Y_X11_copyRow_42_123 d Q 14 [(0, .ref 123), (1, .ref 42)] [] (pA s 42 (va_cpy (s.1 123) (s.1 42) 0 0 (if 8 < (8 : Int32) then 8 else (8 : Int32)).toNatClampNeg)) from ⟨rm8_ rfl, c9, ?_⟩)
  exact Wp.r_return (pc := 14) o_X11_copyRow rfl (H)
noncomputable abbrev Y_X11_copyRow_43_124 (d : Nat) (Q : Qt) : Xt := Wp SHC (WpM SHC MT (d + 0)) (flat2 cq_X11_copyRow) (none) Q
noncomputable def f_X11_copyRow_43_124  (s : Sg) : Option (Unit × Sg) :=
  ck (¬ (0 : Int32) < 0 ∧ ¬ (0 : Int32) < 0 ∧ ¬ (if 8 < (8 : Int32) then 8 else (8 : Int32)) < 0 ∧ 0 + (if 8 < (8 : Int32) then 8 else (8 : Int32)).toNatClampNeg ≤ 8 ∧ 0 + (if 8 < (8 : Int32) then 8 else (8 : Int32)).toNatClampNeg ≤ 8) (
  some ((), pA s 43 (va_cpy (s.1 124) (s.1 43) 0 0 (if 8 < (8 : Int32) then 8 else (8 : Int32)).toNatClampNeg))
  )
set_option maxRecDepth 100000 in
theorem w_X11_copyRow_43_124 {d : Nat} {s : Sg} {Q : Qt}  (H : OQ (f_X11_copyRow_43_124  s) (fun _ s9 => Q none s9)) : WpM SHC MT (d + 1) 184 [.ref 124, .ref 43] s Q := by
  refine WpM.enter me_X11_copyRow rfl rfl ?_
  show Y_X11_copyRow_43_124 d Q 0 [(0, .ref 124), (1, .ref 43)] [] s
  unfold f_X11_copyRow_43_124 at H
  refine Wp.f_al0_iconst (pc := 0) o_X11_copyRow rfl rfl rfl (Wp.f_al1_iconst (pc := 2) o_X11_copyRow rfl rfl rfl (Wp.f_al0_alen (pc := 4) o_X11_copyRow rfl rfl rfl lk_C_124 (Wp.f_al1_alen (pc := 6) o_X11_copyRow rfl rfl rfl lk_C_43 (Wp.r_min (pc := 8) o_X11_copyRow rfl (⟨rm8_ rfl, ?_⟩)))))
  obtain ⟨c9, H⟩ := oq_ck H
  refine Wp.run 1 (show room8 [] ∧ (¬ (0 : Int32) < 0 ∧ ¬ (0 : Int32) < 0 ∧ ¬ (if 8 < (8 : Int32) then 8 else (8 : Int32)) < 0 ∧ 0 + (if 8 < (8 : Int32) then 8 else (8 : Int32)).toNatClampNeg ≤ 8 ∧ 0 + (if 8 < (8 : Int32) then 8 else (8 : Int32)).toNatClampNeg ≤ 8) ∧ Y_X11_copyRow_43_124 d Q 14 [(0, .ref 124), (1, .ref 43)] [] (pA s 43 (va_cpy (s.1 124) (s.1 43) 0 0 (if 8 < (8 : Int32) then 8 else (8 : Int32)).toNatClampNeg)) from ⟨rm8_ rfl, c9, ?_⟩)
  exact Wp.r_return (pc := 14) o_X11_copyRow rfl (H)
noncomputable abbrev Y_X11_copyRow_44_125 (d : Nat) (Q : Qt) : Xt := Wp SHC (WpM SHC MT (d + 0)) (flat2 cq_X11_copyRow) (none) Q
noncomputable def f_X11_copyRow_44_125  (s : Sg) : Option (Unit × Sg) :=
  ck (¬ (0 : Int32) < 0 ∧ ¬ (0 : Int32) < 0 ∧ ¬ (if 4 < (4 : Int32) then 4 else (4 : Int32)) < 0 ∧ 0 + (if 4 < (4 : Int32) then 4 else (4 : Int32)).toNatClampNeg ≤ 4 ∧ 0 + (if 4 < (4 : Int32) then 4 else (4 : Int32)).toNatClampNeg ≤ 4) (
  some ((), pA s 44 (va_cpy (s.1 125) (s.1 44) 0 0 (if 4 < (4 : Int32) then 4 else (4 : Int32)).toNatClampNeg))
  )
set_option maxRecDepth 100000 in
theorem w_X11_copyRow_44_125 {d : Nat} {s : Sg} {Q : Qt}  (H : OQ (f_X11_copyRow_44_125  s) (fun _ s9 => Q none s9)) : WpM SHC MT (d + 1) 184 [.ref 125, .ref 44] s Q := by
  refine WpM.enter me_X11_copyRow rfl rfl ?_
  show Y_X11_copyRow_44_125 d Q 0 [(0, .ref 125), (1, .ref 44)] [] s
  unfold f_X11_copyRow_44_125 at H
  refine Wp.f_al0_iconst (pc := 0) o_X11_copyRow rfl rfl rfl (Wp.f_al1_iconst (pc := 2) o_X11_copyRow rfl rfl rfl (Wp.f_al0_alen (pc := 4) o_X11_copyRow rfl rfl rfl lk_C_125 (Wp.f_al1_alen (pc := 6) o_X11_copyRow rfl rfl rfl lk_C_44 (Wp.r_min (pc := 8) o_X11_copyRow rfl (⟨rm8_ rfl, ?_⟩)))))
  obtain ⟨c9, H⟩ := oq_ck H
  refine Wp.run 1 (show room8 [] ∧ (¬ (0 : Int32) < 0 ∧ ¬ (0 : Int32) < 0 ∧ ¬ (if 4 < (4 : Int32) then 4 else (4 : Int32)) < 0 ∧ 0 + (if 4 < (4 : Int32) then 4 else (4 : Int32)).toNatClampNeg ≤ 4 ∧ 0 + (if 4 < (4 : Int32) then 4 else (4 : Int32)).toNatClampNeg ≤ 4) ∧ Y_X11_copyRow_44_125 d Q 14 [(0, .ref 125), (1, .ref 44)] [] (pA s 44 (va_cpy (s.1 125) (s.1 44) 0 0 (if 4 < (4 : Int32) then 4 else (4 : Int32)).toNatClampNeg)) from ⟨rm8_ rfl, c9, ?_⟩)
  exact Wp.r_return (pc := 14) o_X11_copyRow rfl (H)
noncomputable abbrev Y_X2_copyFrom_107 (d : Nat) (Q : Qt) : Xt := Wp SHC (WpM SHC MT (d + 1)) (flat2 cq_X2_copyFrom) (none) Q
noncomputable def f_X2_copyFrom_107  (s : Sg) : Option (Unit × Sg) :=
  bd (f_X11_copyRow_40_121 s) (fun _ s2 =>
  bd (f_X11_copyRow_41_122 s2) (fun _ s4 =>
  bd (f_X11_copyRow_42_123 s4) (fun _ s6 =>
  bd (f_X11_copyRow_43_124 s6) (fun _ s8 =>
  bd (f_X11_copyRow_44_125 s8) (fun _ s10 =>
  nmx (pI (pI s10 26 5 (s10.1 107 5)) 26 6 ((pI s10 26 5 (s10.1 107 5)).1 107 6)) (fun s11 =>
  ck ((s11.1 107 7) = 0 ∨ (s11.1 107 7) = 1) (
  nmx (pI (pI s11 26 7 (s11.1 107 7)) 26 8 ((pI s11 26 7 (s11.1 107 7)).1 107 8)) (fun s13 =>
  nmx (pI (pI s13 26 9 (s13.1 107 9)) 26 10 ((pI s13 26 9 (s13.1 107 9)).1 107 10)) (fun s14 =>
  nmx (pI (pI s14 26 11 (s14.1 107 11)) 26 12 ((pI s14 26 11 (s14.1 107 11)).1 107 12)) (fun s15 =>
  some ((), s15)
  )
  )
  )
  )
  )
  )
  )
  )
  )
  )
set_option maxRecDepth 100000 in
theorem w_X2_copyFrom_107 {d : Nat} {s : Sg} {Q : Qt}  (H : OQ (f_X2_copyFrom_107  s) (fun _ s9 => Q none s9)) : WpM SHC MT (d + 2) 21 [.ref 26, .ref 107] s Q := by
  refine WpM.enter me_X2_copyFrom rfl rfl ?_
  show Y_X2_copyFrom_107 d Q 0 [(0, .ref 26), (1, .ref 107)] [] s
  unfold f_X2_copyFrom_107 at H
  refine Wp.f_al1_gfr (pc := 0) o_X2_copyFrom rfl rfl rfl fk_C_107_0 (Wp.f_al0_gfr (pc := 4) o_X2_copyFrom rfl rfl rfl fk_C_26_0 (Wp.r_cs2 (pc := 8) o_X2_copyFrom rfl (⟨rm8_ rfl, ?_⟩)))
  refine w_X11_copyRow_40_121 (d := d)  ?_
  refine oq_bd H (fun _ s2 H => ?_)
  refine Wp.f_al1_gfr (pc := 11) o_X2_copyFrom rfl rfl rfl fk_C_107_1 (Wp.f_al0_gfr (pc := 15) o_X2_copyFrom rfl rfl rfl fk_C_26_1 (Wp.r_cs2 (pc := 19) o_X2_copyFrom rfl (⟨rm8_ rfl, ?_⟩)))
  refine w_X11_copyRow_41_122 (d := d)  ?_
  refine oq_bd H (fun _ s4 H => ?_)
  refine Wp.f_al1_gfr (pc := 22) o_X2_copyFrom rfl rfl rfl fk_C_107_2 (Wp.f_al0_gfr (pc := 26) o_X2_copyFrom rfl rfl rfl fk_C_26_2 (Wp.r_cs2 (pc := 30) o_X2_copyFrom rfl (⟨rm8_ rfl, ?_⟩)))
  refine w_X11_copyRow_42_123 (d := d)  ?_
  refine oq_bd H (fun _ s6 H => ?_)
  refine Wp.f_al1_gfr (pc := 33) o_X2_copyFrom rfl rfl rfl fk_C_107_3 (Wp.f_al0_gfr (pc := 37) o_X2_copyFrom rfl rfl rfl fk_C_26_3 (Wp.r_cs2 (pc := 41) o_X2_copyFrom rfl (⟨rm8_ rfl, ?_⟩)))
  refine w_X11_copyRow_43_124 (d := d)  ?_
  refine oq_bd H (fun _ s8 H => ?_)
  refine Wp.f_al1_gfr (pc := 44) o_X2_copyFrom rfl rfl rfl fk_C_107_4 (Wp.f_al0_gfr (pc := 48) o_X2_copyFrom rfl rfl rfl fk_C_26_4 (Wp.r_cs2 (pc := 52) o_X2_copyFrom rfl (⟨rm8_ rfl, ?_⟩)))
  refine w_X11_copyRow_44_125 (d := d)  ?_
  refine oq_bd H (fun _ s10 H => ?_)
  refine Wp.r_aload_n0 (pc := 55) o_X2_copyFrom rfl rfl (Wp.f_al1_gfi (pc := 56) o_X2_copyFrom rfl rfl rfl fk_C_107_5 (Wp.r_pfi (pc := 60) o_X2_copyFrom rfl fk_C_26_5 (Wp.r_aload_n0 (pc := 63) o_X2_copyFrom rfl rfl (Wp.f_al1_gfi (pc := 64) o_X2_copyFrom rfl rfl rfl fk_C_107_6 (Wp.r_pfi (pc := 68) o_X2_copyFrom rfl fk_C_26_6 (show Y_X2_copyFrom_107 d Q 71 [(0, .ref 26), (1, .ref 107)] [] (pI (pI s10 26 5 (s10.1 107 5)) 26 6 ((pI s10 26 5 (s10.1 107 5)).1 107 6)) from ?_))))))
  revert H
  generalize pI (pI s10 26 5 (s10.1 107 5)) 26 6 ((pI s10 26 5 (s10.1 107 5)).1 107 6) = s11
  intro H
  have H := nmx_e H
  obtain ⟨hc12, H⟩ := oq_ck H
  refine Wp.r_aload_n0 (pc := 71) o_X2_copyFrom rfl rfl (Wp.f_al1_gfi (pc := 72) o_X2_copyFrom rfl rfl rfl fk_C_107_7 (Wp.r_pfz (pc := 76) o_X2_copyFrom rfl fk_C_26_7 (⟨hc12, ?_⟩)))
  refine Wp.r_aload_n0 (pc := 79) o_X2_copyFrom rfl rfl (Wp.f_al1_gfi (pc := 80) o_X2_copyFrom rfl rfl rfl fk_C_107_8 (Wp.r_pfi (pc := 84) o_X2_copyFrom rfl fk_C_26_8 (show Y_X2_copyFrom_107 d Q 87 [(0, .ref 26), (1, .ref 107)] [] (pI (pI s11 26 7 (s11.1 107 7)) 26 8 ((pI s11 26 7 (s11.1 107 7)).1 107 8)) from ?_)))
  revert H
  generalize pI (pI s11 26 7 (s11.1 107 7)) 26 8 ((pI s11 26 7 (s11.1 107 7)).1 107 8) = s13
  intro H
  have H := nmx_e H
  refine Wp.r_aload_n0 (pc := 87) o_X2_copyFrom rfl rfl (Wp.f_al1_gfi (pc := 88) o_X2_copyFrom rfl rfl rfl fk_C_107_9 (Wp.r_pfi (pc := 92) o_X2_copyFrom rfl fk_C_26_9 (Wp.r_aload_n0 (pc := 95) o_X2_copyFrom rfl rfl (Wp.f_al1_gfi (pc := 96) o_X2_copyFrom rfl rfl rfl fk_C_107_10 (Wp.r_pfi (pc := 100) o_X2_copyFrom rfl fk_C_26_10 (show Y_X2_copyFrom_107 d Q 103 [(0, .ref 26), (1, .ref 107)] [] (pI (pI s13 26 9 (s13.1 107 9)) 26 10 ((pI s13 26 9 (s13.1 107 9)).1 107 10)) from ?_))))))
  revert H
  generalize pI (pI s13 26 9 (s13.1 107 9)) 26 10 ((pI s13 26 9 (s13.1 107 9)).1 107 10) = s14
  intro H
  have H := nmx_e H
  refine Wp.r_aload_n0 (pc := 103) o_X2_copyFrom rfl rfl (Wp.f_al1_gfi (pc := 104) o_X2_copyFrom rfl rfl rfl fk_C_107_11 (Wp.r_pfi (pc := 108) o_X2_copyFrom rfl fk_C_26_11 (Wp.r_aload_n0 (pc := 111) o_X2_copyFrom rfl rfl (Wp.f_al1_gfi (pc := 112) o_X2_copyFrom rfl rfl rfl fk_C_107_12 (Wp.r_pfi (pc := 116) o_X2_copyFrom rfl fk_C_26_12 (show Y_X2_copyFrom_107 d Q 119 [(0, .ref 26), (1, .ref 107)] [] (pI (pI s14 26 11 (s14.1 107 11)) 26 12 ((pI s14 26 11 (s14.1 107 11)).1 107 12)) from ?_))))))
  revert H
  generalize pI (pI s14 26 11 (s14.1 107 11)) 26 12 ((pI s14 26 11 (s14.1 107 11)).1 107 12) = s15
  intro H
  have H := nmx_e H
  exact Wp.r_return (pc := 119) o_X2_copyFrom rfl (H)
noncomputable abbrev Y_X11_copyRow_45_126 (d : Nat) (Q : Qt) : Xt := Wp SHC (WpM SHC MT (d + 0)) (flat2 cq_X11_copyRow) (none) Q
noncomputable def f_X11_copyRow_45_126  (s : Sg) : Option (Unit × Sg) :=
  ck (¬ (0 : Int32) < 0 ∧ ¬ (0 : Int32) < 0 ∧ ¬ (if 60 < (60 : Int32) then 60 else (60 : Int32)) < 0 ∧ 0 + (if 60 < (60 : Int32) then 60 else (60 : Int32)).toNatClampNeg ≤ 60 ∧ 0 + (if 60 < (60 : Int32) then 60 else (60 : Int32)).toNatClampNeg ≤ 60) (
  some ((), pA s 45 (va_cpy (s.1 126) (s.1 45) 0 0 (if 60 < (60 : Int32) then 60 else (60 : Int32)).toNatClampNeg))
  )
set_option maxRecDepth 100000 in
theorem w_X11_copyRow_45_126 {d : Nat} {s : Sg} {Q : Qt}  (H : OQ (f_X11_copyRow_45_126  s) (fun _ s9 => Q none s9)) : WpM SHC MT (d + 1) 184 [.ref 126, .ref 45] s Q := by
  refine WpM.enter me_X11_copyRow rfl rfl ?_
  show Y_X11_copyRow_45_126 d Q 0 [(0, .ref 126), (1, .ref 45)] [] s
  unfold f_X11_copyRow_45_126 at H
  refine Wp.f_al0_iconst (pc := 0) o_X11_copyRow rfl rfl rfl (Wp.f_al1_iconst (pc := 2) o_X11_copyRow rfl rfl rfl (Wp.f_al0_alen (pc := 4) o_X11_copyRow rfl rfl rfl lk_C_126 (Wp.f_al1_alen (pc := 6) o_X11_copyRow rfl rfl rfl lk_C_45 (Wp.r_min (pc := 8) o_X11_copyRow rfl (⟨rm8_ rfl, ?_⟩)))))
  obtain ⟨c9, H⟩ := oq_ck H
  refine Wp.run 1 (show room8 [] ∧ (¬ (0 : Int32) < 0 ∧ ¬ (0 : Int32) < 0 ∧ ¬ (if 60 < (60 : Int32) then 60 else (60 : Int32)) < 0 ∧ 0 + (if 60 < (60 : Int32) then 60 else (60 : Int32)).toNatClampNeg ≤ 60 ∧ 0 + (if 60 < (60 : Int32) then 60 else (60 : Int32)).toNatClampNeg ≤ 60) ∧ Y_X11_copyRow_45_126 d Q 14 [(0, .ref 126), (1, .ref 45)] [] (pA s 45 (va_cpy (s.1 126) (s.1 45) 0 0 (if 60 < (60 : Int32) then 60 else (60 : Int32)).toNatClampNeg)) from ⟨rm8_ rfl, c9, ?_⟩)
  exact Wp.r_return (pc := 14) o_X11_copyRow rfl (H)
noncomputable abbrev Y_X11_copyRow_46_127 (d : Nat) (Q : Qt) : Xt := Wp SHC (WpM SHC MT (d + 0)) (flat2 cq_X11_copyRow) (none) Q
noncomputable def f_X11_copyRow_46_127  (s : Sg) : Option (Unit × Sg) :=
  ck (¬ (0 : Int32) < 0 ∧ ¬ (0 : Int32) < 0 ∧ ¬ (if 60 < (60 : Int32) then 60 else (60 : Int32)) < 0 ∧ 0 + (if 60 < (60 : Int32) then 60 else (60 : Int32)).toNatClampNeg ≤ 60 ∧ 0 + (if 60 < (60 : Int32) then 60 else (60 : Int32)).toNatClampNeg ≤ 60) (
  some ((), pA s 46 (va_cpy (s.1 127) (s.1 46) 0 0 (if 60 < (60 : Int32) then 60 else (60 : Int32)).toNatClampNeg))
  )
set_option maxRecDepth 100000 in
theorem w_X11_copyRow_46_127 {d : Nat} {s : Sg} {Q : Qt}  (H : OQ (f_X11_copyRow_46_127  s) (fun _ s9 => Q none s9)) : WpM SHC MT (d + 1) 184 [.ref 127, .ref 46] s Q := by
  refine WpM.enter me_X11_copyRow rfl rfl ?_
  show Y_X11_copyRow_46_127 d Q 0 [(0, .ref 127), (1, .ref 46)] [] s
  unfold f_X11_copyRow_46_127 at H
  refine Wp.f_al0_iconst (pc := 0) o_X11_copyRow rfl rfl rfl (Wp.f_al1_iconst (pc := 2) o_X11_copyRow rfl rfl rfl (Wp.f_al0_alen (pc := 4) o_X11_copyRow rfl rfl rfl lk_C_127 (Wp.f_al1_alen (pc := 6) o_X11_copyRow rfl rfl rfl lk_C_46 (Wp.r_min (pc := 8) o_X11_copyRow rfl (⟨rm8_ rfl, ?_⟩)))))
  obtain ⟨c9, H⟩ := oq_ck H
  refine Wp.run 1 (show room8 [] ∧ (¬ (0 : Int32) < 0 ∧ ¬ (0 : Int32) < 0 ∧ ¬ (if 60 < (60 : Int32) then 60 else (60 : Int32)) < 0 ∧ 0 + (if 60 < (60 : Int32) then 60 else (60 : Int32)).toNatClampNeg ≤ 60 ∧ 0 + (if 60 < (60 : Int32) then 60 else (60 : Int32)).toNatClampNeg ≤ 60) ∧ Y_X11_copyRow_46_127 d Q 14 [(0, .ref 127), (1, .ref 46)] [] (pA s 46 (va_cpy (s.1 127) (s.1 46) 0 0 (if 60 < (60 : Int32) then 60 else (60 : Int32)).toNatClampNeg)) from ⟨rm8_ rfl, c9, ?_⟩)
  exact Wp.r_return (pc := 14) o_X11_copyRow rfl (H)
noncomputable abbrev Y_X11_copyRow_47_128 (d : Nat) (Q : Qt) : Xt := Wp SHC (WpM SHC MT (d + 0)) (flat2 cq_X11_copyRow) (none) Q
noncomputable def f_X11_copyRow_47_128  (s : Sg) : Option (Unit × Sg) :=
  ck (¬ (0 : Int32) < 0 ∧ ¬ (0 : Int32) < 0 ∧ ¬ (if 60 < (60 : Int32) then 60 else (60 : Int32)) < 0 ∧ 0 + (if 60 < (60 : Int32) then 60 else (60 : Int32)).toNatClampNeg ≤ 60 ∧ 0 + (if 60 < (60 : Int32) then 60 else (60 : Int32)).toNatClampNeg ≤ 60) (
  some ((), pA s 47 (va_cpy (s.1 128) (s.1 47) 0 0 (if 60 < (60 : Int32) then 60 else (60 : Int32)).toNatClampNeg))
  )
set_option maxRecDepth 100000 in
theorem w_X11_copyRow_47_128 {d : Nat} {s : Sg} {Q : Qt}  (H : OQ (f_X11_copyRow_47_128  s) (fun _ s9 => Q none s9)) : WpM SHC MT (d + 1) 184 [.ref 128, .ref 47] s Q := by
  refine WpM.enter me_X11_copyRow rfl rfl ?_
  show Y_X11_copyRow_47_128 d Q 0 [(0, .ref 128), (1, .ref 47)] [] s
  unfold f_X11_copyRow_47_128 at H
  refine Wp.f_al0_iconst (pc := 0) o_X11_copyRow rfl rfl rfl (Wp.f_al1_iconst (pc := 2) o_X11_copyRow rfl rfl rfl (Wp.f_al0_alen (pc := 4) o_X11_copyRow rfl rfl rfl lk_C_128 (Wp.f_al1_alen (pc := 6) o_X11_copyRow rfl rfl rfl lk_C_47 (Wp.r_min (pc := 8) o_X11_copyRow rfl (⟨rm8_ rfl, ?_⟩)))))
  obtain ⟨c9, H⟩ := oq_ck H
  refine Wp.run 1 (show room8 [] ∧ (¬ (0 : Int32) < 0 ∧ ¬ (0 : Int32) < 0 ∧ ¬ (if 60 < (60 : Int32) then 60 else (60 : Int32)) < 0 ∧ 0 + (if 60 < (60 : Int32) then 60 else (60 : Int32)).toNatClampNeg ≤ 60 ∧ 0 + (if 60 < (60 : Int32) then 60 else (60 : Int32)).toNatClampNeg ≤ 60) ∧ Y_X11_copyRow_47_128 d Q 14 [(0, .ref 128), (1, .ref 47)] [] (pA s 47 (va_cpy (s.1 128) (s.1 47) 0 0 (if 60 < (60 : Int32) then 60 else (60 : Int32)).toNatClampNeg)) from ⟨rm8_ rfl, c9, ?_⟩)
  exact Wp.r_return (pc := 14) o_X11_copyRow rfl (H)
noncomputable abbrev Y_X11_copyRow_48_129 (d : Nat) (Q : Qt) : Xt := Wp SHC (WpM SHC MT (d + 0)) (flat2 cq_X11_copyRow) (none) Q
noncomputable def f_X11_copyRow_48_129  (s : Sg) : Option (Unit × Sg) :=
  ck (¬ (0 : Int32) < 0 ∧ ¬ (0 : Int32) < 0 ∧ ¬ (if 60 < (60 : Int32) then 60 else (60 : Int32)) < 0 ∧ 0 + (if 60 < (60 : Int32) then 60 else (60 : Int32)).toNatClampNeg ≤ 60 ∧ 0 + (if 60 < (60 : Int32) then 60 else (60 : Int32)).toNatClampNeg ≤ 60) (
  some ((), pA s 48 (va_cpy (s.1 129) (s.1 48) 0 0 (if 60 < (60 : Int32) then 60 else (60 : Int32)).toNatClampNeg))
  )
set_option maxRecDepth 100000 in
theorem w_X11_copyRow_48_129 {d : Nat} {s : Sg} {Q : Qt}  (H : OQ (f_X11_copyRow_48_129  s) (fun _ s9 => Q none s9)) : WpM SHC MT (d + 1) 184 [.ref 129, .ref 48] s Q := by
  refine WpM.enter me_X11_copyRow rfl rfl ?_
  show Y_X11_copyRow_48_129 d Q 0 [(0, .ref 129), (1, .ref 48)] [] s
  unfold f_X11_copyRow_48_129 at H
  refine Wp.f_al0_iconst (pc := 0) o_X11_copyRow rfl rfl rfl (Wp.f_al1_iconst (pc := 2) o_X11_copyRow rfl rfl rfl (Wp.f_al0_alen (pc := 4) o_X11_copyRow rfl rfl rfl lk_C_129 (Wp.f_al1_alen (pc := 6) o_X11_copyRow rfl rfl rfl lk_C_48 (Wp.r_min (pc := 8) o_X11_copyRow rfl (⟨rm8_ rfl, ?_⟩)))))
  obtain ⟨c9, H⟩ := oq_ck H
  refine Wp.run 1 (show room8 [] ∧ (¬ (0 : Int32) < 0 ∧ ¬ (0 : Int32) < 0 ∧ ¬ (if 60 < (60 : Int32) then 60 else (60 : Int32)) < 0 ∧ 0 + (if 60 < (60 : Int32) then 60 else (60 : Int32)).toNatClampNeg ≤ 60 ∧ 0 + (if 60 < (60 : Int32) then 60 else (60 : Int32)).toNatClampNeg ≤ 60) ∧ Y_X11_copyRow_48_129 d Q 14 [(0, .ref 129), (1, .ref 48)] [] (pA s 48 (va_cpy (s.1 129) (s.1 48) 0 0 (if 60 < (60 : Int32) then 60 else (60 : Int32)).toNatClampNeg)) from ⟨rm8_ rfl, c9, ?_⟩)
  exact Wp.r_return (pc := 14) o_X11_copyRow rfl (H)
noncomputable abbrev Y_X11_copyRow_49_130 (d : Nat) (Q : Qt) : Xt := Wp SHC (WpM SHC MT (d + 0)) (flat2 cq_X11_copyRow) (none) Q
noncomputable def f_X11_copyRow_49_130  (s : Sg) : Option (Unit × Sg) :=
  ck (¬ (0 : Int32) < 0 ∧ ¬ (0 : Int32) < 0 ∧ ¬ (if 60 < (60 : Int32) then 60 else (60 : Int32)) < 0 ∧ 0 + (if 60 < (60 : Int32) then 60 else (60 : Int32)).toNatClampNeg ≤ 60 ∧ 0 + (if 60 < (60 : Int32) then 60 else (60 : Int32)).toNatClampNeg ≤ 60) (
  some ((), pA s 49 (va_cpy (s.1 130) (s.1 49) 0 0 (if 60 < (60 : Int32) then 60 else (60 : Int32)).toNatClampNeg))
  )
set_option maxRecDepth 100000 in
theorem w_X11_copyRow_49_130 {d : Nat} {s : Sg} {Q : Qt}  (H : OQ (f_X11_copyRow_49_130  s) (fun _ s9 => Q none s9)) : WpM SHC MT (d + 1) 184 [.ref 130, .ref 49] s Q := by
  refine WpM.enter me_X11_copyRow rfl rfl ?_
  show Y_X11_copyRow_49_130 d Q 0 [(0, .ref 130), (1, .ref 49)] [] s
  unfold f_X11_copyRow_49_130 at H
  refine Wp.f_al0_iconst (pc := 0) o_X11_copyRow rfl rfl rfl (Wp.f_al1_iconst (pc := 2) o_X11_copyRow rfl rfl rfl (Wp.f_al0_alen (pc := 4) o_X11_copyRow rfl rfl rfl lk_C_130 (Wp.f_al1_alen (pc := 6) o_X11_copyRow rfl rfl rfl lk_C_49 (Wp.r_min (pc := 8) o_X11_copyRow rfl (⟨rm8_ rfl, ?_⟩)))))
  obtain ⟨c9, H⟩ := oq_ck H
  refine Wp.run 1 (show room8 [] ∧ (¬ (0 : Int32) < 0 ∧ ¬ (0 : Int32) < 0 ∧ ¬ (if 60 < (60 : Int32) then 60 else (60 : Int32)) < 0 ∧ 0 + (if 60 < (60 : Int32) then 60 else (60 : Int32)).toNatClampNeg ≤ 60 ∧ 0 + (if 60 < (60 : Int32) then 60 else (60 : Int32)).toNatClampNeg ≤ 60) ∧ Y_X11_copyRow_49_130 d Q 14 [(0, .ref 130), (1, .ref 49)] [] (pA s 49 (va_cpy (s.1 130) (s.1 49) 0 0 (if 60 < (60 : Int32) then 60 else (60 : Int32)).toNatClampNeg)) from ⟨rm8_ rfl, c9, ?_⟩)
  exact Wp.r_return (pc := 14) o_X11_copyRow rfl (H)
noncomputable abbrev Y_X11_copyRow_50_131 (d : Nat) (Q : Qt) : Xt := Wp SHC (WpM SHC MT (d + 0)) (flat2 cq_X11_copyRow) (none) Q
noncomputable def f_X11_copyRow_50_131  (s : Sg) : Option (Unit × Sg) :=
  ck (¬ (0 : Int32) < 0 ∧ ¬ (0 : Int32) < 0 ∧ ¬ (if 60 < (60 : Int32) then 60 else (60 : Int32)) < 0 ∧ 0 + (if 60 < (60 : Int32) then 60 else (60 : Int32)).toNatClampNeg ≤ 60 ∧ 0 + (if 60 < (60 : Int32) then 60 else (60 : Int32)).toNatClampNeg ≤ 60) (
  some ((), pA s 50 (va_cpy (s.1 131) (s.1 50) 0 0 (if 60 < (60 : Int32) then 60 else (60 : Int32)).toNatClampNeg))
  )
set_option maxRecDepth 100000 in
theorem w_X11_copyRow_50_131 {d : Nat} {s : Sg} {Q : Qt}  (H : OQ (f_X11_copyRow_50_131  s) (fun _ s9 => Q none s9)) : WpM SHC MT (d + 1) 184 [.ref 131, .ref 50] s Q := by
  refine WpM.enter me_X11_copyRow rfl rfl ?_
  show Y_X11_copyRow_50_131 d Q 0 [(0, .ref 131), (1, .ref 50)] [] s
  unfold f_X11_copyRow_50_131 at H
  refine Wp.f_al0_iconst (pc := 0) o_X11_copyRow rfl rfl rfl (Wp.f_al1_iconst (pc := 2) o_X11_copyRow rfl rfl rfl (Wp.f_al0_alen (pc := 4) o_X11_copyRow rfl rfl rfl lk_C_131 (Wp.f_al1_alen (pc := 6) o_X11_copyRow rfl rfl rfl lk_C_50 (Wp.r_min (pc := 8) o_X11_copyRow rfl (⟨rm8_ rfl, ?_⟩)))))
  obtain ⟨c9, H⟩ := oq_ck H
  refine Wp.run 1 (show room8 [] ∧ (¬ (0 : Int32) < 0 ∧ ¬ (0 : Int32) < 0 ∧ ¬ (if 60 < (60 : Int32) then 60 else (60 : Int32)) < 0 ∧ 0 + (if 60 < (60 : Int32) then 60 else (60 : Int32)).toNatClampNeg ≤ 60 ∧ 0 + (if 60 < (60 : Int32) then 60 else (60 : Int32)).toNatClampNeg ≤ 60) ∧ Y_X11_copyRow_50_131 d Q 14 [(0, .ref 131), (1, .ref 50)] [] (pA s 50 (va_cpy (s.1 131) (s.1 50) 0 0 (if 60 < (60 : Int32) then 60 else (60 : Int32)).toNatClampNeg)) from ⟨rm8_ rfl, c9, ?_⟩)
  exact Wp.r_return (pc := 14) o_X11_copyRow rfl (H)
noncomputable abbrev Y_X5_copyFrom_108 (d : Nat) (Q : Qt) : Xt := Wp SHC (WpM SHC MT (d + 1)) (flat2 cq_X5_copyFrom) (none) Q
noncomputable def f_X5_copyFrom_108  (s : Sg) : Option (Unit × Sg) :=
  bd (f_X11_copyRow_45_126 s) (fun _ s2 =>
  bd (f_X11_copyRow_46_127 s2) (fun _ s4 =>
  bd (f_X11_copyRow_47_128 s4) (fun _ s6 =>
  bd (f_X11_copyRow_48_129 s6) (fun _ s8 =>
  bd (f_X11_copyRow_49_130 s8) (fun _ s10 =>
  bd (f_X11_copyRow_50_131 s10) (fun _ s12 =>
  ck ((s12.1 108 6) = 0 ∨ (s12.1 108 6) = 1) (
  nmx (pI (pI s12 27 6 (s12.1 108 6)) 27 7 ((pI s12 27 6 (s12.1 108 6)).1 108 7)) (fun s14 =>
  some ((), pI s14 27 8 (s14.1 108 8))
  )
  )
  )
  )
  )
  )
  )
  )
set_option maxRecDepth 100000 in
theorem w_X5_copyFrom_108 {d : Nat} {s : Sg} {Q : Qt}  (H : OQ (f_X5_copyFrom_108  s) (fun _ s9 => Q none s9)) : WpM SHC MT (d + 2) 62 [.ref 27, .ref 108] s Q := by
  refine WpM.enter me_X5_copyFrom rfl rfl ?_
  show Y_X5_copyFrom_108 d Q 0 [(0, .ref 27), (1, .ref 108)] [] s
  unfold f_X5_copyFrom_108 at H
  refine Wp.f_al1_gfr (pc := 0) o_X5_copyFrom rfl rfl rfl fk_C_108_0 (Wp.f_al0_gfr (pc := 4) o_X5_copyFrom rfl rfl rfl fk_C_27_0 (Wp.r_cs2 (pc := 8) o_X5_copyFrom rfl (⟨rm8_ rfl, ?_⟩)))
  refine w_X11_copyRow_45_126 (d := d)  ?_
  refine oq_bd H (fun _ s2 H => ?_)
  refine Wp.f_al1_gfr (pc := 11) o_X5_copyFrom rfl rfl rfl fk_C_108_1 (Wp.f_al0_gfr (pc := 15) o_X5_copyFrom rfl rfl rfl fk_C_27_1 (Wp.r_cs2 (pc := 19) o_X5_copyFrom rfl (⟨rm8_ rfl, ?_⟩)))
  refine w_X11_copyRow_46_127 (d := d)  ?_
  refine oq_bd H (fun _ s4 H => ?_)
  refine Wp.f_al1_gfr (pc := 22) o_X5_copyFrom rfl rfl rfl fk_C_108_2 (Wp.f_al0_gfr (pc := 26) o_X5_copyFrom rfl rfl rfl fk_C_27_2 (Wp.r_cs2 (pc := 30) o_X5_copyFrom rfl (⟨rm8_ rfl, ?_⟩)))
  refine w_X11_copyRow_47_128 (d := d)  ?_
  refine oq_bd H (fun _ s6 H => ?_)
  refine Wp.f_al1_gfr (pc := 33) o_X5_copyFrom rfl rfl rfl fk_C_108_3 (Wp.f_al0_gfr (pc := 37) o_X5_copyFrom rfl rfl rfl fk_C_27_3 (Wp.r_cs2 (pc := 41) o_X5_copyFrom rfl (⟨rm8_ rfl, ?_⟩)))
  refine w_X11_copyRow_48_129 (d := d)  ?_
  refine oq_bd H (fun _ s8 H => ?_)
  refine Wp.f_al1_gfr (pc := 44) o_X5_copyFrom rfl rfl rfl fk_C_108_4 (Wp.f_al0_gfr (pc := 48) o_X5_copyFrom rfl rfl rfl fk_C_27_4 (Wp.r_cs2 (pc := 52) o_X5_copyFrom rfl (⟨rm8_ rfl, ?_⟩)))
  refine w_X11_copyRow_49_130 (d := d)  ?_
  refine oq_bd H (fun _ s10 H => ?_)
  refine Wp.f_al1_gfr (pc := 55) o_X5_copyFrom rfl rfl rfl fk_C_108_5 (Wp.f_al0_gfr (pc := 59) o_X5_copyFrom rfl rfl rfl fk_C_27_5 (Wp.r_cs2 (pc := 63) o_X5_copyFrom rfl (⟨rm8_ rfl, ?_⟩)))
  refine w_X11_copyRow_50_131 (d := d)  ?_
  refine oq_bd H (fun _ s12 H => ?_)
  obtain ⟨hc13, H⟩ := oq_ck H
  refine Wp.r_aload_n0 (pc := 66) o_X5_copyFrom rfl rfl (Wp.f_al1_gfi (pc := 67) o_X5_copyFrom rfl rfl rfl fk_C_108_6 (Wp.r_pfz (pc := 71) o_X5_copyFrom rfl fk_C_27_6 (⟨hc13, ?_⟩)))
  refine Wp.r_aload_n0 (pc := 74) o_X5_copyFrom rfl rfl (Wp.f_al1_gfi (pc := 75) o_X5_copyFrom rfl rfl rfl fk_C_108_7 (Wp.r_pfi (pc := 79) o_X5_copyFrom rfl fk_C_27_7 (show Y_X5_copyFrom_108 d Q 82 [(0, .ref 27), (1, .ref 108)] [] (pI (pI s12 27 6 (s12.1 108 6)) 27 7 ((pI s12 27 6 (s12.1 108 6)).1 108 7)) from ?_)))
  revert H
  generalize pI (pI s12 27 6 (s12.1 108 6)) 27 7 ((pI s12 27 6 (s12.1 108 6)).1 108 7) = s14
  intro H
  have H := nmx_e H
  exact Wp.r_aload_n0 (pc := 82) o_X5_copyFrom rfl rfl (Wp.f_al1_gfi (pc := 83) o_X5_copyFrom rfl rfl rfl fk_C_108_8 (Wp.r_pfi (pc := 87) o_X5_copyFrom rfl fk_C_27_8 (Wp.r_return (pc := 90) o_X5_copyFrom rfl (H))))
noncomputable abbrev Y_X10_copyFrom_105 (d : Nat) (Q : Qt) : Xt := Wp SHC (WpM SHC MT (d + 2)) (flat2 cq_X10_copyFrom) (none) Q
noncomputable def f_X10_copyFrom_105  (s : Sg) : Option (Unit × Sg) :=
  bd (f_X4_copyFrom_106 s) (fun _ s2 =>
  bd (f_X2_copyFrom_107 s2) (fun _ s4 =>
  bd (f_X5_copyFrom_108 s4) (fun _ s6 =>
  some ((), s6)
  )
  )
  )
set_option maxRecDepth 100000 in
theorem w_X10_copyFrom_105 {d : Nat} {s : Sg} {Q : Qt}  (H : OQ (f_X10_copyFrom_105  s) (fun _ s9 => Q none s9)) : WpM SHC MT (d + 3) 101 [.ref 24, .ref 105] s Q := by
  refine WpM.enter me_X10_copyFrom rfl rfl ?_
  show Y_X10_copyFrom_105 d Q 0 [(0, .ref 24), (1, .ref 105)] [] s
  unfold f_X10_copyFrom_105 at H
  refine Wp.f_al0_gfr (pc := 0) o_X10_copyFrom rfl rfl rfl fk_C_24_0 (Wp.f_al1_gfr (pc := 4) o_X10_copyFrom rfl rfl rfl fk_C_105_0 (Wp.r_cv2 (pc := 8) o_X10_copyFrom rfl fk_C_25_0 (⟨rm8_ rfl, ?_⟩)))
  refine w_X4_copyFrom_106 (d := d)  ?_
  refine oq_bd H (fun _ s2 H => ?_)
  refine Wp.f_al0_gfr (pc := 11) o_X10_copyFrom rfl rfl rfl fk_C_24_1 (Wp.f_al1_gfr (pc := 15) o_X10_copyFrom rfl rfl rfl fk_C_105_1 (Wp.r_cv2 (pc := 19) o_X10_copyFrom rfl fk_C_26_0 (⟨rm8_ rfl, ?_⟩)))
  refine w_X2_copyFrom_107 (d := d)  ?_
  refine oq_bd H (fun _ s4 H => ?_)
  refine Wp.f_al0_gfr (pc := 22) o_X10_copyFrom rfl rfl rfl fk_C_24_2 (Wp.f_al1_gfr (pc := 26) o_X10_copyFrom rfl rfl rfl fk_C_105_2 (Wp.r_cv2 (pc := 30) o_X10_copyFrom rfl fk_C_27_0 (⟨rm8_ rfl, ?_⟩)))
  refine w_X5_copyFrom_108 (d := d)  ?_
  refine oq_bd H (fun _ s6 H => ?_)
  exact Wp.r_return (pc := 33) o_X10_copyFrom rfl (H)
noncomputable abbrev Y_X11_copyRow_29_137 (d : Nat) (Q : Qt) : Xt := Wp SHC (WpM SHC MT (d + 0)) (flat2 cq_X11_copyRow) (none) Q
noncomputable def f_X11_copyRow_29_137  (s : Sg) : Option (Unit × Sg) :=
  ck (¬ (0 : Int32) < 0 ∧ ¬ (0 : Int32) < 0 ∧ ¬ (if 24 < (24 : Int32) then 24 else (24 : Int32)) < 0 ∧ 0 + (if 24 < (24 : Int32) then 24 else (24 : Int32)).toNatClampNeg ≤ 24 ∧ 0 + (if 24 < (24 : Int32) then 24 else (24 : Int32)).toNatClampNeg ≤ 24) (
  some ((), pA s 29 (va_cpy (s.1 137) (s.1 29) 0 0 (if 24 < (24 : Int32) then 24 else (24 : Int32)).toNatClampNeg))
  )
set_option maxRecDepth 100000 in
theorem w_X11_copyRow_29_137 {d : Nat} {s : Sg} {Q : Qt}  (H : OQ (f_X11_copyRow_29_137  s) (fun _ s9 => Q none s9)) : WpM SHC MT (d + 1) 184 [.ref 137, .ref 29] s Q := by
  refine WpM.enter me_X11_copyRow rfl rfl ?_
  show Y_X11_copyRow_29_137 d Q 0 [(0, .ref 137), (1, .ref 29)] [] s
  unfold f_X11_copyRow_29_137 at H
  refine Wp.f_al0_iconst (pc := 0) o_X11_copyRow rfl rfl rfl (Wp.f_al1_iconst (pc := 2) o_X11_copyRow rfl rfl rfl (Wp.f_al0_alen (pc := 4) o_X11_copyRow rfl rfl rfl lk_C_137 (Wp.f_al1_alen (pc := 6) o_X11_copyRow rfl rfl rfl lk_C_29 (Wp.r_min (pc := 8) o_X11_copyRow rfl (⟨rm8_ rfl, ?_⟩)))))
  obtain ⟨c9, H⟩ := oq_ck H
  refine Wp.run 1 (show room8 [] ∧ (¬ (0 : Int32) < 0 ∧ ¬ (0 : Int32) < 0 ∧ ¬ (if 24 < (24 : Int32) then 24 else (24 : Int32)) < 0 ∧ 0 + (if 24 < (24 : Int32) then 24 else (24 : Int32)).toNatClampNeg ≤ 24 ∧ 0 + (if 24 < (24 : Int32) then 24 else (24 : Int32)).toNatClampNeg ≤ 24) ∧ Y_X11_copyRow_29_137 d Q 14 [(0, .ref 137), (1, .ref 29)] [] (pA s 29 (va_cpy (s.1 137) (s.1 29) 0 0 (if 24 < (24 : Int32) then 24 else (24 : Int32)).toNatClampNeg)) from ⟨rm8_ rfl, c9, ?_⟩)
  exact Wp.r_return (pc := 14) o_X11_copyRow rfl (H)
noncomputable abbrev Y_X11_copyRow_30_138 (d : Nat) (Q : Qt) : Xt := Wp SHC (WpM SHC MT (d + 0)) (flat2 cq_X11_copyRow) (none) Q
noncomputable def f_X11_copyRow_30_138  (s : Sg) : Option (Unit × Sg) :=
  ck (¬ (0 : Int32) < 0 ∧ ¬ (0 : Int32) < 0 ∧ ¬ (if 24 < (24 : Int32) then 24 else (24 : Int32)) < 0 ∧ 0 + (if 24 < (24 : Int32) then 24 else (24 : Int32)).toNatClampNeg ≤ 24 ∧ 0 + (if 24 < (24 : Int32) then 24 else (24 : Int32)).toNatClampNeg ≤ 24) (
  some ((), pA s 30 (va_cpy (s.1 138) (s.1 30) 0 0 (if 24 < (24 : Int32) then 24 else (24 : Int32)).toNatClampNeg))
  )
set_option maxRecDepth 100000 in
theorem w_X11_copyRow_30_138 {d : Nat} {s : Sg} {Q : Qt}  (H : OQ (f_X11_copyRow_30_138  s) (fun _ s9 => Q none s9)) : WpM SHC MT (d + 1) 184 [.ref 138, .ref 30] s Q := by
  refine WpM.enter me_X11_copyRow rfl rfl ?_
  show Y_X11_copyRow_30_138 d Q 0 [(0, .ref 138), (1, .ref 30)] [] s
  unfold f_X11_copyRow_30_138 at H
  refine Wp.f_al0_iconst (pc := 0) o_X11_copyRow rfl rfl rfl (Wp.f_al1_iconst (pc := 2) o_X11_copyRow rfl rfl rfl (Wp.f_al0_alen (pc := 4) o_X11_copyRow rfl rfl rfl lk_C_138 (Wp.f_al1_alen (pc := 6) o_X11_copyRow rfl rfl rfl lk_C_30 (Wp.r_min (pc := 8) o_X11_copyRow rfl (⟨rm8_ rfl, ?_⟩)))))
  obtain ⟨c9, H⟩ := oq_ck H
  refine Wp.run 1 (show room8 [] ∧ (¬ (0 : Int32) < 0 ∧ ¬ (0 : Int32) < 0 ∧ ¬ (if 24 < (24 : Int32) then 24 else (24 : Int32)) < 0 ∧ 0 + (if 24 < (24 : Int32) then 24 else (24 : Int32)).toNatClampNeg ≤ 24 ∧ 0 + (if 24 < (24 : Int32) then 24 else (24 : Int32)).toNatClampNeg ≤ 24) ∧ Y_X11_copyRow_30_138 d Q 14 [(0, .ref 138), (1, .ref 30)] [] (pA s 30 (va_cpy (s.1 138) (s.1 30) 0 0 (if 24 < (24 : Int32) then 24 else (24 : Int32)).toNatClampNeg)) from ⟨rm8_ rfl, c9, ?_⟩)
  exact Wp.r_return (pc := 14) o_X11_copyRow rfl (H)
noncomputable abbrev Y_X11_copyRow_31_139 (d : Nat) (Q : Qt) : Xt := Wp SHC (WpM SHC MT (d + 0)) (flat2 cq_X11_copyRow) (none) Q
noncomputable def f_X11_copyRow_31_139  (s : Sg) : Option (Unit × Sg) :=
  ck (¬ (0 : Int32) < 0 ∧ ¬ (0 : Int32) < 0 ∧ ¬ (if 8 < (8 : Int32) then 8 else (8 : Int32)) < 0 ∧ 0 + (if 8 < (8 : Int32) then 8 else (8 : Int32)).toNatClampNeg ≤ 8 ∧ 0 + (if 8 < (8 : Int32) then 8 else (8 : Int32)).toNatClampNeg ≤ 8) (
  some ((), pA s 31 (va_cpy (s.1 139) (s.1 31) 0 0 (if 8 < (8 : Int32) then 8 else (8 : Int32)).toNatClampNeg))
  )
set_option maxRecDepth 100000 in
theorem w_X11_copyRow_31_139 {d : Nat} {s : Sg} {Q : Qt}  (H : OQ (f_X11_copyRow_31_139  s) (fun _ s9 => Q none s9)) : WpM SHC MT (d + 1) 184 [.ref 139, .ref 31] s Q := by
  refine WpM.enter me_X11_copyRow rfl rfl ?_
  show Y_X11_copyRow_31_139 d Q 0 [(0, .ref 139), (1, .ref 31)] [] s
  unfold f_X11_copyRow_31_139 at H
  refine Wp.f_al0_iconst (pc := 0) o_X11_copyRow rfl rfl rfl (Wp.f_al1_iconst (pc := 2) o_X11_copyRow rfl rfl rfl (Wp.f_al0_alen (pc := 4) o_X11_copyRow rfl rfl rfl lk_C_139 (Wp.f_al1_alen (pc := 6) o_X11_copyRow rfl rfl rfl lk_C_31 (Wp.r_min (pc := 8) o_X11_copyRow rfl (⟨rm8_ rfl, ?_⟩)))))
  obtain ⟨c9, H⟩ := oq_ck H
  refine Wp.run 1 (show room8 [] ∧ (¬ (0 : Int32) < 0 ∧ ¬ (0 : Int32) < 0 ∧ ¬ (if 8 < (8 : Int32) then 8 else (8 : Int32)) < 0 ∧ 0 + (if 8 < (8 : Int32) then 8 else (8 : Int32)).toNatClampNeg ≤ 8 ∧ 0 + (if 8 < (8 : Int32) then 8 else (8 : Int32)).toNatClampNeg ≤ 8) ∧ Y_X11_copyRow_31_139 d Q 14 [(0, .ref 139), (1, .ref 31)] [] (pA s 31 (va_cpy (s.1 139) (s.1 31) 0 0 (if 8 < (8 : Int32) then 8 else (8 : Int32)).toNatClampNeg)) from ⟨rm8_ rfl, c9, ?_⟩)
  exact Wp.r_return (pc := 14) o_X11_copyRow rfl (H)
noncomputable abbrev Y_X11_copyRow_32_140 (d : Nat) (Q : Qt) : Xt := Wp SHC (WpM SHC MT (d + 0)) (flat2 cq_X11_copyRow) (none) Q
noncomputable def f_X11_copyRow_32_140  (s : Sg) : Option (Unit × Sg) :=
  ck (¬ (0 : Int32) < 0 ∧ ¬ (0 : Int32) < 0 ∧ ¬ (if 8 < (8 : Int32) then 8 else (8 : Int32)) < 0 ∧ 0 + (if 8 < (8 : Int32) then 8 else (8 : Int32)).toNatClampNeg ≤ 8 ∧ 0 + (if 8 < (8 : Int32) then 8 else (8 : Int32)).toNatClampNeg ≤ 8) (
  some ((), pA s 32 (va_cpy (s.1 140) (s.1 32) 0 0 (if 8 < (8 : Int32) then 8 else (8 : Int32)).toNatClampNeg))
  )
set_option maxRecDepth 100000 in
theorem w_X11_copyRow_32_140 {d : Nat} {s : Sg} {Q : Qt}  (H : OQ (f_X11_copyRow_32_140  s) (fun _ s9 => Q none s9)) : WpM SHC MT (d + 1) 184 [.ref 140, .ref 32] s Q := by
  refine WpM.enter me_X11_copyRow rfl rfl ?_
  show Y_X11_copyRow_32_140 d Q 0 [(0, .ref 140), (1, .ref 32)] [] s
  unfold f_X11_copyRow_32_140 at H
  refine Wp.f_al0_iconst (pc := 0) o_X11_copyRow rfl rfl rfl (Wp.f_al1_iconst (pc := 2) o_X11_copyRow rfl rfl rfl (Wp.f_al0_alen (pc := 4) o_X11_copyRow rfl rfl rfl lk_C_140 (Wp.f_al1_alen (pc := 6) o_X11_copyRow rfl rfl rfl lk_C_32 (Wp.r_min (pc := 8) o_X11_copyRow rfl (⟨rm8_ rfl, ?_⟩)))))
  obtain ⟨c9, H⟩ := oq_ck H
  refine Wp.run 1 (show room8 [] ∧ (¬ (0 : Int32) < 0 ∧ ¬ (0 : Int32) < 0 ∧ ¬ (if 8 < (8 : Int32) then 8 else (8 : Int32)) < 0 ∧ 0 + (if 8 < (8 : Int32) then 8 else (8 : Int32)).toNatClampNeg ≤ 8 ∧ 0 + (if 8 < (8 : Int32) then 8 else (8 : Int32)).toNatClampNeg ≤ 8) ∧ Y_X11_copyRow_32_140 d Q 14 [(0, .ref 140), (1, .ref 32)] [] (pA s 32 (va_cpy (s.1 140) (s.1 32) 0 0 (if 8 < (8 : Int32) then 8 else (8 : Int32)).toNatClampNeg)) from ⟨rm8_ rfl, c9, ?_⟩)
  exact Wp.r_return (pc := 14) o_X11_copyRow rfl (H)
noncomputable abbrev Y_X11_copyRow_33_141 (d : Nat) (Q : Qt) : Xt := Wp SHC (WpM SHC MT (d + 0)) (flat2 cq_X11_copyRow) (none) Q
noncomputable def f_X11_copyRow_33_141  (s : Sg) : Option (Unit × Sg) :=
  ck (¬ (0 : Int32) < 0 ∧ ¬ (0 : Int32) < 0 ∧ ¬ (if 8 < (8 : Int32) then 8 else (8 : Int32)) < 0 ∧ 0 + (if 8 < (8 : Int32) then 8 else (8 : Int32)).toNatClampNeg ≤ 8 ∧ 0 + (if 8 < (8 : Int32) then 8 else (8 : Int32)).toNatClampNeg ≤ 8) (
  some ((), pA s 33 (va_cpy (s.1 141) (s.1 33) 0 0 (if 8 < (8 : Int32) then 8 else (8 : Int32)).toNatClampNeg))
  )
set_option maxRecDepth 100000 in
theorem w_X11_copyRow_33_141 {d : Nat} {s : Sg} {Q : Qt}  (H : OQ (f_X11_copyRow_33_141  s) (fun _ s9 => Q none s9)) : WpM SHC MT (d + 1) 184 [.ref 141, .ref 33] s Q := by
  refine WpM.enter me_X11_copyRow rfl rfl ?_
  show Y_X11_copyRow_33_141 d Q 0 [(0, .ref 141), (1, .ref 33)] [] s
  unfold f_X11_copyRow_33_141 at H
  refine Wp.f_al0_iconst (pc := 0) o_X11_copyRow rfl rfl rfl (Wp.f_al1_iconst (pc := 2) o_X11_copyRow rfl rfl rfl (Wp.f_al0_alen (pc := 4) o_X11_copyRow rfl rfl rfl lk_C_141 (Wp.f_al1_alen (pc := 6) o_X11_copyRow rfl rfl rfl lk_C_33 (Wp.r_min (pc := 8) o_X11_copyRow rfl (⟨rm8_ rfl, ?_⟩)))))
  obtain ⟨c9, H⟩ := oq_ck H
  refine Wp.run 1 (show room8 [] ∧ (¬ (0 : Int32) < 0 ∧ ¬ (0 : Int32) < 0 ∧ ¬ (if 8 < (8 : Int32) then 8 else (8 : Int32)) < 0 ∧ 0 + (if 8 < (8 : Int32) then 8 else (8 : Int32)).toNatClampNeg ≤ 8 ∧ 0 + (if 8 < (8 : Int32) then 8 else (8 : Int32)).toNatClampNeg ≤ 8) ∧ Y_X11_copyRow_33_141 d Q 14 [(0, .ref 141), (1, .ref 33)] [] (pA s 33 (va_cpy (s.1 141) (s.1 33) 0 0 (if 8 < (8 : Int32) then 8 else (8 : Int32)).toNatClampNeg)) from ⟨rm8_ rfl, c9, ?_⟩)
  exact Wp.r_return (pc := 14) o_X11_copyRow rfl (H)
noncomputable abbrev Y_X11_copyRow_34_142 (d : Nat) (Q : Qt) : Xt := Wp SHC (WpM SHC MT (d + 0)) (flat2 cq_X11_copyRow) (none) Q
noncomputable def f_X11_copyRow_34_142  (s : Sg) : Option (Unit × Sg) :=
  ck (¬ (0 : Int32) < 0 ∧ ¬ (0 : Int32) < 0 ∧ ¬ (if 8 < (8 : Int32) then 8 else (8 : Int32)) < 0 ∧ 0 + (if 8 < (8 : Int32) then 8 else (8 : Int32)).toNatClampNeg ≤ 8 ∧ 0 + (if 8 < (8 : Int32) then 8 else (8 : Int32)).toNatClampNeg ≤ 8) (
  some ((), pA s 34 (va_cpy (s.1 142) (s.1 34) 0 0 (if 8 < (8 : Int32) then 8 else (8 : Int32)).toNatClampNeg))
  )
set_option maxRecDepth 100000 in
theorem w_X11_copyRow_34_142 {d : Nat} {s : Sg} {Q : Qt}  (H : OQ (f_X11_copyRow_34_142  s) (fun _ s9 => Q none s9)) : WpM SHC MT (d + 1) 184 [.ref 142, .ref 34] s Q := by
  refine WpM.enter me_X11_copyRow rfl rfl ?_
  show Y_X11_copyRow_34_142 d Q 0 [(0, .ref 142), (1, .ref 34)] [] s
  unfold f_X11_copyRow_34_142 at H
  refine Wp.f_al0_iconst (pc := 0) o_X11_copyRow rfl rfl rfl (Wp.f_al1_iconst (pc := 2) o_X11_copyRow rfl rfl rfl (Wp.f_al0_alen (pc := 4) o_X11_copyRow rfl rfl rfl lk_C_142 (Wp.f_al1_alen (pc := 6) o_X11_copyRow rfl rfl rfl lk_C_34 (Wp.r_min (pc := 8) o_X11_copyRow rfl (⟨rm8_ rfl, ?_⟩)))))
  obtain ⟨c9, H⟩ := oq_ck H
  refine Wp.run 1 (show room8 [] ∧ (¬ (0 : Int32) < 0 ∧ ¬ (0 : Int32) < 0 ∧ ¬ (if 8 < (8 : Int32) then 8 else (8 : Int32)) < 0 ∧ 0 + (if 8 < (8 : Int32) then 8 else (8 : Int32)).toNatClampNeg ≤ 8 ∧ 0 + (if 8 < (8 : Int32) then 8 else (8 : Int32)).toNatClampNeg ≤ 8) ∧ Y_X11_copyRow_34_142 d Q 14 [(0, .ref 142), (1, .ref 34)] [] (pA s 34 (va_cpy (s.1 142) (s.1 34) 0 0 (if 8 < (8 : Int32) then 8 else (8 : Int32)).toNatClampNeg)) from ⟨rm8_ rfl, c9, ?_⟩)
  exact Wp.r_return (pc := 14) o_X11_copyRow rfl (H)
noncomputable abbrev Y_X11_copyRow_35_143 (d : Nat) (Q : Qt) : Xt := Wp SHC (WpM SHC MT (d + 0)) (flat2 cq_X11_copyRow) (none) Q
noncomputable def f_X11_copyRow_35_143  (s : Sg) : Option (Unit × Sg) :=
  ck (¬ (0 : Int32) < 0 ∧ ¬ (0 : Int32) < 0 ∧ ¬ (if 4 < (4 : Int32) then 4 else (4 : Int32)) < 0 ∧ 0 + (if 4 < (4 : Int32) then 4 else (4 : Int32)).toNatClampNeg ≤ 4 ∧ 0 + (if 4 < (4 : Int32) then 4 else (4 : Int32)).toNatClampNeg ≤ 4) (
  some ((), pA s 35 (va_cpy (s.1 143) (s.1 35) 0 0 (if 4 < (4 : Int32) then 4 else (4 : Int32)).toNatClampNeg))
  )
set_option maxRecDepth 100000 in
theorem w_X11_copyRow_35_143 {d : Nat} {s : Sg} {Q : Qt}  (H : OQ (f_X11_copyRow_35_143  s) (fun _ s9 => Q none s9)) : WpM SHC MT (d + 1) 184 [.ref 143, .ref 35] s Q := by
  refine WpM.enter me_X11_copyRow rfl rfl ?_
  show Y_X11_copyRow_35_143 d Q 0 [(0, .ref 143), (1, .ref 35)] [] s
  unfold f_X11_copyRow_35_143 at H
  refine Wp.f_al0_iconst (pc := 0) o_X11_copyRow rfl rfl rfl (Wp.f_al1_iconst (pc := 2) o_X11_copyRow rfl rfl rfl (Wp.f_al0_alen (pc := 4) o_X11_copyRow rfl rfl rfl lk_C_143 (Wp.f_al1_alen (pc := 6) o_X11_copyRow rfl rfl rfl lk_C_35 (Wp.r_min (pc := 8) o_X11_copyRow rfl (⟨rm8_ rfl, ?_⟩)))))
  obtain ⟨c9, H⟩ := oq_ck H
  refine Wp.run 1 (show room8 [] ∧ (¬ (0 : Int32) < 0 ∧ ¬ (0 : Int32) < 0 ∧ ¬ (if 4 < (4 : Int32) then 4 else (4 : Int32)) < 0 ∧ 0 + (if 4 < (4 : Int32) then 4 else (4 : Int32)).toNatClampNeg ≤ 4 ∧ 0 + (if 4 < (4 : Int32) then 4 else (4 : Int32)).toNatClampNeg ≤ 4) ∧ Y_X11_copyRow_35_143 d Q 14 [(0, .ref 143), (1, .ref 35)] [] (pA s 35 (va_cpy (s.1 143) (s.1 35) 0 0 (if 4 < (4 : Int32) then 4 else (4 : Int32)).toNatClampNeg)) from ⟨rm8_ rfl, c9, ?_⟩)
  exact Wp.r_return (pc := 14) o_X11_copyRow rfl (H)
noncomputable abbrev Y_X11_copyRow_36_144 (d : Nat) (Q : Qt) : Xt := Wp SHC (WpM SHC MT (d + 0)) (flat2 cq_X11_copyRow) (none) Q
noncomputable def f_X11_copyRow_36_144  (s : Sg) : Option (Unit × Sg) :=
  ck (¬ (0 : Int32) < 0 ∧ ¬ (0 : Int32) < 0 ∧ ¬ (if 4 < (4 : Int32) then 4 else (4 : Int32)) < 0 ∧ 0 + (if 4 < (4 : Int32) then 4 else (4 : Int32)).toNatClampNeg ≤ 4 ∧ 0 + (if 4 < (4 : Int32) then 4 else (4 : Int32)).toNatClampNeg ≤ 4) (
  some ((), pA s 36 (va_cpy (s.1 144) (s.1 36) 0 0 (if 4 < (4 : Int32) then 4 else (4 : Int32)).toNatClampNeg))
  )
set_option maxRecDepth 100000 in
theorem w_X11_copyRow_36_144 {d : Nat} {s : Sg} {Q : Qt}  (H : OQ (f_X11_copyRow_36_144  s) (fun _ s9 => Q none s9)) : WpM SHC MT (d + 1) 184 [.ref 144, .ref 36] s Q := by
  refine WpM.enter me_X11_copyRow rfl rfl ?_
  show Y_X11_copyRow_36_144 d Q 0 [(0, .ref 144), (1, .ref 36)] [] s
  unfold f_X11_copyRow_36_144 at H
  refine Wp.f_al0_iconst (pc := 0) o_X11_copyRow rfl rfl rfl (Wp.f_al1_iconst (pc := 2) o_X11_copyRow rfl rfl rfl (Wp.f_al0_alen (pc := 4) o_X11_copyRow rfl rfl rfl lk_C_144 (Wp.f_al1_alen (pc := 6) o_X11_copyRow rfl rfl rfl lk_C_36 (Wp.r_min (pc := 8) o_X11_copyRow rfl (⟨rm8_ rfl, ?_⟩)))))
  obtain ⟨c9, H⟩ := oq_ck H
  refine Wp.run 1 (show room8 [] ∧ (¬ (0 : Int32) < 0 ∧ ¬ (0 : Int32) < 0 ∧ ¬ (if 4 < (4 : Int32) then 4 else (4 : Int32)) < 0 ∧ 0 + (if 4 < (4 : Int32) then 4 else (4 : Int32)).toNatClampNeg ≤ 4 ∧ 0 + (if 4 < (4 : Int32) then 4 else (4 : Int32)).toNatClampNeg ≤ 4) ∧ Y_X11_copyRow_36_144 d Q 14 [(0, .ref 144), (1, .ref 36)] [] (pA s 36 (va_cpy (s.1 144) (s.1 36) 0 0 (if 4 < (4 : Int32) then 4 else (4 : Int32)).toNatClampNeg)) from ⟨rm8_ rfl, c9, ?_⟩)
  exact Wp.r_return (pc := 14) o_X11_copyRow rfl (H)
noncomputable abbrev Y_X11_copyRow_37_145 (d : Nat) (Q : Qt) : Xt := Wp SHC (WpM SHC MT (d + 0)) (flat2 cq_X11_copyRow) (none) Q
noncomputable def f_X11_copyRow_37_145  (s : Sg) : Option (Unit × Sg) :=
  ck (¬ (0 : Int32) < 0 ∧ ¬ (0 : Int32) < 0 ∧ ¬ (if 4 < (4 : Int32) then 4 else (4 : Int32)) < 0 ∧ 0 + (if 4 < (4 : Int32) then 4 else (4 : Int32)).toNatClampNeg ≤ 4 ∧ 0 + (if 4 < (4 : Int32) then 4 else (4 : Int32)).toNatClampNeg ≤ 4) (
  some ((), pA s 37 (va_cpy (s.1 145) (s.1 37) 0 0 (if 4 < (4 : Int32) then 4 else (4 : Int32)).toNatClampNeg))
  )
set_option maxRecDepth 100000 in
theorem w_X11_copyRow_37_145 {d : Nat} {s : Sg} {Q : Qt}  (H : OQ (f_X11_copyRow_37_145  s) (fun _ s9 => Q none s9)) : WpM SHC MT (d + 1) 184 [.ref 145, .ref 37] s Q := by
  refine WpM.enter me_X11_copyRow rfl rfl ?_
  show Y_X11_copyRow_37_145 d Q 0 [(0, .ref 145), (1, .ref 37)] [] s
  unfold f_X11_copyRow_37_145 at H
  refine Wp.f_al0_iconst (pc := 0) o_X11_copyRow rfl rfl rfl (Wp.f_al1_iconst (pc := 2) o_X11_copyRow rfl rfl rfl (Wp.f_al0_alen (pc := 4) o_X11_copyRow rfl rfl rfl lk_C_145 (Wp.f_al1_alen (pc := 6) o_X11_copyRow rfl rfl rfl lk_C_37 (Wp.r_min (pc := 8) o_X11_copyRow rfl (⟨rm8_ rfl, ?_⟩)))))
  obtain ⟨c9, H⟩ := oq_ck H
  refine Wp.run 1 (show room8 [] ∧ (¬ (0 : Int32) < 0 ∧ ¬ (0 : Int32) < 0 ∧ ¬ (if 4 < (4 : Int32) then 4 else (4 : Int32)) < 0 ∧ 0 + (if 4 < (4 : Int32) then 4 else (4 : Int32)).toNatClampNeg ≤ 4 ∧ 0 + (if 4 < (4 : Int32) then 4 else (4 : Int32)).toNatClampNeg ≤ 4) ∧ Y_X11_copyRow_37_145 d Q 14 [(0, .ref 145), (1, .ref 37)] [] (pA s 37 (va_cpy (s.1 145) (s.1 37) 0 0 (if 4 < (4 : Int32) then 4 else (4 : Int32)).toNatClampNeg)) from ⟨rm8_ rfl, c9, ?_⟩)
  exact Wp.r_return (pc := 14) o_X11_copyRow rfl (H)
noncomputable abbrev Y_X11_copyRow_38_146 (d : Nat) (Q : Qt) : Xt := Wp SHC (WpM SHC MT (d + 0)) (flat2 cq_X11_copyRow) (none) Q
noncomputable def f_X11_copyRow_38_146  (s : Sg) : Option (Unit × Sg) :=
  ck (¬ (0 : Int32) < 0 ∧ ¬ (0 : Int32) < 0 ∧ ¬ (if 4 < (4 : Int32) then 4 else (4 : Int32)) < 0 ∧ 0 + (if 4 < (4 : Int32) then 4 else (4 : Int32)).toNatClampNeg ≤ 4 ∧ 0 + (if 4 < (4 : Int32) then 4 else (4 : Int32)).toNatClampNeg ≤ 4) (
  some ((), pA s 38 (va_cpy (s.1 146) (s.1 38) 0 0 (if 4 < (4 : Int32) then 4 else (4 : Int32)).toNatClampNeg))
  )
set_option maxRecDepth 100000 in
theorem w_X11_copyRow_38_146 {d : Nat} {s : Sg} {Q : Qt}  (H : OQ (f_X11_copyRow_38_146  s) (fun _ s9 => Q none s9)) : WpM SHC MT (d + 1) 184 [.ref 146, .ref 38] s Q := by
  refine WpM.enter me_X11_copyRow rfl rfl ?_
  show Y_X11_copyRow_38_146 d Q 0 [(0, .ref 146), (1, .ref 38)] [] s
  unfold f_X11_copyRow_38_146 at H
  refine Wp.f_al0_iconst (pc := 0) o_X11_copyRow rfl rfl rfl (Wp.f_al1_iconst (pc := 2) o_X11_copyRow rfl rfl rfl (Wp.f_al0_alen (pc := 4) o_X11_copyRow rfl rfl rfl lk_C_146 (Wp.f_al1_alen (pc := 6) o_X11_copyRow rfl rfl rfl lk_C_38 (Wp.r_min (pc := 8) o_X11_copyRow rfl (⟨rm8_ rfl, ?_⟩)))))
  obtain ⟨c9, H⟩ := oq_ck H
  refine Wp.run 1 (show room8 [] ∧ (¬ (0 : Int32) < 0 ∧ ¬ (0 : Int32) < 0 ∧ ¬ (if 4 < (4 : Int32) then 4 else (4 : Int32)) < 0 ∧ 0 + (if 4 < (4 : Int32) then 4 else (4 : Int32)).toNatClampNeg ≤ 4 ∧ 0 + (if 4 < (4 : Int32) then 4 else (4 : Int32)).toNatClampNeg ≤ 4) ∧ Y_X11_copyRow_38_146 d Q 14 [(0, .ref 146), (1, .ref 38)] [] (pA s 38 (va_cpy (s.1 146) (s.1 38) 0 0 (if 4 < (4 : Int32) then 4 else (4 : Int32)).toNatClampNeg)) from ⟨rm8_ rfl, c9, ?_⟩)
  exact Wp.r_return (pc := 14) o_X11_copyRow rfl (H)
noncomputable abbrev Y_X11_copyRow_39_147 (d : Nat) (Q : Qt) : Xt := Wp SHC (WpM SHC MT (d + 0)) (flat2 cq_X11_copyRow) (none) Q
noncomputable def f_X11_copyRow_39_147  (s : Sg) : Option (Unit × Sg) :=
  ck (¬ (0 : Int32) < 0 ∧ ¬ (0 : Int32) < 0 ∧ ¬ (if 4 < (4 : Int32) then 4 else (4 : Int32)) < 0 ∧ 0 + (if 4 < (4 : Int32) then 4 else (4 : Int32)).toNatClampNeg ≤ 4 ∧ 0 + (if 4 < (4 : Int32) then 4 else (4 : Int32)).toNatClampNeg ≤ 4) (
  some ((), pA s 39 (va_cpy (s.1 147) (s.1 39) 0 0 (if 4 < (4 : Int32) then 4 else (4 : Int32)).toNatClampNeg))
  )
set_option maxRecDepth 100000 in
theorem w_X11_copyRow_39_147 {d : Nat} {s : Sg} {Q : Qt}  (H : OQ (f_X11_copyRow_39_147  s) (fun _ s9 => Q none s9)) : WpM SHC MT (d + 1) 184 [.ref 147, .ref 39] s Q := by
  refine WpM.enter me_X11_copyRow rfl rfl ?_
  show Y_X11_copyRow_39_147 d Q 0 [(0, .ref 147), (1, .ref 39)] [] s
  unfold f_X11_copyRow_39_147 at H
  refine Wp.f_al0_iconst (pc := 0) o_X11_copyRow rfl rfl rfl (Wp.f_al1_iconst (pc := 2) o_X11_copyRow rfl rfl rfl (Wp.f_al0_alen (pc := 4) o_X11_copyRow rfl rfl rfl lk_C_147 (Wp.f_al1_alen (pc := 6) o_X11_copyRow rfl rfl rfl lk_C_39 (Wp.r_min (pc := 8) o_X11_copyRow rfl (⟨rm8_ rfl, ?_⟩)))))
  obtain ⟨c9, H⟩ := oq_ck H
  refine Wp.run 1 (show room8 [] ∧ (¬ (0 : Int32) < 0 ∧ ¬ (0 : Int32) < 0 ∧ ¬ (if 4 < (4 : Int32) then 4 else (4 : Int32)) < 0 ∧ 0 + (if 4 < (4 : Int32) then 4 else (4 : Int32)).toNatClampNeg ≤ 4 ∧ 0 + (if 4 < (4 : Int32) then 4 else (4 : Int32)).toNatClampNeg ≤ 4) ∧ Y_X11_copyRow_39_147 d Q 14 [(0, .ref 147), (1, .ref 39)] [] (pA s 39 (va_cpy (s.1 147) (s.1 39) 0 0 (if 4 < (4 : Int32) then 4 else (4 : Int32)).toNatClampNeg)) from ⟨rm8_ rfl, c9, ?_⟩)
  exact Wp.r_return (pc := 14) o_X11_copyRow rfl (H)
noncomputable abbrev Y_X4_copyFrom_133 (d : Nat) (Q : Qt) : Xt := Wp SHC (WpM SHC MT (d + 1)) (flat2 cq_X4_copyFrom) (none) Q
noncomputable def f_X4_copyFrom_133  (s : Sg) : Option (Unit × Sg) :=
  bd (f_X11_copyRow_29_137 (pB s 28 (va_cpy (s.2 136) (s.2 28) 0 0 24))) (fun _ s2 =>
  bd (f_X11_copyRow_30_138 s2) (fun _ s4 =>
  bd (f_X11_copyRow_31_139 s4) (fun _ s6 =>
  bd (f_X11_copyRow_32_140 s6) (fun _ s8 =>
  bd (f_X11_copyRow_33_141 s8) (fun _ s10 =>
  bd (f_X11_copyRow_34_142 s10) (fun _ s12 =>
  bd (f_X11_copyRow_35_143 s12) (fun _ s14 =>
  bd (f_X11_copyRow_36_144 s14) (fun _ s16 =>
  bd (f_X11_copyRow_37_145 s16) (fun _ s18 =>
  bd (f_X11_copyRow_38_146 s18) (fun _ s20 =>
  bd (f_X11_copyRow_39_147 s20) (fun _ s22 =>
  nmx (pI (pI s22 25 12 (s22.1 133 12)) 25 13 ((pI s22 25 12 (s22.1 133 12)).1 133 13)) (fun s23 =>
  nmx (pI (pI s23 25 14 (s23.1 133 14)) 25 15 ((pI s23 25 14 (s23.1 133 14)).1 133 15)) (fun s24 =>
  nmx (pI (pI s24 25 16 (s24.1 133 16)) 25 17 ((pI s24 25 16 (s24.1 133 16)).1 133 17)) (fun s25 =>
  ck (((pI s25 25 18 (s25.1 133 18)).1 133 19) = 0 ∨ ((pI s25 25 18 (s25.1 133 18)).1 133 19) = 1) (
  some ((), pI (pI s25 25 18 (s25.1 133 18)) 25 19 ((pI s25 25 18 (s25.1 133 18)).1 133 19))
  )
  )
  )
  )
  )
  )
  )
  )
  )
  )
  )
  )
  )
  )
  )
set_option maxRecDepth 100000 in
theorem w_X4_copyFrom_133 {d : Nat} {s : Sg} {Q : Qt}  (H : OQ (f_X4_copyFrom_133  s) (fun _ s9 => Q none s9)) : WpM SHC MT (d + 2) 50 [.ref 25, .ref 133] s Q := by
  refine WpM.enter me_X4_copyFrom rfl rfl ?_
  show Y_X4_copyFrom_133 d Q 0 [(0, .ref 25), (1, .ref 133)] [] s
  unfold f_X4_copyFrom_133 at H
  refine Wp.f_al1_gfr (pc := 0) o_X4_copyFrom rfl rfl rfl fk_C_133_0 (Wp.r_iconst (pc := 4) o_X4_copyFrom rfl (Wp.f_al0_gfr (pc := 5) o_X4_copyFrom rfl rfl rfl fk_C_25_0 (Wp.r_iconst (pc := 9) o_X4_copyFrom rfl (Wp.r_bipush (pc := 10) o_X4_copyFrom rfl (Wp.run 1 (show room8 [] ∧ (¬ (0 : Int32) < 0 ∧ ¬ (0 : Int32) < 0 ∧ ¬ (24 : Int32) < 0 ∧ 0 + 24 ≤ 24 ∧ 0 + 24 ≤ 24) ∧ Y_X4_copyFrom_133 d Q 15 [(0, .ref 25), (1, .ref 133)] [] (pB s 28 (va_cpy (s.2 136) (s.2 28) 0 0 24)) from ⟨rm8_ rfl, by decide, ?_⟩))))))
  refine Wp.f_al1_gfr (pc := 15) o_X4_copyFrom rfl rfl rfl fk_C_133_1 (Wp.f_al0_gfr (pc := 19) o_X4_copyFrom rfl rfl rfl fk_C_25_1 (Wp.r_cs2 (pc := 23) o_X4_copyFrom rfl (⟨rm8_ rfl, ?_⟩)))
  refine w_X11_copyRow_29_137 (d := d)  ?_
  refine oq_bd H (fun _ s2 H => ?_)
  refine Wp.f_al1_gfr (pc := 26) o_X4_copyFrom rfl rfl rfl fk_C_133_2 (Wp.f_al0_gfr (pc := 30) o_X4_copyFrom rfl rfl rfl fk_C_25_2 (Wp.r_cs2 (pc := 34) o_X4_copyFrom rfl (⟨rm8_ rfl, ?_⟩)))
  refine w_X11_copyRow_30_138 (d := d)  ?_
  refine oq_bd H (fun _ s4 H => ?_)
  refine Wp.f_al1_gfr (pc := 37) o_X4_copyFrom rfl rfl rfl fk_C_133_3 (Wp.f_al0_gfr (pc := 41) o_X4_copyFrom rfl rfl rfl fk_C_25_3 (Wp.r_cs2 (pc := 45) o_X4_copyFrom rfl (⟨rm8_ rfl, ?_⟩)))
  refine w_X11_copyRow_31_139 (d := d)  ?_
  refine oq_bd H (fun _ s6 H => ?_)
  refine Wp.f_al1_gfr (pc := 48) o_X4_copyFrom rfl rfl rfl fk_C_133_4 (Wp.f_al0_gfr (pc := 52) o_X4_copyFrom rfl rfl rfl fk_C_25_4 (Wp.r_cs2 (pc := 56) o_X4_copyFrom rfl (⟨rm8_ rfl, ?_⟩)))
  refine w_X11_copyRow_32_140 (d := d)  ?_
  refine oq_bd H (fun _ s8 H => ?_)
  refine Wp.f_al1_gfr (pc := 59) o_X4_copyFrom rfl rfl rfl fk_C_133_5 (Wp.f_al0_gfr (pc := 63) o_X4_copyFrom rfl rfl rfl fk_C_25_5 (Wp.r_cs2 (pc := 67) o_X4_copyFrom rfl (⟨rm8_ rfl, ?_⟩)))
  refine w_X11_copyRow_33_141 (d := d)  ?_
  refine oq_bd H (fun _ s10 H => ?_)
  refine Wp.f_al1_gfr (pc := 70) o_X4_copyFrom rfl rfl rfl fk_C_133_6 (Wp.f_al0_gfr (pc := 74) o_X4_copyFrom rfl rfl rfl fk_C_25_6 (Wp.r_cs2 (pc := 78) o_X4_copyFrom rfl (⟨rm8_ rfl, ?_⟩)))
  refine w_X11_copyRow_34_142 (d := d)  ?_
  refine oq_bd H (fun _ s12 H => ?_)
  refine Wp.f_al1_gfr (pc := 81) o_X4_copyFrom rfl rfl rfl fk_C_133_7 (Wp.f_al0_gfr (pc := 85) o_X4_copyFrom rfl rfl rfl fk_C_25_7 (Wp.r_cs2 (pc := 89) o_X4_copyFrom rfl (⟨rm8_ rfl, ?_⟩)))
  refine w_X11_copyRow_35_143 (d := d)  ?_
  refine oq_bd H (fun _ s14 H => ?_)
  refine Wp.f_al1_gfr (pc := 92) o_X4_copyFrom rfl rfl rfl fk_C_133_8 (Wp.f_al0_gfr (pc := 96) o_X4_copyFrom rfl rfl rfl fk_C_25_8 (Wp.r_cs2 (pc := 100) o_X4_copyFrom rfl (⟨rm8_ rfl, ?_⟩)))
  refine w_X11_copyRow_36_144 (d := d)  ?_
  refine oq_bd H (fun _ s16 H => ?_)
  refine Wp.f_al1_gfr (pc := 103) o_X4_copyFrom rfl rfl rfl fk_C_133_9 (Wp.f_al0_gfr (pc := 107) o_X4_copyFrom rfl rfl rfl fk_C_25_9 (Wp.r_cs2 (pc := 111) o_X4_copyFrom rfl (⟨rm8_ rfl, ?_⟩)))
  refine w_X11_copyRow_37_145 (d := d)  ?_
  refine oq_bd H (fun _ s18 H => ?_)
  refine Wp.f_al1_gfr (pc := 114) o_X4_copyFrom rfl rfl rfl fk_C_133_10 (Wp.f_al0_gfr (pc := 118) o_X4_copyFrom rfl rfl rfl fk_C_25_10 (Wp.r_cs2 (pc := 122) o_X4_copyFrom rfl (⟨rm8_ rfl, ?_⟩)))
  refine w_X11_copyRow_38_146 (d := d)  ?_
  refine oq_bd H (fun _ s20 H => ?_)
  refine Wp.f_al1_gfr (pc := 125) o_X4_copyFrom rfl rfl rfl fk_C_133_11 (Wp.f_al0_gfr (pc := 129) o_X4_copyFrom rfl rfl rfl fk_C_25_11 (Wp.r_cs2 (pc := 133) o_X4_copyFrom rfl (⟨rm8_ rfl, ?_⟩)))
  refine w_X11_copyRow_39_147 (d := d)  ?_
  refine oq_bd H (fun _ s22 H => ?_)
  refine Wp.r_aload_n0 (pc := 136) o_X4_copyFrom rfl rfl (Wp.f_al1_gfi (pc := 137) o_X4_copyFrom rfl rfl rfl fk_C_133_12 (Wp.r_pfi (pc := 141) o_X4_copyFrom rfl fk_C_25_12 (Wp.r_aload_n0 (pc := 144) o_X4_copyFrom rfl rfl (Wp.f_al1_gfi (pc := 145) o_X4_copyFrom rfl rfl rfl fk_C_133_13 (Wp.r_pfi (pc := 149) o_X4_copyFrom rfl fk_C_25_13 (show Y_X4_copyFrom_133 d Q 152 [(0, .ref 25), (1, .ref 133)] [] (pI (pI s22 25 12 (s22.1 133 12)) 25 13 ((pI s22 25 12 (s22.1 133 12)).1 133 13)) from ?_))))))
  revert H
  generalize pI (pI s22 25 12 (s22.1 133 12)) 25 13 ((pI s22 25 12 (s22.1 133 12)).1 133 13) = s23
  intro H
  have H := nmx_e H
  refine Wp.r_aload_n0 (pc := 152) o_X4_copyFrom rfl rfl (Wp.f_al1_gfi (pc := 153) o_X4_copyFrom rfl rfl rfl fk_C_133_14 (Wp.r_pfi (pc := 157) o_X4_copyFrom rfl fk_C_25_14 (Wp.r_aload_n0 (pc := 160) o_X4_copyFrom rfl rfl (Wp.f_al1_gfi (pc := 161) o_X4_copyFrom rfl rfl rfl fk_C_133_15 (Wp.r_pfi (pc := 165) o_X4_copyFrom rfl fk_C_25_15 (show Y_X4_copyFrom_133 d Q 168 [(0, .ref 25), (1, .ref 133)] [] (pI (pI s23 25 14 (s23.1 133 14)) 25 15 ((pI s23 25 14 (s23.1 133 14)).1 133 15)) from ?_))))))
  revert H
  generalize pI (pI s23 25 14 (s23.1 133 14)) 25 15 ((pI s23 25 14 (s23.1 133 14)).1 133 15) = s24
  intro H
  have H := nmx_e H
  refine Wp.r_aload_n0 (pc := 168) o_X4_copyFrom rfl rfl (Wp.f_al1_gfi (pc := 169) o_X4_copyFrom rfl rfl rfl fk_C_133_16 (Wp.r_pfi (pc := 173) o_X4_copyFrom rfl fk_C_25_16 (Wp.r_aload_n0 (pc := 176) o_X4_copyFrom rfl rfl (Wp.f_al1_gfi (pc := 177) o_X4_copyFrom rfl rfl rfl fk_C_133_17 (Wp.r_pfi (pc := 181) o_X4_copyFrom rfl fk_C_25_17 (show Y_X4_copyFrom_133 d Q 184 [(0, .ref 25), (1, .ref 133)] [] (pI (pI s24 25 16 (s24.1 133 16)) 25 17 ((pI s24 25 16 (s24.1 133 16)).1 133 17)) from ?_))))))
  revert H
  generalize pI (pI s24 25 16 (s24.1 133 16)) 25 17 ((pI s24 25 16 (s24.1 133 16)).1 133 17) = s25
  intro H
  have H := nmx_e H
  obtain ⟨hc26, H⟩ := oq_ck H
  refine Wp.r_aload_n0 (pc := 184) o_X4_copyFrom rfl rfl (Wp.f_al1_gfi (pc := 185) o_X4_copyFrom rfl rfl rfl fk_C_133_18 (Wp.r_pfi (pc := 189) o_X4_copyFrom rfl fk_C_25_18 (Wp.r_aload_n0 (pc := 192) o_X4_copyFrom rfl rfl (Wp.f_al1_gfi (pc := 193) o_X4_copyFrom rfl rfl rfl fk_C_133_19 (Wp.r_pfz (pc := 197) o_X4_copyFrom rfl fk_C_25_19 (⟨hc26, ?_⟩))))))
  exact Wp.r_return (pc := 200) o_X4_copyFrom rfl (H)
noncomputable abbrev Y_X11_copyRow_40_148 (d : Nat) (Q : Qt) : Xt := Wp SHC (WpM SHC MT (d + 0)) (flat2 cq_X11_copyRow) (none) Q
noncomputable def f_X11_copyRow_40_148  (s : Sg) : Option (Unit × Sg) :=
  ck (¬ (0 : Int32) < 0 ∧ ¬ (0 : Int32) < 0 ∧ ¬ (if 8 < (8 : Int32) then 8 else (8 : Int32)) < 0 ∧ 0 + (if 8 < (8 : Int32) then 8 else (8 : Int32)).toNatClampNeg ≤ 8 ∧ 0 + (if 8 < (8 : Int32) then 8 else (8 : Int32)).toNatClampNeg ≤ 8) (
  some ((), pA s 40 (va_cpy (s.1 148) (s.1 40) 0 0 (if 8 < (8 : Int32) then 8 else (8 : Int32)).toNatClampNeg))
  )
set_option maxRecDepth 100000 in
theorem w_X11_copyRow_40_148 {d : Nat} {s : Sg} {Q : Qt}  (H : OQ (f_X11_copyRow_40_148  s) (fun _ s9 => Q none s9)) : WpM SHC MT (d + 1) 184 [.ref 148, .ref 40] s Q := by
  refine WpM.enter me_X11_copyRow rfl rfl ?_
  show Y_X11_copyRow_40_148 d Q 0 [(0, .ref 148), (1, .ref 40)] [] s
  unfold f_X11_copyRow_40_148 at H
  refine Wp.f_al0_iconst (pc := 0) o_X11_copyRow rfl rfl rfl (Wp.f_al1_iconst (pc := 2) o_X11_copyRow rfl rfl rfl (Wp.f_al0_alen (pc := 4) o_X11_copyRow rfl rfl rfl lk_C_148 (Wp.f_al1_alen (pc := 6) o_X11_copyRow rfl rfl rfl lk_C_40 (Wp.r_min (pc := 8) o_X11_copyRow rfl (⟨rm8_ rfl, ?_⟩)))))
  obtain ⟨c9, H⟩ := oq_ck H
  refine Wp.run 1 (show room8 [] ∧ (¬ (0 : Int32) < 0 ∧ ¬ (0 : Int32) < 0 ∧ ¬ (if 8 < (8 : Int32) then 8 else (8 : Int32)) < 0 ∧ 0 + (if 8 < (8 : Int32) then 8 else (8 : Int32)).toNatClampNeg ≤ 8 ∧ 0 + (if 8 < (8 : Int32) then 8 else (8 : Int32)).toNatClampNeg ≤ 8) ∧ Y_X11_copyRow_40_148 d Q 14 [(0, .ref 148), (1, .ref 40)] [] (pA s 40 (va_cpy (s.1 148) (s.1 40) 0 0 (if 8 < (8 : Int32) then 8 else (8 : Int32)).toNatClampNeg)) from ⟨rm8_ rfl, c9, ?_⟩)
  exact Wp.r_return (pc := 14) o_X11_copyRow rfl (H)
noncomputable abbrev Y_X11_copyRow_41_149 (d : Nat) (Q : Qt) : Xt := Wp SHC (WpM SHC MT (d + 0)) (flat2 cq_X11_copyRow) (none) Q
noncomputable def f_X11_copyRow_41_149  (s : Sg) : Option (Unit × Sg) :=
  ck (¬ (0 : Int32) < 0 ∧ ¬ (0 : Int32) < 0 ∧ ¬ (if 8 < (8 : Int32) then 8 else (8 : Int32)) < 0 ∧ 0 + (if 8 < (8 : Int32) then 8 else (8 : Int32)).toNatClampNeg ≤ 8 ∧ 0 + (if 8 < (8 : Int32) then 8 else (8 : Int32)).toNatClampNeg ≤ 8) (
  some ((), pA s 41 (va_cpy (s.1 149) (s.1 41) 0 0 (if 8 < (8 : Int32) then 8 else (8 : Int32)).toNatClampNeg))
  )
set_option maxRecDepth 100000 in
theorem w_X11_copyRow_41_149 {d : Nat} {s : Sg} {Q : Qt}  (H : OQ (f_X11_copyRow_41_149  s) (fun _ s9 => Q none s9)) : WpM SHC MT (d + 1) 184 [.ref 149, .ref 41] s Q := by
  refine WpM.enter me_X11_copyRow rfl rfl ?_
  show Y_X11_copyRow_41_149 d Q 0 [(0, .ref 149), (1, .ref 41)] [] s
  unfold f_X11_copyRow_41_149 at H
  refine Wp.f_al0_iconst (pc := 0) o_X11_copyRow rfl rfl rfl (Wp.f_al1_iconst (pc := 2) o_X11_copyRow rfl rfl rfl (Wp.f_al0_alen (pc := 4) o_X11_copyRow rfl rfl rfl lk_C_149 (Wp.f_al1_alen (pc := 6) o_X11_copyRow rfl rfl rfl lk_C_41 (Wp.r_min (pc := 8) o_X11_copyRow rfl (⟨rm8_ rfl, ?_⟩)))))
  obtain ⟨c9, H⟩ := oq_ck H
  refine Wp.run 1 (show room8 [] ∧ (¬ (0 : Int32) < 0 ∧ ¬ (0 : Int32) < 0 ∧ ¬ (if 8 < (8 : Int32) then 8 else (8 : Int32)) < 0 ∧ 0 + (if 8 < (8 : Int32) then 8 else (8 : Int32)).toNatClampNeg ≤ 8 ∧ 0 + (if 8 < (8 : Int32) then 8 else (8 : Int32)).toNatClampNeg ≤ 8) ∧ Y_X11_copyRow_41_149 d Q 14 [(0, .ref 149), (1, .ref 41)] [] (pA s 41 (va_cpy (s.1 149) (s.1 41) 0 0 (if 8 < (8 : Int32) then 8 else (8 : Int32)).toNatClampNeg)) from ⟨rm8_ rfl, c9, ?_⟩)
  exact Wp.r_return (pc := 14) o_X11_copyRow rfl (H)
noncomputable abbrev Y_X11_copyRow_42_150 (d : Nat) (Q : Qt) : Xt := Wp SHC (WpM SHC MT (d + 0)) (flat2 cq_X11_copyRow) (none) Q
noncomputable def f_X11_copyRow_42_150  (s : Sg) : Option (Unit × Sg) :=
  ck (¬ (0 : Int32) < 0 ∧ ¬ (0 : Int32) < 0 ∧ ¬ (if 8 < (8 : Int32) then 8 else (8 : Int32)) < 0 ∧ 0 + (if 8 < (8 : Int32) then 8 else (8 : Int32)).toNatClampNeg ≤ 8 ∧ 0 + (if 8 < (8 : Int32) then 8 else (8 : Int32)).toNatClampNeg ≤ 8) (
  some ((), pA s 42 (va_cpy (s.1 150) (s.1 42) 0 0 (if 8 < (8 : Int32) then 8 else (8 : Int32)).toNatClampNeg))
  )
set_option maxRecDepth 100000 in
theorem w_X11_copyRow_42_150 {d : Nat} {s : Sg} {Q : Qt}  (H : OQ (f_X11_copyRow_42_150  s) (fun _ s9 => Q none s9)) : WpM SHC MT (d + 1) 184 [.ref 150, .ref 42] s Q := by
  refine WpM.enter me_X11_copyRow rfl rfl ?_
  show Y_X11_copyRow_42_150 d Q 0 [(0, .ref 150), (1, .ref 42)] [] s
  unfold f_X11_copyRow_42_150 at H
  refine Wp.f_al0_iconst (pc := 0) o_X11_copyRow rfl rfl rfl (Wp.f_al1_iconst (pc := 2) o_X11_copyRow rfl rfl rfl (Wp.f_al0_alen (pc := 4) o_X11_copyRow rfl rfl rfl lk_C_150 (Wp.f_al1_alen (pc := 6) o_X11_copyRow rfl rfl rfl lk_C_42 (Wp.r_min (pc := 8) o_X11_copyRow rfl (⟨rm8_ rfl, ?_⟩)))))
  obtain ⟨c9, H⟩ := oq_ck H
  refine Wp.run 1 (show room8 [] ∧ (¬ (0 : Int32) < 0 ∧ ¬ (0 : Int32) < 0 ∧ ¬ (if 8 < (8 : Int32) then 8 else (8 : Int32)) < 0 ∧ 0 + (if 8 < (8 : Int32) then 8 else (8 : Int32)).toNatClampNeg ≤ 8 ∧ 0 + (if 8 < (8 : Int32) then 8 else (8 : Int32)).toNatClampNeg ≤ 8) ∧ Y_X11_copyRow_42_150 d Q 14 [(0, .ref 150), (1, .ref 42)] [] (pA s 42 (va_cpy (s.1 150) (s.1 42) 0 0 (if 8 < (8 : Int32) then 8 else (8 : Int32)).toNatClampNeg)) from ⟨rm8_ rfl, c9, ?_⟩)
  exact Wp.r_return (pc := 14) o_X11_copyRow rfl (H)
noncomputable abbrev Y_X11_copyRow_43_151 (d : Nat) (Q : Qt) : Xt := Wp SHC (WpM SHC MT (d + 0)) (flat2 cq_X11_copyRow) (none) Q
noncomputable def f_X11_copyRow_43_151  (s : Sg) : Option (Unit × Sg) :=
  ck (¬ (0 : Int32) < 0 ∧ ¬ (0 : Int32) < 0 ∧ ¬ (if 8 < (8 : Int32) then 8 else (8 : Int32)) < 0 ∧ 0 + (if 8 < (8 : Int32) then 8 else (8 : Int32)).toNatClampNeg ≤ 8 ∧ 0 + (if 8 < (8 : Int32) then 8 else (8 : Int32)).toNatClampNeg ≤ 8) (
  some ((), pA s 43 (va_cpy (s.1 151) (s.1 43) 0 0 (if 8 < (8 : Int32) then 8 else (8 : Int32)).toNatClampNeg))
  )
set_option maxRecDepth 100000 in
theorem w_X11_copyRow_43_151 {d : Nat} {s : Sg} {Q : Qt}  (H : OQ (f_X11_copyRow_43_151  s) (fun _ s9 => Q none s9)) : WpM SHC MT (d + 1) 184 [.ref 151, .ref 43] s Q := by
  refine WpM.enter me_X11_copyRow rfl rfl ?_
  show Y_X11_copyRow_43_151 d Q 0 [(0, .ref 151), (1, .ref 43)] [] s
  unfold f_X11_copyRow_43_151 at H
  refine Wp.f_al0_iconst (pc := 0) o_X11_copyRow rfl rfl rfl (Wp.f_al1_iconst (pc := 2) o_X11_copyRow rfl rfl rfl (Wp.f_al0_alen (pc := 4) o_X11_copyRow rfl rfl rfl lk_C_151 (Wp.f_al1_alen (pc := 6) o_X11_copyRow rfl rfl rfl lk_C_43 (Wp.r_min (pc := 8) o_X11_copyRow rfl (⟨rm8_ rfl, ?_⟩)))))
  obtain ⟨c9, H⟩ := oq_ck H
  refine Wp.run 1 (show room8 [] ∧ (¬ (0 : Int32) < 0 ∧ ¬ (0 : Int32) < 0 ∧ ¬ (if 8 < (8 : Int32) then 8 else (8 : Int32)) < 0 ∧ 0 + (if 8 < (8 : Int32) then 8 else (8 : Int32)).toNatClampNeg ≤ 8 ∧ 0 + (if 8 < (8 : Int32) then 8 else (8 : Int32)).toNatClampNeg ≤ 8) ∧ Y_X11_copyRow_43_151 d Q 14 [(0, .ref 151), (1, .ref 43)] [] (pA s 43 (va_cpy (s.1 151) (s.1 43) 0 0 (if 8 < (8 : Int32) then 8 else (8 : Int32)).toNatClampNeg)) from ⟨rm8_ rfl, c9, ?_⟩)
  exact Wp.r_return (pc := 14) o_X11_copyRow rfl (H)
noncomputable abbrev Y_X11_copyRow_44_152 (d : Nat) (Q : Qt) : Xt := Wp SHC (WpM SHC MT (d + 0)) (flat2 cq_X11_copyRow) (none) Q
noncomputable def f_X11_copyRow_44_152  (s : Sg) : Option (Unit × Sg) :=
  ck (¬ (0 : Int32) < 0 ∧ ¬ (0 : Int32) < 0 ∧ ¬ (if 4 < (4 : Int32) then 4 else (4 : Int32)) < 0 ∧ 0 + (if 4 < (4 : Int32) then 4 else (4 : Int32)).toNatClampNeg ≤ 4 ∧ 0 + (if 4 < (4 : Int32) then 4 else (4 : Int32)).toNatClampNeg ≤ 4) (
  some ((), pA s 44 (va_cpy (s.1 152) (s.1 44) 0 0 (if 4 < (4 : Int32) then 4 else (4 : Int32)).toNatClampNeg))
  )
set_option maxRecDepth 100000 in
theorem w_X11_copyRow_44_152 {d : Nat} {s : Sg} {Q : Qt}  (H : OQ (f_X11_copyRow_44_152  s) (fun _ s9 => Q none s9)) : WpM SHC MT (d + 1) 184 [.ref 152, .ref 44] s Q := by
  refine WpM.enter me_X11_copyRow rfl rfl ?_
  show Y_X11_copyRow_44_152 d Q 0 [(0, .ref 152), (1, .ref 44)] [] s
  unfold f_X11_copyRow_44_152 at H
  refine Wp.f_al0_iconst (pc := 0) o_X11_copyRow rfl rfl rfl (Wp.f_al1_iconst (pc := 2) o_X11_copyRow rfl rfl rfl (Wp.f_al0_alen (pc := 4) o_X11_copyRow rfl rfl rfl lk_C_152 (Wp.f_al1_alen (pc := 6) o_X11_copyRow rfl rfl rfl lk_C_44 (Wp.r_min (pc := 8) o_X11_copyRow rfl (⟨rm8_ rfl, ?_⟩)))))
  obtain ⟨c9, H⟩ := oq_ck H
  refine Wp.run 1 (show room8 [] ∧ (¬ (0 : Int32) < 0 ∧ ¬ (0 : Int32) < 0 ∧ ¬ (if 4 < (4 : Int32) then 4 else (4 : Int32)) < 0 ∧ 0 + (if 4 < (4 : Int32) then 4 else (4 : Int32)).toNatClampNeg ≤ 4 ∧ 0 + (if 4 < (4 : Int32) then 4 else (4 : Int32)).toNatClampNeg ≤ 4) ∧ Y_X11_copyRow_44_152 d Q 14 [(0, .ref 152), (1, .ref 44)] [] (pA s 44 (va_cpy (s.1 152) (s.1 44) 0 0 (if 4 < (4 : Int32) then 4 else (4 : Int32)).toNatClampNeg)) from ⟨rm8_ rfl, c9, ?_⟩)
  exact Wp.r_return (pc := 14) o_X11_copyRow rfl (H)
noncomputable abbrev Y_X2_copyFrom_134 (d : Nat) (Q : Qt) : Xt := Wp SHC (WpM SHC MT (d + 1)) (flat2 cq_X2_copyFrom) (none) Q
noncomputable def f_X2_copyFrom_134  (s : Sg) : Option (Unit × Sg) :=
  bd (f_X11_copyRow_40_148 s) (fun _ s2 =>
  bd (f_X11_copyRow_41_149 s2) (fun _ s4 =>
  bd (f_X11_copyRow_42_150 s4) (fun _ s6 =>
  bd (f_X11_copyRow_43_151 s6) (fun _ s8 =>
  bd (f_X11_copyRow_44_152 s8) (fun _ s10 =>
  nmx (pI (pI s10 26 5 (s10.1 134 5)) 26 6 ((pI s10 26 5 (s10.1 134 5)).1 134 6)) (fun s11 =>
  ck ((s11.1 134 7) = 0 ∨ (s11.1 134 7) = 1) (
  nmx (pI (pI s11 26 7 (s11.1 134 7)) 26 8 ((pI s11 26 7 (s11.1 134 7)).1 134 8)) (fun s13 =>
  nmx (pI (pI s13 26 9 (s13.1 134 9)) 26 10 ((pI s13 26 9 (s13.1 134 9)).1 134 10)) (fun s14 =>
  nmx (pI (pI s14 26 11 (s14.1 134 11)) 26 12 ((pI s14 26 11 (s14.1 134 11)).1 134 12)) (fun s15 =>
  some ((), s15)
  )
  )
  )
  )
  )
  )
  )
  )
  )
  )
set_option maxRecDepth 100000 in
theorem w_X2_copyFrom_134 {d : Nat} {s : Sg} {Q : Qt}  (H : OQ (f_X2_copyFrom_134  s) (fun _ s9 => Q none s9)) : WpM SHC MT (d + 2) 21 [.ref 26, .ref 134] s Q := by
  refine WpM.enter me_X2_copyFrom rfl rfl ?_
  show Y_X2_copyFrom_134 d Q 0 [(0, .ref 26), (1, .ref 134)] [] s
  unfold f_X2_copyFrom_134 at H
  refine Wp.f_al1_gfr (pc := 0) o_X2_copyFrom rfl rfl rfl fk_C_134_0 (Wp.f_al0_gfr (pc := 4) o_X2_copyFrom rfl rfl rfl fk_C_26_0 (Wp.r_cs2 (pc := 8) o_X2_copyFrom rfl (⟨rm8_ rfl, ?_⟩)))
  refine w_X11_copyRow_40_148 (d := d)  ?_
  refine oq_bd H (fun _ s2 H => ?_)
  refine Wp.f_al1_gfr (pc := 11) o_X2_copyFrom rfl rfl rfl fk_C_134_1 (Wp.f_al0_gfr (pc := 15) o_X2_copyFrom rfl rfl rfl fk_C_26_1 (Wp.r_cs2 (pc := 19) o_X2_copyFrom rfl (⟨rm8_ rfl, ?_⟩)))
  refine w_X11_copyRow_41_149 (d := d)  ?_
  refine oq_bd H (fun _ s4 H => ?_)
  refine Wp.f_al1_gfr (pc := 22) o_X2_copyFrom rfl rfl rfl fk_C_134_2 (Wp.f_al0_gfr (pc := 26) o_X2_copyFrom rfl rfl rfl fk_C_26_2 (Wp.r_cs2 (pc := 30) o_X2_copyFrom rfl (⟨rm8_ rfl, ?_⟩)))
  refine w_X11_copyRow_42_150 (d := d)  ?_
  refine oq_bd H (fun _ s6 H => ?_)
  refine Wp.f_al1_gfr (pc := 33) o_X2_copyFrom rfl rfl rfl fk_C_134_3 (Wp.f_al0_gfr (pc := 37) o_X2_copyFrom rfl rfl rfl fk_C_26_3 (Wp.r_cs2 (pc := 41) o_X2_copyFrom rfl (⟨rm8_ rfl, ?_⟩)))
  refine w_X11_copyRow_43_151 (d := d)  ?_
  refine oq_bd H (fun _ s8 H => ?_)
  refine Wp.f_al1_gfr (pc := 44) o_X2_copyFrom rfl rfl rfl fk_C_134_4 (Wp.f_al0_gfr (pc := 48) o_X2_copyFrom rfl rfl rfl fk_C_26_4 (Wp.r_cs2 (pc := 52) o_X2_copyFrom rfl (⟨rm8_ rfl, ?_⟩)))
  refine w_X11_copyRow_44_152 (d := d)  ?_
  refine oq_bd H (fun _ s10 H => ?_)
  refine Wp.r_aload_n0 (pc := 55) o_X2_copyFrom rfl rfl (Wp.f_al1_gfi (pc := 56) o_X2_copyFrom rfl rfl rfl fk_C_134_5 (Wp.r_pfi (pc := 60) o_X2_copyFrom rfl fk_C_26_5 (Wp.r_aload_n0 (pc := 63) o_X2_copyFrom rfl rfl (Wp.f_al1_gfi (pc := 64) o_X2_copyFrom rfl rfl rfl fk_C_134_6 (Wp.r_pfi (pc := 68) o_X2_copyFrom rfl fk_C_26_6 (show Y_X2_copyFrom_134 d Q 71 [(0, .ref 26), (1, .ref 134)] [] (pI (pI s10 26 5 (s10.1 134 5)) 26 6 ((pI s10 26 5 (s10.1 134 5)).1 134 6)) from ?_))))))
  revert H
  generalize pI (pI s10 26 5 (s10.1 134 5)) 26 6 ((pI s10 26 5 (s10.1 134 5)).1 134 6) = s11
  intro H
  have H := nmx_e H
  obtain ⟨hc12, H⟩ := oq_ck H
  refine Wp.r_aload_n0 (pc := 71) o_X2_copyFrom rfl rfl (Wp.f_al1_gfi (pc := 72) o_X2_copyFrom rfl rfl rfl fk_C_134_7 (Wp.r_pfz (pc := 76) o_X2_copyFrom rfl fk_C_26_7 (⟨hc12, ?_⟩)))
  refine Wp.r_aload_n0 (pc := 79) o_X2_copyFrom rfl rfl (Wp.f_al1_gfi (pc := 80) o_X2_copyFrom rfl rfl rfl fk_C_134_8 (Wp.r_pfi (pc := 84) o_X2_copyFrom rfl fk_C_26_8 (show Y_X2_copyFrom_134 d Q 87 [(0, .ref 26), (1, .ref 134)] [] (pI (pI s11 26 7 (s11.1 134 7)) 26 8 ((pI s11 26 7 (s11.1 134 7)).1 134 8)) from ?_)))
  revert H
  generalize pI (pI s11 26 7 (s11.1 134 7)) 26 8 ((pI s11 26 7 (s11.1 134 7)).1 134 8) = s13
  intro H
  have H := nmx_e H
  refine Wp.r_aload_n0 (pc := 87) o_X2_copyFrom rfl rfl (Wp.f_al1_gfi (pc := 88) o_X2_copyFrom rfl rfl rfl fk_C_134_9 (Wp.r_pfi (pc := 92) o_X2_copyFrom rfl fk_C_26_9 (Wp.r_aload_n0 (pc := 95) o_X2_copyFrom rfl rfl (Wp.f_al1_gfi (pc := 96) o_X2_copyFrom rfl rfl rfl fk_C_134_10 (Wp.r_pfi (pc := 100) o_X2_copyFrom rfl fk_C_26_10 (show Y_X2_copyFrom_134 d Q 103 [(0, .ref 26), (1, .ref 134)] [] (pI (pI s13 26 9 (s13.1 134 9)) 26 10 ((pI s13 26 9 (s13.1 134 9)).1 134 10)) from ?_))))))
  revert H
  generalize pI (pI s13 26 9 (s13.1 134 9)) 26 10 ((pI s13 26 9 (s13.1 134 9)).1 134 10) = s14
  intro H
  have H := nmx_e H
  refine Wp.r_aload_n0 (pc := 103) o_X2_copyFrom rfl rfl (Wp.f_al1_gfi (pc := 104) o_X2_copyFrom rfl rfl rfl fk_C_134_11 (Wp.r_pfi (pc := 108) o_X2_copyFrom rfl fk_C_26_11 (Wp.r_aload_n0 (pc := 111) o_X2_copyFrom rfl rfl (Wp.f_al1_gfi (pc := 112) o_X2_copyFrom rfl rfl rfl fk_C_134_12 (Wp.r_pfi (pc := 116) o_X2_copyFrom rfl fk_C_26_12 (show Y_X2_copyFrom_134 d Q 119 [(0, .ref 26), (1, .ref 134)] [] (pI (pI s14 26 11 (s14.1 134 11)) 26 12 ((pI s14 26 11 (s14.1 134 11)).1 134 12)) from ?_))))))
  revert H
  generalize pI (pI s14 26 11 (s14.1 134 11)) 26 12 ((pI s14 26 11 (s14.1 134 11)).1 134 12) = s15
  intro H
  have H := nmx_e H
  exact Wp.r_return (pc := 119) o_X2_copyFrom rfl (H)
noncomputable abbrev Y_X11_copyRow_45_153 (d : Nat) (Q : Qt) : Xt := Wp SHC (WpM SHC MT (d + 0)) (flat2 cq_X11_copyRow) (none) Q
noncomputable def f_X11_copyRow_45_153  (s : Sg) : Option (Unit × Sg) :=
  ck (¬ (0 : Int32) < 0 ∧ ¬ (0 : Int32) < 0 ∧ ¬ (if 60 < (60 : Int32) then 60 else (60 : Int32)) < 0 ∧ 0 + (if 60 < (60 : Int32) then 60 else (60 : Int32)).toNatClampNeg ≤ 60 ∧ 0 + (if 60 < (60 : Int32) then 60 else (60 : Int32)).toNatClampNeg ≤ 60) (
  some ((), pA s 45 (va_cpy (s.1 153) (s.1 45) 0 0 (if 60 < (60 : Int32) then 60 else (60 : Int32)).toNatClampNeg))
  )
set_option maxRecDepth 100000 in
theorem w_X11_copyRow_45_153 {d : Nat} {s : Sg} {Q : Qt}  (H : OQ (f_X11_copyRow_45_153  s) (fun _ s9 => Q none s9)) : WpM SHC MT (d + 1) 184 [.ref 153, .ref 45] s Q := by
  refine WpM.enter me_X11_copyRow rfl rfl ?_
  show Y_X11_copyRow_45_153 d Q 0 [(0, .ref 153), (1, .ref 45)] [] s
  unfold f_X11_copyRow_45_153 at H
  refine Wp.f_al0_iconst (pc := 0) o_X11_copyRow rfl rfl rfl (Wp.f_al1_iconst (pc := 2) o_X11_copyRow rfl rfl rfl (Wp.f_al0_alen (pc := 4) o_X11_copyRow rfl rfl rfl lk_C_153 (Wp.f_al1_alen (pc := 6) o_X11_copyRow rfl rfl rfl lk_C_45 (Wp.r_min (pc := 8) o_X11_copyRow rfl (⟨rm8_ rfl, ?_⟩)))))
  obtain ⟨c9, H⟩ := oq_ck H
  refine Wp.run 1 (show room8 [] ∧ (¬ (0 : Int32) < 0 ∧ ¬ (0 : Int32) < 0 ∧ ¬ (if 60 < (60 : Int32) then 60 else (60 : Int32)) < 0 ∧ 0 + (if 60 < (60 : Int32) then 60 else (60 : Int32)).toNatClampNeg ≤ 60 ∧ 0 + (if 60 < (60 : Int32) then 60 else (60 : Int32)).toNatClampNeg ≤ 60) ∧ Y_X11_copyRow_45_153 d Q 14 [(0, .ref 153), (1, .ref 45)] [] (pA s 45 (va_cpy (s.1 153) (s.1 45) 0 0 (if 60 < (60 : Int32) then 60 else (60 : Int32)).toNatClampNeg)) from ⟨rm8_ rfl, c9, ?_⟩)
  exact Wp.r_return (pc := 14) o_X11_copyRow rfl (H)
noncomputable abbrev Y_X11_copyRow_46_154 (d : Nat) (Q : Qt) : Xt := Wp SHC (WpM SHC MT (d + 0)) (flat2 cq_X11_copyRow) (none) Q
noncomputable def f_X11_copyRow_46_154  (s : Sg) : Option (Unit × Sg) :=
  ck (¬ (0 : Int32) < 0 ∧ ¬ (0 : Int32) < 0 ∧ ¬ (if 60 < (60 : Int32) then 60 else (60 : Int32)) < 0 ∧ 0 + (if 60 < (60 : Int32) then 60 else (60 : Int32)).toNatClampNeg ≤ 60 ∧ 0 + (if 60 < (60 : Int32) then 60 else (60 : Int32)).toNatClampNeg ≤ 60) (
  some ((), pA s 46 (va_cpy (s.1 154) (s.1 46) 0 0 (if 60 < (60 : Int32) then 60 else (60 : Int32)).toNatClampNeg))
  )
set_option maxRecDepth 100000 in
theorem w_X11_copyRow_46_154 {d : Nat} {s : Sg} {Q : Qt}  (H : OQ (f_X11_copyRow_46_154  s) (fun _ s9 => Q none s9)) : WpM SHC MT (d + 1) 184 [.ref 154, .ref 46] s Q := by
  refine WpM.enter me_X11_copyRow rfl rfl ?_
  show Y_X11_copyRow_46_154 d Q 0 [(0, .ref 154), (1, .ref 46)] [] s
  unfold f_X11_copyRow_46_154 at H
  refine Wp.f_al0_iconst (pc := 0) o_X11_copyRow rfl rfl rfl (Wp.f_al1_iconst (pc := 2) o_X11_copyRow rfl rfl rfl (Wp.f_al0_alen (pc := 4) o_X11_copyRow rfl rfl rfl lk_C_154 (Wp.f_al1_alen (pc := 6) o_X11_copyRow rfl rfl rfl lk_C_46 (Wp.r_min (pc := 8) o_X11_copyRow rfl (⟨rm8_ rfl, ?_⟩)))))
  obtain ⟨c9, H⟩ := oq_ck H
  refine Wp.run 1 (show room8 [] ∧ (¬ (0 : Int32) < 0 ∧ ¬ (0 : Int32) < 0 ∧ ¬ (if 60 < (60 : Int32) then 60 else (60 : Int32)) < 0 ∧ 0 + (if 60 < (60 : Int32) then 60 else (60 : Int32)).toNatClampNeg ≤ 60 ∧ 0 + (if 60 < (60 : Int32) then 60 else (60 : Int32)).toNatClampNeg ≤ 60) ∧ Y_X11_copyRow_46_154 d Q 14 [(0, .ref 154), (1, .ref 46)] [] (pA s 46 (va_cpy (s.1 154) (s.1 46) 0 0 (if 60 < (60 : Int32) then 60 else (60 : Int32)).toNatClampNeg)) from ⟨rm8_ rfl, c9, ?_⟩)
  exact Wp.r_return (pc := 14) o_X11_copyRow rfl (H)
noncomputable abbrev Y_X11_copyRow_47_155 (d : Nat) (Q : Qt) : Xt := Wp SHC (WpM SHC MT (d + 0)) (flat2 cq_X11_copyRow) (none) Q
noncomputable def f_X11_copyRow_47_155  (s : Sg) : Option (Unit × Sg) :=
  ck (¬ (0 : Int32) < 0 ∧ ¬ (0 : Int32) < 0 ∧ ¬ (if 60 < (60 : Int32) then 60 else (60 : Int32)) < 0 ∧ 0 + (if 60 < (60 : Int32) then 60 else (60 : Int32)).toNatClampNeg ≤ 60 ∧ 0 + (if 60 < (60 : Int32) then 60 else (60 : Int32)).toNatClampNeg ≤ 60) (
  some ((), pA s 47 (va_cpy (s.1 155) (s.1 47) 0 0 (if 60 < (60 : Int32) then 60 else (60 : Int32)).toNatClampNeg))
  )
set_option maxRecDepth 100000 in
theorem w_X11_copyRow_47_155 {d : Nat} {s : Sg} {Q : Qt}  (H : OQ (f_X11_copyRow_47_155  s) (fun _ s9 => Q none s9)) : WpM SHC MT (d + 1) 184 [.ref 155, .ref 47] s Q := by
  refine WpM.enter me_X11_copyRow rfl rfl ?_
  show Y_X11_copyRow_47_155 d Q 0 [(0, .ref 155), (1, .ref 47)] [] s
  unfold f_X11_copyRow_47_155 at H
  refine Wp.f_al0_iconst (pc := 0) o_X11_copyRow rfl rfl rfl (Wp.f_al1_iconst (pc := 2) o_X11_copyRow rfl rfl rfl (Wp.f_al0_alen (pc := 4) o_X11_copyRow rfl rfl rfl lk_C_155 (Wp.f_al1_alen (pc := 6) o_X11_copyRow rfl rfl rfl lk_C_47 (Wp.r_min (pc := 8) o_X11_copyRow rfl (⟨rm8_ rfl, ?_⟩)))))
  obtain ⟨c9, H⟩ := oq_ck H
  refine Wp.run 1 (show room8 [] ∧ (¬ (0 : Int32) < 0 ∧ ¬ (0 : Int32) < 0 ∧ ¬ (if 60 < (60 : Int32) then 60 else (60 : Int32)) < 0 ∧ 0 + (if 60 < (60 : Int32) then 60 else (60 : Int32)).toNatClampNeg ≤ 60 ∧ 0 + (if 60 < (60 : Int32) then 60 else (60 : Int32)).toNatClampNeg ≤ 60) ∧ Y_X11_copyRow_47_155 d Q 14 [(0, .ref 155), (1, .ref 47)] [] (pA s 47 (va_cpy (s.1 155) (s.1 47) 0 0 (if 60 < (60 : Int32) then 60 else (60 : Int32)).toNatClampNeg)) from ⟨rm8_ rfl, c9, ?_⟩)
  exact Wp.r_return (pc := 14) o_X11_copyRow rfl (H)
noncomputable abbrev Y_X11_copyRow_48_156 (d : Nat) (Q : Qt) : Xt := Wp SHC (WpM SHC MT (d + 0)) (flat2 cq_X11_copyRow) (none) Q
noncomputable def f_X11_copyRow_48_156  (s : Sg) : Option (Unit × Sg) :=
  ck (¬ (0 : Int32) < 0 ∧ ¬ (0 : Int32) < 0 ∧ ¬ (if 60 < (60 : Int32) then 60 else (60 : Int32)) < 0 ∧ 0 + (if 60 < (60 : Int32) then 60 else (60 : Int32)).toNatClampNeg ≤ 60 ∧ 0 + (if 60 < (60 : Int32) then 60 else (60 : Int32)).toNatClampNeg ≤ 60) (
  some ((), pA s 48 (va_cpy (s.1 156) (s.1 48) 0 0 (if 60 < (60 : Int32) then 60 else (60 : Int32)).toNatClampNeg))
  )
set_option maxRecDepth 100000 in
theorem w_X11_copyRow_48_156 {d : Nat} {s : Sg} {Q : Qt}  (H : OQ (f_X11_copyRow_48_156  s) (fun _ s9 => Q none s9)) : WpM SHC MT (d + 1) 184 [.ref 156, .ref 48] s Q := by
  refine WpM.enter me_X11_copyRow rfl rfl ?_
  show Y_X11_copyRow_48_156 d Q 0 [(0, .ref 156), (1, .ref 48)] [] s
  unfold f_X11_copyRow_48_156 at H
  refine Wp.f_al0_iconst (pc := 0) o_X11_copyRow rfl rfl rfl (Wp.f_al1_iconst (pc := 2) o_X11_copyRow rfl rfl rfl (Wp.f_al0_alen (pc := 4) o_X11_copyRow rfl rfl rfl lk_C_156 (Wp.f_al1_alen (pc := 6) o_X11_copyRow rfl rfl rfl lk_C_48 (Wp.r_min (pc := 8) o_X11_copyRow rfl (⟨rm8_ rfl, ?_⟩)))))
  obtain ⟨c9, H⟩ := oq_ck H
  refine Wp.run 1 (show room8 [] ∧ (¬ (0 : Int32) < 0 ∧ ¬ (0 : Int32) < 0 ∧ ¬ (if 60 < (60 : Int32) then 60 else (60 : Int32)) < 0 ∧ 0 + (if 60 < (60 : Int32) then 60 else (60 : Int32)).toNatClampNeg ≤ 60 ∧ 0 + (if 60 < (60 : Int32) then 60 else (60 : Int32)).toNatClampNeg ≤ 60) ∧ Y_X11_copyRow_48_156 d Q 14 [(0, .ref 156), (1, .ref 48)] [] (pA s 48 (va_cpy (s.1 156) (s.1 48) 0 0 (if 60 < (60 : Int32) then 60 else (60 : Int32)).toNatClampNeg)) from ⟨rm8_ rfl, c9, ?_⟩)
  exact Wp.r_return (pc := 14) o_X11_copyRow rfl (H)
noncomputable abbrev Y_X11_copyRow_49_157 (d : Nat) (Q : Qt) : Xt := Wp SHC (WpM SHC MT (d + 0)) (flat2 cq_X11_copyRow) (none) Q
noncomputable def f_X11_copyRow_49_157  (s : Sg) : Option (Unit × Sg) :=
  ck (¬ (0 : Int32) < 0 ∧ ¬ (0 : Int32) < 0 ∧ ¬ (if 60 < (60 : Int32) then 60 else (60 : Int32)) < 0 ∧ 0 + (if 60 < (60 : Int32) then 60 else (60 : Int32)).toNatClampNeg ≤ 60 ∧ 0 + (if 60 < (60 : Int32) then 60 else (60 : Int32)).toNatClampNeg ≤ 60) (
  some ((), pA s 49 (va_cpy (s.1 157) (s.1 49) 0 0 (if 60 < (60 : Int32) then 60 else (60 : Int32)).toNatClampNeg))
  )
set_option maxRecDepth 100000 in
theorem w_X11_copyRow_49_157 {d : Nat} {s : Sg} {Q : Qt}  (H : OQ (f_X11_copyRow_49_157  s) (fun _ s9 => Q none s9)) : WpM SHC MT (d + 1) 184 [.ref 157, .ref 49] s Q := by
  refine WpM.enter me_X11_copyRow rfl rfl ?_
  show Y_X11_copyRow_49_157 d Q 0 [(0, .ref 157), (1, .ref 49)] [] s
  unfold f_X11_copyRow_49_157 at H
  refine Wp.f_al0_iconst (pc := 0) o_X11_copyRow rfl rfl rfl (Wp.f_al1_iconst (pc := 2) o_X11_copyRow rfl rfl rfl (Wp.f_al0_alen (pc := 4) o_X11_copyRow rfl rfl rfl lk_C_157 (Wp.f_al1_alen (pc := 6) o_X11_copyRow rfl rfl rfl lk_C_49 (Wp.r_min (pc := 8) o_X11_copyRow rfl (⟨rm8_ rfl, ?_⟩)))))
  obtain ⟨c9, H⟩ := oq_ck H
  refine Wp.run 1 (show room8 [] ∧ (¬ (0 : Int32) < 0 ∧ ¬ (0 : Int32) < 0 ∧ ¬ (if 60 < (60 : Int32) then 60 else (60 : Int32)) < 0 ∧ 0 + (if 60 < (60 : Int32) then 60 else (60 : Int32)).toNatClampNeg ≤ 60 ∧ 0 + (if 60 < (60 : Int32) then 60 else (60 : Int32)).toNatClampNeg ≤ 60) ∧ Y_X11_copyRow_49_157 d Q 14 [(0, .ref 157), (1, .ref 49)] [] (pA s 49 (va_cpy (s.1 157) (s.1 49) 0 0 (if 60 < (60 : Int32) then 60 else (60 : Int32)).toNatClampNeg)) from ⟨rm8_ rfl, c9, ?_⟩)
  exact Wp.r_return (pc := 14) o_X11_copyRow rfl (H)
noncomputable abbrev Y_X11_copyRow_50_158 (d : Nat) (Q : Qt) : Xt := Wp SHC (WpM SHC MT (d + 0)) (flat2 cq_X11_copyRow) (none) Q
noncomputable def f_X11_copyRow_50_158  (s : Sg) : Option (Unit × Sg) :=
  ck (¬ (0 : Int32) < 0 ∧ ¬ (0 : Int32) < 0 ∧ ¬ (if 60 < (60 : Int32) then 60 else (60 : Int32)) < 0 ∧ 0 + (if 60 < (60 : Int32) then 60 else (60 : Int32)).toNatClampNeg ≤ 60 ∧ 0 + (if 60 < (60 : Int32) then 60 else (60 : Int32)).toNatClampNeg ≤ 60) (
  some ((), pA s 50 (va_cpy (s.1 158) (s.1 50) 0 0 (if 60 < (60 : Int32) then 60 else (60 : Int32)).toNatClampNeg))
  )
set_option maxRecDepth 100000 in
theorem w_X11_copyRow_50_158 {d : Nat} {s : Sg} {Q : Qt}  (H : OQ (f_X11_copyRow_50_158  s) (fun _ s9 => Q none s9)) : WpM SHC MT (d + 1) 184 [.ref 158, .ref 50] s Q := by
  refine WpM.enter me_X11_copyRow rfl rfl ?_
  show Y_X11_copyRow_50_158 d Q 0 [(0, .ref 158), (1, .ref 50)] [] s
  unfold f_X11_copyRow_50_158 at H
  refine Wp.f_al0_iconst (pc := 0) o_X11_copyRow rfl rfl rfl (Wp.f_al1_iconst (pc := 2) o_X11_copyRow rfl rfl rfl (Wp.f_al0_alen (pc := 4) o_X11_copyRow rfl rfl rfl lk_C_158 (Wp.f_al1_alen (pc := 6) o_X11_copyRow rfl rfl rfl lk_C_50 (Wp.r_min (pc := 8) o_X11_copyRow rfl (⟨rm8_ rfl, ?_⟩)))))
  obtain ⟨c9, H⟩ := oq_ck H
  refine Wp.run 1 (show room8 [] ∧ (¬ (0 : Int32) < 0 ∧ ¬ (0 : Int32) < 0 ∧ ¬ (if 60 < (60 : Int32) then 60 else (60 : Int32)) < 0 ∧ 0 + (if 60 < (60 : Int32) then 60 else (60 : Int32)).toNatClampNeg ≤ 60 ∧ 0 + (if 60 < (60 : Int32) then 60 else (60 : Int32)).toNatClampNeg ≤ 60) ∧ Y_X11_copyRow_50_158 d Q 14 [(0, .ref 158), (1, .ref 50)] [] (pA s 50 (va_cpy (s.1 158) (s.1 50) 0 0 (if 60 < (60 : Int32) then 60 else (60 : Int32)).toNatClampNeg)) from ⟨rm8_ rfl, c9, ?_⟩)
  exact Wp.r_return (pc := 14) o_X11_copyRow rfl (H)
noncomputable abbrev Y_X5_copyFrom_135 (d : Nat) (Q : Qt) : Xt := Wp SHC (WpM SHC MT (d + 1)) (flat2 cq_X5_copyFrom) (none) Q
noncomputable def f_X5_copyFrom_135  (s : Sg) : Option (Unit × Sg) :=
  bd (f_X11_copyRow_45_153 s) (fun _ s2 =>
  bd (f_X11_copyRow_46_154 s2) (fun _ s4 =>
  bd (f_X11_copyRow_47_155 s4) (fun _ s6 =>
  bd (f_X11_copyRow_48_156 s6) (fun _ s8 =>
  bd (f_X11_copyRow_49_157 s8) (fun _ s10 =>
  bd (f_X11_copyRow_50_158 s10) (fun _ s12 =>
  ck ((s12.1 135 6) = 0 ∨ (s12.1 135 6) = 1) (
  nmx (pI (pI s12 27 6 (s12.1 135 6)) 27 7 ((pI s12 27 6 (s12.1 135 6)).1 135 7)) (fun s14 =>
  some ((), pI s14 27 8 (s14.1 135 8))
  )
  )
  )
  )
  )
  )
  )
  )
set_option maxRecDepth 100000 in
theorem w_X5_copyFrom_135 {d : Nat} {s : Sg} {Q : Qt}  (H : OQ (f_X5_copyFrom_135  s) (fun _ s9 => Q none s9)) : WpM SHC MT (d + 2) 62 [.ref 27, .ref 135] s Q := by
  refine WpM.enter me_X5_copyFrom rfl rfl ?_
  show Y_X5_copyFrom_135 d Q 0 [(0, .ref 27), (1, .ref 135)] [] s
  unfold f_X5_copyFrom_135 at H
  refine Wp.f_al1_gfr (pc := 0) o_X5_copyFrom rfl rfl rfl fk_C_135_0 (Wp.f_al0_gfr (pc := 4) o_X5_copyFrom rfl rfl rfl fk_C_27_0 (Wp.r_cs2 (pc := 8) o_X5_copyFrom rfl (⟨rm8_ rfl, ?_⟩)))
  refine w_X11_copyRow_45_153 (d := d)  ?_
  refine oq_bd H (fun _ s2 H => ?_)
  refine Wp.f_al1_gfr (pc := 11) o_X5_copyFrom rfl rfl rfl fk_C_135_1 (Wp.f_al0_gfr (pc := 15) o_X5_copyFrom rfl rfl rfl fk_C_27_1 (Wp.r_cs2 (pc := 19) o_X5_copyFrom rfl (⟨rm8_ rfl, ?_⟩)))
  refine w_X11_copyRow_46_154 (d := d)  ?_
  refine oq_bd H (fun _ s4 H => ?_)
  refine Wp.f_al1_gfr (pc := 22) o_X5_copyFrom rfl rfl rfl fk_C_135_2 (Wp.f_al0_gfr (pc := 26) o_X5_copyFrom rfl rfl rfl fk_C_27_2 (Wp.r_cs2 (pc := 30) o_X5_copyFrom rfl (⟨rm8_ rfl, ?_⟩)))
  refine w_X11_copyRow_47_155 (d := d)  ?_
  refine oq_bd H (fun _ s6 H => ?_)
  refine Wp.f_al1_gfr (pc := 33) o_X5_copyFrom rfl rfl rfl fk_C_135_3 (Wp.f_al0_gfr (pc := 37) o_X5_copyFrom rfl rfl rfl fk_C_27_3 (Wp.r_cs2 (pc := 41) o_X5_copyFrom rfl (⟨rm8_ rfl, ?_⟩)))
  refine w_X11_copyRow_48_156 (d := d)  ?_
  refine oq_bd H (fun _ s8 H => ?_)
  refine Wp.f_al1_gfr (pc := 44) o_X5_copyFrom rfl rfl rfl fk_C_135_4 (Wp.f_al0_gfr (pc := 48) o_X5_copyFrom rfl rfl rfl fk_C_27_4 (Wp.r_cs2 (pc := 52) o_X5_copyFrom rfl (⟨rm8_ rfl, ?_⟩)))
  refine w_X11_copyRow_49_157 (d := d)  ?_
  refine oq_bd H (fun _ s10 H => ?_)
  refine Wp.f_al1_gfr (pc := 55) o_X5_copyFrom rfl rfl rfl fk_C_135_5 (Wp.f_al0_gfr (pc := 59) o_X5_copyFrom rfl rfl rfl fk_C_27_5 (Wp.r_cs2 (pc := 63) o_X5_copyFrom rfl (⟨rm8_ rfl, ?_⟩)))
  refine w_X11_copyRow_50_158 (d := d)  ?_
  refine oq_bd H (fun _ s12 H => ?_)
  obtain ⟨hc13, H⟩ := oq_ck H
  refine Wp.r_aload_n0 (pc := 66) o_X5_copyFrom rfl rfl (Wp.f_al1_gfi (pc := 67) o_X5_copyFrom rfl rfl rfl fk_C_135_6 (Wp.r_pfz (pc := 71) o_X5_copyFrom rfl fk_C_27_6 (⟨hc13, ?_⟩)))
  refine Wp.r_aload_n0 (pc := 74) o_X5_copyFrom rfl rfl (Wp.f_al1_gfi (pc := 75) o_X5_copyFrom rfl rfl rfl fk_C_135_7 (Wp.r_pfi (pc := 79) o_X5_copyFrom rfl fk_C_27_7 (show Y_X5_copyFrom_135 d Q 82 [(0, .ref 27), (1, .ref 135)] [] (pI (pI s12 27 6 (s12.1 135 6)) 27 7 ((pI s12 27 6 (s12.1 135 6)).1 135 7)) from ?_)))
  revert H
  generalize pI (pI s12 27 6 (s12.1 135 6)) 27 7 ((pI s12 27 6 (s12.1 135 6)).1 135 7) = s14
  intro H
  have H := nmx_e H
  exact Wp.r_aload_n0 (pc := 82) o_X5_copyFrom rfl rfl (Wp.f_al1_gfi (pc := 83) o_X5_copyFrom rfl rfl rfl fk_C_135_8 (Wp.r_pfi (pc := 87) o_X5_copyFrom rfl fk_C_27_8 (Wp.r_return (pc := 90) o_X5_copyFrom rfl (H))))
noncomputable abbrev Y_X10_copyFrom_132 (d : Nat) (Q : Qt) : Xt := Wp SHC (WpM SHC MT (d + 2)) (flat2 cq_X10_copyFrom) (none) Q
noncomputable def f_X10_copyFrom_132  (s : Sg) : Option (Unit × Sg) :=
  bd (f_X4_copyFrom_133 s) (fun _ s2 =>
  bd (f_X2_copyFrom_134 s2) (fun _ s4 =>
  bd (f_X5_copyFrom_135 s4) (fun _ s6 =>
  some ((), s6)
  )
  )
  )
set_option maxRecDepth 100000 in
theorem w_X10_copyFrom_132 {d : Nat} {s : Sg} {Q : Qt}  (H : OQ (f_X10_copyFrom_132  s) (fun _ s9 => Q none s9)) : WpM SHC MT (d + 3) 101 [.ref 24, .ref 132] s Q := by
  refine WpM.enter me_X10_copyFrom rfl rfl ?_
  show Y_X10_copyFrom_132 d Q 0 [(0, .ref 24), (1, .ref 132)] [] s
  unfold f_X10_copyFrom_132 at H
  refine Wp.f_al0_gfr (pc := 0) o_X10_copyFrom rfl rfl rfl fk_C_24_0 (Wp.f_al1_gfr (pc := 4) o_X10_copyFrom rfl rfl rfl fk_C_132_0 (Wp.r_cv2 (pc := 8) o_X10_copyFrom rfl fk_C_25_0 (⟨rm8_ rfl, ?_⟩)))
  refine w_X4_copyFrom_133 (d := d)  ?_
  refine oq_bd H (fun _ s2 H => ?_)
  refine Wp.f_al0_gfr (pc := 11) o_X10_copyFrom rfl rfl rfl fk_C_24_1 (Wp.f_al1_gfr (pc := 15) o_X10_copyFrom rfl rfl rfl fk_C_132_1 (Wp.r_cv2 (pc := 19) o_X10_copyFrom rfl fk_C_26_0 (⟨rm8_ rfl, ?_⟩)))
  refine w_X2_copyFrom_134 (d := d)  ?_
  refine oq_bd H (fun _ s4 H => ?_)
  refine Wp.f_al0_gfr (pc := 22) o_X10_copyFrom rfl rfl rfl fk_C_24_2 (Wp.f_al1_gfr (pc := 26) o_X10_copyFrom rfl rfl rfl fk_C_132_2 (Wp.r_cv2 (pc := 30) o_X10_copyFrom rfl fk_C_27_0 (⟨rm8_ rfl, ?_⟩)))
  refine w_X5_copyFrom_135 (d := d)  ?_
  refine oq_bd H (fun _ s6 H => ?_)
  exact Wp.r_return (pc := 33) o_X10_copyFrom rfl (H)
noncomputable abbrev Y_X11_back (d : Nat) (Q : Qt) : Xt := Wp SHC (WpM SHC MT (d + 3)) (flat2 cq_X11_back) (some .int) Q
noncomputable def f_X11_back  (s : Sg) : Option (Int32 × Sg) :=
  if 0 < (s.1 0 14) then
    ck (inr ((pI s 0 14 ((s.1 0 14) - 1)).1 0 14) 3) (
    sel3 ((pI s 0 14 ((s.1 0 14) - 1)).1 0 14)
      (
        bd (f_X10_copyFrom_78 (pI s 0 14 ((s.1 0 14) - 1))) (fun _ s3 =>
        bd (f_X11_answer (s3.1 0 14) s3) (fun r4 s5 =>
        some (r4, s5)
        )
        )
      )
      (
        bd (f_X10_copyFrom_105 (pI s 0 14 ((s.1 0 14) - 1))) (fun _ s7 =>
        bd (f_X11_answer (s7.1 0 14) s7) (fun r8 s9 =>
        some (r8, s9)
        )
        )
      )
      (
        bd (f_X10_copyFrom_132 (pI s 0 14 ((s.1 0 14) - 1))) (fun _ s11 =>
        bd (f_X11_answer (s11.1 0 14) s11) (fun r12 s13 =>
        some (r12, s13)
        )
        )
      )
    )
  else
    bd (f_X11_refuse 6 s) (fun r14 s15 =>
    some (r14, s15)
    )
set_option maxRecDepth 100000 in
theorem w_X11_back {d : Nat} {s : Sg} {Q : Qt}  (H : OQ (f_X11_back  s) (fun r9 s9 => Q (some (.int r9)) s9)) : WpM SHC MT (d + 4) 163 [.ref 0] s Q := by
  refine WpM.enter me_X11_back rfl rfl ?_
  show Y_X11_back d Q 0 [(0, .ref 0)] [] s
  unfold f_X11_back at H
  refine Wp.f_al0_gfi (pc := 0) o_X11_back rfl rfl rfl fk_C_0_14 (Wp.r_if_gt (pc := 4) o_X11_back rfl (fun c9 => ?_) (fun c9 => ?_))
  · have H := oq_t c9 H
    obtain ⟨c9, H⟩ := oq_ck H
    refine Wp.r_aload_n0 (pc := 14) o_X11_back rfl rfl (Wp.r_dup_r (pc := 15) o_X11_back rfl (Wp.r_gfi (pc := 16) o_X11_back rfl fk_C_0_14 (Wp.r_iconst (pc := 19) o_X11_back rfl (Wp.r_isub (pc := 20) o_X11_back rfl (Wp.r_pfi (pc := 21) o_X11_back rfl fk_C_0_14 (Wp.f_al0_gfr (pc := 24) o_X11_back rfl rfl rfl fk_C_0_2 (Wp.f_al0_gfr (pc := 28) o_X11_back rfl rfl rfl fk_C_0_4 (Wp.f_al0_gfi (pc := 32) o_X11_back rfl rfl rfl fk_C_0_14 (Wp.run 1 (show vp_in ((pI s 0 14 ((s.1 0 14) - 1)).1 0 14) 3 ∧ (((pI s 0 14 ((s.1 0 14) - 1)).1 0 14) = nI 0 → Y_X11_back d Q 37 [(0, .ref 0)] [.ref 78, .ref 24] (pI s 0 14 ((s.1 0 14) - 1))) ∧ (((pI s 0 14 ((s.1 0 14) - 1)).1 0 14) = nI 1 → Y_X11_back d Q 37 [(0, .ref 0)] [.ref 105, .ref 24] (pI s 0 14 ((s.1 0 14) - 1))) ∧ (((pI s 0 14 ((s.1 0 14) - 1)).1 0 14) = nI 2 → Y_X11_back d Q 37 [(0, .ref 0)] [.ref 132, .ref 24] (pI s 0 14 ((s.1 0 14) - 1))) ∧ True from ⟨c9, fun e9 => ?_, fun e9 => ?_, fun e9 => ?_, trivial⟩))))))))))
    · have ek1 := e9
      have H := oq_sel3_0 (i := ((pI s 0 14 ((s.1 0 14) - 1)).1 0 14)) e9 H
      refine Wp.r_cv2 (pc := 37) o_X11_back rfl fk_C_24_0 (⟨rm8_ rfl, ?_⟩)
      refine w_X10_copyFrom_78 (d := d)  ?_
      refine oq_bd H (fun _ s3 H => ?_)
      refine Wp.r_aload_n0 (pc := 40) o_X11_back rfl rfl (Wp.f_al0_gfi (pc := 41) o_X11_back rfl rfl rfl fk_C_0_14 (Wp.r_cv2 (pc := 45) o_X11_back rfl fk_C_0_0 (⟨rm8_ rfl, ?_⟩)))
      refine w_X11_answer (d := d + 2) _ ?_
      refine oq_bd H (fun r4 s5 H => ?_)
      exact Wp.r_ireturn (pc := 48) o_X11_back rfl (⟨rfl, H⟩)
    · have ek1 := e9
      have H := oq_sel3_1 (i := ((pI s 0 14 ((s.1 0 14) - 1)).1 0 14)) e9 H
      refine Wp.r_cv2 (pc := 37) o_X11_back rfl fk_C_24_0 (⟨rm8_ rfl, ?_⟩)
      refine w_X10_copyFrom_105 (d := d)  ?_
      refine oq_bd H (fun _ s7 H => ?_)
      refine Wp.r_aload_n0 (pc := 40) o_X11_back rfl rfl (Wp.f_al0_gfi (pc := 41) o_X11_back rfl rfl rfl fk_C_0_14 (Wp.r_cv2 (pc := 45) o_X11_back rfl fk_C_0_0 (⟨rm8_ rfl, ?_⟩)))
      refine w_X11_answer (d := d + 2) _ ?_
      refine oq_bd H (fun r8 s9 H => ?_)
      exact Wp.r_ireturn (pc := 48) o_X11_back rfl (⟨rfl, H⟩)
    · have ek1 := e9
      have H := oq_sel3_2 (i := ((pI s 0 14 ((s.1 0 14) - 1)).1 0 14)) e9 H
      refine Wp.r_cv2 (pc := 37) o_X11_back rfl fk_C_24_0 (⟨rm8_ rfl, ?_⟩)
      refine w_X10_copyFrom_132 (d := d)  ?_
      refine oq_bd H (fun _ s11 H => ?_)
      refine Wp.r_aload_n0 (pc := 40) o_X11_back rfl rfl (Wp.f_al0_gfi (pc := 41) o_X11_back rfl rfl rfl fk_C_0_14 (Wp.r_cv2 (pc := 45) o_X11_back rfl fk_C_0_0 (⟨rm8_ rfl, ?_⟩)))
      refine w_X11_answer (d := d + 2) _ ?_
      refine oq_bd H (fun r12 s13 H => ?_)
      exact Wp.r_ireturn (pc := 48) o_X11_back rfl (⟨rfl, H⟩)
  · have H := oq_f c9 H
    refine Wp.r_aload_n0 (pc := 7) o_X11_back rfl rfl (Wp.r_bipush (pc := 8) o_X11_back rfl (Wp.r_cv2 (pc := 10) o_X11_back rfl fk_C_0_0 (⟨rm8_ rfl, ?_⟩)))
    refine w_X11_refuse (d := d + 2) _ ?_
    refine oq_bd H (fun r14 s15 H => ?_)
    exact Wp.r_ireturn (pc := 13) o_X11_back rfl (⟨rfl, H⟩)
noncomputable abbrev Y_X12_status (d : Nat) (Q : Qt) : Xt := Wp SHM (WpM SHM MT (d + 0)) (flat2 cq_X12_status) (some .int) Q
noncomputable def f_X12_status  (s : Sg) : Option (Int32 × Sg) :=
  some (s.1 0 2, s)
set_option maxRecDepth 100000 in
theorem w_X12_status {d : Nat} {s : Sg} {Q : Qt}  (H : OQ (f_X12_status  s) (fun r9 s9 => Q (some (.int r9)) s9)) : WpM SHM MT (d + 1) 187 [.ref 0] s Q := by
  refine WpM.enter me_X12_status rfl rfl ?_
  show Y_X12_status d Q 0 [(0, .ref 0)] [] s
  unfold f_X12_status at H
  exact Wp.f_al0_gfi (pc := 0) o_X12_status rfl rfl rfl fk_M_0_2 (Wp.r_ireturn (pc := 4) o_X12_status rfl (⟨rfl, H⟩))
noncomputable abbrev Y_X12_top (d : Nat) (Q : Qt) : Xt := Wp SHM (WpM SHM MT (d + 0)) (flat2 cq_X12_top) (some .long) Q
noncomputable def f_X12_top  (s : Sg) : Option (Int64 × Sg) :=
  some (s.2 0 3, s)
set_option maxRecDepth 100000 in
theorem w_X12_top {d : Nat} {s : Sg} {Q : Qt}  (H : OQ (f_X12_top  s) (fun r9 s9 => Q (some (.long r9)) s9)) : WpM SHM MT (d + 1) 188 [.ref 0] s Q := by
  refine WpM.enter me_X12_top rfl rfl ?_
  show Y_X12_top d Q 0 [(0, .ref 0)] [] s
  unfold f_X12_top at H
  exact Wp.f_al0_gfl (pc := 0) o_X12_top rfl rfl rfl fk_M_0_3 (Wp.r_lreturn (pc := 4) o_X12_top rfl (H))
noncomputable abbrev Y_X12_bottom (d : Nat) (Q : Qt) : Xt := Wp SHM (WpM SHM MT (d + 0)) (flat2 cq_X12_bottom) (some .long) Q
noncomputable def f_X12_bottom  (s : Sg) : Option (Int64 × Sg) :=
  some (s.2 0 4, s)
set_option maxRecDepth 100000 in
theorem w_X12_bottom {d : Nat} {s : Sg} {Q : Qt}  (H : OQ (f_X12_bottom  s) (fun r9 s9 => Q (some (.long r9)) s9)) : WpM SHM MT (d + 1) 189 [.ref 0] s Q := by
  refine WpM.enter me_X12_bottom rfl rfl ?_
  show Y_X12_bottom d Q 0 [(0, .ref 0)] [] s
  unfold f_X12_bottom at H
  exact Wp.f_al0_gfl (pc := 0) o_X12_bottom rfl rfl rfl fk_M_0_4 (Wp.r_lreturn (pc := 4) o_X12_bottom rfl (H))
noncomputable abbrev Y_X12_isTray (d : Nat) (Q : Qt) : Xt := Wp SHM (WpM SHM MT (d + 0)) (flat2 cq_X12_isTray) (some .boolean) Q
noncomputable def f_X12_isTray (a0 : Int32) (s : Sg) : Option (Int32 × Sg) :=
  if a0 < 0 then
    some (0, s)
  else
    if 4 ≤ a0 then
      some (0, s)
    else
      some (1, s)
set_option maxRecDepth 100000 in
theorem w_X12_isTray {d : Nat} {s : Sg} {Q : Qt} (a0 : Int32) (H : OQ (f_X12_isTray a0 s) (fun r9 s9 => Q (some (.int r9)) s9)) : WpM SHM MT (d + 1) 195 [.int a0] s Q := by
  refine WpM.enter me_X12_isTray rfl rfl ?_
  show Y_X12_isTray d Q 0 [(0, .int a0)] [] s
  unfold f_X12_isTray at H
  refine Wp.r_iload_n0 (pc := 0) o_X12_isTray rfl rfl (Wp.r_if_lt (pc := 1) o_X12_isTray rfl (fun c9 => ?_) (fun c9 => ?_))
  · have H := oq_t c9 H
    exact Wp.r_iconst (pc := 13) o_X12_isTray rfl (Wp.r_ireturn (pc := 14) o_X12_isTray rfl (⟨rfl, H⟩))
  · have H := oq_f c9 H
    refine Wp.r_iload_n0 (pc := 4) o_X12_isTray rfl rfl (Wp.r_iconst (pc := 5) o_X12_isTray rfl (Wp.r_icmp_ge (pc := 6) o_X12_isTray rfl (fun c9 => ?_) (fun c9 => ?_)))
    · have H := oq_t c9 H
      exact Wp.r_iconst (pc := 13) o_X12_isTray rfl (Wp.r_ireturn (pc := 14) o_X12_isTray rfl (⟨rfl, H⟩))
    · have H := oq_f c9 H
      exact Wp.r_iconst (pc := 9) o_X12_isTray rfl (Wp.r_goto (pc := 10) o_X12_isTray rfl (Wp.r_ireturn (pc := 14) o_X12_isTray rfl (⟨rfl, H⟩)))
noncomputable abbrev Y_X12_is (d : Nat) (Q : Qt) : Xt := Wp SHM (WpM SHM MT (d + 0)) (flat2 cq_X12_is) (some .boolean) Q
noncomputable def f_X12_is (a1 : Int32) (s : Sg) : Option (Int32 × Sg) :=
  if a1 = 0 then
    some (1, pI s 0 2 a1)
  else
    some (0, pI s 0 2 a1)
set_option maxRecDepth 100000 in
theorem w_X12_is {d : Nat} {s : Sg} {Q : Qt} (a1 : Int32) (H : OQ (f_X12_is a1 s) (fun r9 s9 => Q (some (.int r9)) s9)) : WpM SHM MT (d + 1) 190 [.ref 0, .int a1] s Q := by
  refine WpM.enter me_X12_is rfl rfl ?_
  show Y_X12_is d Q 0 [(0, .ref 0), (1, .int a1)] [] s
  unfold f_X12_is at H
  refine Wp.r_aload_n0 (pc := 0) o_X12_is rfl rfl (Wp.r_iload_n1 (pc := 1) o_X12_is rfl rfl (Wp.r_pfi (pc := 2) o_X12_is rfl fk_M_0_2 (Wp.r_iload_n1 (pc := 5) o_X12_is rfl rfl (Wp.r_if_ne (pc := 6) o_X12_is rfl (fun c9 => ?_) (fun c9 => ?_)))))
  · have H := oq_t c9 H
    exact Wp.r_iconst (pc := 9) o_X12_is rfl (Wp.r_goto (pc := 10) o_X12_is rfl (Wp.r_ireturn (pc := 14) o_X12_is rfl (⟨rfl, H⟩)))
  · have H := oq_f c9 H
    exact Wp.r_iconst (pc := 13) o_X12_is rfl (Wp.r_ireturn (pc := 14) o_X12_is rfl (⟨rfl, H⟩))
noncomputable abbrev Y_X12_tray (d : Nat) (Q : Qt) : Xt := Wp SHM (WpM SHM MT (d + 1)) (flat2 cq_X12_tray) (some .boolean) Q
noncomputable def f_X12_tray_b49 : Nat → Int32 → Int32 → Int32 → Sg → Option (Int32 × Sg)
  | 0, _, _, _, _ => none
  | n + 1, v1, v3, v4, s =>
    if v3 ≤ v4 then
      bd (f_X12_is 0 s) (fun r13 s14 =>
      ck (r13 = 0 ∨ r13 = 1) (some (r13, s14))
      )
    else
      ck (inr ((60 * v1) + v4) 240) (
      nmx (pL s 5 (((60 * v1) + v4).toNatClampNeg) 0) (fun s16 =>
      (f_X12_tray_b49 n) v1 v3 (v4 + 1) s16
      )
      )
set_option maxRecDepth 100000 in
theorem w_X12_tray_b49 {d : Nat} {Q : Qt} (n : Nat) : ∀ (v1 : Int32) (v3 : Int32) (v4 : Int32) (s : Sg), OQ (f_X12_tray_b49 n v1 v3 v4 s) (fun r9 s9 => Q (some (.int r9)) s9) → Y_X12_tray d Q 49 [(0, .ref 0), (1, .int v1), (3, .int v3), (4, .int v4)] [] s := by
  induction n with
  | zero => intro v1 v3 v4 s H; exact H.elim
  | succ n ih =>
    intro v1 v3 v4 s H
    unfold f_X12_tray_b49 at H
    refine Wp.r_iload (pc := 49) o_X12_tray rfl rfl (Wp.r_iload_n3 (pc := 51) o_X12_tray rfl rfl (Wp.r_icmp_ge (pc := 52) o_X12_tray rfl (fun c9 => ?_) (fun c9 => ?_)))
    · have H := oq_t c9 H
      refine Wp.f_al0_iconst (pc := 74) o_X12_tray rfl rfl rfl (Wp.r_cv2 (pc := 76) o_X12_tray rfl fk_M_0_0 (⟨rm8_ rfl, ?_⟩))
      refine w_X12_is (d := d) _ ?_
      refine oq_bd H (fun r13 s14 H => ?_)
      obtain ⟨c9, H⟩ := oq_ck H
      exact Wp.r_ireturn (pc := 79) o_X12_tray rfl (⟨b01_n c9, H⟩)
    · have H := oq_f c9 H
      obtain ⟨hc15, H⟩ := oq_ck H
      refine Wp.f_al0_gfr (pc := 55) o_X12_tray rfl rfl rfl fk_M_0_7 (Wp.r_bipush (pc := 59) o_X12_tray rfl (Wp.r_iload_n1 (pc := 61) o_X12_tray rfl rfl (Wp.r_imul (pc := 62) o_X12_tray rfl (Wp.r_iload (pc := 63) o_X12_tray rfl rfl (Wp.r_iadd (pc := 65) o_X12_tray rfl (Wp.r_lconst (pc := 66) o_X12_tray rfl (Wp.r_lastore (pc := 67) o_X12_tray rfl ak_M_5 (⟨hc15, ?_⟩))))))))
      revert H
      generalize pL s 5 (((60 * v1) + v4).toNatClampNeg) 0 = s16
      intro H
      have H := nmx_e H
      exact Wp.f_iinc_goto (pc := 68) o_X12_tray rfl rfl rfl (Wp.weak2 [1, 2, 3, 0] (ih _ _ _ _ H) rfl)
noncomputable def f_X12_tray (a1 : Int32) (a2 : Int32) (a3 : Int32) (s : Sg) : Option (Int32 × Sg) :=
  bd (f_X12_isTray a1 s) (fun r1 s2 =>
  if r1 = 0 then
    bd (f_X12_is 1 s2) (fun r3 s4 =>
    ck (r3 = 0 ∨ r3 = 1) (some (r3, s4))
    )
  else
    if a2 < 0 then
      bd (f_X12_is 1 s2) (fun r5 s6 =>
      ck (r5 = 0 ∨ r5 = 1) (some (r5, s6))
      )
    else
      if 3 < a2 then
        bd (f_X12_is 1 s2) (fun r7 s8 =>
        ck (r7 = 0 ∨ r7 = 1) (some (r7, s8))
        )
      else
        if a3 < 0 then
          bd (f_X12_is 1 s2) (fun r9 s10 =>
          ck (r9 = 0 ∨ r9 = 1) (some (r9, s10))
          )
        else
          if a3 ≤ 60 then
            ck (inr a1 4) (
            nmx (pI (pI s2 3 a1.toNatClampNeg a2) 4 a1.toNatClampNeg a3) (fun s12 =>
            f_X12_tray_b49 BIG a1 a3 0 s12
            )
            )
          else
            bd (f_X12_is 1 s2) (fun r17 s18 =>
            ck (r17 = 0 ∨ r17 = 1) (some (r17, s18))
            )
  )
set_option maxRecDepth 100000 in
theorem w_X12_tray {d : Nat} {s : Sg} {Q : Qt} (a1 : Int32) (a2 : Int32) (a3 : Int32) (H : OQ (f_X12_tray a1 a2 a3 s) (fun r9 s9 => Q (some (.int r9)) s9)) : WpM SHM MT (d + 2) 197 [.ref 0, .int a1, .int a2, .int a3] s Q := by
  refine WpM.enter me_X12_tray rfl rfl ?_
  show Y_X12_tray d Q 0 [(0, .ref 0), (1, .int a1), (2, .int a2), (3, .int a3)] [] s
  unfold f_X12_tray at H
  refine Wp.r_iload_n1 (pc := 0) o_X12_tray rfl rfl (Wp.r_cs1 (pc := 1) o_X12_tray rfl (⟨rm8_ rfl, ?_⟩))
  refine w_X12_isTray (d := d) _ ?_
  refine oq_bd H (fun r1 s2 H => ?_)
  refine Wp.r_if_eq (pc := 4) o_X12_tray rfl (fun c9 => ?_) (fun c9 => ?_)
  · have H := oq_t c9 H
    refine Wp.f_al0_iconst (pc := 26) o_X12_tray rfl rfl rfl (Wp.r_cv2 (pc := 28) o_X12_tray rfl fk_M_0_0 (⟨rm8_ rfl, ?_⟩))
    refine w_X12_is (d := d) _ ?_
    refine oq_bd H (fun r3 s4 H => ?_)
    obtain ⟨c9, H⟩ := oq_ck H
    exact Wp.r_ireturn (pc := 31) o_X12_tray rfl (⟨b01_n c9, H⟩)
  · have H := oq_f c9 H
    refine Wp.r_iload_n2 (pc := 7) o_X12_tray rfl rfl (Wp.r_if_lt (pc := 8) o_X12_tray rfl (fun c9 => ?_) (fun c9 => ?_))
    · have H := oq_t c9 H
      refine Wp.f_al0_iconst (pc := 26) o_X12_tray rfl rfl rfl (Wp.r_cv2 (pc := 28) o_X12_tray rfl fk_M_0_0 (⟨rm8_ rfl, ?_⟩))
      refine w_X12_is (d := d) _ ?_
      refine oq_bd H (fun r5 s6 H => ?_)
      obtain ⟨c9, H⟩ := oq_ck H
      exact Wp.r_ireturn (pc := 31) o_X12_tray rfl (⟨b01_n c9, H⟩)
    · have H := oq_f c9 H
      refine Wp.r_iload_n2 (pc := 11) o_X12_tray rfl rfl (Wp.r_iconst (pc := 12) o_X12_tray rfl (Wp.r_icmp_gt (pc := 13) o_X12_tray rfl (fun c9 => ?_) (fun c9 => ?_)))
      · have H := oq_t c9 H
        refine Wp.f_al0_iconst (pc := 26) o_X12_tray rfl rfl rfl (Wp.r_cv2 (pc := 28) o_X12_tray rfl fk_M_0_0 (⟨rm8_ rfl, ?_⟩))
        refine w_X12_is (d := d) _ ?_
        refine oq_bd H (fun r7 s8 H => ?_)
        obtain ⟨c9, H⟩ := oq_ck H
        exact Wp.r_ireturn (pc := 31) o_X12_tray rfl (⟨b01_n c9, H⟩)
      · have H := oq_f c9 H
        refine Wp.r_iload_n3 (pc := 16) o_X12_tray rfl rfl (Wp.r_if_lt (pc := 17) o_X12_tray rfl (fun c9 => ?_) (fun c9 => ?_))
        · have H := oq_t c9 H
          refine Wp.f_al0_iconst (pc := 26) o_X12_tray rfl rfl rfl (Wp.r_cv2 (pc := 28) o_X12_tray rfl fk_M_0_0 (⟨rm8_ rfl, ?_⟩))
          refine w_X12_is (d := d) _ ?_
          refine oq_bd H (fun r9 s10 H => ?_)
          obtain ⟨c9, H⟩ := oq_ck H
          exact Wp.r_ireturn (pc := 31) o_X12_tray rfl (⟨b01_n c9, H⟩)
        · have H := oq_f c9 H
          refine Wp.r_iload_n3 (pc := 20) o_X12_tray rfl rfl (Wp.r_bipush (pc := 21) o_X12_tray rfl (Wp.r_icmp_le (pc := 23) o_X12_tray rfl (fun c9 => ?_) (fun c9 => ?_)))
          · have H := oq_t c9 H
            obtain ⟨hc11, H⟩ := oq_ck H
            refine Wp.f_al0_gfr (pc := 32) o_X12_tray rfl rfl rfl fk_M_0_5 (Wp.r_iload_n1 (pc := 36) o_X12_tray rfl rfl (Wp.r_iload_n2 (pc := 37) o_X12_tray rfl rfl (Wp.r_iastore (pc := 38) o_X12_tray rfl ak_M_3 (⟨hc11, ?_⟩))))
            refine Wp.f_al0_gfr (pc := 39) o_X12_tray rfl rfl rfl fk_M_0_6 (Wp.r_iload_n1 (pc := 43) o_X12_tray rfl rfl (Wp.r_iload_n3 (pc := 44) o_X12_tray rfl rfl (Wp.r_iastore (pc := 45) o_X12_tray rfl ak_M_4 (⟨hc11, ?_⟩))))
            revert H
            generalize pI (pI s2 3 a1.toNatClampNeg a2) 4 a1.toNatClampNeg a3 = s12
            intro H
            have H := nmx_e H
            exact Wp.r_iconst (pc := 46) o_X12_tray rfl (Wp.r_istore (pc := 47) o_X12_tray rfl (Wp.weak2 [1, 2, 4, 0] (w_X12_tray_b49 _ _ _ _ _ H) rfl))
          · have H := oq_f c9 H
            refine Wp.f_al0_iconst (pc := 26) o_X12_tray rfl rfl rfl (Wp.r_cv2 (pc := 28) o_X12_tray rfl fk_M_0_0 (⟨rm8_ rfl, ?_⟩))
            refine w_X12_is (d := d) _ ?_
            refine oq_bd H (fun r17 s18 H => ?_)
            obtain ⟨c9, H⟩ := oq_ck H
            exact Wp.r_ireturn (pc := 31) o_X12_tray rfl (⟨b01_n c9, H⟩)
