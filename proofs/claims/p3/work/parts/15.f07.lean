noncomputable abbrev Y_X12_dayStep (d : Nat) (Q : Qt) : Xt := Wp SHM (WpM SHM MT (d + 7)) (flat2 cq_X12_dayStep) (some .boolean) Q
noncomputable def f_X12_dayStep_b227 (v1 : Int32) (v2 : Int32) (v3 : Int32) (s : Sg) : Option (Int32 × Sg) :=
  if v1 = 26 then
    ck (inr ((pI s 0 22 ((s.1 0 22) - 1)).1 0 22) 3) (
    ck (inr (v3 + 4) 2880) (
    nmx (pI (pI s 0 22 ((s.1 0 22) - 1)) 1 ((v3 + 4).toNatClampNeg) ((pI s 0 22 ((s.1 0 22) - 1)).1 8 (((pI s 0 22 ((s.1 0 22) - 1)).1 0 22).toNatClampNeg))) (fun s14 =>
    ck (inr (s14.1 0 22) 3) (
    ck (inr ((2030 + (6 * (s14.1 8 ((s14.1 0 22).toNatClampNeg)))) + 4) 2880) (
    nmx (pI s14 1 (((2030 + (6 * (s14.1 8 ((s14.1 0 22).toNatClampNeg)))) + 4).toNatClampNeg) v2) (fun s17 =>
    bd (f_X12_wantSign 59 s17) (fun r18 s19 =>
    ck (r18 = 0 ∨ r18 = 1) (some (r18, s19))
    )
    )
    )
    )
    )
    )
    )
  else
    bd (f_X12_wantSign 59 s) (fun r20 s21 =>
    ck (r20 = 0 ∨ r20 = 1) (some (r20, s21))
    )
set_option maxRecDepth 100000 in
theorem w_X12_dayStep_b227 {d : Nat} {Q : Qt} (v1 : Int32) (v2 : Int32) (v3 : Int32) (s : Sg) (H : OQ (f_X12_dayStep_b227 v1 v2 v3 s) (fun r9 s9 => Q (some (.int r9)) s9)) : Y_X12_dayStep d Q 227 [(0, .ref 0), (1, .int v1), (2, .int v2), (3, .int v3)] [] s := by
  unfold f_X12_dayStep_b227 at H
  refine Wp.r_iload_n1 (pc := 227) o_X12_dayStep rfl rfl (Wp.r_bipush (pc := 228) o_X12_dayStep rfl (Wp.r_icmp_ne (pc := 230) o_X12_dayStep rfl (fun c9 => ?_) (fun c9 => ?_)))
  · have H := oq_t c9 H
    obtain ⟨hc12, H⟩ := oq_ck H
    refine Wp.r_aload_n0 (pc := 233) o_X12_dayStep rfl rfl (Wp.r_dup_r (pc := 234) o_X12_dayStep rfl (Wp.r_gfi (pc := 235) o_X12_dayStep rfl fk_M_0_22 (Wp.r_iconst (pc := 238) o_X12_dayStep rfl (Wp.r_isub (pc := 239) o_X12_dayStep rfl (Wp.r_pfi (pc := 240) o_X12_dayStep rfl fk_M_0_22 (Wp.f_al0_gfr (pc := 243) o_X12_dayStep rfl rfl rfl fk_M_0_0 (Wp.r_iload_n3 (pc := 247) o_X12_dayStep rfl rfl (Wp.r_iconst (pc := 248) o_X12_dayStep rfl (Wp.r_iadd (pc := 249) o_X12_dayStep rfl (Wp.f_al0_gfr (pc := 250) o_X12_dayStep rfl rfl rfl fk_M_0_21 (Wp.f_al0_gfi (pc := 254) o_X12_dayStep rfl rfl rfl fk_M_0_22 (Wp.r_iaload (pc := 258) o_X12_dayStep rfl ak_M_8 (⟨hc12, ?_⟩)))))))))))))
    obtain ⟨hc13, H⟩ := oq_ck H
    refine Wp.r_iastore (pc := 259) o_X12_dayStep rfl ak_M_1 (⟨hc13, ?_⟩)
    revert H
    generalize pI (pI s 0 22 ((s.1 0 22) - 1)) 1 ((v3 + 4).toNatClampNeg) ((pI s 0 22 ((s.1 0 22) - 1)).1 8 (((pI s 0 22 ((s.1 0 22) - 1)).1 0 22).toNatClampNeg)) = s14
    intro H
    have H := nmx_e H
    obtain ⟨hc15, H⟩ := oq_ck H
    refine Wp.f_al0_gfr (pc := 260) o_X12_dayStep rfl rfl rfl fk_M_0_0 (Wp.r_sipush (pc := 264) o_X12_dayStep rfl (Wp.r_bipush (pc := 267) o_X12_dayStep rfl (Wp.f_al0_gfr (pc := 269) o_X12_dayStep rfl rfl rfl fk_M_0_21 (Wp.f_al0_gfi (pc := 273) o_X12_dayStep rfl rfl rfl fk_M_0_22 (Wp.r_iaload (pc := 277) o_X12_dayStep rfl ak_M_8 (⟨hc15, ?_⟩))))))
    obtain ⟨hc16, H⟩ := oq_ck H
    refine Wp.r_imul (pc := 278) o_X12_dayStep rfl (Wp.r_iadd (pc := 279) o_X12_dayStep rfl (Wp.r_iconst (pc := 280) o_X12_dayStep rfl (Wp.r_iadd (pc := 281) o_X12_dayStep rfl (Wp.r_iload_n2 (pc := 282) o_X12_dayStep rfl rfl (Wp.r_iastore (pc := 283) o_X12_dayStep rfl ak_M_1 (⟨hc16, ?_⟩))))))
    revert H
    generalize pI s14 1 (((2030 + (6 * (s14.1 8 ((s14.1 0 22).toNatClampNeg)))) + 4).toNatClampNeg) v2 = s17
    intro H
    have H := nmx_e H
    refine Wp.r_aload_n0 (pc := 284) o_X12_dayStep rfl rfl (Wp.r_bipush (pc := 285) o_X12_dayStep rfl (Wp.r_cv2 (pc := 287) o_X12_dayStep rfl fk_M_0_0 (⟨rm8_ rfl, ?_⟩)))
    refine w_X12_wantSign (d := d + 4) _ ?_
    refine oq_bd H (fun r18 s19 H => ?_)
    obtain ⟨c9, H⟩ := oq_ck H
    exact Wp.r_ireturn (pc := 290) o_X12_dayStep rfl (⟨b01_n c9, H⟩)
  · have H := oq_f c9 H
    refine Wp.r_aload_n0 (pc := 284) o_X12_dayStep rfl rfl (Wp.r_bipush (pc := 285) o_X12_dayStep rfl (Wp.r_cv2 (pc := 287) o_X12_dayStep rfl fk_M_0_0 (⟨rm8_ rfl, ?_⟩)))
    refine w_X12_wantSign (d := d + 4) _ ?_
    refine oq_bd H (fun r20 s21 H => ?_)
    obtain ⟨c9, H⟩ := oq_ck H
    exact Wp.r_ireturn (pc := 290) o_X12_dayStep rfl (⟨b01_n c9, H⟩)
noncomputable def f_X12_dayStep_b152 : Nat → Int32 → Int32 → Int32 → Int32 → Int32 → Sg → Option (Int32 × Sg)
  | 0, _, _, _, _, _, _ => none
  | n + 1, v1, v2, v3, v4, v5, s =>
    if 6 ≤ v5 then
      bd (f_X12_ahead (pI s 1 1931 ((s.1 1 1931) + 1))) (fun _ s9 =>
      bd (f_X12_dayOrder v1 v3 s9) (fun r10 s11 =>
      if r10 = 0 then
        some (0, s11)
      else
        if v4 = 0 then
          f_X12_dayStep_b227 v1 v2 v3 s11
        else
          ck (inr (s11.1 0 22) 3) (
          nmx (pI s11 8 ((s11.1 0 22).toNatClampNeg) v2) (fun s23 =>
          f_X12_dayStep_b227 v1 v2 v3 (pI s23 0 22 ((s23.1 0 22) + 1))
          )
          )
      )
      )
    else
      ck (inr (v3 + v5) 2880) (
      nmx (pI s 1 ((v3 + v5).toNatClampNeg) 0) (fun s25 =>
      (f_X12_dayStep_b152 n) v1 v2 v3 v4 (v5 + 1) s25
      )
      )
set_option maxRecDepth 100000 in
theorem w_X12_dayStep_b152 {d : Nat} {Q : Qt} (n : Nat) : ∀ (v1 : Int32) (v2 : Int32) (v3 : Int32) (v4 : Int32) (v5 : Int32) (s : Sg), OQ (f_X12_dayStep_b152 n v1 v2 v3 v4 v5 s) (fun r9 s9 => Q (some (.int r9)) s9) → Y_X12_dayStep d Q 152 [(0, .ref 0), (1, .int v1), (2, .int v2), (3, .int v3), (4, .int v4), (5, .int v5)] [] s := by
  induction n with
  | zero => intro v1 v2 v3 v4 v5 s H; exact H.elim
  | succ n ih =>
    intro v1 v2 v3 v4 v5 s H
    unfold f_X12_dayStep_b152 at H
    refine Wp.r_iload (pc := 152) o_X12_dayStep rfl rfl (Wp.r_bipush (pc := 154) o_X12_dayStep rfl (Wp.r_icmp_ge (pc := 156) o_X12_dayStep rfl (fun c9 => ?_) (fun c9 => ?_)))
    · have H := oq_t c9 H
      refine Wp.f_al0_gfr (pc := 175) o_X12_dayStep rfl rfl rfl fk_M_0_0 (Wp.r_sipush (pc := 179) o_X12_dayStep rfl (Wp.r_dup2 (pc := 182) o_X12_dayStep rfl (Wp.r_iaload (pc := 183) o_X12_dayStep rfl ak_M_1 (show (vp_in 1931 2880) ∧ Y_X12_dayStep d Q 184 [(0, .ref 0), (1, .int v1), (2, .int v2), (3, .int v3), (4, .int v4), (5, .int v5)] [.int (s.1 1 1931), .int 1931, .ref 1] s from ⟨by unfold vp_in; decide, ?_⟩))))
      refine Wp.r_iconst (pc := 184) o_X12_dayStep rfl (Wp.r_iadd (pc := 185) o_X12_dayStep rfl (Wp.r_iastore (pc := 186) o_X12_dayStep rfl ak_M_1 (show (vp_in 1931 2880) ∧ Y_X12_dayStep d Q 187 [(0, .ref 0), (1, .int v1), (2, .int v2), (3, .int v3), (4, .int v4), (5, .int v5)] [] (pI s 1 1931 ((s.1 1 1931) + 1)) from ⟨by unfold vp_in; decide, ?_⟩)))
      refine Wp.r_aload_n0 (pc := 187) o_X12_dayStep rfl rfl (Wp.r_cv1 (pc := 188) o_X12_dayStep rfl fk_M_0_0 (⟨rm8_ rfl, ?_⟩))
      refine w_X12_ahead (d := d + 5)  ?_
      refine oq_bd H (fun _ s9 H => ?_)
      refine Wp.r_aload_n0 (pc := 191) o_X12_dayStep rfl rfl (Wp.r_iload_n1 (pc := 192) o_X12_dayStep rfl rfl (Wp.r_iload_n3 (pc := 193) o_X12_dayStep rfl rfl (Wp.r_cv3 (pc := 194) o_X12_dayStep rfl fk_M_0_0 (⟨rm8_ rfl, ?_⟩))))
      refine w_X12_dayOrder (d := d) _ _ ?_
      refine oq_bd H (fun r10 s11 H => ?_)
      refine Wp.r_if_ne (pc := 197) o_X12_dayStep rfl (fun c9 => ?_) (fun c9 => ?_)
      · have H := oq_t c9 H
        exact Wp.r_iconst (pc := 200) o_X12_dayStep rfl (Wp.r_ireturn (pc := 201) o_X12_dayStep rfl (⟨rfl, H⟩))
      · have H := oq_f c9 H
        refine Wp.r_iload (pc := 202) o_X12_dayStep rfl rfl (Wp.r_if_eq (pc := 204) o_X12_dayStep rfl (fun c9 => ?_) (fun c9 => ?_))
        · have H := oq_t c9 H
          exact Wp.weak2 [0, 1, 2, 3] (w_X12_dayStep_b227 _ _ _ _ H) rfl
        · have H := oq_f c9 H
          obtain ⟨hc22, H⟩ := oq_ck H
          refine Wp.f_al0_gfr (pc := 207) o_X12_dayStep rfl rfl rfl fk_M_0_21 (Wp.f_al0_gfi (pc := 211) o_X12_dayStep rfl rfl rfl fk_M_0_22 (Wp.r_iload_n2 (pc := 215) o_X12_dayStep rfl rfl (Wp.r_iastore (pc := 216) o_X12_dayStep rfl ak_M_8 (⟨hc22, ?_⟩))))
          revert H
          generalize pI s11 8 ((s11.1 0 22).toNatClampNeg) v2 = s23
          intro H
          have H := nmx_e H
          exact Wp.r_aload_n0 (pc := 217) o_X12_dayStep rfl rfl (Wp.r_dup_r (pc := 218) o_X12_dayStep rfl (Wp.r_gfi (pc := 219) o_X12_dayStep rfl fk_M_0_22 (Wp.r_iconst (pc := 222) o_X12_dayStep rfl (Wp.r_iadd (pc := 223) o_X12_dayStep rfl (Wp.r_pfi (pc := 224) o_X12_dayStep rfl fk_M_0_22 (Wp.weak2 [0, 1, 2, 3] (w_X12_dayStep_b227 _ _ _ _ H) rfl))))))
    · have H := oq_f c9 H
      obtain ⟨hc24, H⟩ := oq_ck H
      refine Wp.f_al0_gfr (pc := 159) o_X12_dayStep rfl rfl rfl fk_M_0_0 (Wp.r_iload_n3 (pc := 163) o_X12_dayStep rfl rfl (Wp.r_iload (pc := 164) o_X12_dayStep rfl rfl (Wp.r_iadd (pc := 166) o_X12_dayStep rfl (Wp.r_iconst (pc := 167) o_X12_dayStep rfl (Wp.r_iastore (pc := 168) o_X12_dayStep rfl ak_M_1 (⟨hc24, ?_⟩))))))
      revert H
      generalize pI s 1 ((v3 + v5).toNatClampNeg) 0 = s25
      intro H
      have H := nmx_e H
      exact Wp.f_iinc_goto (pc := 169) o_X12_dayStep rfl rfl rfl (Wp.weak2 [1, 2, 3, 4, 5, 0] (ih _ _ _ _ _ _ H) rfl)
noncomputable def f_X12_dayStep_b122 (v1 : Int32) (v2 : Int32) (v3 : Int32) (v4 : Int32) (s : Sg) : Option (Int32 × Sg) :=
  if v1 = 26 then
    ck (inr v3 2880) (
    nmx (pI (pI s 0 23 ((s.1 0 23) + 0)) 1 v3.toNatClampNeg v1) (fun s7 =>
    f_X12_dayStep_b152 BIG v1 v2 v3 v4 1 s7
    )
    )
  else
    ck (inr v3 2880) (
    nmx (pI (pI s 0 23 ((s.1 0 23) + 1)) 1 v3.toNatClampNeg v1) (fun s27 =>
    f_X12_dayStep_b152 BIG v1 v2 v3 v4 1 s27
    )
    )
set_option maxRecDepth 100000 in
theorem w_X12_dayStep_b122 {d : Nat} {Q : Qt} (v1 : Int32) (v2 : Int32) (v3 : Int32) (v4 : Int32) (s : Sg) (H : OQ (f_X12_dayStep_b122 v1 v2 v3 v4 s) (fun r9 s9 => Q (some (.int r9)) s9)) : Y_X12_dayStep d Q 122 [(0, .ref 0), (1, .int v1), (2, .int v2), (3, .int v3), (4, .int v4)] [] s := by
  unfold f_X12_dayStep_b122 at H
  refine Wp.r_aload_n0 (pc := 122) o_X12_dayStep rfl rfl (Wp.r_dup_r (pc := 123) o_X12_dayStep rfl (Wp.r_gfi (pc := 124) o_X12_dayStep rfl fk_M_0_23 (Wp.r_iload_n1 (pc := 127) o_X12_dayStep rfl rfl (Wp.r_bipush (pc := 128) o_X12_dayStep rfl (Wp.r_icmp_ne (pc := 130) o_X12_dayStep rfl (fun c9 => ?_) (fun c9 => ?_))))))
  · have H := oq_t c9 H
    obtain ⟨hc6, H⟩ := oq_ck H
    refine Wp.r_iconst (pc := 133) o_X12_dayStep rfl (Wp.r_goto (pc := 134) o_X12_dayStep rfl (Wp.r_iadd (pc := 138) o_X12_dayStep rfl (Wp.r_pfi (pc := 139) o_X12_dayStep rfl fk_M_0_23 (Wp.f_al0_gfr (pc := 142) o_X12_dayStep rfl rfl rfl fk_M_0_0 (Wp.r_iload_n3 (pc := 146) o_X12_dayStep rfl rfl (Wp.r_iload_n1 (pc := 147) o_X12_dayStep rfl rfl (Wp.r_iastore (pc := 148) o_X12_dayStep rfl ak_M_1 (⟨hc6, ?_⟩))))))))
    revert H
    generalize pI (pI s 0 23 ((s.1 0 23) + 0)) 1 v3.toNatClampNeg v1 = s7
    intro H
    have H := nmx_e H
    exact Wp.r_iconst (pc := 149) o_X12_dayStep rfl (Wp.r_istore (pc := 150) o_X12_dayStep rfl (Wp.weak2 [1, 2, 3, 4, 5, 0] (w_X12_dayStep_b152 _ _ _ _ _ _ _ H) rfl))
  · have H := oq_f c9 H
    obtain ⟨hc26, H⟩ := oq_ck H
    refine Wp.r_iconst (pc := 137) o_X12_dayStep rfl (Wp.r_iadd (pc := 138) o_X12_dayStep rfl (Wp.r_pfi (pc := 139) o_X12_dayStep rfl fk_M_0_23 (Wp.f_al0_gfr (pc := 142) o_X12_dayStep rfl rfl rfl fk_M_0_0 (Wp.r_iload_n3 (pc := 146) o_X12_dayStep rfl rfl (Wp.r_iload_n1 (pc := 147) o_X12_dayStep rfl rfl (Wp.r_iastore (pc := 148) o_X12_dayStep rfl ak_M_1 (⟨hc26, ?_⟩)))))))
    revert H
    generalize pI (pI s 0 23 ((s.1 0 23) + 1)) 1 v3.toNatClampNeg v1 = s27
    intro H
    have H := nmx_e H
    exact Wp.r_iconst (pc := 149) o_X12_dayStep rfl (Wp.r_istore (pc := 150) o_X12_dayStep rfl (Wp.weak2 [1, 2, 3, 4, 5, 0] (w_X12_dayStep_b152 _ _ _ _ _ _ _ H) rfl))
noncomputable def f_X12_dayStep_b102 (v1 : Int32) (v2 : Int32) (v3 : Int32) (v4 : Int32) (s : Sg) : Option (Int32 × Sg) :=
  if v4 = 0 then
    f_X12_dayStep_b122 v1 v2 v3 v4 s
  else
    if (s.1 0 22) = 3 then
      bd (f_X12_fails 7 s) (fun r28 s29 =>
      ck (r28 = 0 ∨ r28 = 1) (some (r28, s29))
      )
    else
      f_X12_dayStep_b122 v1 v2 v3 v4 s
set_option maxRecDepth 100000 in
theorem w_X12_dayStep_b102 {d : Nat} {Q : Qt} (v1 : Int32) (v2 : Int32) (v3 : Int32) (v4 : Int32) (s : Sg) (H : OQ (f_X12_dayStep_b102 v1 v2 v3 v4 s) (fun r9 s9 => Q (some (.int r9)) s9)) : Y_X12_dayStep d Q 102 [(0, .ref 0), (1, .int v1), (2, .int v2), (3, .int v3), (4, .int v4)] [] s := by
  unfold f_X12_dayStep_b102 at H
  refine Wp.r_iload (pc := 102) o_X12_dayStep rfl rfl (Wp.r_if_eq (pc := 104) o_X12_dayStep rfl (fun c9 => ?_) (fun c9 => ?_))
  · have H := oq_t c9 H
    exact Wp.weak2 [0, 1, 2, 3, 4] (w_X12_dayStep_b122 _ _ _ _ _ H) rfl
  · have H := oq_f c9 H
    refine Wp.f_al0_gfi (pc := 107) o_X12_dayStep rfl rfl rfl fk_M_0_22 (Wp.r_iconst (pc := 111) o_X12_dayStep rfl (Wp.r_icmp_ne (pc := 112) o_X12_dayStep rfl (fun c9 => ?_) (fun c9 => ?_)))
    · have H := oq_t c9 H
      refine Wp.r_aload_n0 (pc := 115) o_X12_dayStep rfl rfl (Wp.r_bipush (pc := 116) o_X12_dayStep rfl (Wp.r_cv2 (pc := 118) o_X12_dayStep rfl fk_M_0_0 (⟨rm8_ rfl, ?_⟩)))
      refine w_X12_fails (d := d + 6) _ ?_
      refine oq_bd H (fun r28 s29 H => ?_)
      obtain ⟨c9, H⟩ := oq_ck H
      exact Wp.r_ireturn (pc := 121) o_X12_dayStep rfl (⟨b01_n c9, H⟩)
    · have H := oq_f c9 H
      exact Wp.weak2 [0, 1, 2, 3, 4] (w_X12_dayStep_b122 _ _ _ _ _ H) rfl
noncomputable def f_X12_dayStep_b80 (v1 : Int32) (v2 : Int32) (v3 : Int32) (v4 : Int32) (s : Sg) : Option (Int32 × Sg) :=
  if v1 = 26 then
    f_X12_dayStep_b102 v1 v2 v3 v4 s
  else
    if (s.1 0 23) = 30 then
      bd (f_X12_fails 6 s) (fun r30 s31 =>
      ck (r30 = 0 ∨ r30 = 1) (some (r30, s31))
      )
    else
      f_X12_dayStep_b102 v1 v2 v3 v4 s
set_option maxRecDepth 100000 in
theorem w_X12_dayStep_b80 {d : Nat} {Q : Qt} (v1 : Int32) (v2 : Int32) (v3 : Int32) (v4 : Int32) (s : Sg) (H : OQ (f_X12_dayStep_b80 v1 v2 v3 v4 s) (fun r9 s9 => Q (some (.int r9)) s9)) : Y_X12_dayStep d Q 80 [(0, .ref 0), (1, .int v1), (2, .int v2), (3, .int v3), (4, .int v4)] [] s := by
  unfold f_X12_dayStep_b80 at H
  refine Wp.r_iload_n1 (pc := 80) o_X12_dayStep rfl rfl (Wp.r_bipush (pc := 81) o_X12_dayStep rfl (Wp.r_icmp_eq (pc := 83) o_X12_dayStep rfl (fun c9 => ?_) (fun c9 => ?_)))
  · have H := oq_t c9 H
    exact Wp.weak2 [0, 1, 2, 3, 4] (w_X12_dayStep_b102 _ _ _ _ _ H) rfl
  · have H := oq_f c9 H
    refine Wp.f_al0_gfi (pc := 86) o_X12_dayStep rfl rfl rfl fk_M_0_23 (Wp.r_bipush (pc := 90) o_X12_dayStep rfl (Wp.r_icmp_ne (pc := 92) o_X12_dayStep rfl (fun c9 => ?_) (fun c9 => ?_)))
    · have H := oq_t c9 H
      refine Wp.r_aload_n0 (pc := 95) o_X12_dayStep rfl rfl (Wp.r_bipush (pc := 96) o_X12_dayStep rfl (Wp.r_cv2 (pc := 98) o_X12_dayStep rfl fk_M_0_0 (⟨rm8_ rfl, ?_⟩)))
      refine w_X12_fails (d := d + 6) _ ?_
      refine oq_bd H (fun r30 s31 H => ?_)
      obtain ⟨c9, H⟩ := oq_ck H
      exact Wp.r_ireturn (pc := 101) o_X12_dayStep rfl (⟨b01_n c9, H⟩)
    · have H := oq_f c9 H
      exact Wp.weak2 [0, 1, 2, 3, 4] (w_X12_dayStep_b102 _ _ _ _ _ H) rfl
noncomputable def f_X12_dayStep_b61 (v1 : Int32) (v2 : Int32) (v3 : Int32) (v4 : Int32) (s : Sg) : Option (Int32 × Sg) :=
  if v1 = 26 then
    if (s.1 0 22) = 0 then
      bd (f_X12_fails 2 s) (fun r4 s5 =>
      ck (r4 = 0 ∨ r4 = 1) (some (r4, s5))
      )
    else
      f_X12_dayStep_b80 v1 v2 v3 v4 s
  else
    f_X12_dayStep_b80 v1 v2 v3 v4 s
set_option maxRecDepth 100000 in
theorem w_X12_dayStep_b61 {d : Nat} {Q : Qt} (v1 : Int32) (v2 : Int32) (v3 : Int32) (v4 : Int32) (s : Sg) (H : OQ (f_X12_dayStep_b61 v1 v2 v3 v4 s) (fun r9 s9 => Q (some (.int r9)) s9)) : Y_X12_dayStep d Q 61 [(0, .ref 0), (1, .int v1), (2, .int v2), (3, .int v3), (4, .int v4)] [] s := by
  unfold f_X12_dayStep_b61 at H
  refine Wp.r_iload_n1 (pc := 61) o_X12_dayStep rfl rfl (Wp.r_bipush (pc := 62) o_X12_dayStep rfl (Wp.r_icmp_ne (pc := 64) o_X12_dayStep rfl (fun c9 => ?_) (fun c9 => ?_)))
  · have H := oq_t c9 H
    refine Wp.f_al0_gfi (pc := 67) o_X12_dayStep rfl rfl rfl fk_M_0_22 (Wp.r_if_ne (pc := 71) o_X12_dayStep rfl (fun c9 => ?_) (fun c9 => ?_))
    · have H := oq_t c9 H
      refine Wp.f_al0_iconst (pc := 74) o_X12_dayStep rfl rfl rfl (Wp.r_cv2 (pc := 76) o_X12_dayStep rfl fk_M_0_0 (⟨rm8_ rfl, ?_⟩))
      refine w_X12_fails (d := d + 6) _ ?_
      refine oq_bd H (fun r4 s5 H => ?_)
      obtain ⟨c9, H⟩ := oq_ck H
      exact Wp.r_ireturn (pc := 79) o_X12_dayStep rfl (⟨b01_n c9, H⟩)
    · have H := oq_f c9 H
      exact Wp.weak2 [0, 1, 2, 3, 4] (w_X12_dayStep_b80 _ _ _ _ _ H) rfl
  · have H := oq_f c9 H
    exact Wp.weak2 [0, 1, 2, 3, 4] (w_X12_dayStep_b80 _ _ _ _ _ H) rfl
noncomputable def f_X12_dayStep_b42 (v1 : Int32) (v2 : Int32) (v3 : Int32) (t0 : Int32) (s : Sg) : Option (Int32 × Sg) :=
  if v1 = 4 then
    f_X12_dayStep_b61 v1 v2 v3 t0 s
  else
    if v1 < 19 then
      bd (f_X12_fails 2 s) (fun r32 s33 =>
      ck (r32 = 0 ∨ r32 = 1) (some (r32, s33))
      )
    else
      if 27 < v1 then
        bd (f_X12_fails 2 s) (fun r34 s35 =>
        ck (r34 = 0 ∨ r34 = 1) (some (r34, s35))
        )
      else
        f_X12_dayStep_b61 v1 v2 v3 t0 s
set_option maxRecDepth 100000 in
theorem w_X12_dayStep_b42 {d : Nat} {Q : Qt} (v1 : Int32) (v2 : Int32) (v3 : Int32) (t0 : Int32) (s : Sg) (H : OQ (f_X12_dayStep_b42 v1 v2 v3 t0 s) (fun r9 s9 => Q (some (.int r9)) s9)) : Y_X12_dayStep d Q 42 [(0, .ref 0), (1, .int v1), (2, .int v2), (3, .int v3)] [.int t0] s := by
  unfold f_X12_dayStep_b42 at H
  refine Wp.r_istore (pc := 42) o_X12_dayStep rfl (Wp.r_iload_n1 (pc := 44) o_X12_dayStep rfl rfl (Wp.r_iconst (pc := 45) o_X12_dayStep rfl (Wp.r_icmp_eq (pc := 46) o_X12_dayStep rfl (fun c9 => ?_) (fun c9 => ?_))))
  · have H := oq_t c9 H
    exact Wp.weak2 [1, 2, 3, 4, 0] (w_X12_dayStep_b61 _ _ _ _ _ H) rfl
  · have H := oq_f c9 H
    refine Wp.r_iload_n1 (pc := 49) o_X12_dayStep rfl rfl (Wp.r_bipush (pc := 50) o_X12_dayStep rfl (Wp.r_icmp_lt (pc := 52) o_X12_dayStep rfl (fun c9 => ?_) (fun c9 => ?_)))
    · have H := oq_t c9 H
      refine Wp.f_al0_iconst (pc := 74) o_X12_dayStep rfl rfl rfl (Wp.r_cv2 (pc := 76) o_X12_dayStep rfl fk_M_0_0 (⟨rm8_ rfl, ?_⟩))
      refine w_X12_fails (d := d + 6) _ ?_
      refine oq_bd H (fun r32 s33 H => ?_)
      obtain ⟨c9, H⟩ := oq_ck H
      exact Wp.r_ireturn (pc := 79) o_X12_dayStep rfl (⟨b01_n c9, H⟩)
    · have H := oq_f c9 H
      refine Wp.r_iload_n1 (pc := 55) o_X12_dayStep rfl rfl (Wp.r_bipush (pc := 56) o_X12_dayStep rfl (Wp.r_icmp_gt (pc := 58) o_X12_dayStep rfl (fun c9 => ?_) (fun c9 => ?_)))
      · have H := oq_t c9 H
        refine Wp.f_al0_iconst (pc := 74) o_X12_dayStep rfl rfl rfl (Wp.r_cv2 (pc := 76) o_X12_dayStep rfl fk_M_0_0 (⟨rm8_ rfl, ?_⟩))
        refine w_X12_fails (d := d + 6) _ ?_
        refine oq_bd H (fun r34 s35 H => ?_)
        obtain ⟨c9, H⟩ := oq_ck H
        exact Wp.r_ireturn (pc := 79) o_X12_dayStep rfl (⟨b01_n c9, H⟩)
      · have H := oq_f c9 H
        exact Wp.weak2 [1, 2, 3, 4, 0] (w_X12_dayStep_b61 _ _ _ _ _ H) rfl
noncomputable def f_X12_dayStep_b37 (v1 : Int32) (v2 : Int32) (v3 : Int32) (s : Sg) : Option (Int32 × Sg) :=
  f_X12_dayStep_b42 v1 v2 v3 1 s
set_option maxRecDepth 100000 in
theorem w_X12_dayStep_b37 {d : Nat} {Q : Qt} (v1 : Int32) (v2 : Int32) (v3 : Int32) (s : Sg) (H : OQ (f_X12_dayStep_b37 v1 v2 v3 s) (fun r9 s9 => Q (some (.int r9)) s9)) : Y_X12_dayStep d Q 37 [(0, .ref 0), (1, .int v1), (2, .int v2), (3, .int v3)] [] s := by
  unfold f_X12_dayStep_b37 at H
  exact Wp.r_iconst (pc := 37) o_X12_dayStep rfl (Wp.r_goto (pc := 38) o_X12_dayStep rfl (Wp.weak2 [0, 1, 2, 3] (w_X12_dayStep_b42 _ _ _ _ _ H) rfl))
noncomputable def f_X12_dayStep  (s : Sg) : Option (Int32 × Sg) :=
  bd (f_X12_inWords_1001 s) (fun r1 s2 =>
  nmx (2030 + (6 * (s2.1 1 1931)) : Int32) (fun x3 =>
  if r1 = 24 then
    f_X12_dayStep_b37 r1 (s2.1 1 1931) x3 s2
  else
    if r1 = 25 then
      f_X12_dayStep_b37 r1 (s2.1 1 1931) x3 s2
    else
      f_X12_dayStep_b42 r1 (s2.1 1 1931) x3 0 s2
  )
  )
set_option maxRecDepth 100000 in
theorem w_X12_dayStep {d : Nat} {s : Sg} {Q : Qt}  (H : OQ (f_X12_dayStep  s) (fun r9 s9 => Q (some (.int r9)) s9)) : WpM SHM MT (d + 8) 236 [.ref 0] s Q := by
  refine WpM.enter me_X12_dayStep rfl rfl ?_
  show Y_X12_dayStep d Q 0 [(0, .ref 0)] [] s
  unfold f_X12_dayStep at H
  refine Wp.r_aload_n0 (pc := 0) o_X12_dayStep rfl rfl (Wp.r_ldcs (pc := 1) o_X12_dayStep rfl (Wp.r_cv2 (pc := 3) o_X12_dayStep rfl fk_M_0_0 (⟨rm8_ rfl, ?_⟩)))
  refine w_X12_inWords_1001 (d := d + 5)  ?_
  refine oq_bd H (fun r1 s2 H => ?_)
  refine Wp.r_istore_n1 (pc := 6) o_X12_dayStep rfl (Wp.f_al0_gfr (pc := 7) o_X12_dayStep rfl rfl rfl fk_M_0_0 (Wp.r_sipush (pc := 11) o_X12_dayStep rfl (Wp.r_iaload (pc := 14) o_X12_dayStep rfl ak_M_1 (show (vp_in 1931 2880) ∧ Y_X12_dayStep d Q 15 [(1, .int r1), (0, .ref 0)] [.int (s2.1 1 1931)] s2 from ⟨by unfold vp_in; decide, ?_⟩))))
  refine Wp.r_istore_n2 (pc := 15) o_X12_dayStep rfl (Wp.r_sipush (pc := 16) o_X12_dayStep rfl (Wp.r_bipush (pc := 19) o_X12_dayStep rfl (Wp.r_iload_n2 (pc := 21) o_X12_dayStep rfl rfl (Wp.r_imul (pc := 22) o_X12_dayStep rfl (Wp.r_iadd (pc := 23) o_X12_dayStep rfl (Wp.r_istore_n3 (pc := 24) o_X12_dayStep rfl (show Y_X12_dayStep d Q 25 [(3, .int (2030 + (6 * (s2.1 1 1931)))), (2, .int (s2.1 1 1931)), (1, .int r1), (0, .ref 0)] [] s2 from ?_)))))))
  revert H
  generalize (2030 + (6 * (s2.1 1 1931)) : Int32) = x3
  intro H
  have H := nmx_e H
  refine Wp.r_iload_n1 (pc := 25) o_X12_dayStep rfl rfl (Wp.r_bipush (pc := 26) o_X12_dayStep rfl (Wp.r_icmp_eq (pc := 28) o_X12_dayStep rfl (fun c9 => ?_) (fun c9 => ?_)))
  · have H := oq_t c9 H
    exact Wp.weak2 [3, 2, 1, 0] (w_X12_dayStep_b37 _ _ _ _ H) rfl
  · have H := oq_f c9 H
    refine Wp.r_iload_n1 (pc := 31) o_X12_dayStep rfl rfl (Wp.r_bipush (pc := 32) o_X12_dayStep rfl (Wp.r_icmp_ne (pc := 34) o_X12_dayStep rfl (fun c9 => ?_) (fun c9 => ?_)))
    · have H := oq_t c9 H
      exact Wp.weak2 [3, 2, 1, 0] (w_X12_dayStep_b37 _ _ _ _ H) rfl
    · have H := oq_f c9 H
      exact Wp.r_iconst (pc := 41) o_X12_dayStep rfl (Wp.weak2 [3, 2, 1, 0] (w_X12_dayStep_b42 _ _ _ _ _ H) rfl)
noncomputable abbrev Y_X12_days (d : Nat) (Q : Qt) : Xt := Wp SHM (WpM SHM MT (d + 8)) (flat2 cq_X12_days) (some .int) Q
noncomputable def f_X12_days_b102 : Nat → Int32 → Sg → Option (Int32 × Sg)
  | 0, _, _ => none
  | n + 1, v3, s =>
    if 480 ≤ v3 then
      bd (f_X12_taken (s.1 0 23) s) (fun r6 s7 =>
      some (r6, s7)
      )
    else
      ck (inr (1920 + v3) 2880) (
      ck (inr v3 2880) (
      nmx (pI s 1 v3.toNatClampNeg (s.1 1 ((1920 + v3).toNatClampNeg))) (fun s10 =>
      (f_X12_days_b102 n) (v3 + 1) s10
      )
      )
      )
set_option maxRecDepth 100000 in
theorem w_X12_days_b102 {d : Nat} {Q : Qt} (n : Nat) : ∀ (v3 : Int32) (s : Sg), OQ (f_X12_days_b102 n v3 s) (fun r9 s9 => Q (some (.int r9)) s9) → Y_X12_days d Q 102 [(0, .ref 0), (3, .int v3)] [] s := by
  induction n with
  | zero => intro v3 s H; exact H.elim
  | succ n ih =>
    intro v3 s H
    unfold f_X12_days_b102 at H
    refine Wp.r_iload_n3 (pc := 102) o_X12_days rfl rfl (Wp.r_sipush (pc := 103) o_X12_days rfl (Wp.r_icmp_ge (pc := 106) o_X12_days rfl (fun c9 => ?_) (fun c9 => ?_)))
    · have H := oq_t c9 H
      refine Wp.r_aload_n0 (pc := 131) o_X12_days rfl rfl (Wp.f_al0_gfi (pc := 132) o_X12_days rfl rfl rfl fk_M_0_23 (Wp.r_cv2 (pc := 136) o_X12_days rfl fk_M_0_0 (⟨rm8_ rfl, ?_⟩)))
      refine w_X12_taken (d := d + 6) _ ?_
      refine oq_bd H (fun r6 s7 H => ?_)
      exact Wp.r_ireturn (pc := 139) o_X12_days rfl (⟨rfl, H⟩)
    · have H := oq_f c9 H
      obtain ⟨hc8, H⟩ := oq_ck H
      refine Wp.f_al0_gfr (pc := 109) o_X12_days rfl rfl rfl fk_M_0_0 (Wp.r_iload_n3 (pc := 113) o_X12_days rfl rfl (Wp.f_al0_gfr (pc := 114) o_X12_days rfl rfl rfl fk_M_0_0 (Wp.r_sipush (pc := 118) o_X12_days rfl (Wp.r_iload_n3 (pc := 121) o_X12_days rfl rfl (Wp.r_iadd (pc := 122) o_X12_days rfl (Wp.r_iaload (pc := 123) o_X12_days rfl ak_M_1 (⟨hc8, ?_⟩)))))))
      obtain ⟨hc9, H⟩ := oq_ck H
      refine Wp.r_iastore (pc := 124) o_X12_days rfl ak_M_1 (⟨hc9, ?_⟩)
      revert H
      generalize pI s 1 v3.toNatClampNeg (s.1 1 ((1920 + v3).toNatClampNeg)) = s10
      intro H
      have H := nmx_e H
      exact Wp.f_iinc_goto (pc := 125) o_X12_days rfl rfl rfl (Wp.weak2 [1, 0] (ih _ _ H) rfl)
noncomputable def f_X12_days_b77  (s : Sg) : Option (Int32 × Sg) :=
  if (s.1 0 18) = 0 then
    f_X12_days_b102 BIG 110 (pI s 1 11 (s.1 1 1931))
  else
    bd (f_X12_taken (s.1 0 23) s) (fun r11 s12 =>
    some (r11, s12)
    )
set_option maxRecDepth 100000 in
theorem w_X12_days_b77 {d : Nat} {Q : Qt}  (s : Sg) (H : OQ (f_X12_days_b77  s) (fun r9 s9 => Q (some (.int r9)) s9)) : Y_X12_days d Q 77 [(0, .ref 0)] [] s := by
  unfold f_X12_days_b77 at H
  refine Wp.f_al0_gfi (pc := 77) o_X12_days rfl rfl rfl fk_M_0_18 (Wp.r_if_ne (pc := 81) o_X12_days rfl (fun c9 => ?_) (fun c9 => ?_))
  · have H := oq_t c9 H
    refine Wp.f_al0_gfr (pc := 84) o_X12_days rfl rfl rfl fk_M_0_0 (Wp.r_bipush (pc := 88) o_X12_days rfl (Wp.f_al0_gfr (pc := 90) o_X12_days rfl rfl rfl fk_M_0_0 (Wp.r_sipush (pc := 94) o_X12_days rfl (Wp.r_iaload (pc := 97) o_X12_days rfl ak_M_1 (show (vp_in 1931 2880) ∧ Y_X12_days d Q 98 [(0, .ref 0)] [.int (s.1 1 1931), .int 11, .ref 1] s from ⟨by unfold vp_in; decide, ?_⟩)))))
    refine Wp.r_iastore (pc := 98) o_X12_days rfl ak_M_1 (show (vp_in 11 2880) ∧ Y_X12_days d Q 99 [(0, .ref 0)] [] (pI s 1 11 (s.1 1 1931)) from ⟨by unfold vp_in; decide, ?_⟩)
    exact Wp.r_bipush (pc := 99) o_X12_days rfl (Wp.r_istore_n3 (pc := 101) o_X12_days rfl (Wp.weak2 [1, 0] (w_X12_days_b102 _ _ _ H) rfl))
  · have H := oq_f c9 H
    refine Wp.r_aload_n0 (pc := 131) o_X12_days rfl rfl (Wp.f_al0_gfi (pc := 132) o_X12_days rfl rfl rfl fk_M_0_23 (Wp.r_cv2 (pc := 136) o_X12_days rfl fk_M_0_0 (⟨rm8_ rfl, ?_⟩)))
    refine w_X12_taken (d := d + 6) _ ?_
    refine oq_bd H (fun r11 s12 H => ?_)
    exact Wp.r_ireturn (pc := 139) o_X12_days rfl (⟨rfl, H⟩)
noncomputable def f_X12_days_b57  (s : Sg) : Option (Int32 × Sg) :=
  if (s.1 0 18) = 0 then
    if (s.1 0 22) ≤ 0 then
      f_X12_days_b77 s
    else
      bd (f_X12_fails 2 s) (fun r13 s14 =>
      f_X12_days_b77 s14
      )
  else
    f_X12_days_b77 s
set_option maxRecDepth 100000 in
theorem w_X12_days_b57 {d : Nat} {Q : Qt}  (s : Sg) (H : OQ (f_X12_days_b57  s) (fun r9 s9 => Q (some (.int r9)) s9)) : Y_X12_days d Q 57 [(0, .ref 0)] [] s := by
  unfold f_X12_days_b57 at H
  refine Wp.f_al0_gfi (pc := 57) o_X12_days rfl rfl rfl fk_M_0_18 (Wp.r_if_ne (pc := 61) o_X12_days rfl (fun c9 => ?_) (fun c9 => ?_))
  · have H := oq_t c9 H
    refine Wp.f_al0_gfi (pc := 64) o_X12_days rfl rfl rfl fk_M_0_22 (Wp.r_if_le (pc := 68) o_X12_days rfl (fun c9 => ?_) (fun c9 => ?_))
    · have H := oq_t c9 H
      exact Wp.weak2 [0] (w_X12_days_b77 _ H) rfl
    · have H := oq_f c9 H
      refine Wp.f_al0_iconst (pc := 71) o_X12_days rfl rfl rfl (Wp.r_cv2 (pc := 73) o_X12_days rfl fk_M_0_0 (⟨rm8_ rfl, ?_⟩))
      refine w_X12_fails (d := d + 7) _ ?_
      refine oq_bd H (fun r13 s14 H => ?_)
      exact Wp.r_pop_i (pc := 76) o_X12_days rfl (Wp.weak2 [0] (w_X12_days_b77 _ H) rfl)
  · have H := oq_f c9 H
    exact Wp.weak2 [0] (w_X12_days_b77 _ H) rfl
noncomputable def f_X12_days_b38 : Nat → Int32 → Sg → Option (Int32 × Sg)
  | 0, _, _ => none
  | n + 1, v2, s =>
    if v2 = 0 then
      f_X12_days_b57 s
    else
      if (s.1 0 12) = 0 then
        f_X12_days_b57 s
      else
        bd (f_X12_dayStep s) (fun r15 s16 =>
        (f_X12_days_b38 n) r15 s16
        )
set_option maxRecDepth 100000 in
theorem w_X12_days_b38 {d : Nat} {Q : Qt} (n : Nat) : ∀ (v2 : Int32) (s : Sg), OQ (f_X12_days_b38 n v2 s) (fun r9 s9 => Q (some (.int r9)) s9) → Y_X12_days d Q 38 [(0, .ref 0), (2, .int v2)] [] s := by
  induction n with
  | zero => intro v2 s H; exact H.elim
  | succ n ih =>
    intro v2 s H
    unfold f_X12_days_b38 at H
    refine Wp.r_iload_n2 (pc := 38) o_X12_days rfl rfl (Wp.r_if_eq (pc := 39) o_X12_days rfl (fun c9 => ?_) (fun c9 => ?_))
    · have H := oq_t c9 H
      exact Wp.weak2 [0] (w_X12_days_b57 _ H) rfl
    · have H := oq_f c9 H
      refine Wp.f_al0_gfi (pc := 42) o_X12_days rfl rfl rfl fk_M_0_12 (Wp.r_if_eq (pc := 46) o_X12_days rfl (fun c9 => ?_) (fun c9 => ?_))
      · have H := oq_t c9 H
        exact Wp.weak2 [0] (w_X12_days_b57 _ H) rfl
      · have H := oq_f c9 H
        refine Wp.r_aload_n0 (pc := 49) o_X12_days rfl rfl (Wp.r_cv1 (pc := 50) o_X12_days rfl fk_M_0_0 (⟨rm8_ rfl, ?_⟩))
        refine w_X12_dayStep (d := d)  ?_
        refine oq_bd H (fun r15 s16 H => ?_)
        exact Wp.r_istore_n2 (pc := 53) o_X12_days rfl (Wp.r_goto (pc := 54) o_X12_days rfl (Wp.weak2 [1, 0] (ih _ _ H) rfl))
noncomputable def f_X12_days (a1 : Int32) (s : Sg) : Option (Int32 × Sg) :=
  bd (f_X12_begins a1 300 s) (fun r1 s2 =>
  if r1 = 0 then
    bd (f_X12_refuse 1 s2) (fun r3 s4 =>
    some (r3, s4)
    )
  else
    nmx (pI (pI (pI s2 1 1931 0) 0 22 0) 0 23 0) (fun s5 =>
    f_X12_days_b38 BIG 1 s5
    )
  )
set_option maxRecDepth 100000 in
theorem w_X12_days {d : Nat} {s : Sg} {Q : Qt} (a1 : Int32) (H : OQ (f_X12_days a1 s) (fun r9 s9 => Q (some (.int r9)) s9)) : WpM SHM MT (d + 9) 237 [.ref 0, .int a1] s Q := by
  refine WpM.enter me_X12_days rfl rfl ?_
  show Y_X12_days d Q 0 [(0, .ref 0), (1, .int a1)] [] s
  unfold f_X12_days at H
  refine Wp.r_aload_n0 (pc := 0) o_X12_days rfl rfl (Wp.r_iload_n1 (pc := 1) o_X12_days rfl rfl (Wp.r_sipush (pc := 2) o_X12_days rfl (Wp.r_cv3 (pc := 5) o_X12_days rfl fk_M_0_0 (⟨rm8_ rfl, ?_⟩))))
  refine w_X12_begins (d := d + 5) _ _ ?_
  refine oq_bd H (fun r1 s2 H => ?_)
  refine Wp.r_if_ne (pc := 8) o_X12_days rfl (fun c9 => ?_) (fun c9 => ?_)
  · have H := oq_t c9 H
    refine Wp.f_al0_iconst (pc := 11) o_X12_days rfl rfl rfl (Wp.r_cv2 (pc := 13) o_X12_days rfl fk_M_0_0 (⟨rm8_ rfl, ?_⟩))
    refine w_X12_refuse (d := d + 7) _ ?_
    refine oq_bd H (fun r3 s4 H => ?_)
    exact Wp.r_ireturn (pc := 16) o_X12_days rfl (⟨rfl, H⟩)
  · have H := oq_f c9 H
    refine Wp.f_al0_gfr (pc := 17) o_X12_days rfl rfl rfl fk_M_0_0 (Wp.r_sipush (pc := 21) o_X12_days rfl (Wp.r_iconst (pc := 24) o_X12_days rfl (Wp.r_iastore (pc := 25) o_X12_days rfl ak_M_1 (show (vp_in 1931 2880) ∧ Y_X12_days d Q 26 [(0, .ref 0), (1, .int a1)] [] (pI s2 1 1931 0) from ⟨by unfold vp_in; decide, ?_⟩))))
    refine Wp.f_al0_iconst (pc := 26) o_X12_days rfl rfl rfl (Wp.r_pfi (pc := 28) o_X12_days rfl fk_M_0_22 (Wp.f_al0_iconst (pc := 31) o_X12_days rfl rfl rfl (Wp.r_pfi (pc := 33) o_X12_days rfl fk_M_0_23 (show Y_X12_days d Q 36 [(0, .ref 0), (1, .int a1)] [] (pI (pI (pI s2 1 1931 0) 0 22 0) 0 23 0) from ?_))))
    revert H
    generalize pI (pI (pI s2 1 1931 0) 0 22 0) 0 23 0 = s5
    intro H
    have H := nmx_e H
    exact Wp.r_iconst (pc := 36) o_X12_days rfl (Wp.r_istore_n2 (pc := 37) o_X12_days rfl (Wp.weak2 [1, 0] (w_X12_days_b38 _ _ _ H) rfl))
noncomputable abbrev Y_X12_fault (d : Nat) (Q : Qt) : Xt := Wp SHM (WpM SHM MT (d + 0)) (flat2 cq_X12_fault) (some .int) Q
noncomputable def f_X12_fault (a1 : Int32) (s : Sg) : Option (Int32 × Sg) :=
  if a1 = 0 then
    some (s.1 0 16, s)
  else
    if a1 = 1 then
      some (s.1 0 17, s)
    else
      some ((-1), s)
set_option maxRecDepth 100000 in
theorem w_X12_fault {d : Nat} {s : Sg} {Q : Qt} (a1 : Int32) (H : OQ (f_X12_fault a1 s) (fun r9 s9 => Q (some (.int r9)) s9)) : WpM SHM MT (d + 1) 219 [.ref 0, .int a1] s Q := by
  refine WpM.enter me_X12_fault rfl rfl ?_
  show Y_X12_fault d Q 0 [(0, .ref 0), (1, .int a1)] [] s
  unfold f_X12_fault at H
  refine Wp.r_iload_n1 (pc := 0) o_X12_fault rfl rfl (Wp.r_if_ne (pc := 1) o_X12_fault rfl (fun c9 => ?_) (fun c9 => ?_))
  · have H := oq_t c9 H
    exact Wp.f_al0_gfi (pc := 4) o_X12_fault rfl rfl rfl fk_M_0_16 (Wp.r_goto (pc := 8) o_X12_fault rfl (Wp.r_ireturn (pc := 24) o_X12_fault rfl (⟨rfl, H⟩)))
  · have H := oq_f c9 H
    refine Wp.r_iload_n1 (pc := 11) o_X12_fault rfl rfl (Wp.r_iconst (pc := 12) o_X12_fault rfl (Wp.r_icmp_ne (pc := 13) o_X12_fault rfl (fun c9 => ?_) (fun c9 => ?_)))
    · have H := oq_t c9 H
      exact Wp.f_al0_gfi (pc := 16) o_X12_fault rfl rfl rfl fk_M_0_17 (Wp.r_goto (pc := 20) o_X12_fault rfl (Wp.r_ireturn (pc := 24) o_X12_fault rfl (⟨rfl, H⟩)))
    · have H := oq_f c9 H
      exact Wp.r_iconst (pc := 23) o_X12_fault rfl (Wp.r_ireturn (pc := 24) o_X12_fault rfl (⟨rfl, H⟩))
noncomputable abbrev Y_X12_told (d : Nat) (Q : Qt) : Xt := Wp SHM (WpM SHM MT (d + 1)) (flat2 cq_X12_told) (some .int) Q
noncomputable def f_X12_told (a1 : Int32) (s : Sg) : Option (Int32 × Sg) :=
  if a1 < 0 then
    bd (f_X12_refuse 1 s) (fun r1 s2 =>
    some (r1, s2)
    )
  else
    if a1 ≤ 10 then
      ck (inr a1 2880) (
      bd (f_X12_gives (s.1 1 a1.toNatClampNeg) s) (fun r4 s5 =>
      some (r4, s5)
      )
      )
    else
      bd (f_X12_refuse 1 s) (fun r6 s7 =>
      some (r6, s7)
      )
set_option maxRecDepth 100000 in
theorem w_X12_told {d : Nat} {s : Sg} {Q : Qt} (a1 : Int32) (H : OQ (f_X12_told a1 s) (fun r9 s9 => Q (some (.int r9)) s9)) : WpM SHM MT (d + 2) 247 [.ref 0, .int a1] s Q := by
  refine WpM.enter me_X12_told rfl rfl ?_
  show Y_X12_told d Q 0 [(0, .ref 0), (1, .int a1)] [] s
  unfold f_X12_told at H
  refine Wp.r_iload_n1 (pc := 0) o_X12_told rfl rfl (Wp.r_if_lt (pc := 1) o_X12_told rfl (fun c9 => ?_) (fun c9 => ?_))
  · have H := oq_t c9 H
    refine Wp.f_al0_iconst (pc := 10) o_X12_told rfl rfl rfl (Wp.r_cv2 (pc := 12) o_X12_told rfl fk_M_0_0 (⟨rm8_ rfl, ?_⟩))
    refine w_X12_refuse (d := d) _ ?_
    refine oq_bd H (fun r1 s2 H => ?_)
    exact Wp.r_goto (pc := 15) o_X12_told rfl (Wp.r_ireturn (pc := 28) o_X12_told rfl (⟨rfl, H⟩))
  · have H := oq_f c9 H
    refine Wp.r_iload_n1 (pc := 4) o_X12_told rfl rfl (Wp.r_bipush (pc := 5) o_X12_told rfl (Wp.r_icmp_le (pc := 7) o_X12_told rfl (fun c9 => ?_) (fun c9 => ?_)))
    · have H := oq_t c9 H
      obtain ⟨hc3, H⟩ := oq_ck H
      refine Wp.r_aload_n0 (pc := 18) o_X12_told rfl rfl (Wp.f_al0_gfr (pc := 19) o_X12_told rfl rfl rfl fk_M_0_0 (Wp.r_iload_n1 (pc := 23) o_X12_told rfl rfl (Wp.r_iaload (pc := 24) o_X12_told rfl ak_M_1 (⟨hc3, ?_⟩))))
      refine Wp.r_cv2 (pc := 25) o_X12_told rfl fk_M_0_0 (⟨rm8_ rfl, ?_⟩)
      refine w_X12_gives (d := d) _ ?_
      refine oq_bd H (fun r4 s5 H => ?_)
      exact Wp.r_ireturn (pc := 28) o_X12_told rfl (⟨rfl, H⟩)
    · have H := oq_f c9 H
      refine Wp.f_al0_iconst (pc := 10) o_X12_told rfl rfl rfl (Wp.r_cv2 (pc := 12) o_X12_told rfl fk_M_0_0 (⟨rm8_ rfl, ?_⟩))
      refine w_X12_refuse (d := d) _ ?_
      refine oq_bd H (fun r6 s7 H => ?_)
      exact Wp.r_goto (pc := 15) o_X12_told rfl (Wp.r_ireturn (pc := 28) o_X12_told rfl (⟨rfl, H⟩))
noncomputable abbrev Y_X12_purse (d : Nat) (Q : Qt) : Xt := Wp SHM (WpM SHM MT (d + 1)) (flat2 cq_X12_purse) (some .int) Q
noncomputable def f_X12_purse  (s : Sg) : Option (Int32 × Sg) :=
  bd (f_X12_gives (s.1 1 12) s) (fun r1 s2 =>
  some (r1, s2)
  )
set_option maxRecDepth 100000 in
theorem w_X12_purse {d : Nat} {s : Sg} {Q : Qt}  (H : OQ (f_X12_purse  s) (fun r9 s9 => Q (some (.int r9)) s9)) : WpM SHM MT (d + 2) 248 [.ref 0] s Q := by
  refine WpM.enter me_X12_purse rfl rfl ?_
  show Y_X12_purse d Q 0 [(0, .ref 0)] [] s
  unfold f_X12_purse at H
  refine Wp.r_aload_n0 (pc := 0) o_X12_purse rfl rfl (Wp.f_al0_gfr (pc := 1) o_X12_purse rfl rfl rfl fk_M_0_0 (Wp.r_bipush (pc := 5) o_X12_purse rfl (Wp.r_iaload (pc := 7) o_X12_purse rfl ak_M_1 (show (vp_in 12 2880) ∧ Y_X12_purse d Q 8 [(0, .ref 0)] [.int (s.1 1 12), .ref 0] s from ⟨by unfold vp_in; decide, ?_⟩))))
  refine Wp.r_cv2 (pc := 8) o_X12_purse rfl fk_M_0_0 (⟨rm8_ rfl, ?_⟩)
  refine w_X12_gives (d := d) _ ?_
  refine oq_bd H (fun r1 s2 H => ?_)
  exact Wp.r_ireturn (pc := 11) o_X12_purse rfl (⟨rfl, H⟩)
noncomputable abbrev Y_X12_quarrelRow (d : Nat) (Q : Qt) : Xt := Wp SHM (WpM SHM MT (d + 0)) (flat2 cq_X12_quarrelRow) (some .int) Q
noncomputable def f_X12_quarrelRow (a0 : Int32) (s : Sg) : Option (Int32 × Sg) :=
  some (40 + (5 * a0), s)
set_option maxRecDepth 100000 in
theorem w_X12_quarrelRow {d : Nat} {s : Sg} {Q : Qt} (a0 : Int32) (H : OQ (f_X12_quarrelRow a0 s) (fun r9 s9 => Q (some (.int r9)) s9)) : WpM SHM MT (d + 1) 239 [.int a0] s Q := by
  refine WpM.enter me_X12_quarrelRow rfl rfl ?_
  show Y_X12_quarrelRow d Q 0 [(0, .int a0)] [] s
  unfold f_X12_quarrelRow at H
  exact Wp.r_bipush (pc := 0) o_X12_quarrelRow rfl (Wp.r_iconst (pc := 2) o_X12_quarrelRow rfl (Wp.r_iload_n0 (pc := 3) o_X12_quarrelRow rfl rfl (Wp.r_imul (pc := 4) o_X12_quarrelRow rfl (Wp.r_iadd (pc := 5) o_X12_quarrelRow rfl (Wp.r_ireturn (pc := 6) o_X12_quarrelRow rfl (⟨rfl, H⟩))))))
noncomputable abbrev Y_X12_quarrelHouse (d : Nat) (Q : Qt) : Xt := Wp SHM (WpM SHM MT (d + 1)) (flat2 cq_X12_quarrelHouse) (some .int) Q
noncomputable def f_X12_quarrelHouse (a0 : Int32) (a1 : Int32) (s : Sg) : Option (Int32 × Sg) :=
  bd (f_X12_quarrelRow a0 s) (fun r1 s2 =>
  some (r1 + a1, s2)
  )
set_option maxRecDepth 100000 in
theorem w_X12_quarrelHouse {d : Nat} {s : Sg} {Q : Qt} (a0 : Int32) (a1 : Int32) (H : OQ (f_X12_quarrelHouse a0 a1 s) (fun r9 s9 => Q (some (.int r9)) s9)) : WpM SHM MT (d + 2) 245 [.int a0, .int a1] s Q := by
  refine WpM.enter me_X12_quarrelHouse rfl rfl ?_
  show Y_X12_quarrelHouse d Q 0 [(0, .int a0), (1, .int a1)] [] s
  unfold f_X12_quarrelHouse at H
  refine Wp.r_iload_n0 (pc := 0) o_X12_quarrelHouse rfl rfl (Wp.r_cs1 (pc := 1) o_X12_quarrelHouse rfl (⟨rm8_ rfl, ?_⟩))
  refine w_X12_quarrelRow (d := d) _ ?_
  refine oq_bd H (fun r1 s2 H => ?_)
  exact Wp.r_iload_n1 (pc := 4) o_X12_quarrelHouse rfl rfl (Wp.r_iadd (pc := 5) o_X12_quarrelHouse rfl (Wp.r_ireturn (pc := 6) o_X12_quarrelHouse rfl (⟨rfl, H⟩)))
noncomputable abbrev Y_X12_isAt (d : Nat) (Q : Qt) : Xt := Wp SHM (WpM SHM MT (d + 2)) (flat2 cq_X12_isAt) (some .boolean) Q
noncomputable def f_X12_isAt (a1 : Int32) (a2 : Int32) (s : Sg) : Option (Int32 × Sg) :=
  bd (f_X12_quarrelHouse a1 0 s) (fun r1 s2 =>
  ck (inr r1 2880) (
  if (s2.1 1 r1.toNatClampNeg) = a2 then
    some (1, s2)
  else
    bd (f_X12_quarrelHouse a1 1 s2) (fun r4 s5 =>
    ck (inr r4 2880) (
    if (s5.1 1 r4.toNatClampNeg) = a2 then
      some (1, s5)
    else
      some (0, s5)
    )
    )
  )
  )
set_option maxRecDepth 100000 in
theorem w_X12_isAt {d : Nat} {s : Sg} {Q : Qt} (a1 : Int32) (a2 : Int32) (H : OQ (f_X12_isAt a1 a2 s) (fun r9 s9 => Q (some (.int r9)) s9)) : WpM SHM MT (d + 3) 246 [.ref 0, .int a1, .int a2] s Q := by
  refine WpM.enter me_X12_isAt rfl rfl ?_
  show Y_X12_isAt d Q 0 [(0, .ref 0), (1, .int a1), (2, .int a2)] [] s
  unfold f_X12_isAt at H
  refine Wp.f_al0_gfr (pc := 0) o_X12_isAt rfl rfl rfl fk_M_0_0 (Wp.r_iload_n1 (pc := 4) o_X12_isAt rfl rfl (Wp.r_iconst (pc := 5) o_X12_isAt rfl (Wp.r_cs2 (pc := 6) o_X12_isAt rfl (⟨rm8_ rfl, ?_⟩))))
  refine w_X12_quarrelHouse (d := d) _ _ ?_
  refine oq_bd H (fun r1 s2 H => ?_)
  obtain ⟨hc3, H⟩ := oq_ck H
  refine Wp.r_iaload (pc := 9) o_X12_isAt rfl ak_M_1 (⟨hc3, ?_⟩)
  refine Wp.r_iload_n2 (pc := 10) o_X12_isAt rfl rfl (Wp.r_icmp_eq (pc := 11) o_X12_isAt rfl (fun c9 => ?_) (fun c9 => ?_))
  · have H := oq_t c9 H
    exact Wp.r_iconst (pc := 28) o_X12_isAt rfl (Wp.r_goto (pc := 29) o_X12_isAt rfl (Wp.r_ireturn (pc := 33) o_X12_isAt rfl (⟨rfl, H⟩)))
  · have H := oq_f c9 H
    refine Wp.f_al0_gfr (pc := 14) o_X12_isAt rfl rfl rfl fk_M_0_0 (Wp.r_iload_n1 (pc := 18) o_X12_isAt rfl rfl (Wp.r_iconst (pc := 19) o_X12_isAt rfl (Wp.r_cs2 (pc := 20) o_X12_isAt rfl (⟨rm8_ rfl, ?_⟩))))
    refine w_X12_quarrelHouse (d := d) _ _ ?_
    refine oq_bd H (fun r4 s5 H => ?_)
    obtain ⟨hc6, H⟩ := oq_ck H
    refine Wp.r_iaload (pc := 23) o_X12_isAt rfl ak_M_1 (⟨hc6, ?_⟩)
    refine Wp.r_iload_n2 (pc := 24) o_X12_isAt rfl rfl (Wp.r_icmp_ne (pc := 25) o_X12_isAt rfl (fun c9 => ?_) (fun c9 => ?_))
    · have H := oq_t c9 H
      exact Wp.r_iconst (pc := 28) o_X12_isAt rfl (Wp.r_goto (pc := 29) o_X12_isAt rfl (Wp.r_ireturn (pc := 33) o_X12_isAt rfl (⟨rfl, H⟩)))
    · have H := oq_f c9 H
      exact Wp.r_iconst (pc := 32) o_X12_isAt rfl (Wp.r_ireturn (pc := 33) o_X12_isAt rfl (⟨rfl, H⟩))
noncomputable abbrev Y_X12_houseRow (d : Nat) (Q : Qt) : Xt := Wp SHM (WpM SHM MT (d + 0)) (flat2 cq_X12_houseRow) (some .int) Q
noncomputable def f_X12_houseRow (a0 : Int32) (s : Sg) : Option (Int32 × Sg) :=
  some (16 + (3 * a0), s)
set_option maxRecDepth 100000 in
theorem w_X12_houseRow {d : Nat} {s : Sg} {Q : Qt} (a0 : Int32) (H : OQ (f_X12_houseRow a0 s) (fun r9 s9 => Q (some (.int r9)) s9)) : WpM SHM MT (d + 1) 238 [.int a0] s Q := by
  refine WpM.enter me_X12_houseRow rfl rfl ?_
  show Y_X12_houseRow d Q 0 [(0, .int a0)] [] s
  unfold f_X12_houseRow at H
  exact Wp.r_bipush (pc := 0) o_X12_houseRow rfl (Wp.r_iconst (pc := 2) o_X12_houseRow rfl (Wp.r_iload_n0 (pc := 3) o_X12_houseRow rfl rfl (Wp.r_imul (pc := 4) o_X12_houseRow rfl (Wp.r_iadd (pc := 5) o_X12_houseRow rfl (Wp.r_ireturn (pc := 6) o_X12_houseRow rfl (⟨rfl, H⟩))))))
noncomputable abbrev Y_X12_isHouse (d : Nat) (Q : Qt) : Xt := Wp SHM (WpM SHM MT (d + 0)) (flat2 cq_X12_isHouse) (some .boolean) Q
noncomputable def f_X12_isHouse (a1 : Int32) (s : Sg) : Option (Int32 × Sg) :=
  if a1 < 0 then
    some (0, s)
  else
    if (s.1 1 0) ≤ a1 then
      some (0, s)
    else
      some (1, s)
set_option maxRecDepth 100000 in
theorem w_X12_isHouse {d : Nat} {s : Sg} {Q : Qt} (a1 : Int32) (H : OQ (f_X12_isHouse a1 s) (fun r9 s9 => Q (some (.int r9)) s9)) : WpM SHM MT (d + 1) 240 [.ref 0, .int a1] s Q := by
  refine WpM.enter me_X12_isHouse rfl rfl ?_
  show Y_X12_isHouse d Q 0 [(0, .ref 0), (1, .int a1)] [] s
  unfold f_X12_isHouse at H
  refine Wp.r_iload_n1 (pc := 0) o_X12_isHouse rfl rfl (Wp.r_if_lt (pc := 1) o_X12_isHouse rfl (fun c9 => ?_) (fun c9 => ?_))
  · have H := oq_t c9 H
    exact Wp.r_iconst (pc := 18) o_X12_isHouse rfl (Wp.r_ireturn (pc := 19) o_X12_isHouse rfl (⟨rfl, H⟩))
  · have H := oq_f c9 H
    refine Wp.r_iload_n1 (pc := 4) o_X12_isHouse rfl rfl (Wp.f_al0_gfr (pc := 5) o_X12_isHouse rfl rfl rfl fk_M_0_0 (Wp.r_iconst (pc := 9) o_X12_isHouse rfl (Wp.r_iaload (pc := 10) o_X12_isHouse rfl ak_M_1 (show (vp_in 0 2880) ∧ Y_X12_isHouse d Q 11 [(0, .ref 0), (1, .int a1)] [.int (s.1 1 0), .int a1] s from ⟨by unfold vp_in; decide, ?_⟩))))
    refine Wp.r_icmp_ge (pc := 11) o_X12_isHouse rfl (fun c9 => ?_) (fun c9 => ?_)
    · have H := oq_t c9 H
      exact Wp.r_iconst (pc := 18) o_X12_isHouse rfl (Wp.r_ireturn (pc := 19) o_X12_isHouse rfl (⟨rfl, H⟩))
    · have H := oq_f c9 H
      exact Wp.r_iconst (pc := 14) o_X12_isHouse rfl (Wp.r_goto (pc := 15) o_X12_isHouse rfl (Wp.r_ireturn (pc := 19) o_X12_isHouse rfl (⟨rfl, H⟩)))
noncomputable abbrev Y_X12_wrongStep (d : Nat) (Q : Qt) : Xt := Wp SHM (WpM SHM MT (d + 1)) (flat2 cq_X12_wrongStep) (some .int) Q
noncomputable def f_X12_wrongStep (a1 : Int32) (s : Sg) : Option (Int32 × Sg) :=
  bd (f_X12_isHouse a1 s) (fun r1 s2 =>
  if r1 = 0 then
    some (1, s2)
  else
    bd (f_X12_isGone a1 s2) (fun r3 s4 =>
    if r3 = 0 then
      some (0, s4)
    else
      some (7, s4)
    )
  )
set_option maxRecDepth 100000 in
theorem w_X12_wrongStep {d : Nat} {s : Sg} {Q : Qt} (a1 : Int32) (H : OQ (f_X12_wrongStep a1 s) (fun r9 s9 => Q (some (.int r9)) s9)) : WpM SHM MT (d + 2) 243 [.ref 0, .int a1] s Q := by
  refine WpM.enter me_X12_wrongStep rfl rfl ?_
  show Y_X12_wrongStep d Q 0 [(0, .ref 0), (1, .int a1)] [] s
  unfold f_X12_wrongStep at H
  refine Wp.r_aload_n0 (pc := 0) o_X12_wrongStep rfl rfl (Wp.r_iload_n1 (pc := 1) o_X12_wrongStep rfl rfl (Wp.r_cv2 (pc := 2) o_X12_wrongStep rfl fk_M_0_0 (⟨rm8_ rfl, ?_⟩)))
  refine w_X12_isHouse (d := d) _ ?_
  refine oq_bd H (fun r1 s2 H => ?_)
  refine Wp.r_if_ne (pc := 5) o_X12_wrongStep rfl (fun c9 => ?_) (fun c9 => ?_)
  · have H := oq_t c9 H
    exact Wp.r_iconst (pc := 8) o_X12_wrongStep rfl (Wp.r_goto (pc := 9) o_X12_wrongStep rfl (Wp.r_ireturn (pc := 26) o_X12_wrongStep rfl (⟨rfl, H⟩)))
  · have H := oq_f c9 H
    refine Wp.r_aload_n0 (pc := 12) o_X12_wrongStep rfl rfl (Wp.r_iload_n1 (pc := 13) o_X12_wrongStep rfl rfl (Wp.r_cv2 (pc := 14) o_X12_wrongStep rfl fk_M_0_0 (⟨rm8_ rfl, ?_⟩)))
    refine w_X12_isGone (d := d) _ ?_
    refine oq_bd H (fun r3 s4 H => ?_)
    refine Wp.r_if_eq (pc := 17) o_X12_wrongStep rfl (fun c9 => ?_) (fun c9 => ?_)
    · have H := oq_t c9 H
      exact Wp.r_iconst (pc := 25) o_X12_wrongStep rfl (Wp.r_ireturn (pc := 26) o_X12_wrongStep rfl (⟨rfl, H⟩))
    · have H := oq_f c9 H
      exact Wp.r_bipush (pc := 20) o_X12_wrongStep rfl (Wp.r_goto (pc := 22) o_X12_wrongStep rfl (Wp.r_ireturn (pc := 26) o_X12_wrongStep rfl (⟨rfl, H⟩)))
noncomputable abbrev Y_X12_step (d : Nat) (Q : Qt) : Xt := Wp SHM (WpM SHM MT (d + 3)) (flat2 cq_X12_step) (some .int) Q
noncomputable def f_X12_step_b56 : Nat → Int32 → Int32 → Int32 → Sg → Option (Int32 × Sg)
  | 0, _, _, _, _ => none
  | n + 1, v1, v4, v5, s =>
    if (s.1 1 1) ≤ v5 then
      bd (f_X12_gives v4 s) (fun r1 s2 =>
      some (r1, s2)
      )
    else
      bd (f_X12_isAt v5 v1 s) (fun r3 s4 =>
      if r3 = 0 then
        (f_X12_step_b56 n) v1 (v4 ||| 0) (v5 + 1) s4
      else
        nmx (v4 ||| ((1 : Int32) <<< (v5 &&& 31)) : Int32) (fun x5 =>
        (f_X12_step_b56 n) v1 x5 (v5 + 1) s4
        )
      )
set_option maxRecDepth 100000 in
theorem w_X12_step_b56 {d : Nat} {Q : Qt} (n : Nat) : ∀ (v1 : Int32) (v4 : Int32) (v5 : Int32) (s : Sg), OQ (f_X12_step_b56 n v1 v4 v5 s) (fun r9 s9 => Q (some (.int r9)) s9) → Y_X12_step d Q 56 [(0, .ref 0), (1, .int v1), (4, .int v4), (5, .int v5)] [] s := by
  induction n with
  | zero => intro v1 v4 v5 s H; exact H.elim
  | succ n ih =>
    intro v1 v4 v5 s H
    unfold f_X12_step_b56 at H
    refine Wp.r_iload (pc := 56) o_X12_step rfl rfl (Wp.f_al0_gfr (pc := 58) o_X12_step rfl rfl rfl fk_M_0_0 (Wp.r_iconst (pc := 62) o_X12_step rfl (Wp.r_iaload (pc := 63) o_X12_step rfl ak_M_1 (show (vp_in 1 2880) ∧ Y_X12_step d Q 64 [(0, .ref 0), (1, .int v1), (4, .int v4), (5, .int v5)] [.int (s.1 1 1), .int v5] s from ⟨by unfold vp_in; decide, ?_⟩))))
    refine Wp.r_icmp_ge (pc := 64) o_X12_step rfl (fun c9 => ?_) (fun c9 => ?_)
    · have H := oq_t c9 H
      refine Wp.r_aload_n0 (pc := 96) o_X12_step rfl rfl (Wp.r_iload (pc := 97) o_X12_step rfl rfl (Wp.r_cv2 (pc := 99) o_X12_step rfl fk_M_0_0 (⟨rm8_ rfl, ?_⟩)))
      refine w_X12_gives (d := d + 2) _ ?_
      refine oq_bd H (fun r1 s2 H => ?_)
      exact Wp.r_ireturn (pc := 102) o_X12_step rfl (⟨rfl, H⟩)
    · have H := oq_f c9 H
      refine Wp.r_iload (pc := 67) o_X12_step rfl rfl (Wp.r_aload_n0 (pc := 69) o_X12_step rfl rfl (Wp.r_iload (pc := 70) o_X12_step rfl rfl (Wp.r_iload_n1 (pc := 72) o_X12_step rfl rfl (Wp.r_cv3 (pc := 73) o_X12_step rfl fk_M_0_0 (⟨rm8_ rfl, ?_⟩)))))
      refine w_X12_isAt (d := d) _ _ ?_
      refine oq_bd H (fun r3 s4 H => ?_)
      refine Wp.r_if_eq (pc := 76) o_X12_step rfl (fun c9 => ?_) (fun c9 => ?_)
      · have H := oq_t c9 H
        exact Wp.r_iconst (pc := 86) o_X12_step rfl (Wp.r_ior (pc := 87) o_X12_step rfl (Wp.r_istore (pc := 88) o_X12_step rfl (Wp.f_iinc_goto (pc := 90) o_X12_step rfl rfl rfl (Wp.weak2 [2, 3, 1, 0] (ih _ _ _ _ H) rfl))))
      · have H := oq_f c9 H
        refine Wp.r_iconst (pc := 79) o_X12_step rfl (Wp.r_iload (pc := 80) o_X12_step rfl rfl (Wp.r_ishl (pc := 82) o_X12_step rfl (Wp.r_goto (pc := 83) o_X12_step rfl (Wp.r_ior (pc := 87) o_X12_step rfl (Wp.r_istore (pc := 88) o_X12_step rfl (show Y_X12_step d Q 90 [(4, .int (v4 ||| ((1 : Int32) <<< (v5 &&& 31)))), (0, .ref 0), (1, .int v1), (5, .int v5)] [] s4 from ?_))))))
        revert H
        generalize (v4 ||| ((1 : Int32) <<< (v5 &&& 31)) : Int32) = x5
        intro H
        have H := nmx_e H
        exact Wp.f_iinc_goto (pc := 90) o_X12_step rfl rfl rfl (Wp.weak2 [2, 3, 1, 0] (ih _ _ _ _ H) rfl)
noncomputable def f_X12_step_b18 (v1 : Int32) (v2 : Int32) (t0 : Int32) (s : Sg) : Option (Int32 × Sg) :=
  if t0 ≤ 0 then
    if 3 ≤ v2 then
      f_X12_step_b56 BIG v1 0 0 s
    else
      bd (f_X12_houseRow v1 s) (fun r6 s7 =>
      ck (inr (r6 + v2) 2880) (
      bd (f_X12_gives (s7.1 1 ((r6 + v2).toNatClampNeg)) s7) (fun r9 s10 =>
      some (r9, s10)
      )
      )
      )
  else
    bd (f_X12_refuse t0 s) (fun r11 s12 =>
    some (r11, s12)
    )
set_option maxRecDepth 100000 in
theorem w_X12_step_b18 {d : Nat} {Q : Qt} (v1 : Int32) (v2 : Int32) (t0 : Int32) (s : Sg) (H : OQ (f_X12_step_b18 v1 v2 t0 s) (fun r9 s9 => Q (some (.int r9)) s9)) : Y_X12_step d Q 18 [(0, .ref 0), (1, .int v1), (2, .int v2)] [.int t0] s := by
  unfold f_X12_step_b18 at H
  refine Wp.r_istore_n3 (pc := 18) o_X12_step rfl (Wp.r_iload_n3 (pc := 19) o_X12_step rfl rfl (Wp.r_if_le (pc := 20) o_X12_step rfl (fun c9 => ?_) (fun c9 => ?_)))
  · have H := oq_t c9 H
    refine Wp.r_iload_n2 (pc := 29) o_X12_step rfl rfl (Wp.r_iconst (pc := 30) o_X12_step rfl (Wp.r_icmp_ge (pc := 31) o_X12_step rfl (fun c9 => ?_) (fun c9 => ?_)))
    · have H := oq_t c9 H
      exact Wp.r_iconst (pc := 50) o_X12_step rfl (Wp.r_istore (pc := 51) o_X12_step rfl (Wp.r_iconst (pc := 53) o_X12_step rfl (Wp.r_istore (pc := 54) o_X12_step rfl (Wp.weak2 [3, 4, 1, 0] (w_X12_step_b56 _ _ _ _ _ H) rfl))))
    · have H := oq_f c9 H
      refine Wp.r_aload_n0 (pc := 34) o_X12_step rfl rfl (Wp.f_al0_gfr (pc := 35) o_X12_step rfl rfl rfl fk_M_0_0 (Wp.r_iload_n1 (pc := 39) o_X12_step rfl rfl (Wp.r_cs1 (pc := 40) o_X12_step rfl (⟨rm8_ rfl, ?_⟩))))
      refine w_X12_houseRow (d := d + 2) _ ?_
      refine oq_bd H (fun r6 s7 H => ?_)
      obtain ⟨hc8, H⟩ := oq_ck H
      refine Wp.r_iload_n2 (pc := 43) o_X12_step rfl rfl (Wp.r_iadd (pc := 44) o_X12_step rfl (Wp.r_iaload (pc := 45) o_X12_step rfl ak_M_1 (⟨hc8, ?_⟩)))
      refine Wp.r_cv2 (pc := 46) o_X12_step rfl fk_M_0_0 (⟨rm8_ rfl, ?_⟩)
      refine w_X12_gives (d := d + 2) _ ?_
      refine oq_bd H (fun r9 s10 H => ?_)
      exact Wp.r_ireturn (pc := 49) o_X12_step rfl (⟨rfl, H⟩)
  · have H := oq_f c9 H
    refine Wp.r_aload_n0 (pc := 23) o_X12_step rfl rfl (Wp.r_iload_n3 (pc := 24) o_X12_step rfl rfl (Wp.r_cv2 (pc := 25) o_X12_step rfl fk_M_0_0 (⟨rm8_ rfl, ?_⟩)))
    refine w_X12_refuse (d := d + 2) _ ?_
    refine oq_bd H (fun r11 s12 H => ?_)
    exact Wp.r_ireturn (pc := 28) o_X12_step rfl (⟨rfl, H⟩)
noncomputable def f_X12_step_b9 (v1 : Int32) (v2 : Int32) (s : Sg) : Option (Int32 × Sg) :=
  f_X12_step_b18 v1 v2 1 s
set_option maxRecDepth 100000 in
theorem w_X12_step_b9 {d : Nat} {Q : Qt} (v1 : Int32) (v2 : Int32) (s : Sg) (H : OQ (f_X12_step_b9 v1 v2 s) (fun r9 s9 => Q (some (.int r9)) s9)) : Y_X12_step d Q 9 [(0, .ref 0), (1, .int v1), (2, .int v2)] [] s := by
  unfold f_X12_step_b9 at H
  exact Wp.r_iconst (pc := 9) o_X12_step rfl (Wp.r_goto (pc := 10) o_X12_step rfl (Wp.weak2 [0, 1, 2] (w_X12_step_b18 _ _ _ _ H) rfl))
noncomputable def f_X12_step (a1 : Int32) (a2 : Int32) (s : Sg) : Option (Int32 × Sg) :=
  if a2 < 0 then
    f_X12_step_b9 a1 a2 s
  else
    if a2 ≤ 3 then
      bd (f_X12_wrongStep a1 s) (fun r13 s14 =>
      f_X12_step_b18 a1 a2 r13 s14
      )
    else
      f_X12_step_b9 a1 a2 s
set_option maxRecDepth 100000 in
theorem w_X12_step {d : Nat} {s : Sg} {Q : Qt} (a1 : Int32) (a2 : Int32) (H : OQ (f_X12_step a1 a2 s) (fun r9 s9 => Q (some (.int r9)) s9)) : WpM SHM MT (d + 4) 249 [.ref 0, .int a1, .int a2] s Q := by
  refine WpM.enter me_X12_step rfl rfl ?_
  show Y_X12_step d Q 0 [(0, .ref 0), (1, .int a1), (2, .int a2)] [] s
  unfold f_X12_step at H
  refine Wp.r_iload_n2 (pc := 0) o_X12_step rfl rfl (Wp.r_if_lt (pc := 1) o_X12_step rfl (fun c9 => ?_) (fun c9 => ?_))
  · have H := oq_t c9 H
    exact Wp.weak2 [0, 1, 2] (w_X12_step_b9 _ _ _ H) rfl
  · have H := oq_f c9 H
    refine Wp.r_iload_n2 (pc := 4) o_X12_step rfl rfl (Wp.r_iconst (pc := 5) o_X12_step rfl (Wp.r_icmp_le (pc := 6) o_X12_step rfl (fun c9 => ?_) (fun c9 => ?_)))
    · have H := oq_t c9 H
      refine Wp.r_aload_n0 (pc := 13) o_X12_step rfl rfl (Wp.r_iload_n1 (pc := 14) o_X12_step rfl rfl (Wp.r_cv2 (pc := 15) o_X12_step rfl fk_M_0_0 (⟨rm8_ rfl, ?_⟩)))
      refine w_X12_wrongStep (d := d + 1) _ ?_
      refine oq_bd H (fun r13 s14 H => ?_)
      exact Wp.weak2 [0, 1, 2] (w_X12_step_b18 _ _ _ _ H) rfl
    · have H := oq_f c9 H
      exact Wp.weak2 [0, 1, 2] (w_X12_step_b9 _ _ _ H) rfl
noncomputable abbrev Y_X12_isQuarrel (d : Nat) (Q : Qt) : Xt := Wp SHM (WpM SHM MT (d + 0)) (flat2 cq_X12_isQuarrel) (some .boolean) Q
noncomputable def f_X12_isQuarrel (a1 : Int32) (s : Sg) : Option (Int32 × Sg) :=
  if a1 < 0 then
    some (0, s)
  else
    if (s.1 1 1) ≤ a1 then
      some (0, s)
    else
      some (1, s)
set_option maxRecDepth 100000 in
theorem w_X12_isQuarrel {d : Nat} {s : Sg} {Q : Qt} (a1 : Int32) (H : OQ (f_X12_isQuarrel a1 s) (fun r9 s9 => Q (some (.int r9)) s9)) : WpM SHM MT (d + 1) 241 [.ref 0, .int a1] s Q := by
  refine WpM.enter me_X12_isQuarrel rfl rfl ?_
  show Y_X12_isQuarrel d Q 0 [(0, .ref 0), (1, .int a1)] [] s
  unfold f_X12_isQuarrel at H
  refine Wp.r_iload_n1 (pc := 0) o_X12_isQuarrel rfl rfl (Wp.r_if_lt (pc := 1) o_X12_isQuarrel rfl (fun c9 => ?_) (fun c9 => ?_))
  · have H := oq_t c9 H
    exact Wp.r_iconst (pc := 18) o_X12_isQuarrel rfl (Wp.r_ireturn (pc := 19) o_X12_isQuarrel rfl (⟨rfl, H⟩))
  · have H := oq_f c9 H
    refine Wp.r_iload_n1 (pc := 4) o_X12_isQuarrel rfl rfl (Wp.f_al0_gfr (pc := 5) o_X12_isQuarrel rfl rfl rfl fk_M_0_0 (Wp.r_iconst (pc := 9) o_X12_isQuarrel rfl (Wp.r_iaload (pc := 10) o_X12_isQuarrel rfl ak_M_1 (show (vp_in 1 2880) ∧ Y_X12_isQuarrel d Q 11 [(0, .ref 0), (1, .int a1)] [.int (s.1 1 1), .int a1] s from ⟨by unfold vp_in; decide, ?_⟩))))
    refine Wp.r_icmp_ge (pc := 11) o_X12_isQuarrel rfl (fun c9 => ?_) (fun c9 => ?_)
    · have H := oq_t c9 H
      exact Wp.r_iconst (pc := 18) o_X12_isQuarrel rfl (Wp.r_ireturn (pc := 19) o_X12_isQuarrel rfl (⟨rfl, H⟩))
    · have H := oq_f c9 H
      exact Wp.r_iconst (pc := 14) o_X12_isQuarrel rfl (Wp.r_goto (pc := 15) o_X12_isQuarrel rfl (Wp.r_ireturn (pc := 19) o_X12_isQuarrel rfl (⟨rfl, H⟩)))
noncomputable abbrev Y_X12_quarrel (d : Nat) (Q : Qt) : Xt := Wp SHM (WpM SHM MT (d + 1)) (flat2 cq_X12_quarrel) (some .int) Q
noncomputable def f_X12_quarrel (a1 : Int32) (a2 : Int32) (s : Sg) : Option (Int32 × Sg) :=
  bd (f_X12_isQuarrel a1 s) (fun r1 s2 =>
  if r1 = 0 then
    bd (f_X12_refuse 1 s2) (fun r3 s4 =>
    some (r3, s4)
    )
  else
    if a2 < 0 then
      bd (f_X12_refuse 1 s2) (fun r5 s6 =>
      some (r5, s6)
      )
    else
      if 4 < a2 then
        bd (f_X12_refuse 1 s2) (fun r7 s8 =>
        some (r7, s8)
        )
      else
        bd (f_X12_quarrelRow a1 s2) (fun r9 s10 =>
        ck (inr (r9 + a2) 2880) (
        bd (f_X12_gives (s10.1 1 ((r9 + a2).toNatClampNeg)) s10) (fun r12 s13 =>
        some (r12, s13)
        )
        )
        )
  )
set_option maxRecDepth 100000 in
theorem w_X12_quarrel {d : Nat} {s : Sg} {Q : Qt} (a1 : Int32) (a2 : Int32) (H : OQ (f_X12_quarrel a1 a2 s) (fun r9 s9 => Q (some (.int r9)) s9)) : WpM SHM MT (d + 2) 250 [.ref 0, .int a1, .int a2] s Q := by
  refine WpM.enter me_X12_quarrel rfl rfl ?_
  show Y_X12_quarrel d Q 0 [(0, .ref 0), (1, .int a1), (2, .int a2)] [] s
  unfold f_X12_quarrel at H
  refine Wp.r_aload_n0 (pc := 0) o_X12_quarrel rfl rfl (Wp.r_iload_n1 (pc := 1) o_X12_quarrel rfl rfl (Wp.r_cv2 (pc := 2) o_X12_quarrel rfl fk_M_0_0 (⟨rm8_ rfl, ?_⟩)))
  refine w_X12_isQuarrel (d := d) _ ?_
  refine oq_bd H (fun r1 s2 H => ?_)
  refine Wp.r_if_eq (pc := 5) o_X12_quarrel rfl (fun c9 => ?_) (fun c9 => ?_)
  · have H := oq_t c9 H
    refine Wp.f_al0_iconst (pc := 35) o_X12_quarrel rfl rfl rfl (Wp.r_cv2 (pc := 37) o_X12_quarrel rfl fk_M_0_0 (⟨rm8_ rfl, ?_⟩))
    refine w_X12_refuse (d := d) _ ?_
    refine oq_bd H (fun r3 s4 H => ?_)
    exact Wp.r_ireturn (pc := 40) o_X12_quarrel rfl (⟨rfl, H⟩)
  · have H := oq_f c9 H
    refine Wp.r_iload_n2 (pc := 8) o_X12_quarrel rfl rfl (Wp.r_if_lt (pc := 9) o_X12_quarrel rfl (fun c9 => ?_) (fun c9 => ?_))
    · have H := oq_t c9 H
      refine Wp.f_al0_iconst (pc := 35) o_X12_quarrel rfl rfl rfl (Wp.r_cv2 (pc := 37) o_X12_quarrel rfl fk_M_0_0 (⟨rm8_ rfl, ?_⟩))
      refine w_X12_refuse (d := d) _ ?_
      refine oq_bd H (fun r5 s6 H => ?_)
      exact Wp.r_ireturn (pc := 40) o_X12_quarrel rfl (⟨rfl, H⟩)
    · have H := oq_f c9 H
      refine Wp.r_iload_n2 (pc := 12) o_X12_quarrel rfl rfl (Wp.r_iconst (pc := 13) o_X12_quarrel rfl (Wp.r_icmp_gt (pc := 14) o_X12_quarrel rfl (fun c9 => ?_) (fun c9 => ?_)))
      · have H := oq_t c9 H
        refine Wp.f_al0_iconst (pc := 35) o_X12_quarrel rfl rfl rfl (Wp.r_cv2 (pc := 37) o_X12_quarrel rfl fk_M_0_0 (⟨rm8_ rfl, ?_⟩))
        refine w_X12_refuse (d := d) _ ?_
        refine oq_bd H (fun r7 s8 H => ?_)
        exact Wp.r_ireturn (pc := 40) o_X12_quarrel rfl (⟨rfl, H⟩)
      · have H := oq_f c9 H
        refine Wp.r_aload_n0 (pc := 17) o_X12_quarrel rfl rfl (Wp.f_al0_gfr (pc := 18) o_X12_quarrel rfl rfl rfl fk_M_0_0 (Wp.r_iload_n1 (pc := 22) o_X12_quarrel rfl rfl (Wp.r_cs1 (pc := 23) o_X12_quarrel rfl (⟨rm8_ rfl, ?_⟩))))
        refine w_X12_quarrelRow (d := d) _ ?_
        refine oq_bd H (fun r9 s10 H => ?_)
        obtain ⟨hc11, H⟩ := oq_ck H
        refine Wp.r_iload_n2 (pc := 26) o_X12_quarrel rfl rfl (Wp.r_iadd (pc := 27) o_X12_quarrel rfl (Wp.r_iaload (pc := 28) o_X12_quarrel rfl ak_M_1 (⟨hc11, ?_⟩)))
        refine Wp.r_cv2 (pc := 29) o_X12_quarrel rfl fk_M_0_0 (⟨rm8_ rfl, ?_⟩)
        refine w_X12_gives (d := d) _ ?_
        refine oq_bd H (fun r12 s13 H => ?_)
        exact Wp.r_goto (pc := 32) o_X12_quarrel rfl (Wp.r_ireturn (pc := 40) o_X12_quarrel rfl (⟨rfl, H⟩))
noncomputable abbrev Y_X12_grocer (d : Nat) (Q : Qt) : Xt := Wp SHM (WpM SHM MT (d + 1)) (flat2 cq_X12_grocer) (some .int) Q
noncomputable def f_X12_grocer (a1 : Int32) (a2 : Int32) (s : Sg) : Option (Int32 × Sg) :=
  if a1 < 0 then
    bd (f_X12_refuse 1 s) (fun r1 s2 =>
    some (r1, s2)
    )
  else
    if (s.1 1 3) ≤ a1 then
      bd (f_X12_refuse 1 s) (fun r3 s4 =>
      some (r3, s4)
      )
    else
      if a2 < 0 then
        bd (f_X12_refuse 1 s) (fun r5 s6 =>
        some (r5, s6)
        )
      else
        if 2 < a2 then
          bd (f_X12_refuse 1 s) (fun r7 s8 =>
          some (r7, s8)
          )
        else
          ck (inr ((92 + (3 * a1)) + a2) 2880) (
          bd (f_X12_gives (s.1 1 (((92 + (3 * a1)) + a2).toNatClampNeg)) s) (fun r10 s11 =>
          some (r10, s11)
          )
          )
set_option maxRecDepth 100000 in
theorem w_X12_grocer {d : Nat} {s : Sg} {Q : Qt} (a1 : Int32) (a2 : Int32) (H : OQ (f_X12_grocer a1 a2 s) (fun r9 s9 => Q (some (.int r9)) s9)) : WpM SHM MT (d + 2) 251 [.ref 0, .int a1, .int a2] s Q := by
  refine WpM.enter me_X12_grocer rfl rfl ?_
  show Y_X12_grocer d Q 0 [(0, .ref 0), (1, .int a1), (2, .int a2)] [] s
  unfold f_X12_grocer at H
  refine Wp.r_iload_n1 (pc := 0) o_X12_grocer rfl rfl (Wp.r_if_lt (pc := 1) o_X12_grocer rfl (fun c9 => ?_) (fun c9 => ?_))
  · have H := oq_t c9 H
    refine Wp.f_al0_iconst (pc := 43) o_X12_grocer rfl rfl rfl (Wp.r_cv2 (pc := 45) o_X12_grocer rfl fk_M_0_0 (⟨rm8_ rfl, ?_⟩))
    refine w_X12_refuse (d := d) _ ?_
    refine oq_bd H (fun r1 s2 H => ?_)
    exact Wp.r_ireturn (pc := 48) o_X12_grocer rfl (⟨rfl, H⟩)
  · have H := oq_f c9 H
    refine Wp.r_iload_n1 (pc := 4) o_X12_grocer rfl rfl (Wp.f_al0_gfr (pc := 5) o_X12_grocer rfl rfl rfl fk_M_0_0 (Wp.r_iconst (pc := 9) o_X12_grocer rfl (Wp.r_iaload (pc := 10) o_X12_grocer rfl ak_M_1 (show (vp_in 3 2880) ∧ Y_X12_grocer d Q 11 [(0, .ref 0), (1, .int a1), (2, .int a2)] [.int (s.1 1 3), .int a1] s from ⟨by unfold vp_in; decide, ?_⟩))))
    refine Wp.r_icmp_ge (pc := 11) o_X12_grocer rfl (fun c9 => ?_) (fun c9 => ?_)
    · have H := oq_t c9 H
      refine Wp.f_al0_iconst (pc := 43) o_X12_grocer rfl rfl rfl (Wp.r_cv2 (pc := 45) o_X12_grocer rfl fk_M_0_0 (⟨rm8_ rfl, ?_⟩))
      refine w_X12_refuse (d := d) _ ?_
      refine oq_bd H (fun r3 s4 H => ?_)
      exact Wp.r_ireturn (pc := 48) o_X12_grocer rfl (⟨rfl, H⟩)
    · have H := oq_f c9 H
      refine Wp.r_iload_n2 (pc := 14) o_X12_grocer rfl rfl (Wp.r_if_lt (pc := 15) o_X12_grocer rfl (fun c9 => ?_) (fun c9 => ?_))
      · have H := oq_t c9 H
        refine Wp.f_al0_iconst (pc := 43) o_X12_grocer rfl rfl rfl (Wp.r_cv2 (pc := 45) o_X12_grocer rfl fk_M_0_0 (⟨rm8_ rfl, ?_⟩))
        refine w_X12_refuse (d := d) _ ?_
        refine oq_bd H (fun r5 s6 H => ?_)
        exact Wp.r_ireturn (pc := 48) o_X12_grocer rfl (⟨rfl, H⟩)
      · have H := oq_f c9 H
        refine Wp.r_iload_n2 (pc := 18) o_X12_grocer rfl rfl (Wp.r_iconst (pc := 19) o_X12_grocer rfl (Wp.r_icmp_gt (pc := 20) o_X12_grocer rfl (fun c9 => ?_) (fun c9 => ?_)))
        · have H := oq_t c9 H
          refine Wp.f_al0_iconst (pc := 43) o_X12_grocer rfl rfl rfl (Wp.r_cv2 (pc := 45) o_X12_grocer rfl fk_M_0_0 (⟨rm8_ rfl, ?_⟩))
          refine w_X12_refuse (d := d) _ ?_
          refine oq_bd H (fun r7 s8 H => ?_)
          exact Wp.r_ireturn (pc := 48) o_X12_grocer rfl (⟨rfl, H⟩)
        · have H := oq_f c9 H
          obtain ⟨hc9, H⟩ := oq_ck H
          refine Wp.r_aload_n0 (pc := 23) o_X12_grocer rfl rfl (Wp.f_al0_gfr (pc := 24) o_X12_grocer rfl rfl rfl fk_M_0_0 (Wp.r_bipush (pc := 28) o_X12_grocer rfl (Wp.r_iconst (pc := 30) o_X12_grocer rfl (Wp.r_iload_n1 (pc := 31) o_X12_grocer rfl rfl (Wp.r_imul (pc := 32) o_X12_grocer rfl (Wp.r_iadd (pc := 33) o_X12_grocer rfl (Wp.r_iload_n2 (pc := 34) o_X12_grocer rfl rfl (Wp.r_iadd (pc := 35) o_X12_grocer rfl (Wp.r_iaload (pc := 36) o_X12_grocer rfl ak_M_1 (⟨hc9, ?_⟩))))))))))
          refine Wp.r_cv2 (pc := 37) o_X12_grocer rfl fk_M_0_0 (⟨rm8_ rfl, ?_⟩)
          refine w_X12_gives (d := d) _ ?_
          refine oq_bd H (fun r10 s11 H => ?_)
          exact Wp.r_goto (pc := 40) o_X12_grocer rfl (Wp.r_ireturn (pc := 48) o_X12_grocer rfl (⟨rfl, H⟩))
noncomputable abbrev Y_X12_grainsOn (d : Nat) (Q : Qt) : Xt := Wp SHM (WpM SHM MT (d + 1)) (flat2 cq_X12_grainsOn) (some .int) Q
noncomputable def f_X12_grainsOn (a1 : Int32) (s : Sg) : Option (Int32 × Sg) :=
  bd (f_X12_houseRow a1 s) (fun r1 s2 =>
  ck (inr r1 2880) (
  bd (f_X12_houseRow a1 s2) (fun r4 s5 =>
  ck (inr (r4 + 1) 2880) (
  some ((s2.1 1 r1.toNatClampNeg) + (s5.1 1 ((r4 + 1).toNatClampNeg)), s5)
  )
  )
  )
  )
set_option maxRecDepth 100000 in
theorem w_X12_grainsOn {d : Nat} {s : Sg} {Q : Qt} (a1 : Int32) (H : OQ (f_X12_grainsOn a1 s) (fun r9 s9 => Q (some (.int r9)) s9)) : WpM SHM MT (d + 2) 244 [.ref 0, .int a1] s Q := by
  refine WpM.enter me_X12_grainsOn rfl rfl ?_
  show Y_X12_grainsOn d Q 0 [(0, .ref 0), (1, .int a1)] [] s
  unfold f_X12_grainsOn at H
  refine Wp.f_al0_gfr (pc := 0) o_X12_grainsOn rfl rfl rfl fk_M_0_0 (Wp.r_iload_n1 (pc := 4) o_X12_grainsOn rfl rfl (Wp.r_cs1 (pc := 5) o_X12_grainsOn rfl (⟨rm8_ rfl, ?_⟩)))
  refine w_X12_houseRow (d := d) _ ?_
  refine oq_bd H (fun r1 s2 H => ?_)
  obtain ⟨hc3, H⟩ := oq_ck H
  refine Wp.r_iaload (pc := 8) o_X12_grainsOn rfl ak_M_1 (⟨hc3, ?_⟩)
  refine Wp.f_al0_gfr (pc := 9) o_X12_grainsOn rfl rfl rfl fk_M_0_0 (Wp.r_iload_n1 (pc := 13) o_X12_grainsOn rfl rfl (Wp.r_cs1 (pc := 14) o_X12_grainsOn rfl (⟨rm8_ rfl, ?_⟩)))
  refine w_X12_houseRow (d := d) _ ?_
  refine oq_bd H (fun r4 s5 H => ?_)
  obtain ⟨hc6, H⟩ := oq_ck H
  refine Wp.r_iconst (pc := 17) o_X12_grainsOn rfl (Wp.r_iadd (pc := 18) o_X12_grainsOn rfl (Wp.r_iaload (pc := 19) o_X12_grainsOn rfl ak_M_1 (⟨hc6, ?_⟩)))
  exact Wp.r_iadd (pc := 20) o_X12_grainsOn rfl (Wp.r_ireturn (pc := 21) o_X12_grainsOn rfl (⟨rfl, H⟩))
noncomputable abbrev Y_X12_needOf (d : Nat) (Q : Qt) : Xt := Wp SHM (WpM SHM MT (d + 1)) (flat2 cq_X12_needOf) (some .int) Q
noncomputable def f_X12_needOf (a1 : Int32) (s : Sg) : Option (Int32 × Sg) :=
  if a1 = (s.1 0 24) then
    some (0, s)
  else
    bd (f_X12_quarrelRow a1 s) (fun r1 s2 =>
    ck (inr (r1 + 2) 2880) (
    some (s2.1 1 ((r1 + 2).toNatClampNeg), s2)
    )
    )
set_option maxRecDepth 100000 in
theorem w_X12_needOf {d : Nat} {s : Sg} {Q : Qt} (a1 : Int32) (H : OQ (f_X12_needOf a1 s) (fun r9 s9 => Q (some (.int r9)) s9)) : WpM SHM MT (d + 2) 253 [.ref 0, .int a1] s Q := by
  refine WpM.enter me_X12_needOf rfl rfl ?_
  show Y_X12_needOf d Q 0 [(0, .ref 0), (1, .int a1)] [] s
  unfold f_X12_needOf at H
  refine Wp.r_iload_n1 (pc := 0) o_X12_needOf rfl rfl (Wp.f_al0_gfi (pc := 1) o_X12_needOf rfl rfl rfl fk_M_0_24 (Wp.r_icmp_ne (pc := 5) o_X12_needOf rfl (fun c9 => ?_) (fun c9 => ?_)))
  · have H := oq_t c9 H
    exact Wp.r_iconst (pc := 8) o_X12_needOf rfl (Wp.r_goto (pc := 9) o_X12_needOf rfl (Wp.r_ireturn (pc := 23) o_X12_needOf rfl (⟨rfl, H⟩)))
  · have H := oq_f c9 H
    refine Wp.f_al0_gfr (pc := 12) o_X12_needOf rfl rfl rfl fk_M_0_0 (Wp.r_iload_n1 (pc := 16) o_X12_needOf rfl rfl (Wp.r_cs1 (pc := 17) o_X12_needOf rfl (⟨rm8_ rfl, ?_⟩)))
    refine w_X12_quarrelRow (d := d) _ ?_
    refine oq_bd H (fun r1 s2 H => ?_)
    obtain ⟨hc3, H⟩ := oq_ck H
    refine Wp.r_iconst (pc := 20) o_X12_needOf rfl (Wp.r_iadd (pc := 21) o_X12_needOf rfl (Wp.r_iaload (pc := 22) o_X12_needOf rfl ak_M_1 (⟨hc3, ?_⟩)))
    exact Wp.r_ireturn (pc := 23) o_X12_needOf rfl (⟨rfl, H⟩)
noncomputable abbrev Y_X12_hasAt (d : Nat) (Q : Qt) : Xt := Wp SHM (WpM SHM MT (d + 3)) (flat2 cq_X12_hasAt) (some .int) Q
noncomputable def f_X12_hasAt_b27 : Nat → Int32 → Int32 → Int32 → Int32 → Sg → Option (Int32 × Sg)
  | 0, _, _, _, _, _ => none
  | n + 1, v1, v2, v3, v4, s =>
    if v1 ≤ v4 then
      bd (f_X12_needOf v1 s) (fun r6 s7 =>
      some (if r6 < v3 then r6 else v3, s7)
      )
    else
      bd (f_X12_isAt v4 v2 s) (fun r8 s9 =>
      if r8 = 0 then
        (f_X12_hasAt_b27 n) v1 v2 (v3 - 0) (v4 + 1) s9
      else
        bd (f_X12_needOf v4 s9) (fun r10 s11 =>
        nmx (v3 - (if r10 < v3 then r10 else v3) : Int32) (fun x12 =>
        (f_X12_hasAt_b27 n) v1 v2 x12 (v4 + 1) s11
        )
        )
      )
set_option maxRecDepth 100000 in
theorem w_X12_hasAt_b27 {d : Nat} {Q : Qt} (n : Nat) : ∀ (v1 : Int32) (v2 : Int32) (v3 : Int32) (v4 : Int32) (s : Sg), OQ (f_X12_hasAt_b27 n v1 v2 v3 v4 s) (fun r9 s9 => Q (some (.int r9)) s9) → Y_X12_hasAt d Q 27 [(0, .ref 0), (1, .int v1), (2, .int v2), (3, .int v3), (4, .int v4)] [] s := by
  induction n with
  | zero => intro v1 v2 v3 v4 s H; exact H.elim
  | succ n ih =>
    intro v1 v2 v3 v4 s H
    unfold f_X12_hasAt_b27 at H
    refine Wp.r_iload (pc := 27) o_X12_hasAt rfl rfl (Wp.r_iload_n1 (pc := 29) o_X12_hasAt rfl rfl (Wp.r_icmp_ge (pc := 30) o_X12_hasAt rfl (fun c9 => ?_) (fun c9 => ?_)))
    · have H := oq_t c9 H
      refine Wp.r_iload_n3 (pc := 66) o_X12_hasAt rfl rfl (Wp.r_aload_n0 (pc := 67) o_X12_hasAt rfl rfl (Wp.r_iload_n1 (pc := 68) o_X12_hasAt rfl rfl (Wp.r_cv2 (pc := 69) o_X12_hasAt rfl fk_M_0_0 (⟨rm8_ rfl, ?_⟩))))
      refine w_X12_needOf (d := d + 1) _ ?_
      refine oq_bd H (fun r6 s7 H => ?_)
      refine Wp.r_min (pc := 72) o_X12_hasAt rfl (⟨rm8_ rfl, ?_⟩)
      exact Wp.r_ireturn (pc := 75) o_X12_hasAt rfl (⟨rfl, H⟩)
    · have H := oq_f c9 H
      refine Wp.r_iload_n3 (pc := 33) o_X12_hasAt rfl rfl (Wp.r_aload_n0 (pc := 34) o_X12_hasAt rfl rfl (Wp.r_iload (pc := 35) o_X12_hasAt rfl rfl (Wp.r_iload_n2 (pc := 37) o_X12_hasAt rfl rfl (Wp.r_cv3 (pc := 38) o_X12_hasAt rfl fk_M_0_0 (⟨rm8_ rfl, ?_⟩)))))
      refine w_X12_isAt (d := d) _ _ ?_
      refine oq_bd H (fun r8 s9 H => ?_)
      refine Wp.r_if_eq (pc := 41) o_X12_hasAt rfl (fun c9 => ?_) (fun c9 => ?_)
      · have H := oq_t c9 H
        exact Wp.r_iconst (pc := 57) o_X12_hasAt rfl (Wp.r_isub (pc := 58) o_X12_hasAt rfl (Wp.r_istore_n3 (pc := 59) o_X12_hasAt rfl (Wp.f_iinc_goto (pc := 60) o_X12_hasAt rfl rfl rfl (Wp.weak2 [2, 3, 4, 1, 0] (ih _ _ _ _ _ H) rfl))))
      · have H := oq_f c9 H
        refine Wp.r_iload_n3 (pc := 44) o_X12_hasAt rfl rfl (Wp.r_aload_n0 (pc := 45) o_X12_hasAt rfl rfl (Wp.r_iload (pc := 46) o_X12_hasAt rfl rfl (Wp.r_cv2 (pc := 48) o_X12_hasAt rfl fk_M_0_0 (⟨rm8_ rfl, ?_⟩))))
        refine w_X12_needOf (d := d + 1) _ ?_
        refine oq_bd H (fun r10 s11 H => ?_)
        refine Wp.r_min (pc := 51) o_X12_hasAt rfl (⟨rm8_ rfl, ?_⟩)
        refine Wp.r_goto (pc := 54) o_X12_hasAt rfl (Wp.r_isub (pc := 58) o_X12_hasAt rfl (Wp.r_istore_n3 (pc := 59) o_X12_hasAt rfl (show Y_X12_hasAt d Q 60 [(3, .int (v3 - (if r10 < v3 then r10 else v3))), (0, .ref 0), (1, .int v1), (2, .int v2), (4, .int v4)] [] s11 from ?_)))
        revert H
        generalize (v3 - (if r10 < v3 then r10 else v3) : Int32) = x12
        intro H
        have H := nmx_e H
        exact Wp.f_iinc_goto (pc := 60) o_X12_hasAt rfl rfl rfl (Wp.weak2 [2, 3, 4, 1, 0] (ih _ _ _ _ _ H) rfl)
noncomputable def f_X12_hasAt (a1 : Int32) (a2 : Int32) (s : Sg) : Option (Int32 × Sg) :=
  bd (f_X12_houseRow a2 s) (fun r1 s2 =>
  ck (inr (r1 + 2) 2880) (
  if (s2.1 1 ((r1 + 2).toNatClampNeg)) ≤ 0 then
    bd (f_X12_grainsOn a2 s2) (fun r4 s5 =>
    f_X12_hasAt_b27 BIG a1 a2 r4 0 s5
    )
  else
    f_X12_hasAt_b27 BIG a1 a2 0 0 s2
  )
  )
set_option maxRecDepth 100000 in
theorem w_X12_hasAt {d : Nat} {s : Sg} {Q : Qt} (a1 : Int32) (a2 : Int32) (H : OQ (f_X12_hasAt a1 a2 s) (fun r9 s9 => Q (some (.int r9)) s9)) : WpM SHM MT (d + 4) 254 [.ref 0, .int a1, .int a2] s Q := by
  refine WpM.enter me_X12_hasAt rfl rfl ?_
  show Y_X12_hasAt d Q 0 [(0, .ref 0), (1, .int a1), (2, .int a2)] [] s
  unfold f_X12_hasAt at H
  refine Wp.f_al0_gfr (pc := 0) o_X12_hasAt rfl rfl rfl fk_M_0_0 (Wp.r_iload_n2 (pc := 4) o_X12_hasAt rfl rfl (Wp.r_cs1 (pc := 5) o_X12_hasAt rfl (⟨rm8_ rfl, ?_⟩)))
  refine w_X12_houseRow (d := d + 2) _ ?_
  refine oq_bd H (fun r1 s2 H => ?_)
  obtain ⟨hc3, H⟩ := oq_ck H
  refine Wp.r_iconst (pc := 8) o_X12_hasAt rfl (Wp.r_iadd (pc := 9) o_X12_hasAt rfl (Wp.r_iaload (pc := 10) o_X12_hasAt rfl ak_M_1 (⟨hc3, ?_⟩)))
  refine Wp.r_if_le (pc := 11) o_X12_hasAt rfl (fun c9 => ?_) (fun c9 => ?_)
  · have H := oq_t c9 H
    refine Wp.r_aload_n0 (pc := 18) o_X12_hasAt rfl rfl (Wp.r_iload_n2 (pc := 19) o_X12_hasAt rfl rfl (Wp.r_cv2 (pc := 20) o_X12_hasAt rfl fk_M_0_0 (⟨rm8_ rfl, ?_⟩)))
    refine w_X12_grainsOn (d := d + 1) _ ?_
    refine oq_bd H (fun r4 s5 H => ?_)
    exact Wp.r_istore_n3 (pc := 23) o_X12_hasAt rfl (Wp.r_iconst (pc := 24) o_X12_hasAt rfl (Wp.r_istore (pc := 25) o_X12_hasAt rfl (Wp.weak2 [2, 3, 4, 1, 0] (w_X12_hasAt_b27 _ _ _ _ _ _ H) rfl)))
  · have H := oq_f c9 H
    exact Wp.r_iconst (pc := 14) o_X12_hasAt rfl (Wp.r_goto (pc := 15) o_X12_hasAt rfl (Wp.r_istore_n3 (pc := 23) o_X12_hasAt rfl (Wp.r_iconst (pc := 24) o_X12_hasAt rfl (Wp.r_istore (pc := 25) o_X12_hasAt rfl (Wp.weak2 [2, 3, 4, 1, 0] (w_X12_hasAt_b27 _ _ _ _ _ _ H) rfl)))))
noncomputable abbrev Y_X12_share (d : Nat) (Q : Qt) : Xt := Wp SHM (WpM SHM MT (d + 4)) (flat2 cq_X12_share) (some .int) Q
noncomputable def f_X12_share (a1 : Int32) (a2 : Int32) (s : Sg) : Option (Int32 × Sg) :=
  bd (f_X12_isQuarrel a1 s) (fun r1 s2 =>
  if r1 = 0 then
    bd (f_X12_refuse 1 s2) (fun r3 s4 =>
    some (r3, s4)
    )
  else
    if a2 < 0 then
      bd (f_X12_refuse 1 s2) (fun r5 s6 =>
      some (r5, s6)
      )
    else
      if a2 ≤ 1 then
        bd (f_X12_quarrelHouse a1 a2 s2) (fun r7 s8 =>
        ck (inr r7 2880) (
        bd (f_X12_isGone (s8.1 1 r7.toNatClampNeg) s8) (fun r10 s11 =>
        if r10 = 0 then
          bd (f_X12_hasAt a1 (s8.1 1 r7.toNatClampNeg) s11) (fun r12 s13 =>
          bd (f_X12_gives r12 s13) (fun r14 s15 =>
          some (r14, s15)
          )
          )
        else
          bd (f_X12_refuse 7 s11) (fun r16 s17 =>
          some (r16, s17)
          )
        )
        )
        )
      else
        bd (f_X12_refuse 1 s2) (fun r18 s19 =>
        some (r18, s19)
        )
  )
set_option maxRecDepth 100000 in
theorem w_X12_share {d : Nat} {s : Sg} {Q : Qt} (a1 : Int32) (a2 : Int32) (H : OQ (f_X12_share a1 a2 s) (fun r9 s9 => Q (some (.int r9)) s9)) : WpM SHM MT (d + 5) 260 [.ref 0, .int a1, .int a2] s Q := by
  refine WpM.enter me_X12_share rfl rfl ?_
  show Y_X12_share d Q 0 [(0, .ref 0), (1, .int a1), (2, .int a2)] [] s
  unfold f_X12_share at H
  refine Wp.r_aload_n0 (pc := 0) o_X12_share rfl rfl (Wp.r_iload_n1 (pc := 1) o_X12_share rfl rfl (Wp.r_cv2 (pc := 2) o_X12_share rfl fk_M_0_0 (⟨rm8_ rfl, ?_⟩)))
  refine w_X12_isQuarrel (d := d + 3) _ ?_
  refine oq_bd H (fun r1 s2 H => ?_)
  refine Wp.r_if_eq (pc := 5) o_X12_share rfl (fun c9 => ?_) (fun c9 => ?_)
  · have H := oq_t c9 H
    refine Wp.f_al0_iconst (pc := 17) o_X12_share rfl rfl rfl (Wp.r_cv2 (pc := 19) o_X12_share rfl fk_M_0_0 (⟨rm8_ rfl, ?_⟩))
    refine w_X12_refuse (d := d + 3) _ ?_
    refine oq_bd H (fun r3 s4 H => ?_)
    exact Wp.r_ireturn (pc := 22) o_X12_share rfl (⟨rfl, H⟩)
  · have H := oq_f c9 H
    refine Wp.r_iload_n2 (pc := 8) o_X12_share rfl rfl (Wp.r_if_lt (pc := 9) o_X12_share rfl (fun c9 => ?_) (fun c9 => ?_))
    · have H := oq_t c9 H
      refine Wp.f_al0_iconst (pc := 17) o_X12_share rfl rfl rfl (Wp.r_cv2 (pc := 19) o_X12_share rfl fk_M_0_0 (⟨rm8_ rfl, ?_⟩))
      refine w_X12_refuse (d := d + 3) _ ?_
      refine oq_bd H (fun r5 s6 H => ?_)
      exact Wp.r_ireturn (pc := 22) o_X12_share rfl (⟨rfl, H⟩)
    · have H := oq_f c9 H
      refine Wp.r_iload_n2 (pc := 12) o_X12_share rfl rfl (Wp.r_iconst (pc := 13) o_X12_share rfl (Wp.r_icmp_le (pc := 14) o_X12_share rfl (fun c9 => ?_) (fun c9 => ?_)))
      · have H := oq_t c9 H
        refine Wp.f_al0_gfr (pc := 23) o_X12_share rfl rfl rfl fk_M_0_0 (Wp.r_iload_n1 (pc := 27) o_X12_share rfl rfl (Wp.r_iload_n2 (pc := 28) o_X12_share rfl rfl (Wp.r_cs2 (pc := 29) o_X12_share rfl (⟨rm8_ rfl, ?_⟩))))
        refine w_X12_quarrelHouse (d := d + 2) _ _ ?_
        refine oq_bd H (fun r7 s8 H => ?_)
        obtain ⟨hc9, H⟩ := oq_ck H
        refine Wp.r_iaload (pc := 32) o_X12_share rfl ak_M_1 (⟨hc9, ?_⟩)
        refine Wp.r_istore_n3 (pc := 33) o_X12_share rfl (Wp.r_aload_n0 (pc := 34) o_X12_share rfl rfl (Wp.r_iload_n3 (pc := 35) o_X12_share rfl rfl (Wp.r_cv2 (pc := 36) o_X12_share rfl fk_M_0_0 (⟨rm8_ rfl, ?_⟩))))
        refine w_X12_isGone (d := d + 3) _ ?_
        refine oq_bd H (fun r10 s11 H => ?_)
        refine Wp.r_if_eq (pc := 39) o_X12_share rfl (fun c9 => ?_) (fun c9 => ?_)
        · have H := oq_t c9 H
          refine Wp.r_aload_n0 (pc := 51) o_X12_share rfl rfl (Wp.r_aload_n0 (pc := 52) o_X12_share rfl rfl (Wp.r_iload_n1 (pc := 53) o_X12_share rfl rfl (Wp.r_iload_n3 (pc := 54) o_X12_share rfl rfl (Wp.r_cv3 (pc := 55) o_X12_share rfl fk_M_0_0 (⟨rm8_ rfl, ?_⟩)))))
          refine w_X12_hasAt (d := d) _ _ ?_
          refine oq_bd H (fun r12 s13 H => ?_)
          refine Wp.r_cv2 (pc := 58) o_X12_share rfl fk_M_0_0 (⟨rm8_ rfl, ?_⟩)
          refine w_X12_gives (d := d + 3) _ ?_
          refine oq_bd H (fun r14 s15 H => ?_)
          exact Wp.r_ireturn (pc := 61) o_X12_share rfl (⟨rfl, H⟩)
        · have H := oq_f c9 H
          refine Wp.r_aload_n0 (pc := 42) o_X12_share rfl rfl (Wp.r_bipush (pc := 43) o_X12_share rfl (Wp.r_cv2 (pc := 45) o_X12_share rfl fk_M_0_0 (⟨rm8_ rfl, ?_⟩)))
          refine w_X12_refuse (d := d + 3) _ ?_
          refine oq_bd H (fun r16 s17 H => ?_)
          exact Wp.r_goto (pc := 48) o_X12_share rfl (Wp.r_ireturn (pc := 61) o_X12_share rfl (⟨rfl, H⟩))
      · have H := oq_f c9 H
        refine Wp.f_al0_iconst (pc := 17) o_X12_share rfl rfl rfl (Wp.r_cv2 (pc := 19) o_X12_share rfl fk_M_0_0 (⟨rm8_ rfl, ?_⟩))
        refine w_X12_refuse (d := d + 3) _ ?_
        refine oq_bd H (fun r18 s19 H => ?_)
        exact Wp.r_ireturn (pc := 22) o_X12_share rfl (⟨rfl, H⟩)
noncomputable abbrev Y_X12_whose (d : Nat) (Q : Qt) : Xt := Wp SHM (WpM SHM MT (d + 4)) (flat2 cq_X12_whose) (some .int) Q
noncomputable def f_X12_whose_b30 : Nat → Int32 → Int32 → Int32 → Sg → Option (Int32 × Sg)
  | 0, _, _, _, _ => none
  | n + 1, v1, v4, v5, s =>
    if (s.1 1 1) ≤ v5 then
      bd (f_X12_refuse 6 s) (fun r3 s4 =>
      some (r3, s4)
      )
    else
      bd (f_X12_isAt v5 v1 s) (fun r5 s6 =>
      if r5 = 0 then
        (f_X12_whose_b30 n) v1 v4 (v5 + 1) s6
      else
        bd (f_X12_hasAt v5 v1 s6) (fun r7 s8 =>
        if r7 ≤ v4 then
          bd (f_X12_hasAt v5 v1 s8) (fun r9 s10 =>
          (f_X12_whose_b30 n) v1 (v4 - r9) (v5 + 1) s10
          )
        else
          bd (f_X12_gives v5 s8) (fun r11 s12 =>
          some (r11, s12)
          )
        )
      )
set_option maxRecDepth 100000 in
theorem w_X12_whose_b30 {d : Nat} {Q : Qt} (n : Nat) : ∀ (v1 : Int32) (v4 : Int32) (v5 : Int32) (s : Sg), OQ (f_X12_whose_b30 n v1 v4 v5 s) (fun r9 s9 => Q (some (.int r9)) s9) → Y_X12_whose d Q 30 [(0, .ref 0), (1, .int v1), (4, .int v4), (5, .int v5)] [] s := by
  induction n with
  | zero => intro v1 v4 v5 s H; exact H.elim
  | succ n ih =>
    intro v1 v4 v5 s H
    unfold f_X12_whose_b30 at H
    refine Wp.r_iload (pc := 30) o_X12_whose rfl rfl (Wp.f_al0_gfr (pc := 32) o_X12_whose rfl rfl rfl fk_M_0_0 (Wp.r_iconst (pc := 36) o_X12_whose rfl (Wp.r_iaload (pc := 37) o_X12_whose rfl ak_M_1 (show (vp_in 1 2880) ∧ Y_X12_whose d Q 38 [(0, .ref 0), (1, .int v1), (4, .int v4), (5, .int v5)] [.int (s.1 1 1), .int v5] s from ⟨by unfold vp_in; decide, ?_⟩))))
    refine Wp.r_icmp_ge (pc := 38) o_X12_whose rfl (fun c9 => ?_) (fun c9 => ?_)
    · have H := oq_t c9 H
      refine Wp.r_aload_n0 (pc := 91) o_X12_whose rfl rfl (Wp.r_bipush (pc := 92) o_X12_whose rfl (Wp.r_cv2 (pc := 94) o_X12_whose rfl fk_M_0_0 (⟨rm8_ rfl, ?_⟩)))
      refine w_X12_refuse (d := d + 3) _ ?_
      refine oq_bd H (fun r3 s4 H => ?_)
      exact Wp.r_ireturn (pc := 97) o_X12_whose rfl (⟨rfl, H⟩)
    · have H := oq_f c9 H
      refine Wp.r_aload_n0 (pc := 41) o_X12_whose rfl rfl (Wp.r_iload (pc := 42) o_X12_whose rfl rfl (Wp.r_iload_n1 (pc := 44) o_X12_whose rfl rfl (Wp.r_cv3 (pc := 45) o_X12_whose rfl fk_M_0_0 (⟨rm8_ rfl, ?_⟩))))
      refine w_X12_isAt (d := d + 1) _ _ ?_
      refine oq_bd H (fun r5 s6 H => ?_)
      refine Wp.r_if_ne (pc := 48) o_X12_whose rfl (fun c9 => ?_) (fun c9 => ?_)
      · have H := oq_t c9 H
        exact Wp.r_goto (pc := 51) o_X12_whose rfl (Wp.f_iinc_goto (pc := 85) o_X12_whose rfl rfl rfl (Wp.weak2 [1, 2, 3, 0] (ih _ _ _ _ H) rfl))
      · have H := oq_f c9 H
        refine Wp.r_iload (pc := 54) o_X12_whose rfl rfl (Wp.r_aload_n0 (pc := 56) o_X12_whose rfl rfl (Wp.r_iload (pc := 57) o_X12_whose rfl rfl (Wp.r_iload_n1 (pc := 59) o_X12_whose rfl rfl (Wp.r_cv3 (pc := 60) o_X12_whose rfl fk_M_0_0 (⟨rm8_ rfl, ?_⟩)))))
        refine w_X12_hasAt (d := d) _ _ ?_
        refine oq_bd H (fun r7 s8 H => ?_)
        refine Wp.r_icmp_ge (pc := 63) o_X12_whose rfl (fun c9 => ?_) (fun c9 => ?_)
        · have H := oq_t c9 H
          refine Wp.r_iload (pc := 73) o_X12_whose rfl rfl (Wp.r_aload_n0 (pc := 75) o_X12_whose rfl rfl (Wp.r_iload (pc := 76) o_X12_whose rfl rfl (Wp.r_iload_n1 (pc := 78) o_X12_whose rfl rfl (Wp.r_cv3 (pc := 79) o_X12_whose rfl fk_M_0_0 (⟨rm8_ rfl, ?_⟩)))))
          refine w_X12_hasAt (d := d) _ _ ?_
          refine oq_bd H (fun r9 s10 H => ?_)
          exact Wp.r_isub (pc := 82) o_X12_whose rfl (Wp.r_istore (pc := 83) o_X12_whose rfl (Wp.f_iinc_goto (pc := 85) o_X12_whose rfl rfl rfl (Wp.weak2 [2, 3, 1, 0] (ih _ _ _ _ H) rfl)))
        · have H := oq_f c9 H
          refine Wp.r_aload_n0 (pc := 66) o_X12_whose rfl rfl (Wp.r_iload (pc := 67) o_X12_whose rfl rfl (Wp.r_cv2 (pc := 69) o_X12_whose rfl fk_M_0_0 (⟨rm8_ rfl, ?_⟩)))
          refine w_X12_gives (d := d + 3) _ ?_
          refine oq_bd H (fun r11 s12 H => ?_)
          exact Wp.r_ireturn (pc := 72) o_X12_whose rfl (⟨rfl, H⟩)
noncomputable def f_X12_whose_b13 (v1 : Int32) (v2 : Int32) (t0 : Int32) (s : Sg) : Option (Int32 × Sg) :=
  if t0 ≤ 0 then
    f_X12_whose_b30 BIG v1 v2 0 s
  else
    bd (f_X12_refuse t0 s) (fun r13 s14 =>
    some (r13, s14)
    )
set_option maxRecDepth 100000 in
theorem w_X12_whose_b13 {d : Nat} {Q : Qt} (v1 : Int32) (v2 : Int32) (t0 : Int32) (s : Sg) (H : OQ (f_X12_whose_b13 v1 v2 t0 s) (fun r9 s9 => Q (some (.int r9)) s9)) : Y_X12_whose d Q 13 [(0, .ref 0), (1, .int v1), (2, .int v2)] [.int t0] s := by
  unfold f_X12_whose_b13 at H
  refine Wp.r_istore_n3 (pc := 13) o_X12_whose rfl (Wp.r_iload_n3 (pc := 14) o_X12_whose rfl rfl (Wp.r_if_le (pc := 15) o_X12_whose rfl (fun c9 => ?_) (fun c9 => ?_)))
  · have H := oq_t c9 H
    exact Wp.r_iload_n2 (pc := 24) o_X12_whose rfl rfl (Wp.r_istore (pc := 25) o_X12_whose rfl (Wp.r_iconst (pc := 27) o_X12_whose rfl (Wp.r_istore (pc := 28) o_X12_whose rfl (Wp.weak2 [3, 4, 1, 0] (w_X12_whose_b30 _ _ _ _ _ H) rfl))))
  · have H := oq_f c9 H
    refine Wp.r_aload_n0 (pc := 18) o_X12_whose rfl rfl (Wp.r_iload_n3 (pc := 19) o_X12_whose rfl rfl (Wp.r_cv2 (pc := 20) o_X12_whose rfl fk_M_0_0 (⟨rm8_ rfl, ?_⟩)))
    refine w_X12_refuse (d := d + 3) _ ?_
    refine oq_bd H (fun r13 s14 H => ?_)
    exact Wp.r_ireturn (pc := 23) o_X12_whose rfl (⟨rfl, H⟩)
noncomputable def f_X12_whose (a1 : Int32) (a2 : Int32) (s : Sg) : Option (Int32 × Sg) :=
  if 0 ≤ a2 then
    bd (f_X12_wrongStep a1 s) (fun r1 s2 =>
    f_X12_whose_b13 a1 a2 r1 s2
    )
  else
    f_X12_whose_b13 a1 a2 1 s
set_option maxRecDepth 100000 in
theorem w_X12_whose {d : Nat} {s : Sg} {Q : Qt} (a1 : Int32) (a2 : Int32) (H : OQ (f_X12_whose a1 a2 s) (fun r9 s9 => Q (some (.int r9)) s9)) : WpM SHM MT (d + 5) 261 [.ref 0, .int a1, .int a2] s Q := by
  refine WpM.enter me_X12_whose rfl rfl ?_
  show Y_X12_whose d Q 0 [(0, .ref 0), (1, .int a1), (2, .int a2)] [] s
  unfold f_X12_whose at H
  refine Wp.r_iload_n2 (pc := 0) o_X12_whose rfl rfl (Wp.r_if_ge (pc := 1) o_X12_whose rfl (fun c9 => ?_) (fun c9 => ?_))
  · have H := oq_t c9 H
    refine Wp.r_aload_n0 (pc := 8) o_X12_whose rfl rfl (Wp.r_iload_n1 (pc := 9) o_X12_whose rfl rfl (Wp.r_cv2 (pc := 10) o_X12_whose rfl fk_M_0_0 (⟨rm8_ rfl, ?_⟩)))
    refine w_X12_wrongStep (d := d + 2) _ ?_
    refine oq_bd H (fun r1 s2 H => ?_)
    exact Wp.weak2 [0, 1, 2] (w_X12_whose_b13 _ _ _ _ H) rfl
  · have H := oq_f c9 H
    exact Wp.r_iconst (pc := 4) o_X12_whose rfl (Wp.r_goto (pc := 5) o_X12_whose rfl (Wp.weak2 [0, 1, 2] (w_X12_whose_b13 _ _ _ _ H) rfl))
noncomputable abbrev Y_X12_nobodys (d : Nat) (Q : Qt) : Xt := Wp SHM (WpM SHM MT (d + 4)) (flat2 cq_X12_nobodys) (some .int) Q
noncomputable def f_X12_nobodys_b25 : Nat → Int32 → Int32 → Int32 → Sg → Option (Int32 × Sg)
  | 0, _, _, _, _ => none
  | n + 1, v1, v3, v4, s =>
    if (s.1 1 1) ≤ v4 then
      bd (f_X12_gives v3 s) (fun r5 s6 =>
      some (r5, s6)
      )
    else
      bd (f_X12_isAt v4 v1 s) (fun r7 s8 =>
      if r7 = 0 then
        (f_X12_nobodys_b25 n) v1 (v3 - 0) (v4 + 1) s8
      else
        bd (f_X12_hasAt v4 v1 s8) (fun r9 s10 =>
        (f_X12_nobodys_b25 n) v1 (v3 - r9) (v4 + 1) s10
        )
      )
set_option maxRecDepth 100000 in
theorem w_X12_nobodys_b25 {d : Nat} {Q : Qt} (n : Nat) : ∀ (v1 : Int32) (v3 : Int32) (v4 : Int32) (s : Sg), OQ (f_X12_nobodys_b25 n v1 v3 v4 s) (fun r9 s9 => Q (some (.int r9)) s9) → Y_X12_nobodys d Q 25 [(0, .ref 0), (1, .int v1), (3, .int v3), (4, .int v4)] [] s := by
  induction n with
  | zero => intro v1 v3 v4 s H; exact H.elim
  | succ n ih =>
    intro v1 v3 v4 s H
    unfold f_X12_nobodys_b25 at H
    refine Wp.r_iload (pc := 25) o_X12_nobodys rfl rfl (Wp.f_al0_gfr (pc := 27) o_X12_nobodys rfl rfl rfl fk_M_0_0 (Wp.r_iconst (pc := 31) o_X12_nobodys rfl (Wp.r_iaload (pc := 32) o_X12_nobodys rfl ak_M_1 (show (vp_in 1 2880) ∧ Y_X12_nobodys d Q 33 [(0, .ref 0), (1, .int v1), (3, .int v3), (4, .int v4)] [.int (s.1 1 1), .int v4] s from ⟨by unfold vp_in; decide, ?_⟩))))
    refine Wp.r_icmp_ge (pc := 33) o_X12_nobodys rfl (fun c9 => ?_) (fun c9 => ?_)
    · have H := oq_t c9 H
      refine Wp.r_aload_n0 (pc := 66) o_X12_nobodys rfl rfl (Wp.r_iload_n3 (pc := 67) o_X12_nobodys rfl rfl (Wp.r_cv2 (pc := 68) o_X12_nobodys rfl fk_M_0_0 (⟨rm8_ rfl, ?_⟩)))
      refine w_X12_gives (d := d + 3) _ ?_
      refine oq_bd H (fun r5 s6 H => ?_)
      exact Wp.r_ireturn (pc := 71) o_X12_nobodys rfl (⟨rfl, H⟩)
    · have H := oq_f c9 H
      refine Wp.r_iload_n3 (pc := 36) o_X12_nobodys rfl rfl (Wp.r_aload_n0 (pc := 37) o_X12_nobodys rfl rfl (Wp.r_iload (pc := 38) o_X12_nobodys rfl rfl (Wp.r_iload_n1 (pc := 40) o_X12_nobodys rfl rfl (Wp.r_cv3 (pc := 41) o_X12_nobodys rfl fk_M_0_0 (⟨rm8_ rfl, ?_⟩)))))
      refine w_X12_isAt (d := d + 1) _ _ ?_
      refine oq_bd H (fun r7 s8 H => ?_)
      refine Wp.r_if_eq (pc := 44) o_X12_nobodys rfl (fun c9 => ?_) (fun c9 => ?_)
      · have H := oq_t c9 H
        exact Wp.r_iconst (pc := 57) o_X12_nobodys rfl (Wp.r_isub (pc := 58) o_X12_nobodys rfl (Wp.r_istore_n3 (pc := 59) o_X12_nobodys rfl (Wp.f_iinc_goto (pc := 60) o_X12_nobodys rfl rfl rfl (Wp.weak2 [2, 3, 1, 0] (ih _ _ _ _ H) rfl))))
      · have H := oq_f c9 H
        refine Wp.r_aload_n0 (pc := 47) o_X12_nobodys rfl rfl (Wp.r_iload (pc := 48) o_X12_nobodys rfl rfl (Wp.r_iload_n1 (pc := 50) o_X12_nobodys rfl rfl (Wp.r_cv3 (pc := 51) o_X12_nobodys rfl fk_M_0_0 (⟨rm8_ rfl, ?_⟩))))
        refine w_X12_hasAt (d := d) _ _ ?_
        refine oq_bd H (fun r9 s10 H => ?_)
        exact Wp.r_goto (pc := 54) o_X12_nobodys rfl (Wp.r_isub (pc := 58) o_X12_nobodys rfl (Wp.r_istore_n3 (pc := 59) o_X12_nobodys rfl (Wp.f_iinc_goto (pc := 60) o_X12_nobodys rfl rfl rfl (Wp.weak2 [2, 3, 1, 0] (ih _ _ _ _ H) rfl))))
noncomputable def f_X12_nobodys (a1 : Int32) (s : Sg) : Option (Int32 × Sg) :=
  bd (f_X12_wrongStep a1 s) (fun r1 s2 =>
  if r1 ≤ 0 then
    bd (f_X12_grainsOn a1 s2) (fun r3 s4 =>
    f_X12_nobodys_b25 BIG a1 r3 0 s4
    )
  else
    bd (f_X12_refuse r1 s2) (fun r11 s12 =>
    some (r11, s12)
    )
  )
set_option maxRecDepth 100000 in
theorem w_X12_nobodys {d : Nat} {s : Sg} {Q : Qt} (a1 : Int32) (H : OQ (f_X12_nobodys a1 s) (fun r9 s9 => Q (some (.int r9)) s9)) : WpM SHM MT (d + 5) 262 [.ref 0, .int a1] s Q := by
  refine WpM.enter me_X12_nobodys rfl rfl ?_
  show Y_X12_nobodys d Q 0 [(0, .ref 0), (1, .int a1)] [] s
  unfold f_X12_nobodys at H
  refine Wp.r_aload_n0 (pc := 0) o_X12_nobodys rfl rfl (Wp.r_iload_n1 (pc := 1) o_X12_nobodys rfl rfl (Wp.r_cv2 (pc := 2) o_X12_nobodys rfl fk_M_0_0 (⟨rm8_ rfl, ?_⟩)))
  refine w_X12_wrongStep (d := d + 2) _ ?_
  refine oq_bd H (fun r1 s2 H => ?_)
  refine Wp.r_istore_n2 (pc := 5) o_X12_nobodys rfl (Wp.r_iload_n2 (pc := 6) o_X12_nobodys rfl rfl (Wp.r_if_le (pc := 7) o_X12_nobodys rfl (fun c9 => ?_) (fun c9 => ?_)))
  · have H := oq_t c9 H
    refine Wp.r_aload_n0 (pc := 16) o_X12_nobodys rfl rfl (Wp.r_iload_n1 (pc := 17) o_X12_nobodys rfl rfl (Wp.r_cv2 (pc := 18) o_X12_nobodys rfl fk_M_0_0 (⟨rm8_ rfl, ?_⟩)))
    refine w_X12_grainsOn (d := d + 2) _ ?_
    refine oq_bd H (fun r3 s4 H => ?_)
    exact Wp.r_istore_n3 (pc := 21) o_X12_nobodys rfl (Wp.r_iconst (pc := 22) o_X12_nobodys rfl (Wp.r_istore (pc := 23) o_X12_nobodys rfl (Wp.weak2 [3, 4, 1, 0] (w_X12_nobodys_b25 _ _ _ _ _ H) rfl)))
  · have H := oq_f c9 H
    refine Wp.r_aload_n0 (pc := 10) o_X12_nobodys rfl rfl (Wp.r_iload_n2 (pc := 11) o_X12_nobodys rfl rfl (Wp.r_cv2 (pc := 12) o_X12_nobodys rfl fk_M_0_0 (⟨rm8_ rfl, ?_⟩)))
    refine w_X12_refuse (d := d + 3) _ ?_
    refine oq_bd H (fun r11 s12 H => ?_)
    exact Wp.r_ireturn (pc := 15) o_X12_nobodys rfl (⟨rfl, H⟩)
noncomputable abbrev Y_X12_isFull (d : Nat) (Q : Qt) : Xt := Wp SHM (WpM SHM MT (d + 4)) (flat2 cq_X12_isFull) (some .boolean) Q
noncomputable def f_X12_isFull (a1 : Int32) (a2 : Int32) (s : Sg) : Option (Int32 × Sg) :=
  bd (f_X12_quarrelHouse a1 a2 s) (fun r1 s2 =>
  ck (inr r1 2880) (
  bd (f_X12_isGone (s2.1 1 r1.toNatClampNeg) s2) (fun r4 s5 =>
  if r4 = 0 then
    bd (f_X12_hasAt a1 (s2.1 1 r1.toNatClampNeg) s5) (fun r6 s7 =>
    bd (f_X12_needOf a1 s7) (fun r8 s9 =>
    if r6 = r8 then
      some (1, s9)
    else
      some (0, s9)
    )
    )
  else
    if (s5.1 1 14) = 1 then
      some (1, s5)
    else
      some (0, s5)
  )
  )
  )
set_option maxRecDepth 100000 in
theorem w_X12_isFull {d : Nat} {s : Sg} {Q : Qt} (a1 : Int32) (a2 : Int32) (H : OQ (f_X12_isFull a1 a2 s) (fun r9 s9 => Q (some (.int r9)) s9)) : WpM SHM MT (d + 5) 255 [.ref 0, .int a1, .int a2] s Q := by
  refine WpM.enter me_X12_isFull rfl rfl ?_
  show Y_X12_isFull d Q 0 [(0, .ref 0), (1, .int a1), (2, .int a2)] [] s
  unfold f_X12_isFull at H
  refine Wp.f_al0_gfr (pc := 0) o_X12_isFull rfl rfl rfl fk_M_0_0 (Wp.r_iload_n1 (pc := 4) o_X12_isFull rfl rfl (Wp.r_iload_n2 (pc := 5) o_X12_isFull rfl rfl (Wp.r_cs2 (pc := 6) o_X12_isFull rfl (⟨rm8_ rfl, ?_⟩))))
  refine w_X12_quarrelHouse (d := d + 2) _ _ ?_
  refine oq_bd H (fun r1 s2 H => ?_)
  obtain ⟨hc3, H⟩ := oq_ck H
  refine Wp.r_iaload (pc := 9) o_X12_isFull rfl ak_M_1 (⟨hc3, ?_⟩)
  refine Wp.r_istore_n3 (pc := 10) o_X12_isFull rfl (Wp.r_aload_n0 (pc := 11) o_X12_isFull rfl rfl (Wp.r_iload_n3 (pc := 12) o_X12_isFull rfl rfl (Wp.r_cv2 (pc := 13) o_X12_isFull rfl fk_M_0_0 (⟨rm8_ rfl, ?_⟩))))
  refine w_X12_isGone (d := d + 3) _ ?_
  refine oq_bd H (fun r4 s5 H => ?_)
  refine Wp.r_if_eq (pc := 16) o_X12_isFull rfl (fun c9 => ?_) (fun c9 => ?_)
  · have H := oq_t c9 H
    refine Wp.r_aload_n0 (pc := 38) o_X12_isFull rfl rfl (Wp.r_iload_n1 (pc := 39) o_X12_isFull rfl rfl (Wp.r_iload_n3 (pc := 40) o_X12_isFull rfl rfl (Wp.r_cv3 (pc := 41) o_X12_isFull rfl fk_M_0_0 (⟨rm8_ rfl, ?_⟩))))
    refine w_X12_hasAt (d := d) _ _ ?_
    refine oq_bd H (fun r6 s7 H => ?_)
    refine Wp.r_aload_n0 (pc := 44) o_X12_isFull rfl rfl (Wp.r_iload_n1 (pc := 45) o_X12_isFull rfl rfl (Wp.r_cv2 (pc := 46) o_X12_isFull rfl fk_M_0_0 (⟨rm8_ rfl, ?_⟩)))
    refine w_X12_needOf (d := d + 2) _ ?_
    refine oq_bd H (fun r8 s9 H => ?_)
    refine Wp.r_icmp_ne (pc := 49) o_X12_isFull rfl (fun c9 => ?_) (fun c9 => ?_)
    · have H := oq_t c9 H
      exact Wp.r_iconst (pc := 52) o_X12_isFull rfl (Wp.r_goto (pc := 53) o_X12_isFull rfl (Wp.r_ireturn (pc := 57) o_X12_isFull rfl (⟨rfl, H⟩)))
    · have H := oq_f c9 H
      exact Wp.r_iconst (pc := 56) o_X12_isFull rfl (Wp.r_ireturn (pc := 57) o_X12_isFull rfl (⟨rfl, H⟩))
  · have H := oq_f c9 H
    refine Wp.f_al0_gfr (pc := 19) o_X12_isFull rfl rfl rfl fk_M_0_0 (Wp.r_bipush (pc := 23) o_X12_isFull rfl (Wp.r_iaload (pc := 25) o_X12_isFull rfl ak_M_1 (show (vp_in 14 2880) ∧ Y_X12_isFull d Q 26 [(3, .int (s2.1 1 r1.toNatClampNeg)), (0, .ref 0), (1, .int a1), (2, .int a2)] [.int (s5.1 1 14)] s5 from ⟨by unfold vp_in; decide, ?_⟩)))
    refine Wp.r_iconst (pc := 26) o_X12_isFull rfl (Wp.r_icmp_ne (pc := 27) o_X12_isFull rfl (fun c9 => ?_) (fun c9 => ?_))
    · have H := oq_t c9 H
      exact Wp.r_iconst (pc := 30) o_X12_isFull rfl (Wp.r_goto (pc := 31) o_X12_isFull rfl (Wp.r_ireturn (pc := 57) o_X12_isFull rfl (⟨rfl, H⟩)))
    · have H := oq_f c9 H
      exact Wp.r_iconst (pc := 34) o_X12_isFull rfl (Wp.r_goto (pc := 35) o_X12_isFull rfl (Wp.r_ireturn (pc := 57) o_X12_isFull rfl (⟨rfl, H⟩)))
noncomputable abbrev Y_X12_hasPeace (d : Nat) (Q : Qt) : Xt := Wp SHM (WpM SHM MT (d + 5)) (flat2 cq_X12_hasPeace) (some .boolean) Q
noncomputable def f_X12_hasPeace (a1 : Int32) (s : Sg) : Option (Int32 × Sg) :=
  bd (f_X12_isFull a1 0 s) (fun r1 s2 =>
  if r1 = 0 then
    some (0, s2)
  else
    bd (f_X12_isFull a1 1 s2) (fun r3 s4 =>
    if r3 = 0 then
      some (0, s4)
    else
      some (1, s4)
    )
  )
set_option maxRecDepth 100000 in
theorem w_X12_hasPeace {d : Nat} {s : Sg} {Q : Qt} (a1 : Int32) (H : OQ (f_X12_hasPeace a1 s) (fun r9 s9 => Q (some (.int r9)) s9)) : WpM SHM MT (d + 6) 257 [.ref 0, .int a1] s Q := by
  refine WpM.enter me_X12_hasPeace rfl rfl ?_
  show Y_X12_hasPeace d Q 0 [(0, .ref 0), (1, .int a1)] [] s
  unfold f_X12_hasPeace at H
  refine Wp.r_aload_n0 (pc := 0) o_X12_hasPeace rfl rfl (Wp.r_iload_n1 (pc := 1) o_X12_hasPeace rfl rfl (Wp.r_iconst (pc := 2) o_X12_hasPeace rfl (Wp.r_cv3 (pc := 3) o_X12_hasPeace rfl fk_M_0_0 (⟨rm8_ rfl, ?_⟩))))
  refine w_X12_isFull (d := d) _ _ ?_
  refine oq_bd H (fun r1 s2 H => ?_)
  refine Wp.r_if_eq (pc := 6) o_X12_hasPeace rfl (fun c9 => ?_) (fun c9 => ?_)
  · have H := oq_t c9 H
    exact Wp.r_iconst (pc := 22) o_X12_hasPeace rfl (Wp.r_ireturn (pc := 23) o_X12_hasPeace rfl (⟨rfl, H⟩))
  · have H := oq_f c9 H
    refine Wp.r_aload_n0 (pc := 9) o_X12_hasPeace rfl rfl (Wp.r_iload_n1 (pc := 10) o_X12_hasPeace rfl rfl (Wp.r_iconst (pc := 11) o_X12_hasPeace rfl (Wp.r_cv3 (pc := 12) o_X12_hasPeace rfl fk_M_0_0 (⟨rm8_ rfl, ?_⟩))))
    refine w_X12_isFull (d := d) _ _ ?_
    refine oq_bd H (fun r3 s4 H => ?_)
    refine Wp.r_if_eq (pc := 15) o_X12_hasPeace rfl (fun c9 => ?_) (fun c9 => ?_)
    · have H := oq_t c9 H
      exact Wp.r_iconst (pc := 22) o_X12_hasPeace rfl (Wp.r_ireturn (pc := 23) o_X12_hasPeace rfl (⟨rfl, H⟩))
    · have H := oq_f c9 H
      exact Wp.r_iconst (pc := 18) o_X12_hasPeace rfl (Wp.r_goto (pc := 19) o_X12_hasPeace rfl (Wp.r_ireturn (pc := 23) o_X12_hasPeace rfl (⟨rfl, H⟩)))
noncomputable abbrev Y_X12_isSome (d : Nat) (Q : Qt) : Xt := Wp SHM (WpM SHM MT (d + 4)) (flat2 cq_X12_isSome) (some .boolean) Q
noncomputable def f_X12_isSome (a1 : Int32) (a2 : Int32) (s : Sg) : Option (Int32 × Sg) :=
  bd (f_X12_quarrelHouse a1 a2 s) (fun r1 s2 =>
  ck (inr r1 2880) (
  bd (f_X12_isGone (s2.1 1 r1.toNatClampNeg) s2) (fun r4 s5 =>
  if r4 = 0 then
    bd (f_X12_hasAt a1 (s2.1 1 r1.toNatClampNeg) s5) (fun r6 s7 =>
    if r6 ≤ 0 then
      some (0, s7)
    else
      some (1, s7)
    )
  else
    if (s5.1 1 14) = 1 then
      some (1, s5)
    else
      some (0, s5)
  )
  )
  )
set_option maxRecDepth 100000 in
theorem w_X12_isSome {d : Nat} {s : Sg} {Q : Qt} (a1 : Int32) (a2 : Int32) (H : OQ (f_X12_isSome a1 a2 s) (fun r9 s9 => Q (some (.int r9)) s9)) : WpM SHM MT (d + 5) 256 [.ref 0, .int a1, .int a2] s Q := by
  refine WpM.enter me_X12_isSome rfl rfl ?_
  show Y_X12_isSome d Q 0 [(0, .ref 0), (1, .int a1), (2, .int a2)] [] s
  unfold f_X12_isSome at H
  refine Wp.f_al0_gfr (pc := 0) o_X12_isSome rfl rfl rfl fk_M_0_0 (Wp.r_iload_n1 (pc := 4) o_X12_isSome rfl rfl (Wp.r_iload_n2 (pc := 5) o_X12_isSome rfl rfl (Wp.r_cs2 (pc := 6) o_X12_isSome rfl (⟨rm8_ rfl, ?_⟩))))
  refine w_X12_quarrelHouse (d := d + 2) _ _ ?_
  refine oq_bd H (fun r1 s2 H => ?_)
  obtain ⟨hc3, H⟩ := oq_ck H
  refine Wp.r_iaload (pc := 9) o_X12_isSome rfl ak_M_1 (⟨hc3, ?_⟩)
  refine Wp.r_istore_n3 (pc := 10) o_X12_isSome rfl (Wp.r_aload_n0 (pc := 11) o_X12_isSome rfl rfl (Wp.r_iload_n3 (pc := 12) o_X12_isSome rfl rfl (Wp.r_cv2 (pc := 13) o_X12_isSome rfl fk_M_0_0 (⟨rm8_ rfl, ?_⟩))))
  refine w_X12_isGone (d := d + 3) _ ?_
  refine oq_bd H (fun r4 s5 H => ?_)
  refine Wp.r_if_eq (pc := 16) o_X12_isSome rfl (fun c9 => ?_) (fun c9 => ?_)
  · have H := oq_t c9 H
    refine Wp.r_aload_n0 (pc := 38) o_X12_isSome rfl rfl (Wp.r_iload_n1 (pc := 39) o_X12_isSome rfl rfl (Wp.r_iload_n3 (pc := 40) o_X12_isSome rfl rfl (Wp.r_cv3 (pc := 41) o_X12_isSome rfl fk_M_0_0 (⟨rm8_ rfl, ?_⟩))))
    refine w_X12_hasAt (d := d) _ _ ?_
    refine oq_bd H (fun r6 s7 H => ?_)
    refine Wp.r_if_le (pc := 44) o_X12_isSome rfl (fun c9 => ?_) (fun c9 => ?_)
    · have H := oq_t c9 H
      exact Wp.r_iconst (pc := 51) o_X12_isSome rfl (Wp.r_ireturn (pc := 52) o_X12_isSome rfl (⟨rfl, H⟩))
    · have H := oq_f c9 H
      exact Wp.r_iconst (pc := 47) o_X12_isSome rfl (Wp.r_goto (pc := 48) o_X12_isSome rfl (Wp.r_ireturn (pc := 52) o_X12_isSome rfl (⟨rfl, H⟩)))
  · have H := oq_f c9 H
    refine Wp.f_al0_gfr (pc := 19) o_X12_isSome rfl rfl rfl fk_M_0_0 (Wp.r_bipush (pc := 23) o_X12_isSome rfl (Wp.r_iaload (pc := 25) o_X12_isSome rfl ak_M_1 (show (vp_in 14 2880) ∧ Y_X12_isSome d Q 26 [(3, .int (s2.1 1 r1.toNatClampNeg)), (0, .ref 0), (1, .int a1), (2, .int a2)] [.int (s5.1 1 14)] s5 from ⟨by unfold vp_in; decide, ?_⟩)))
    refine Wp.r_iconst (pc := 26) o_X12_isSome rfl (Wp.r_icmp_ne (pc := 27) o_X12_isSome rfl (fun c9 => ?_) (fun c9 => ?_))
    · have H := oq_t c9 H
      exact Wp.r_iconst (pc := 30) o_X12_isSome rfl (Wp.r_goto (pc := 31) o_X12_isSome rfl (Wp.r_ireturn (pc := 52) o_X12_isSome rfl (⟨rfl, H⟩)))
    · have H := oq_f c9 H
      exact Wp.r_iconst (pc := 34) o_X12_isSome rfl (Wp.r_goto (pc := 35) o_X12_isSome rfl (Wp.r_ireturn (pc := 52) o_X12_isSome rfl (⟨rfl, H⟩)))
noncomputable abbrev Y_X12_neverCan (d : Nat) (Q : Qt) : Xt := Wp SHM (WpM SHM MT (d + 2)) (flat2 cq_X12_neverCan) (some .boolean) Q
noncomputable def f_X12_neverCan (a1 : Int32) (s : Sg) : Option (Int32 × Sg) :=
  if (s.1 1 14) = 0 then
    bd (f_X12_quarrelHouse a1 0 s) (fun r1 s2 =>
    ck (inr r1 2880) (
    bd (f_X12_isGone (s2.1 1 r1.toNatClampNeg) s2) (fun r4 s5 =>
    if r4 = 0 then
      bd (f_X12_quarrelHouse a1 1 s5) (fun r6 s7 =>
      ck (inr r6 2880) (
      bd (f_X12_isGone (s7.1 1 r6.toNatClampNeg) s7) (fun r9 s10 =>
      if r9 = 0 then
        some (0, s10)
      else
        some (1, s10)
      )
      )
      )
    else
      some (1, s5)
    )
    )
    )
  else
    some (0, s)
set_option maxRecDepth 100000 in
theorem w_X12_neverCan {d : Nat} {s : Sg} {Q : Qt} (a1 : Int32) (H : OQ (f_X12_neverCan a1 s) (fun r9 s9 => Q (some (.int r9)) s9)) : WpM SHM MT (d + 3) 258 [.ref 0, .int a1] s Q := by
  refine WpM.enter me_X12_neverCan rfl rfl ?_
  show Y_X12_neverCan d Q 0 [(0, .ref 0), (1, .int a1)] [] s
  unfold f_X12_neverCan at H
  refine Wp.f_al0_gfr (pc := 0) o_X12_neverCan rfl rfl rfl fk_M_0_0 (Wp.r_bipush (pc := 4) o_X12_neverCan rfl (Wp.r_iaload (pc := 6) o_X12_neverCan rfl ak_M_1 (show (vp_in 14 2880) ∧ Y_X12_neverCan d Q 7 [(0, .ref 0), (1, .int a1)] [.int (s.1 1 14)] s from ⟨by unfold vp_in; decide, ?_⟩)))
  refine Wp.r_if_ne (pc := 7) o_X12_neverCan rfl (fun c9 => ?_) (fun c9 => ?_)
  · have H := oq_t c9 H
    refine Wp.r_aload_n0 (pc := 10) o_X12_neverCan rfl rfl (Wp.f_al0_gfr (pc := 11) o_X12_neverCan rfl rfl rfl fk_M_0_0 (Wp.r_iload_n1 (pc := 15) o_X12_neverCan rfl rfl (Wp.r_iconst (pc := 16) o_X12_neverCan rfl (Wp.r_cs2 (pc := 17) o_X12_neverCan rfl (⟨rm8_ rfl, ?_⟩)))))
    refine w_X12_quarrelHouse (d := d) _ _ ?_
    refine oq_bd H (fun r1 s2 H => ?_)
    obtain ⟨hc3, H⟩ := oq_ck H
    refine Wp.r_iaload (pc := 20) o_X12_neverCan rfl ak_M_1 (⟨hc3, ?_⟩)
    refine Wp.r_cv2 (pc := 21) o_X12_neverCan rfl fk_M_0_0 (⟨rm8_ rfl, ?_⟩)
    refine w_X12_isGone (d := d + 1) _ ?_
    refine oq_bd H (fun r4 s5 H => ?_)
    refine Wp.r_if_ne (pc := 24) o_X12_neverCan rfl (fun c9 => ?_) (fun c9 => ?_)
    · have H := oq_t c9 H
      refine Wp.r_aload_n0 (pc := 27) o_X12_neverCan rfl rfl (Wp.f_al0_gfr (pc := 28) o_X12_neverCan rfl rfl rfl fk_M_0_0 (Wp.r_iload_n1 (pc := 32) o_X12_neverCan rfl rfl (Wp.r_iconst (pc := 33) o_X12_neverCan rfl (Wp.r_cs2 (pc := 34) o_X12_neverCan rfl (⟨rm8_ rfl, ?_⟩)))))
      refine w_X12_quarrelHouse (d := d) _ _ ?_
      refine oq_bd H (fun r6 s7 H => ?_)
      obtain ⟨hc8, H⟩ := oq_ck H
      refine Wp.r_iaload (pc := 37) o_X12_neverCan rfl ak_M_1 (⟨hc8, ?_⟩)
      refine Wp.r_cv2 (pc := 38) o_X12_neverCan rfl fk_M_0_0 (⟨rm8_ rfl, ?_⟩)
      refine w_X12_isGone (d := d + 1) _ ?_
      refine oq_bd H (fun r9 s10 H => ?_)
      refine Wp.r_if_eq (pc := 41) o_X12_neverCan rfl (fun c9 => ?_) (fun c9 => ?_)
      · have H := oq_t c9 H
        exact Wp.r_iconst (pc := 48) o_X12_neverCan rfl (Wp.r_ireturn (pc := 49) o_X12_neverCan rfl (⟨rfl, H⟩))
      · have H := oq_f c9 H
        exact Wp.r_iconst (pc := 44) o_X12_neverCan rfl (Wp.r_goto (pc := 45) o_X12_neverCan rfl (Wp.r_ireturn (pc := 49) o_X12_neverCan rfl (⟨rfl, H⟩)))
    · have H := oq_f c9 H
      exact Wp.r_iconst (pc := 44) o_X12_neverCan rfl (Wp.r_goto (pc := 45) o_X12_neverCan rfl (Wp.r_ireturn (pc := 49) o_X12_neverCan rfl (⟨rfl, H⟩)))
  · have H := oq_f c9 H
    exact Wp.r_iconst (pc := 48) o_X12_neverCan rfl (Wp.r_ireturn (pc := 49) o_X12_neverCan rfl (⟨rfl, H⟩))
noncomputable abbrev Y_X12_setOf (d : Nat) (Q : Qt) : Xt := Wp SHM (WpM SHM MT (d + 6)) (flat2 cq_X12_setOf) (some .int) Q
noncomputable def f_X12_setOf_b90 (k_4 : Int32 → Int32 → Int32 → Sg → Option (Int32 × Sg)) (v1 : Int32) (v2 : Int32) (v3 : Int32) (t0 : Int32) (s : Sg) : Option (Int32 × Sg) :=
  if t0 = 0 then
    k_4 v1 (v2 ||| 0) (v3 + 1) s
  else
    nmx (v2 ||| ((1 : Int32) <<< (v3 &&& 31)) : Int32) (fun x3 =>
    k_4 v1 x3 (v3 + 1) s
    )
set_option maxRecDepth 100000 in
theorem w_X12_setOf_b90 {d : Nat} {Q : Qt} (k_4 : Int32 → Int32 → Int32 → Sg → Option (Int32 × Sg)) (h_4 : ∀ (v1 : Int32) (v2 : Int32) (v3 : Int32) s, OQ (k_4 v1 v2 v3 s) (fun r9 s9 => Q (some (.int r9)) s9) → Y_X12_setOf d Q 4 [(0, .ref 0), (1, .int v1), (2, .int v2), (3, .int v3)] [] s) (v1 : Int32) (v2 : Int32) (v3 : Int32) (t0 : Int32) (s : Sg) (H : OQ (f_X12_setOf_b90 k_4 v1 v2 v3 t0 s) (fun r9 s9 => Q (some (.int r9)) s9)) : Y_X12_setOf d Q 90 [(0, .ref 0), (1, .int v1), (2, .int v2), (3, .int v3)] [.int t0] s := by
  unfold f_X12_setOf_b90 at H
  refine Wp.r_istore (pc := 90) o_X12_setOf rfl (Wp.r_iload_n2 (pc := 92) o_X12_setOf rfl rfl (Wp.r_iload (pc := 93) o_X12_setOf rfl rfl (Wp.r_if_eq (pc := 95) o_X12_setOf rfl (fun c9 => ?_) (fun c9 => ?_))))
  · have H := oq_t c9 H
    exact Wp.r_iconst (pc := 104) o_X12_setOf rfl (Wp.r_ior (pc := 105) o_X12_setOf rfl (Wp.r_istore_n2 (pc := 106) o_X12_setOf rfl (Wp.f_iinc_goto (pc := 107) o_X12_setOf rfl rfl rfl (Wp.weak2 [3, 4, 1, 0] (h_4 _ _ _ _ H) rfl))))
  · have H := oq_f c9 H
    refine Wp.r_iconst (pc := 98) o_X12_setOf rfl (Wp.r_iload_n3 (pc := 99) o_X12_setOf rfl rfl (Wp.r_ishl (pc := 100) o_X12_setOf rfl (Wp.r_goto (pc := 101) o_X12_setOf rfl (Wp.r_ior (pc := 105) o_X12_setOf rfl (Wp.r_istore_n2 (pc := 106) o_X12_setOf rfl (show Y_X12_setOf d Q 107 [(2, .int (v2 ||| ((1 : Int32) <<< (v3 &&& 31)))), (4, .int t0), (0, .ref 0), (1, .int v1), (3, .int v3)] [] s from ?_))))))
    revert H
    generalize (v2 ||| ((1 : Int32) <<< (v3 &&& 31)) : Int32) = x3
    intro H
    have H := nmx_e H
    exact Wp.f_iinc_goto (pc := 107) o_X12_setOf rfl rfl rfl (Wp.weak2 [3, 4, 1, 0] (h_4 _ _ _ _ H) rfl)
noncomputable def f_X12_setOf_b53 (k_4 : Int32 → Int32 → Int32 → Sg → Option (Int32 × Sg)) (v1 : Int32) (v2 : Int32) (v3 : Int32) (s : Sg) : Option (Int32 × Sg) :=
  f_X12_setOf_b90 k_4 v1 v2 v3 0 s
set_option maxRecDepth 100000 in
theorem w_X12_setOf_b53 {d : Nat} {Q : Qt} (k_4 : Int32 → Int32 → Int32 → Sg → Option (Int32 × Sg)) (h_4 : ∀ (v1 : Int32) (v2 : Int32) (v3 : Int32) s, OQ (k_4 v1 v2 v3 s) (fun r9 s9 => Q (some (.int r9)) s9) → Y_X12_setOf d Q 4 [(0, .ref 0), (1, .int v1), (2, .int v2), (3, .int v3)] [] s) (v1 : Int32) (v2 : Int32) (v3 : Int32) (s : Sg) (H : OQ (f_X12_setOf_b53 k_4 v1 v2 v3 s) (fun r9 s9 => Q (some (.int r9)) s9)) : Y_X12_setOf d Q 53 [(0, .ref 0), (1, .int v1), (2, .int v2), (3, .int v3)] [] s := by
  unfold f_X12_setOf_b53 at H
  exact Wp.r_iconst (pc := 53) o_X12_setOf rfl (Wp.r_goto (pc := 54) o_X12_setOf rfl (Wp.weak2 [0, 1, 2, 3] (w_X12_setOf_b90 k_4 h_4 _ _ _ _ _ H) rfl))
noncomputable def f_X12_setOf_b4 : Nat → Int32 → Int32 → Int32 → Sg → Option (Int32 × Sg)
  | 0, _, _, _, _ => none
  | n + 1, v1, v2, v3, s =>
    if (s.1 1 1) ≤ v3 then
      some (v2, s)
    else
      if v1 = 0 then
        bd (f_X12_hasPeace v3 s) (fun r1 s2 =>
        f_X12_setOf_b90 (f_X12_setOf_b4 n) v1 v2 v3 r1 s2
        )
      else
        if v1 = 1 then
          bd (f_X12_isSome v3 0 s) (fun r4 s5 =>
          if r4 = 0 then
            f_X12_setOf_b53 (f_X12_setOf_b4 n) v1 v2 v3 s5
          else
            bd (f_X12_isSome v3 1 s5) (fun r6 s7 =>
            if r6 = 0 then
              f_X12_setOf_b53 (f_X12_setOf_b4 n) v1 v2 v3 s7
            else
              f_X12_setOf_b90 (f_X12_setOf_b4 n) v1 v2 v3 1 s7
            )
          )
        else
          if v1 = 2 then
            bd (f_X12_quarrelRow v3 s) (fun r8 s9 =>
            ck (inr (r8 + 3) 2880) (
            if (s9.1 1 ((r8 + 3).toNatClampNeg)) = 1 then
              f_X12_setOf_b90 (f_X12_setOf_b4 n) v1 v2 v3 1 s9
            else
              f_X12_setOf_b90 (f_X12_setOf_b4 n) v1 v2 v3 0 s9
            )
            )
          else
            bd (f_X12_neverCan v3 s) (fun r11 s12 =>
            f_X12_setOf_b90 (f_X12_setOf_b4 n) v1 v2 v3 r11 s12
            )
set_option maxRecDepth 100000 in
theorem w_X12_setOf_b4 {d : Nat} {Q : Qt} (n : Nat) : ∀ (v1 : Int32) (v2 : Int32) (v3 : Int32) (s : Sg), OQ (f_X12_setOf_b4 n v1 v2 v3 s) (fun r9 s9 => Q (some (.int r9)) s9) → Y_X12_setOf d Q 4 [(0, .ref 0), (1, .int v1), (2, .int v2), (3, .int v3)] [] s := by
  induction n with
  | zero => intro v1 v2 v3 s H; exact H.elim
  | succ n ih =>
    intro v1 v2 v3 s H
    unfold f_X12_setOf_b4 at H
    refine Wp.r_iload_n3 (pc := 4) o_X12_setOf rfl rfl (Wp.f_al0_gfr (pc := 5) o_X12_setOf rfl rfl rfl fk_M_0_0 (Wp.r_iconst (pc := 9) o_X12_setOf rfl (Wp.r_iaload (pc := 10) o_X12_setOf rfl ak_M_1 (show (vp_in 1 2880) ∧ Y_X12_setOf d Q 11 [(0, .ref 0), (1, .int v1), (2, .int v2), (3, .int v3)] [.int (s.1 1 1), .int v3] s from ⟨by unfold vp_in; decide, ?_⟩))))
    refine Wp.r_icmp_ge (pc := 11) o_X12_setOf rfl (fun c9 => ?_) (fun c9 => ?_)
    · have H := oq_t c9 H
      exact Wp.r_iload_n2 (pc := 113) o_X12_setOf rfl rfl (Wp.r_ireturn (pc := 114) o_X12_setOf rfl (⟨rfl, H⟩))
    · have H := oq_f c9 H
      refine Wp.r_iload_n1 (pc := 14) o_X12_setOf rfl rfl (Wp.r_if_ne (pc := 15) o_X12_setOf rfl (fun c9 => ?_) (fun c9 => ?_))
      · have H := oq_t c9 H
        refine Wp.r_aload_n0 (pc := 18) o_X12_setOf rfl rfl (Wp.r_iload_n3 (pc := 19) o_X12_setOf rfl rfl (Wp.r_cv2 (pc := 20) o_X12_setOf rfl fk_M_0_0 (⟨rm8_ rfl, ?_⟩)))
        refine w_X12_hasPeace (d := d) _ ?_
        refine oq_bd H (fun r1 s2 H => ?_)
        exact Wp.r_goto (pc := 23) o_X12_setOf rfl (Wp.weak2 [0, 1, 2, 3] (w_X12_setOf_b90 (f_X12_setOf_b4 n) ih _ _ _ _ _ H) rfl)
      · have H := oq_f c9 H
        refine Wp.r_iload_n1 (pc := 26) o_X12_setOf rfl rfl (Wp.r_iconst (pc := 27) o_X12_setOf rfl (Wp.r_icmp_ne (pc := 28) o_X12_setOf rfl (fun c9 => ?_) (fun c9 => ?_)))
        · have H := oq_t c9 H
          refine Wp.r_aload_n0 (pc := 31) o_X12_setOf rfl rfl (Wp.r_iload_n3 (pc := 32) o_X12_setOf rfl rfl (Wp.r_iconst (pc := 33) o_X12_setOf rfl (Wp.r_cv3 (pc := 34) o_X12_setOf rfl fk_M_0_0 (⟨rm8_ rfl, ?_⟩))))
          refine w_X12_isSome (d := d + 1) _ _ ?_
          refine oq_bd H (fun r4 s5 H => ?_)
          refine Wp.r_if_eq (pc := 37) o_X12_setOf rfl (fun c9 => ?_) (fun c9 => ?_)
          · have H := oq_t c9 H
            exact Wp.weak2 [0, 1, 2, 3] (w_X12_setOf_b53 (f_X12_setOf_b4 n) ih _ _ _ _ H) rfl
          · have H := oq_f c9 H
            refine Wp.r_aload_n0 (pc := 40) o_X12_setOf rfl rfl (Wp.r_iload_n3 (pc := 41) o_X12_setOf rfl rfl (Wp.r_iconst (pc := 42) o_X12_setOf rfl (Wp.r_cv3 (pc := 43) o_X12_setOf rfl fk_M_0_0 (⟨rm8_ rfl, ?_⟩))))
            refine w_X12_isSome (d := d + 1) _ _ ?_
            refine oq_bd H (fun r6 s7 H => ?_)
            refine Wp.r_if_eq (pc := 46) o_X12_setOf rfl (fun c9 => ?_) (fun c9 => ?_)
            · have H := oq_t c9 H
              exact Wp.weak2 [0, 1, 2, 3] (w_X12_setOf_b53 (f_X12_setOf_b4 n) ih _ _ _ _ H) rfl
            · have H := oq_f c9 H
              exact Wp.r_iconst (pc := 49) o_X12_setOf rfl (Wp.r_goto (pc := 50) o_X12_setOf rfl (Wp.weak2 [0, 1, 2, 3] (w_X12_setOf_b90 (f_X12_setOf_b4 n) ih _ _ _ _ _ H) rfl))
        · have H := oq_f c9 H
          refine Wp.r_iload_n1 (pc := 57) o_X12_setOf rfl rfl (Wp.r_iconst (pc := 58) o_X12_setOf rfl (Wp.r_icmp_ne (pc := 59) o_X12_setOf rfl (fun c9 => ?_) (fun c9 => ?_)))
          · have H := oq_t c9 H
            refine Wp.f_al0_gfr (pc := 62) o_X12_setOf rfl rfl rfl fk_M_0_0 (Wp.r_iload_n3 (pc := 66) o_X12_setOf rfl rfl (Wp.r_cs1 (pc := 67) o_X12_setOf rfl (⟨rm8_ rfl, ?_⟩)))
            refine w_X12_quarrelRow (d := d + 5) _ ?_
            refine oq_bd H (fun r8 s9 H => ?_)
            obtain ⟨hc10, H⟩ := oq_ck H
            refine Wp.r_iconst (pc := 70) o_X12_setOf rfl (Wp.r_iadd (pc := 71) o_X12_setOf rfl (Wp.r_iaload (pc := 72) o_X12_setOf rfl ak_M_1 (⟨hc10, ?_⟩)))
            refine Wp.r_iconst (pc := 73) o_X12_setOf rfl (Wp.r_icmp_ne (pc := 74) o_X12_setOf rfl (fun c9 => ?_) (fun c9 => ?_))
            · have H := oq_t c9 H
              exact Wp.r_iconst (pc := 77) o_X12_setOf rfl (Wp.r_goto (pc := 78) o_X12_setOf rfl (Wp.weak2 [0, 1, 2, 3] (w_X12_setOf_b90 (f_X12_setOf_b4 n) ih _ _ _ _ _ H) rfl))
            · have H := oq_f c9 H
              exact Wp.r_iconst (pc := 81) o_X12_setOf rfl (Wp.r_goto (pc := 82) o_X12_setOf rfl (Wp.weak2 [0, 1, 2, 3] (w_X12_setOf_b90 (f_X12_setOf_b4 n) ih _ _ _ _ _ H) rfl))
          · have H := oq_f c9 H
            refine Wp.r_aload_n0 (pc := 85) o_X12_setOf rfl rfl (Wp.r_iload_n3 (pc := 86) o_X12_setOf rfl rfl (Wp.r_cv2 (pc := 87) o_X12_setOf rfl fk_M_0_0 (⟨rm8_ rfl, ?_⟩)))
            refine w_X12_neverCan (d := d + 3) _ ?_
            refine oq_bd H (fun r11 s12 H => ?_)
            exact Wp.weak2 [0, 1, 2, 3] (w_X12_setOf_b90 (f_X12_setOf_b4 n) ih _ _ _ _ _ H) rfl
noncomputable def f_X12_setOf (a1 : Int32) (s : Sg) : Option (Int32 × Sg) :=
  f_X12_setOf_b4 BIG a1 0 0 s
set_option maxRecDepth 100000 in
theorem w_X12_setOf {d : Nat} {s : Sg} {Q : Qt} (a1 : Int32) (H : OQ (f_X12_setOf a1 s) (fun r9 s9 => Q (some (.int r9)) s9)) : WpM SHM MT (d + 7) 259 [.ref 0, .int a1] s Q := by
  refine WpM.enter me_X12_setOf rfl rfl ?_
  show Y_X12_setOf d Q 0 [(0, .ref 0), (1, .int a1)] [] s
  unfold f_X12_setOf at H
  exact Wp.r_iconst (pc := 0) o_X12_setOf rfl (Wp.r_istore_n2 (pc := 1) o_X12_setOf rfl (Wp.r_iconst (pc := 2) o_X12_setOf rfl (Wp.r_istore_n3 (pc := 3) o_X12_setOf rfl (Wp.weak2 [2, 3, 1, 0] (w_X12_setOf_b4 _ _ _ _ _ H) rfl))))
noncomputable abbrev Y_X12_peace (d : Nat) (Q : Qt) : Xt := Wp SHM (WpM SHM MT (d + 7)) (flat2 cq_X12_peace) (some .int) Q
noncomputable def f_X12_peace  (s : Sg) : Option (Int32 × Sg) :=
  bd (f_X12_setOf 0 s) (fun r1 s2 =>
  bd (f_X12_gives r1 s2) (fun r3 s4 =>
  some (r3, s4)
  )
  )
set_option maxRecDepth 100000 in
theorem w_X12_peace {d : Nat} {s : Sg} {Q : Qt}  (H : OQ (f_X12_peace  s) (fun r9 s9 => Q (some (.int r9)) s9)) : WpM SHM MT (d + 8) 263 [.ref 0] s Q := by
  refine WpM.enter me_X12_peace rfl rfl ?_
  show Y_X12_peace d Q 0 [(0, .ref 0)] [] s
  unfold f_X12_peace at H
  refine Wp.r_aload_n0 (pc := 0) o_X12_peace rfl rfl (Wp.f_al0_iconst (pc := 1) o_X12_peace rfl rfl rfl (Wp.r_cv2 (pc := 3) o_X12_peace rfl fk_M_0_0 (⟨rm8_ rfl, ?_⟩)))
  refine w_X12_setOf (d := d) _ ?_
  refine oq_bd H (fun r1 s2 H => ?_)
  refine Wp.r_cv2 (pc := 6) o_X12_peace rfl fk_M_0_0 (⟨rm8_ rfl, ?_⟩)
  refine w_X12_gives (d := d + 6) _ ?_
  refine oq_bd H (fun r3 s4 H => ?_)
  exact Wp.r_ireturn (pc := 9) o_X12_peace rfl (⟨rfl, H⟩)
noncomputable abbrev Y_X12_truce (d : Nat) (Q : Qt) : Xt := Wp SHM (WpM SHM MT (d + 7)) (flat2 cq_X12_truce) (some .int) Q
noncomputable def f_X12_truce  (s : Sg) : Option (Int32 × Sg) :=
  bd (f_X12_setOf 1 s) (fun r1 s2 =>
  bd (f_X12_gives r1 s2) (fun r3 s4 =>
  some (r3, s4)
  )
  )
set_option maxRecDepth 100000 in
theorem w_X12_truce {d : Nat} {s : Sg} {Q : Qt}  (H : OQ (f_X12_truce  s) (fun r9 s9 => Q (some (.int r9)) s9)) : WpM SHM MT (d + 8) 264 [.ref 0] s Q := by
  refine WpM.enter me_X12_truce rfl rfl ?_
  show Y_X12_truce d Q 0 [(0, .ref 0)] [] s
  unfold f_X12_truce at H
  refine Wp.r_aload_n0 (pc := 0) o_X12_truce rfl rfl (Wp.f_al0_iconst (pc := 1) o_X12_truce rfl rfl rfl (Wp.r_cv2 (pc := 3) o_X12_truce rfl fk_M_0_0 (⟨rm8_ rfl, ?_⟩)))
  refine w_X12_setOf (d := d) _ ?_
  refine oq_bd H (fun r1 s2 H => ?_)
  refine Wp.r_cv2 (pc := 6) o_X12_truce rfl fk_M_0_0 (⟨rm8_ rfl, ?_⟩)
  refine w_X12_gives (d := d + 6) _ ?_
  refine oq_bd H (fun r3 s4 H => ?_)
  exact Wp.r_ireturn (pc := 9) o_X12_truce rfl (⟨rfl, H⟩)
noncomputable abbrev Y_X12_over (d : Nat) (Q : Qt) : Xt := Wp SHM (WpM SHM MT (d + 7)) (flat2 cq_X12_over) (some .int) Q
noncomputable def f_X12_over  (s : Sg) : Option (Int32 × Sg) :=
  bd (f_X12_setOf 2 s) (fun r1 s2 =>
  bd (f_X12_gives r1 s2) (fun r3 s4 =>
  some (r3, s4)
  )
  )
set_option maxRecDepth 100000 in
theorem w_X12_over {d : Nat} {s : Sg} {Q : Qt}  (H : OQ (f_X12_over  s) (fun r9 s9 => Q (some (.int r9)) s9)) : WpM SHM MT (d + 8) 265 [.ref 0] s Q := by
  refine WpM.enter me_X12_over rfl rfl ?_
  show Y_X12_over d Q 0 [(0, .ref 0)] [] s
  unfold f_X12_over at H
  refine Wp.r_aload_n0 (pc := 0) o_X12_over rfl rfl (Wp.f_al0_iconst (pc := 1) o_X12_over rfl rfl rfl (Wp.r_cv2 (pc := 3) o_X12_over rfl fk_M_0_0 (⟨rm8_ rfl, ?_⟩)))
  refine w_X12_setOf (d := d) _ ?_
  refine oq_bd H (fun r1 s2 H => ?_)
  refine Wp.r_cv2 (pc := 6) o_X12_over rfl fk_M_0_0 (⟨rm8_ rfl, ?_⟩)
  refine w_X12_gives (d := d + 6) _ ?_
  refine oq_bd H (fun r3 s4 H => ?_)
  exact Wp.r_ireturn (pc := 9) o_X12_over rfl (⟨rfl, H⟩)
noncomputable abbrev Y_X12_hopeless (d : Nat) (Q : Qt) : Xt := Wp SHM (WpM SHM MT (d + 7)) (flat2 cq_X12_hopeless) (some .int) Q
noncomputable def f_X12_hopeless  (s : Sg) : Option (Int32 × Sg) :=
  bd (f_X12_setOf 3 s) (fun r1 s2 =>
  bd (f_X12_gives r1 s2) (fun r3 s4 =>
  some (r3, s4)
  )
  )
set_option maxRecDepth 100000 in
theorem w_X12_hopeless {d : Nat} {s : Sg} {Q : Qt}  (H : OQ (f_X12_hopeless  s) (fun r9 s9 => Q (some (.int r9)) s9)) : WpM SHM MT (d + 8) 266 [.ref 0] s Q := by
  refine WpM.enter me_X12_hopeless rfl rfl ?_
  show Y_X12_hopeless d Q 0 [(0, .ref 0)] [] s
  unfold f_X12_hopeless at H
  refine Wp.r_aload_n0 (pc := 0) o_X12_hopeless rfl rfl (Wp.f_al0_iconst (pc := 1) o_X12_hopeless rfl rfl rfl (Wp.r_cv2 (pc := 3) o_X12_hopeless rfl fk_M_0_0 (⟨rm8_ rfl, ?_⟩)))
  refine w_X12_setOf (d := d) _ ?_
  refine oq_bd H (fun r1 s2 H => ?_)
  refine Wp.r_cv2 (pc := 6) o_X12_hopeless rfl fk_M_0_0 (⟨rm8_ rfl, ?_⟩)
  refine w_X12_gives (d := d + 6) _ ?_
  refine oq_bd H (fun r3 s4 H => ?_)
  exact Wp.r_ireturn (pc := 9) o_X12_hopeless rfl (⟨rfl, H⟩)
noncomputable abbrev Y_X12_isFrom (d : Nat) (Q : Qt) : Xt := Wp SHM (WpM SHM MT (d + 0)) (flat2 cq_X12_isFrom) (some .boolean) Q
noncomputable def f_X12_isFrom (a0 : Int64) (a1 : Int64) (a2 : Int64) (s : Sg) : Option (Int32 × Sg) :=
  if (lg_cmp a0 a1) < 0 then
    some (0, s)
  else
    if 0 < (lg_cmp a0 a2) then
      some (0, s)
    else
      some (1, s)
set_option maxRecDepth 100000 in
theorem w_X12_isFrom {d : Nat} {s : Sg} {Q : Qt} (a0 : Int64) (a1 : Int64) (a2 : Int64) (H : OQ (f_X12_isFrom a0 a1 a2 s) (fun r9 s9 => Q (some (.int r9)) s9)) : WpM SHM MT (d + 1) 202 [.long a0, .long a1, .long a2] s Q := by
  refine WpM.enter me_X12_isFrom rfl rfl ?_
  show Y_X12_isFrom d Q 0 [(0, .long a0), (2, .long a1), (4, .long a2)] [] s
  unfold f_X12_isFrom at H
  refine Wp.r_lload_n0 (pc := 0) o_X12_isFrom rfl rfl (Wp.r_lload_n2 (pc := 1) o_X12_isFrom rfl rfl (Wp.r_lcmp (pc := 2) o_X12_isFrom rfl (Wp.r_if_lt (pc := 3) o_X12_isFrom rfl (fun c9 => ?_) (fun c9 => ?_))))
  · have H := oq_t c9 H
    exact Wp.r_iconst (pc := 17) o_X12_isFrom rfl (Wp.r_ireturn (pc := 18) o_X12_isFrom rfl (⟨rfl, H⟩))
  · have H := oq_f c9 H
    refine Wp.r_lload_n0 (pc := 6) o_X12_isFrom rfl rfl (Wp.r_lload (pc := 7) o_X12_isFrom rfl rfl (Wp.r_lcmp (pc := 9) o_X12_isFrom rfl (Wp.r_if_gt (pc := 10) o_X12_isFrom rfl (fun c9 => ?_) (fun c9 => ?_))))
    · have H := oq_t c9 H
      exact Wp.r_iconst (pc := 17) o_X12_isFrom rfl (Wp.r_ireturn (pc := 18) o_X12_isFrom rfl (⟨rfl, H⟩))
    · have H := oq_f c9 H
      exact Wp.r_iconst (pc := 13) o_X12_isFrom rfl (Wp.r_goto (pc := 14) o_X12_isFrom rfl (Wp.r_ireturn (pc := 18) o_X12_isFrom rfl (⟨rfl, H⟩)))
noncomputable abbrev Y_X12_hasRoom (d : Nat) (Q : Qt) : Xt := Wp SHM (WpM SHM MT (d + 2)) (flat2 cq_X12_hasRoom) (some .boolean) Q
noncomputable def f_X12_hasRoom (a1 : Int32) (a2 : Int32) (s : Sg) : Option (Int32 × Sg) :=
  bd (f_X12_grainsOn a1 s) (fun r1 s2 =>
  if 9999 < (r1 + a2) then
    some (0, s2)
  else
    some (1, s2)
  )
set_option maxRecDepth 100000 in
theorem w_X12_hasRoom {d : Nat} {s : Sg} {Q : Qt} (a1 : Int32) (a2 : Int32) (H : OQ (f_X12_hasRoom a1 a2 s) (fun r9 s9 => Q (some (.int r9)) s9)) : WpM SHM MT (d + 3) 267 [.ref 0, .int a1, .int a2] s Q := by
  refine WpM.enter me_X12_hasRoom rfl rfl ?_
  show Y_X12_hasRoom d Q 0 [(0, .ref 0), (1, .int a1), (2, .int a2)] [] s
  unfold f_X12_hasRoom at H
  refine Wp.r_aload_n0 (pc := 0) o_X12_hasRoom rfl rfl (Wp.r_iload_n1 (pc := 1) o_X12_hasRoom rfl rfl (Wp.r_cv2 (pc := 2) o_X12_hasRoom rfl fk_M_0_0 (⟨rm8_ rfl, ?_⟩)))
  refine w_X12_grainsOn (d := d) _ ?_
  refine oq_bd H (fun r1 s2 H => ?_)
  refine Wp.r_iload_n2 (pc := 5) o_X12_hasRoom rfl rfl (Wp.r_iadd (pc := 6) o_X12_hasRoom rfl (Wp.r_sipush (pc := 7) o_X12_hasRoom rfl (Wp.r_icmp_gt (pc := 10) o_X12_hasRoom rfl (fun c9 => ?_) (fun c9 => ?_))))
  · have H := oq_t c9 H
    exact Wp.r_iconst (pc := 17) o_X12_hasRoom rfl (Wp.r_ireturn (pc := 18) o_X12_hasRoom rfl (⟨rfl, H⟩))
  · have H := oq_f c9 H
    exact Wp.r_iconst (pc := 13) o_X12_hasRoom rfl (Wp.r_goto (pc := 14) o_X12_hasRoom rfl (Wp.r_ireturn (pc := 18) o_X12_hasRoom rfl (⟨rfl, H⟩)))
noncomputable abbrev Y_X12_strews (d : Nat) (Q : Qt) : Xt := Wp SHM (WpM SHM MT (d + 1)) (flat2 cq_X12_strews) (none) Q
noncomputable def f_X12_strews (a1 : Int32) (a2 : Int32) (s : Sg) : Option (Unit × Sg) :=
  bd (f_X12_houseRow a1 s) (fun r1 s2 =>
  ck (inr r1 2880) (
  nmx (pI s2 1 r1.toNatClampNeg ((s2.1 1 r1.toNatClampNeg) + a2)) (fun s4 =>
  some ((), pI s4 1 5 ((s4.1 1 5) + a2))
  )
  )
  )
set_option maxRecDepth 100000 in
theorem w_X12_strews {d : Nat} {s : Sg} {Q : Qt} (a1 : Int32) (a2 : Int32) (H : OQ (f_X12_strews a1 a2 s) (fun _ s9 => Q none s9)) : WpM SHM MT (d + 2) 268 [.ref 0, .int a1, .int a2] s Q := by
  refine WpM.enter me_X12_strews rfl rfl ?_
  show Y_X12_strews d Q 0 [(0, .ref 0), (1, .int a1), (2, .int a2)] [] s
  unfold f_X12_strews at H
  refine Wp.f_al0_gfr (pc := 0) o_X12_strews rfl rfl rfl fk_M_0_0 (Wp.r_iload_n1 (pc := 4) o_X12_strews rfl rfl (Wp.r_cs1 (pc := 5) o_X12_strews rfl (⟨rm8_ rfl, ?_⟩)))
  refine w_X12_houseRow (d := d) _ ?_
  refine oq_bd H (fun r1 s2 H => ?_)
  obtain ⟨hc3, H⟩ := oq_ck H
  refine Wp.r_dup2 (pc := 8) o_X12_strews rfl (Wp.r_iaload (pc := 9) o_X12_strews rfl ak_M_1 (⟨hc3, ?_⟩))
  refine Wp.r_iload_n2 (pc := 10) o_X12_strews rfl rfl (Wp.r_iadd (pc := 11) o_X12_strews rfl (Wp.r_iastore (pc := 12) o_X12_strews rfl ak_M_1 (⟨hc3, ?_⟩)))
  revert H
  generalize pI s2 1 r1.toNatClampNeg ((s2.1 1 r1.toNatClampNeg) + a2) = s4
  intro H
  have H := nmx_e H
  refine Wp.f_al0_gfr (pc := 13) o_X12_strews rfl rfl rfl fk_M_0_0 (Wp.r_iconst (pc := 17) o_X12_strews rfl (Wp.r_dup2 (pc := 18) o_X12_strews rfl (Wp.r_iaload (pc := 19) o_X12_strews rfl ak_M_1 (show (vp_in 5 2880) ∧ Y_X12_strews d Q 20 [(0, .ref 0), (1, .int a1), (2, .int a2)] [.int (s4.1 1 5), .int 5, .ref 1] s4 from ⟨by unfold vp_in; decide, ?_⟩))))
  refine Wp.r_iload_n2 (pc := 20) o_X12_strews rfl rfl (Wp.r_iadd (pc := 21) o_X12_strews rfl (Wp.r_iastore (pc := 22) o_X12_strews rfl ak_M_1 (show (vp_in 5 2880) ∧ Y_X12_strews d Q 23 [(0, .ref 0), (1, .int a1), (2, .int a2)] [] (pI s4 1 5 ((s4.1 1 5) + a2)) from ⟨by unfold vp_in; decide, ?_⟩)))
  exact Wp.r_return (pc := 23) o_X12_strews rfl (H)
noncomputable abbrev Y_X12_strew (d : Nat) (Q : Qt) : Xt := Wp SHM (WpM SHM MT (d + 3)) (flat2 cq_X12_strew) (some .int) Q
noncomputable def f_X12_strew_b21 (v1 : Int32) (v2 : Int32) (t0 : Int32) (s : Sg) : Option (Int32 × Sg) :=
  if t0 = 1 then
    bd (f_X12_refuse 1 s) (fun r3 s4 =>
    some (r3, s4)
    )
  else
    bd (f_X12_hasRoom v1 v2 s) (fun r5 s6 =>
    if r5 = 0 then
      bd (f_X12_refuse 4 s6) (fun r7 s8 =>
      some (r7, s8)
      )
    else
      if t0 = 7 then
        bd (f_X12_refuse 7 s6) (fun r9 s10 =>
        some (r9, s10)
        )
      else
        bd (f_X12_strews v1 v2 s6) (fun _ s12 =>
        bd (f_X12_houseRow v1 s12) (fun r13 s14 =>
        ck (inr r13 2880) (
        bd (f_X12_gives (s14.1 1 r13.toNatClampNeg) s14) (fun r16 s17 =>
        some (r16, s17)
        )
        )
        )
        )
    )
set_option maxRecDepth 100000 in
theorem w_X12_strew_b21 {d : Nat} {Q : Qt} (v1 : Int32) (v2 : Int32) (t0 : Int32) (s : Sg) (H : OQ (f_X12_strew_b21 v1 v2 t0 s) (fun r9 s9 => Q (some (.int r9)) s9)) : Y_X12_strew d Q 21 [(0, .ref 0), (1, .int v1), (2, .int v2)] [.int t0] s := by
  unfold f_X12_strew_b21 at H
  refine Wp.r_istore_n3 (pc := 21) o_X12_strew rfl (Wp.r_iload_n3 (pc := 22) o_X12_strew rfl rfl (Wp.r_iconst (pc := 23) o_X12_strew rfl (Wp.r_icmp_ne (pc := 24) o_X12_strew rfl (fun c9 => ?_) (fun c9 => ?_))))
  · have H := oq_t c9 H
    refine Wp.f_al0_iconst (pc := 27) o_X12_strew rfl rfl rfl (Wp.r_cv2 (pc := 29) o_X12_strew rfl fk_M_0_0 (⟨rm8_ rfl, ?_⟩))
    refine w_X12_refuse (d := d + 2) _ ?_
    refine oq_bd H (fun r3 s4 H => ?_)
    exact Wp.r_ireturn (pc := 32) o_X12_strew rfl (⟨rfl, H⟩)
  · have H := oq_f c9 H
    refine Wp.r_aload_n0 (pc := 33) o_X12_strew rfl rfl (Wp.r_iload_n1 (pc := 34) o_X12_strew rfl rfl (Wp.r_iload_n2 (pc := 35) o_X12_strew rfl rfl (Wp.r_cv3 (pc := 36) o_X12_strew rfl fk_M_0_0 (⟨rm8_ rfl, ?_⟩))))
    refine w_X12_hasRoom (d := d) _ _ ?_
    refine oq_bd H (fun r5 s6 H => ?_)
    refine Wp.r_if_ne (pc := 39) o_X12_strew rfl (fun c9 => ?_) (fun c9 => ?_)
    · have H := oq_t c9 H
      refine Wp.f_al0_iconst (pc := 42) o_X12_strew rfl rfl rfl (Wp.r_cv2 (pc := 44) o_X12_strew rfl fk_M_0_0 (⟨rm8_ rfl, ?_⟩))
      refine w_X12_refuse (d := d + 2) _ ?_
      refine oq_bd H (fun r7 s8 H => ?_)
      exact Wp.r_ireturn (pc := 47) o_X12_strew rfl (⟨rfl, H⟩)
    · have H := oq_f c9 H
      refine Wp.r_iload_n3 (pc := 48) o_X12_strew rfl rfl (Wp.r_bipush (pc := 49) o_X12_strew rfl (Wp.r_icmp_ne (pc := 51) o_X12_strew rfl (fun c9 => ?_) (fun c9 => ?_)))
      · have H := oq_t c9 H
        refine Wp.r_aload_n0 (pc := 54) o_X12_strew rfl rfl (Wp.r_bipush (pc := 55) o_X12_strew rfl (Wp.r_cv2 (pc := 57) o_X12_strew rfl fk_M_0_0 (⟨rm8_ rfl, ?_⟩)))
        refine w_X12_refuse (d := d + 2) _ ?_
        refine oq_bd H (fun r9 s10 H => ?_)
        exact Wp.r_ireturn (pc := 60) o_X12_strew rfl (⟨rfl, H⟩)
      · have H := oq_f c9 H
        refine Wp.r_aload_n0 (pc := 61) o_X12_strew rfl rfl (Wp.r_iload_n1 (pc := 62) o_X12_strew rfl rfl (Wp.r_iload_n2 (pc := 63) o_X12_strew rfl rfl (Wp.r_cv3 (pc := 64) o_X12_strew rfl fk_M_0_0 (⟨rm8_ rfl, ?_⟩))))
        refine w_X12_strews (d := d + 1) _ _ ?_
        refine oq_bd H (fun _ s12 H => ?_)
        refine Wp.r_aload_n0 (pc := 67) o_X12_strew rfl rfl (Wp.f_al0_gfr (pc := 68) o_X12_strew rfl rfl rfl fk_M_0_0 (Wp.r_iload_n1 (pc := 72) o_X12_strew rfl rfl (Wp.r_cs1 (pc := 73) o_X12_strew rfl (⟨rm8_ rfl, ?_⟩))))
        refine w_X12_houseRow (d := d + 2) _ ?_
        refine oq_bd H (fun r13 s14 H => ?_)
        obtain ⟨hc15, H⟩ := oq_ck H
        refine Wp.r_iaload (pc := 76) o_X12_strew rfl ak_M_1 (⟨hc15, ?_⟩)
        refine Wp.r_cv2 (pc := 77) o_X12_strew rfl fk_M_0_0 (⟨rm8_ rfl, ?_⟩)
        refine w_X12_gives (d := d + 2) _ ?_
        refine oq_bd H (fun r16 s17 H => ?_)
        exact Wp.r_ireturn (pc := 80) o_X12_strew rfl (⟨rfl, H⟩)
noncomputable def f_X12_strew (a1 : Int32) (a2 : Int32) (s : Sg) : Option (Int32 × Sg) :=
  bd (f_X12_isFrom a2.toInt64 1 999 s) (fun r1 s2 =>
  if r1 = 0 then
    f_X12_strew_b21 a1 a2 1 s2
  else
    bd (f_X12_wrongStep a1 s2) (fun r18 s19 =>
    f_X12_strew_b21 a1 a2 r18 s19
    )
  )
set_option maxRecDepth 100000 in
theorem w_X12_strew {d : Nat} {s : Sg} {Q : Qt} (a1 : Int32) (a2 : Int32) (H : OQ (f_X12_strew a1 a2 s) (fun r9 s9 => Q (some (.int r9)) s9)) : WpM SHM MT (d + 4) 269 [.ref 0, .int a1, .int a2] s Q := by
  refine WpM.enter me_X12_strew rfl rfl ?_
  show Y_X12_strew d Q 0 [(0, .ref 0), (1, .int a1), (2, .int a2)] [] s
  unfold f_X12_strew at H
  refine Wp.r_iload_n2 (pc := 0) o_X12_strew rfl rfl (Wp.r_i2l (pc := 1) o_X12_strew rfl (Wp.r_lconst (pc := 2) o_X12_strew rfl (Wp.r_ldc2_w (pc := 3) o_X12_strew rfl (Wp.r_cs3 (pc := 6) o_X12_strew rfl (⟨rm8_ rfl, ?_⟩)))))
  refine w_X12_isFrom (d := d + 2) _ _ _ ?_
  refine oq_bd H (fun r1 s2 H => ?_)
  refine Wp.r_if_ne (pc := 9) o_X12_strew rfl (fun c9 => ?_) (fun c9 => ?_)
  · have H := oq_t c9 H
    exact Wp.r_iconst (pc := 12) o_X12_strew rfl (Wp.r_goto (pc := 13) o_X12_strew rfl (Wp.weak2 [0, 1, 2] (w_X12_strew_b21 _ _ _ _ H) rfl))
  · have H := oq_f c9 H
    refine Wp.r_aload_n0 (pc := 16) o_X12_strew rfl rfl (Wp.r_iload_n1 (pc := 17) o_X12_strew rfl rfl (Wp.r_cv2 (pc := 18) o_X12_strew rfl fk_M_0_0 (⟨rm8_ rfl, ?_⟩)))
    refine w_X12_wrongStep (d := d + 1) _ ?_
    refine oq_bd H (fun r18 s19 H => ?_)
    exact Wp.weak2 [0, 1, 2] (w_X12_strew_b21 _ _ _ _ H) rfl
noncomputable abbrev Y_X12_buys (d : Nat) (Q : Qt) : Xt := Wp SHM (WpM SHM MT (d + 2)) (flat2 cq_X12_buys) (some .int) Q
noncomputable def f_X12_buys (a1 : Int32) (a2 : Int32) (a3 : Int32) (s : Sg) : Option (Int32 × Sg) :=
  ck (inr ((92 + (3 * a1)) + 2) 2880) (
  nmx ((a2 * (s.1 1 (((92 + (3 * a1)) + 2).toNatClampNeg))) / 16 : Int32) (fun x2 =>
  ck (inr (92 + (3 * a1)) 2880) (
  nmx (pI s 1 ((92 + (3 * a1)).toNatClampNeg) ((s.1 1 ((92 + (3 * a1)).toNatClampNeg)) - a2)) (fun s4 =>
  ck (inr ((92 + (3 * a1)) + 1) 2880) (
  nmx (pI s4 1 12 ((s4.1 1 12) - (a2 * (s4.1 1 (((92 + (3 * a1)) + 1).toNatClampNeg))))) (fun s6 =>
  bd (f_X12_strews a3 (a2 - x2) s6) (fun _ s8 =>
  bd (f_X12_houseRow a3 s8) (fun r9 s10 =>
  ck (inr (r9 + 1) 2880) (
  nmx (pI s10 1 ((r9 + 1).toNatClampNeg) ((s10.1 1 ((r9 + 1).toNatClampNeg)) + x2)) (fun s12 =>
  some (x2, pI s12 1 5 ((s12.1 1 5) + x2))
  )
  )
  )
  )
  )
  )
  )
  )
  )
  )
set_option maxRecDepth 100000 in
theorem w_X12_buys {d : Nat} {s : Sg} {Q : Qt} (a1 : Int32) (a2 : Int32) (a3 : Int32) (H : OQ (f_X12_buys a1 a2 a3 s) (fun r9 s9 => Q (some (.int r9)) s9)) : WpM SHM MT (d + 3) 270 [.ref 0, .int a1, .int a2, .int a3] s Q := by
  refine WpM.enter me_X12_buys rfl rfl ?_
  show Y_X12_buys d Q 0 [(0, .ref 0), (1, .int a1), (2, .int a2), (3, .int a3)] [] s
  unfold f_X12_buys at H
  obtain ⟨hc1, H⟩ := oq_ck H
  refine Wp.r_bipush (pc := 0) o_X12_buys rfl (Wp.r_iconst (pc := 2) o_X12_buys rfl (Wp.r_iload_n1 (pc := 3) o_X12_buys rfl rfl (Wp.r_imul (pc := 4) o_X12_buys rfl (Wp.r_iadd (pc := 5) o_X12_buys rfl (Wp.r_istore (pc := 6) o_X12_buys rfl (Wp.r_iload_n2 (pc := 8) o_X12_buys rfl rfl (Wp.f_al0_gfr (pc := 9) o_X12_buys rfl rfl rfl fk_M_0_0 (Wp.r_iload (pc := 13) o_X12_buys rfl rfl (Wp.r_iconst (pc := 15) o_X12_buys rfl (Wp.r_iadd (pc := 16) o_X12_buys rfl (Wp.r_iaload (pc := 17) o_X12_buys rfl ak_M_1 (⟨hc1, ?_⟩))))))))))))
  refine Wp.r_imul (pc := 18) o_X12_buys rfl (Wp.r_bipush (pc := 19) o_X12_buys rfl (Wp.r_idiv (pc := 21) o_X12_buys rfl (show (¬ (16 : Int32) = 0) ∧ Y_X12_buys d Q 22 [(4, .int (92 + (3 * a1))), (0, .ref 0), (1, .int a1), (2, .int a2), (3, .int a3)] [.int ((a2 * (s.1 1 (((92 + (3 * a1)) + 2).toNatClampNeg))) / 16)] s from ⟨by decide, ?_⟩)))
  refine Wp.r_istore (pc := 22) o_X12_buys rfl (show Y_X12_buys d Q 24 [(5, .int ((a2 * (s.1 1 (((92 + (3 * a1)) + 2).toNatClampNeg))) / 16)), (4, .int (92 + (3 * a1))), (0, .ref 0), (1, .int a1), (2, .int a2), (3, .int a3)] [] s from ?_)
  revert H
  generalize ((a2 * (s.1 1 (((92 + (3 * a1)) + 2).toNatClampNeg))) / 16 : Int32) = x2
  intro H
  have H := nmx_e H
  obtain ⟨hc3, H⟩ := oq_ck H
  refine Wp.f_al0_gfr (pc := 24) o_X12_buys rfl rfl rfl fk_M_0_0 (Wp.r_iload (pc := 28) o_X12_buys rfl rfl (Wp.r_dup2 (pc := 30) o_X12_buys rfl (Wp.r_iaload (pc := 31) o_X12_buys rfl ak_M_1 (⟨hc3, ?_⟩))))
  refine Wp.r_iload_n2 (pc := 32) o_X12_buys rfl rfl (Wp.r_isub (pc := 33) o_X12_buys rfl (Wp.r_iastore (pc := 34) o_X12_buys rfl ak_M_1 (⟨hc3, ?_⟩)))
  revert H
  generalize pI s 1 ((92 + (3 * a1)).toNatClampNeg) ((s.1 1 ((92 + (3 * a1)).toNatClampNeg)) - a2) = s4
  intro H
  have H := nmx_e H
  refine Wp.f_al0_gfr (pc := 35) o_X12_buys rfl rfl rfl fk_M_0_0 (Wp.r_bipush (pc := 39) o_X12_buys rfl (Wp.r_dup2 (pc := 41) o_X12_buys rfl (Wp.r_iaload (pc := 42) o_X12_buys rfl ak_M_1 (show (vp_in 12 2880) ∧ Y_X12_buys d Q 43 [(5, .int x2), (4, .int (92 + (3 * a1))), (0, .ref 0), (1, .int a1), (2, .int a2), (3, .int a3)] [.int (s4.1 1 12), .int 12, .ref 1] s4 from ⟨by unfold vp_in; decide, ?_⟩))))
  obtain ⟨hc5, H⟩ := oq_ck H
  refine Wp.r_iload_n2 (pc := 43) o_X12_buys rfl rfl (Wp.f_al0_gfr (pc := 44) o_X12_buys rfl rfl rfl fk_M_0_0 (Wp.r_iload (pc := 48) o_X12_buys rfl rfl (Wp.r_iconst (pc := 50) o_X12_buys rfl (Wp.r_iadd (pc := 51) o_X12_buys rfl (Wp.r_iaload (pc := 52) o_X12_buys rfl ak_M_1 (⟨hc5, ?_⟩))))))
  refine Wp.r_imul (pc := 53) o_X12_buys rfl (Wp.r_isub (pc := 54) o_X12_buys rfl (Wp.r_iastore (pc := 55) o_X12_buys rfl ak_M_1 (show (vp_in 12 2880) ∧ Y_X12_buys d Q 56 [(5, .int x2), (4, .int (92 + (3 * a1))), (0, .ref 0), (1, .int a1), (2, .int a2), (3, .int a3)] [] (pI s4 1 12 ((s4.1 1 12) - (a2 * (s4.1 1 (((92 + (3 * a1)) + 1).toNatClampNeg))))) from ⟨by unfold vp_in; decide, ?_⟩)))
  revert H
  generalize pI s4 1 12 ((s4.1 1 12) - (a2 * (s4.1 1 (((92 + (3 * a1)) + 1).toNatClampNeg)))) = s6
  intro H
  have H := nmx_e H
  refine Wp.r_aload_n0 (pc := 56) o_X12_buys rfl rfl (Wp.r_iload_n3 (pc := 57) o_X12_buys rfl rfl (Wp.r_iload_n2 (pc := 58) o_X12_buys rfl rfl (Wp.r_iload (pc := 59) o_X12_buys rfl rfl (Wp.r_isub (pc := 61) o_X12_buys rfl (Wp.r_cv3 (pc := 62) o_X12_buys rfl fk_M_0_0 (⟨rm8_ rfl, ?_⟩))))))
  refine w_X12_strews (d := d) _ _ ?_
  refine oq_bd H (fun _ s8 H => ?_)
  refine Wp.f_al0_gfr (pc := 65) o_X12_buys rfl rfl rfl fk_M_0_0 (Wp.r_iload_n3 (pc := 69) o_X12_buys rfl rfl (Wp.r_cs1 (pc := 70) o_X12_buys rfl (⟨rm8_ rfl, ?_⟩)))
  refine w_X12_houseRow (d := d + 1) _ ?_
  refine oq_bd H (fun r9 s10 H => ?_)
  obtain ⟨hc11, H⟩ := oq_ck H
  refine Wp.r_iconst (pc := 73) o_X12_buys rfl (Wp.r_iadd (pc := 74) o_X12_buys rfl (Wp.r_dup2 (pc := 75) o_X12_buys rfl (Wp.r_iaload (pc := 76) o_X12_buys rfl ak_M_1 (⟨hc11, ?_⟩))))
  refine Wp.r_iload (pc := 77) o_X12_buys rfl rfl (Wp.r_iadd (pc := 79) o_X12_buys rfl (Wp.r_iastore (pc := 80) o_X12_buys rfl ak_M_1 (⟨hc11, ?_⟩)))
  revert H
  generalize pI s10 1 ((r9 + 1).toNatClampNeg) ((s10.1 1 ((r9 + 1).toNatClampNeg)) + x2) = s12
  intro H
  have H := nmx_e H
  refine Wp.f_al0_gfr (pc := 81) o_X12_buys rfl rfl rfl fk_M_0_0 (Wp.r_iconst (pc := 85) o_X12_buys rfl (Wp.r_dup2 (pc := 86) o_X12_buys rfl (Wp.r_iaload (pc := 87) o_X12_buys rfl ak_M_1 (show (vp_in 5 2880) ∧ Y_X12_buys d Q 88 [(5, .int x2), (4, .int (92 + (3 * a1))), (0, .ref 0), (1, .int a1), (2, .int a2), (3, .int a3)] [.int (s12.1 1 5), .int 5, .ref 1] s12 from ⟨by unfold vp_in; decide, ?_⟩))))
  refine Wp.r_iload (pc := 88) o_X12_buys rfl rfl (Wp.r_iadd (pc := 90) o_X12_buys rfl (Wp.r_iastore (pc := 91) o_X12_buys rfl ak_M_1 (show (vp_in 5 2880) ∧ Y_X12_buys d Q 92 [(5, .int x2), (4, .int (92 + (3 * a1))), (0, .ref 0), (1, .int a1), (2, .int a2), (3, .int a3)] [] (pI s12 1 5 ((s12.1 1 5) + x2)) from ⟨by unfold vp_in; decide, ?_⟩)))
  exact Wp.r_iload (pc := 92) o_X12_buys rfl rfl (Wp.r_ireturn (pc := 94) o_X12_buys rfl (⟨rfl, H⟩))
noncomputable abbrev Y_X12_buy (d : Nat) (Q : Qt) : Xt := Wp SHM (WpM SHM MT (d + 3)) (flat2 cq_X12_buy) (some .int) Q
noncomputable def f_X12_buy (a1 : Int32) (a2 : Int32) (a3 : Int32) (s : Sg) : Option (Int32 × Sg) :=
  if a1 < 0 then
    bd (f_X12_refuse 1 s) (fun r1 s2 =>
    some (r1, s2)
    )
  else
    if (s.1 1 3) ≤ a1 then
      bd (f_X12_refuse 1 s) (fun r3 s4 =>
      some (r3, s4)
      )
    else
      bd (f_X12_isFrom a2.toInt64 1 999 s) (fun r5 s6 =>
      if r5 = 0 then
        bd (f_X12_refuse 1 s6) (fun r7 s8 =>
        some (r7, s8)
        )
      else
        bd (f_X12_isHouse a3 s6) (fun r9 s10 =>
        if r9 = 0 then
          bd (f_X12_refuse 1 s10) (fun r11 s12 =>
          some (r11, s12)
          )
        else
          bd (f_X12_hasRoom a3 a2 s10) (fun r13 s14 =>
          if r13 = 0 then
            bd (f_X12_refuse 4 s14) (fun r15 s16 =>
            some (r15, s16)
            )
          else
            ck (inr (92 + (3 * a1)) 2880) (
            if a2 ≤ (s14.1 1 ((92 + (3 * a1)).toNatClampNeg)) then
              bd (f_X12_isGone a3 s14) (fun r18 s19 =>
              if r18 = 0 then
                bd (f_X12_buys a1 a2 a3 s19) (fun r20 s21 =>
                bd (f_X12_gives r20 s21) (fun r22 s23 =>
                some (r22, s23)
                )
                )
              else
                bd (f_X12_refuse 7 s19) (fun r24 s25 =>
                some (r24, s25)
                )
              )
            else
              bd (f_X12_refuse 6 s14) (fun r26 s27 =>
              some (r26, s27)
              )
            )
          )
        )
      )
set_option maxRecDepth 100000 in
theorem w_X12_buy {d : Nat} {s : Sg} {Q : Qt} (a1 : Int32) (a2 : Int32) (a3 : Int32) (H : OQ (f_X12_buy a1 a2 a3 s) (fun r9 s9 => Q (some (.int r9)) s9)) : WpM SHM MT (d + 4) 271 [.ref 0, .int a1, .int a2, .int a3] s Q := by
  refine WpM.enter me_X12_buy rfl rfl ?_
  show Y_X12_buy d Q 0 [(0, .ref 0), (1, .int a1), (2, .int a2), (3, .int a3)] [] s
  unfold f_X12_buy at H
  refine Wp.r_iload_n1 (pc := 0) o_X12_buy rfl rfl (Wp.r_if_lt (pc := 1) o_X12_buy rfl (fun c9 => ?_) (fun c9 => ?_))
  · have H := oq_t c9 H
    refine Wp.f_al0_iconst (pc := 34) o_X12_buy rfl rfl rfl (Wp.r_cv2 (pc := 36) o_X12_buy rfl fk_M_0_0 (⟨rm8_ rfl, ?_⟩))
    refine w_X12_refuse (d := d + 2) _ ?_
    refine oq_bd H (fun r1 s2 H => ?_)
    exact Wp.r_ireturn (pc := 39) o_X12_buy rfl (⟨rfl, H⟩)
  · have H := oq_f c9 H
    refine Wp.r_iload_n1 (pc := 4) o_X12_buy rfl rfl (Wp.f_al0_gfr (pc := 5) o_X12_buy rfl rfl rfl fk_M_0_0 (Wp.r_iconst (pc := 9) o_X12_buy rfl (Wp.r_iaload (pc := 10) o_X12_buy rfl ak_M_1 (show (vp_in 3 2880) ∧ Y_X12_buy d Q 11 [(0, .ref 0), (1, .int a1), (2, .int a2), (3, .int a3)] [.int (s.1 1 3), .int a1] s from ⟨by unfold vp_in; decide, ?_⟩))))
    refine Wp.r_icmp_ge (pc := 11) o_X12_buy rfl (fun c9 => ?_) (fun c9 => ?_)
    · have H := oq_t c9 H
      refine Wp.f_al0_iconst (pc := 34) o_X12_buy rfl rfl rfl (Wp.r_cv2 (pc := 36) o_X12_buy rfl fk_M_0_0 (⟨rm8_ rfl, ?_⟩))
      refine w_X12_refuse (d := d + 2) _ ?_
      refine oq_bd H (fun r3 s4 H => ?_)
      exact Wp.r_ireturn (pc := 39) o_X12_buy rfl (⟨rfl, H⟩)
    · have H := oq_f c9 H
      refine Wp.r_iload_n2 (pc := 14) o_X12_buy rfl rfl (Wp.r_i2l (pc := 15) o_X12_buy rfl (Wp.r_lconst (pc := 16) o_X12_buy rfl (Wp.r_ldc2_w (pc := 17) o_X12_buy rfl (Wp.r_cs3 (pc := 20) o_X12_buy rfl (⟨rm8_ rfl, ?_⟩)))))
      refine w_X12_isFrom (d := d + 2) _ _ _ ?_
      refine oq_bd H (fun r5 s6 H => ?_)
      refine Wp.r_if_eq (pc := 23) o_X12_buy rfl (fun c9 => ?_) (fun c9 => ?_)
      · have H := oq_t c9 H
        refine Wp.f_al0_iconst (pc := 34) o_X12_buy rfl rfl rfl (Wp.r_cv2 (pc := 36) o_X12_buy rfl fk_M_0_0 (⟨rm8_ rfl, ?_⟩))
        refine w_X12_refuse (d := d + 2) _ ?_
        refine oq_bd H (fun r7 s8 H => ?_)
        exact Wp.r_ireturn (pc := 39) o_X12_buy rfl (⟨rfl, H⟩)
      · have H := oq_f c9 H
        refine Wp.r_aload_n0 (pc := 26) o_X12_buy rfl rfl (Wp.r_iload_n3 (pc := 27) o_X12_buy rfl rfl (Wp.r_cv2 (pc := 28) o_X12_buy rfl fk_M_0_0 (⟨rm8_ rfl, ?_⟩)))
        refine w_X12_isHouse (d := d + 2) _ ?_
        refine oq_bd H (fun r9 s10 H => ?_)
        refine Wp.r_if_ne (pc := 31) o_X12_buy rfl (fun c9 => ?_) (fun c9 => ?_)
        · have H := oq_t c9 H
          refine Wp.f_al0_iconst (pc := 34) o_X12_buy rfl rfl rfl (Wp.r_cv2 (pc := 36) o_X12_buy rfl fk_M_0_0 (⟨rm8_ rfl, ?_⟩))
          refine w_X12_refuse (d := d + 2) _ ?_
          refine oq_bd H (fun r11 s12 H => ?_)
          exact Wp.r_ireturn (pc := 39) o_X12_buy rfl (⟨rfl, H⟩)
        · have H := oq_f c9 H
          refine Wp.r_aload_n0 (pc := 40) o_X12_buy rfl rfl (Wp.r_iload_n3 (pc := 41) o_X12_buy rfl rfl (Wp.r_iload_n2 (pc := 42) o_X12_buy rfl rfl (Wp.r_cv3 (pc := 43) o_X12_buy rfl fk_M_0_0 (⟨rm8_ rfl, ?_⟩))))
          refine w_X12_hasRoom (d := d) _ _ ?_
          refine oq_bd H (fun r13 s14 H => ?_)
          refine Wp.r_if_ne (pc := 46) o_X12_buy rfl (fun c9 => ?_) (fun c9 => ?_)
          · have H := oq_t c9 H
            refine Wp.f_al0_iconst (pc := 49) o_X12_buy rfl rfl rfl (Wp.r_cv2 (pc := 51) o_X12_buy rfl fk_M_0_0 (⟨rm8_ rfl, ?_⟩))
            refine w_X12_refuse (d := d + 2) _ ?_
            refine oq_bd H (fun r15 s16 H => ?_)
            exact Wp.r_ireturn (pc := 54) o_X12_buy rfl (⟨rfl, H⟩)
          · have H := oq_f c9 H
            obtain ⟨hc17, H⟩ := oq_ck H
            refine Wp.f_al0_gfr (pc := 55) o_X12_buy rfl rfl rfl fk_M_0_0 (Wp.r_bipush (pc := 59) o_X12_buy rfl (Wp.r_iconst (pc := 61) o_X12_buy rfl (Wp.r_iload_n1 (pc := 62) o_X12_buy rfl rfl (Wp.r_imul (pc := 63) o_X12_buy rfl (Wp.r_iadd (pc := 64) o_X12_buy rfl (Wp.r_iaload (pc := 65) o_X12_buy rfl ak_M_1 (⟨hc17, ?_⟩)))))))
            refine Wp.r_iload_n2 (pc := 66) o_X12_buy rfl rfl (Wp.r_icmp_ge (pc := 67) o_X12_buy rfl (fun c9 => ?_) (fun c9 => ?_))
            · have H := oq_t c9 H
              refine Wp.r_aload_n0 (pc := 77) o_X12_buy rfl rfl (Wp.r_iload_n3 (pc := 78) o_X12_buy rfl rfl (Wp.r_cv2 (pc := 79) o_X12_buy rfl fk_M_0_0 (⟨rm8_ rfl, ?_⟩)))
              refine w_X12_isGone (d := d + 2) _ ?_
              refine oq_bd H (fun r18 s19 H => ?_)
              refine Wp.r_if_eq (pc := 82) o_X12_buy rfl (fun c9 => ?_) (fun c9 => ?_)
              · have H := oq_t c9 H
                refine Wp.r_aload_n0 (pc := 94) o_X12_buy rfl rfl (Wp.r_aload_n0 (pc := 95) o_X12_buy rfl rfl (Wp.r_iload_n1 (pc := 96) o_X12_buy rfl rfl (Wp.r_iload_n2 (pc := 97) o_X12_buy rfl rfl (Wp.r_iload_n3 (pc := 98) o_X12_buy rfl rfl (Wp.r_cv4 (pc := 99) o_X12_buy rfl fk_M_0_0 (⟨rm8_ rfl, ?_⟩))))))
                refine w_X12_buys (d := d) _ _ _ ?_
                refine oq_bd H (fun r20 s21 H => ?_)
                refine Wp.r_cv2 (pc := 102) o_X12_buy rfl fk_M_0_0 (⟨rm8_ rfl, ?_⟩)
                refine w_X12_gives (d := d + 2) _ ?_
                refine oq_bd H (fun r22 s23 H => ?_)
                exact Wp.r_ireturn (pc := 105) o_X12_buy rfl (⟨rfl, H⟩)
              · have H := oq_f c9 H
                refine Wp.r_aload_n0 (pc := 85) o_X12_buy rfl rfl (Wp.r_bipush (pc := 86) o_X12_buy rfl (Wp.r_cv2 (pc := 88) o_X12_buy rfl fk_M_0_0 (⟨rm8_ rfl, ?_⟩)))
                refine w_X12_refuse (d := d + 2) _ ?_
                refine oq_bd H (fun r24 s25 H => ?_)
                exact Wp.r_goto (pc := 91) o_X12_buy rfl (Wp.r_ireturn (pc := 105) o_X12_buy rfl (⟨rfl, H⟩))
            · have H := oq_f c9 H
              refine Wp.r_aload_n0 (pc := 70) o_X12_buy rfl rfl (Wp.r_bipush (pc := 71) o_X12_buy rfl (Wp.r_cv2 (pc := 73) o_X12_buy rfl fk_M_0_0 (⟨rm8_ rfl, ?_⟩)))
              refine w_X12_refuse (d := d + 2) _ ?_
              refine oq_bd H (fun r26 s27 H => ?_)
              exact Wp.r_ireturn (pc := 76) o_X12_buy rfl (⟨rfl, H⟩)
noncomputable abbrev Y_X12_sweeps (d : Nat) (Q : Qt) : Xt := Wp SHM (WpM SHM MT (d + 2)) (flat2 cq_X12_sweeps) (some .int) Q
noncomputable def f_X12_sweeps (a1 : Int32) (s : Sg) : Option (Int32 × Sg) :=
  bd (f_X12_grainsOn a1 s) (fun r1 s2 =>
  bd (f_X12_houseRow a1 s2) (fun r3 s4 =>
  ck (inr r3 2880) (
  bd (f_X12_houseRow a1 (pI s4 1 r3.toNatClampNeg 0)) (fun r6 s7 =>
  ck (inr (r6 + 1) 2880) (
  nmx (pI s7 1 ((r6 + 1).toNatClampNeg) 0) (fun s9 =>
  some (r1, pI s9 1 7 ((s9.1 1 7) + r1))
  )
  )
  )
  )
  )
  )
set_option maxRecDepth 100000 in
theorem w_X12_sweeps {d : Nat} {s : Sg} {Q : Qt} (a1 : Int32) (H : OQ (f_X12_sweeps a1 s) (fun r9 s9 => Q (some (.int r9)) s9)) : WpM SHM MT (d + 3) 272 [.ref 0, .int a1] s Q := by
  refine WpM.enter me_X12_sweeps rfl rfl ?_
  show Y_X12_sweeps d Q 0 [(0, .ref 0), (1, .int a1)] [] s
  unfold f_X12_sweeps at H
  refine Wp.r_aload_n0 (pc := 0) o_X12_sweeps rfl rfl (Wp.r_iload_n1 (pc := 1) o_X12_sweeps rfl rfl (Wp.r_cv2 (pc := 2) o_X12_sweeps rfl fk_M_0_0 (⟨rm8_ rfl, ?_⟩)))
  refine w_X12_grainsOn (d := d) _ ?_
  refine oq_bd H (fun r1 s2 H => ?_)
  refine Wp.r_istore_n2 (pc := 5) o_X12_sweeps rfl (Wp.f_al0_gfr (pc := 6) o_X12_sweeps rfl rfl rfl fk_M_0_0 (Wp.r_iload_n1 (pc := 10) o_X12_sweeps rfl rfl (Wp.r_cs1 (pc := 11) o_X12_sweeps rfl (⟨rm8_ rfl, ?_⟩))))
  refine w_X12_houseRow (d := d + 1) _ ?_
  refine oq_bd H (fun r3 s4 H => ?_)
  obtain ⟨hc5, H⟩ := oq_ck H
  refine Wp.r_iconst (pc := 14) o_X12_sweeps rfl (Wp.r_iastore (pc := 15) o_X12_sweeps rfl ak_M_1 (⟨hc5, ?_⟩))
  refine Wp.f_al0_gfr (pc := 16) o_X12_sweeps rfl rfl rfl fk_M_0_0 (Wp.r_iload_n1 (pc := 20) o_X12_sweeps rfl rfl (Wp.r_cs1 (pc := 21) o_X12_sweeps rfl (⟨rm8_ rfl, ?_⟩)))
  refine w_X12_houseRow (d := d + 1) _ ?_
  refine oq_bd H (fun r6 s7 H => ?_)
  obtain ⟨hc8, H⟩ := oq_ck H
  refine Wp.r_iconst (pc := 24) o_X12_sweeps rfl (Wp.r_iadd (pc := 25) o_X12_sweeps rfl (Wp.r_iconst (pc := 26) o_X12_sweeps rfl (Wp.r_iastore (pc := 27) o_X12_sweeps rfl ak_M_1 (⟨hc8, ?_⟩))))
  revert H
  generalize pI s7 1 ((r6 + 1).toNatClampNeg) 0 = s9
  intro H
  have H := nmx_e H
  refine Wp.f_al0_gfr (pc := 28) o_X12_sweeps rfl rfl rfl fk_M_0_0 (Wp.r_bipush (pc := 32) o_X12_sweeps rfl (Wp.r_dup2 (pc := 34) o_X12_sweeps rfl (Wp.r_iaload (pc := 35) o_X12_sweeps rfl ak_M_1 (show (vp_in 7 2880) ∧ Y_X12_sweeps d Q 36 [(2, .int r1), (0, .ref 0), (1, .int a1)] [.int (s9.1 1 7), .int 7, .ref 1] s9 from ⟨by unfold vp_in; decide, ?_⟩))))
  refine Wp.r_iload_n2 (pc := 36) o_X12_sweeps rfl rfl (Wp.r_iadd (pc := 37) o_X12_sweeps rfl (Wp.r_iastore (pc := 38) o_X12_sweeps rfl ak_M_1 (show (vp_in 7 2880) ∧ Y_X12_sweeps d Q 39 [(2, .int r1), (0, .ref 0), (1, .int a1)] [] (pI s9 1 7 ((s9.1 1 7) + r1)) from ⟨by unfold vp_in; decide, ?_⟩)))
  exact Wp.r_iload_n2 (pc := 39) o_X12_sweeps rfl rfl (Wp.r_ireturn (pc := 40) o_X12_sweeps rfl (⟨rfl, H⟩))
noncomputable abbrev Y_X12_sweep (d : Nat) (Q : Qt) : Xt := Wp SHM (WpM SHM MT (d + 3)) (flat2 cq_X12_sweep) (some .int) Q
noncomputable def f_X12_sweep (a1 : Int32) (s : Sg) : Option (Int32 × Sg) :=
  bd (f_X12_wrongStep a1 s) (fun r1 s2 =>
  if r1 ≤ 0 then
    bd (f_X12_sweeps a1 s2) (fun r3 s4 =>
    bd (f_X12_gives r3 s4) (fun r5 s6 =>
    some (r5, s6)
    )
    )
  else
    bd (f_X12_refuse r1 s2) (fun r7 s8 =>
    some (r7, s8)
    )
  )
set_option maxRecDepth 100000 in
theorem w_X12_sweep {d : Nat} {s : Sg} {Q : Qt} (a1 : Int32) (H : OQ (f_X12_sweep a1 s) (fun r9 s9 => Q (some (.int r9)) s9)) : WpM SHM MT (d + 4) 273 [.ref 0, .int a1] s Q := by
  refine WpM.enter me_X12_sweep rfl rfl ?_
  show Y_X12_sweep d Q 0 [(0, .ref 0), (1, .int a1)] [] s
  unfold f_X12_sweep at H
  refine Wp.r_aload_n0 (pc := 0) o_X12_sweep rfl rfl (Wp.r_iload_n1 (pc := 1) o_X12_sweep rfl rfl (Wp.r_cv2 (pc := 2) o_X12_sweep rfl fk_M_0_0 (⟨rm8_ rfl, ?_⟩)))
  refine w_X12_wrongStep (d := d + 1) _ ?_
  refine oq_bd H (fun r1 s2 H => ?_)
  refine Wp.r_istore_n2 (pc := 5) o_X12_sweep rfl (Wp.r_iload_n2 (pc := 6) o_X12_sweep rfl rfl (Wp.r_if_le (pc := 7) o_X12_sweep rfl (fun c9 => ?_) (fun c9 => ?_)))
  · have H := oq_t c9 H
    refine Wp.r_aload_n0 (pc := 18) o_X12_sweep rfl rfl (Wp.r_aload_n0 (pc := 19) o_X12_sweep rfl rfl (Wp.r_iload_n1 (pc := 20) o_X12_sweep rfl rfl (Wp.r_cv2 (pc := 21) o_X12_sweep rfl fk_M_0_0 (⟨rm8_ rfl, ?_⟩))))
    refine w_X12_sweeps (d := d) _ ?_
    refine oq_bd H (fun r3 s4 H => ?_)
    refine Wp.r_cv2 (pc := 24) o_X12_sweep rfl fk_M_0_0 (⟨rm8_ rfl, ?_⟩)
    refine w_X12_gives (d := d + 2) _ ?_
    refine oq_bd H (fun r5 s6 H => ?_)
    exact Wp.r_ireturn (pc := 27) o_X12_sweep rfl (⟨rfl, H⟩)
  · have H := oq_f c9 H
    refine Wp.r_aload_n0 (pc := 10) o_X12_sweep rfl rfl (Wp.r_iload_n2 (pc := 11) o_X12_sweep rfl rfl (Wp.r_cv2 (pc := 12) o_X12_sweep rfl fk_M_0_0 (⟨rm8_ rfl, ?_⟩)))
    refine w_X12_refuse (d := d + 2) _ ?_
    refine oq_bd H (fun r7 s8 H => ?_)
    exact Wp.r_goto (pc := 15) o_X12_sweep rfl (Wp.r_ireturn (pc := 27) o_X12_sweep rfl (⟨rfl, H⟩))
noncomputable abbrev Y_X12_brings (d : Nat) (Q : Qt) : Xt := Wp SHM (WpM SHM MT (d + 1)) (flat2 cq_X12_brings) (some .int) Q
noncomputable def f_X12_brings (a1 : Int32) (a2 : Int32) (a3 : Int32) (s : Sg) : Option (Int32 × Sg) :=
  bd (f_X12_houseRow a1 s) (fun r1 s2 =>
  ck (inr r1 2880) (
  nmx (if (s2.1 1 r1.toNatClampNeg) < a3 then (s2.1 1 r1.toNatClampNeg) else a3 : Int32) (fun x4 =>
  bd (f_X12_houseRow a1 s2) (fun r5 s6 =>
  ck (inr (r5 + 1) 2880) (
  nmx (if (s6.1 1 ((r5 + 1).toNatClampNeg)) < (a3 - x4) then (s6.1 1 ((r5 + 1).toNatClampNeg)) else (a3 - x4) : Int32) (fun x8 =>
  bd (f_X12_houseRow a1 s6) (fun r9 s10 =>
  ck (inr r9 2880) (
  nmx (pI s10 1 r9.toNatClampNeg ((s10.1 1 r9.toNatClampNeg) - x4)) (fun s12 =>
  bd (f_X12_houseRow a1 s12) (fun r13 s14 =>
  ck (inr (r13 + 1) 2880) (
  nmx (pI s14 1 ((r13 + 1).toNatClampNeg) ((s14.1 1 ((r13 + 1).toNatClampNeg)) - x8)) (fun s16 =>
  bd (f_X12_houseRow a2 s16) (fun r17 s18 =>
  ck (inr r17 2880) (
  nmx (pI s18 1 r17.toNatClampNeg ((s18.1 1 r17.toNatClampNeg) + x4)) (fun s20 =>
  bd (f_X12_houseRow a2 s20) (fun r21 s22 =>
  ck (inr (r21 + 1) 2880) (
  nmx (pI s22 1 ((r21 + 1).toNatClampNeg) ((s22.1 1 ((r21 + 1).toNatClampNeg)) + x8)) (fun s24 =>
  some (x4, s24)
  )
  )
  )
  )
  )
  )
  )
  )
  )
  )
  )
  )
  )
  )
  )
  )
  )
  )
set_option maxRecDepth 100000 in
theorem w_X12_brings {d : Nat} {s : Sg} {Q : Qt} (a1 : Int32) (a2 : Int32) (a3 : Int32) (H : OQ (f_X12_brings a1 a2 a3 s) (fun r9 s9 => Q (some (.int r9)) s9)) : WpM SHM MT (d + 2) 274 [.ref 0, .int a1, .int a2, .int a3] s Q := by
  refine WpM.enter me_X12_brings rfl rfl ?_
  show Y_X12_brings d Q 0 [(0, .ref 0), (1, .int a1), (2, .int a2), (3, .int a3)] [] s
  unfold f_X12_brings at H
  refine Wp.r_iload_n3 (pc := 0) o_X12_brings rfl rfl (Wp.f_al0_gfr (pc := 1) o_X12_brings rfl rfl rfl fk_M_0_0 (Wp.r_iload_n1 (pc := 5) o_X12_brings rfl rfl (Wp.r_cs1 (pc := 6) o_X12_brings rfl (⟨rm8_ rfl, ?_⟩))))
  refine w_X12_houseRow (d := d) _ ?_
  refine oq_bd H (fun r1 s2 H => ?_)
  obtain ⟨hc3, H⟩ := oq_ck H
  refine Wp.r_iaload (pc := 9) o_X12_brings rfl ak_M_1 (⟨hc3, ?_⟩)
  refine Wp.r_min (pc := 10) o_X12_brings rfl (⟨rm8_ rfl, ?_⟩)
  refine Wp.r_istore (pc := 13) o_X12_brings rfl (show Y_X12_brings d Q 15 [(4, .int (if (s2.1 1 r1.toNatClampNeg) < a3 then (s2.1 1 r1.toNatClampNeg) else a3)), (0, .ref 0), (1, .int a1), (2, .int a2), (3, .int a3)] [] s2 from ?_)
  revert H
  generalize (if (s2.1 1 r1.toNatClampNeg) < a3 then (s2.1 1 r1.toNatClampNeg) else a3 : Int32) = x4
  intro H
  have H := nmx_e H
  refine Wp.r_iload_n3 (pc := 15) o_X12_brings rfl rfl (Wp.r_iload (pc := 16) o_X12_brings rfl rfl (Wp.r_isub (pc := 18) o_X12_brings rfl (Wp.f_al0_gfr (pc := 19) o_X12_brings rfl rfl rfl fk_M_0_0 (Wp.r_iload_n1 (pc := 23) o_X12_brings rfl rfl (Wp.r_cs1 (pc := 24) o_X12_brings rfl (⟨rm8_ rfl, ?_⟩))))))
  refine w_X12_houseRow (d := d) _ ?_
  refine oq_bd H (fun r5 s6 H => ?_)
  obtain ⟨hc7, H⟩ := oq_ck H
  refine Wp.r_iconst (pc := 27) o_X12_brings rfl (Wp.r_iadd (pc := 28) o_X12_brings rfl (Wp.r_iaload (pc := 29) o_X12_brings rfl ak_M_1 (⟨hc7, ?_⟩)))
  refine Wp.r_min (pc := 30) o_X12_brings rfl (⟨rm8_ rfl, ?_⟩)
  refine Wp.r_istore (pc := 33) o_X12_brings rfl (show Y_X12_brings d Q 35 [(5, .int (if (s6.1 1 ((r5 + 1).toNatClampNeg)) < (a3 - x4) then (s6.1 1 ((r5 + 1).toNatClampNeg)) else (a3 - x4))), (4, .int x4), (0, .ref 0), (1, .int a1), (2, .int a2), (3, .int a3)] [] s6 from ?_)
  revert H
  generalize (if (s6.1 1 ((r5 + 1).toNatClampNeg)) < (a3 - x4) then (s6.1 1 ((r5 + 1).toNatClampNeg)) else (a3 - x4) : Int32) = x8
  intro H
  have H := nmx_e H
  refine Wp.f_al0_gfr (pc := 35) o_X12_brings rfl rfl rfl fk_M_0_0 (Wp.r_iload_n1 (pc := 39) o_X12_brings rfl rfl (Wp.r_cs1 (pc := 40) o_X12_brings rfl (⟨rm8_ rfl, ?_⟩)))
  refine w_X12_houseRow (d := d) _ ?_
  refine oq_bd H (fun r9 s10 H => ?_)
  obtain ⟨hc11, H⟩ := oq_ck H
  refine Wp.r_dup2 (pc := 43) o_X12_brings rfl (Wp.r_iaload (pc := 44) o_X12_brings rfl ak_M_1 (⟨hc11, ?_⟩))
  refine Wp.r_iload (pc := 45) o_X12_brings rfl rfl (Wp.r_isub (pc := 47) o_X12_brings rfl (Wp.r_iastore (pc := 48) o_X12_brings rfl ak_M_1 (⟨hc11, ?_⟩)))
  revert H
  generalize pI s10 1 r9.toNatClampNeg ((s10.1 1 r9.toNatClampNeg) - x4) = s12
  intro H
  have H := nmx_e H
  refine Wp.f_al0_gfr (pc := 49) o_X12_brings rfl rfl rfl fk_M_0_0 (Wp.r_iload_n1 (pc := 53) o_X12_brings rfl rfl (Wp.r_cs1 (pc := 54) o_X12_brings rfl (⟨rm8_ rfl, ?_⟩)))
  refine w_X12_houseRow (d := d) _ ?_
  refine oq_bd H (fun r13 s14 H => ?_)
  obtain ⟨hc15, H⟩ := oq_ck H
  refine Wp.r_iconst (pc := 57) o_X12_brings rfl (Wp.r_iadd (pc := 58) o_X12_brings rfl (Wp.r_dup2 (pc := 59) o_X12_brings rfl (Wp.r_iaload (pc := 60) o_X12_brings rfl ak_M_1 (⟨hc15, ?_⟩))))
  refine Wp.r_iload (pc := 61) o_X12_brings rfl rfl (Wp.r_isub (pc := 63) o_X12_brings rfl (Wp.r_iastore (pc := 64) o_X12_brings rfl ak_M_1 (⟨hc15, ?_⟩)))
  revert H
  generalize pI s14 1 ((r13 + 1).toNatClampNeg) ((s14.1 1 ((r13 + 1).toNatClampNeg)) - x8) = s16
  intro H
  have H := nmx_e H
  refine Wp.f_al0_gfr (pc := 65) o_X12_brings rfl rfl rfl fk_M_0_0 (Wp.r_iload_n2 (pc := 69) o_X12_brings rfl rfl (Wp.r_cs1 (pc := 70) o_X12_brings rfl (⟨rm8_ rfl, ?_⟩)))
  refine w_X12_houseRow (d := d) _ ?_
  refine oq_bd H (fun r17 s18 H => ?_)
  obtain ⟨hc19, H⟩ := oq_ck H
  refine Wp.r_dup2 (pc := 73) o_X12_brings rfl (Wp.r_iaload (pc := 74) o_X12_brings rfl ak_M_1 (⟨hc19, ?_⟩))
  refine Wp.r_iload (pc := 75) o_X12_brings rfl rfl (Wp.r_iadd (pc := 77) o_X12_brings rfl (Wp.r_iastore (pc := 78) o_X12_brings rfl ak_M_1 (⟨hc19, ?_⟩)))
  revert H
  generalize pI s18 1 r17.toNatClampNeg ((s18.1 1 r17.toNatClampNeg) + x4) = s20
  intro H
  have H := nmx_e H
  refine Wp.f_al0_gfr (pc := 79) o_X12_brings rfl rfl rfl fk_M_0_0 (Wp.r_iload_n2 (pc := 83) o_X12_brings rfl rfl (Wp.r_cs1 (pc := 84) o_X12_brings rfl (⟨rm8_ rfl, ?_⟩)))
  refine w_X12_houseRow (d := d) _ ?_
  refine oq_bd H (fun r21 s22 H => ?_)
  obtain ⟨hc23, H⟩ := oq_ck H
  refine Wp.r_iconst (pc := 87) o_X12_brings rfl (Wp.r_iadd (pc := 88) o_X12_brings rfl (Wp.r_dup2 (pc := 89) o_X12_brings rfl (Wp.r_iaload (pc := 90) o_X12_brings rfl ak_M_1 (⟨hc23, ?_⟩))))
  refine Wp.r_iload (pc := 91) o_X12_brings rfl rfl (Wp.r_iadd (pc := 93) o_X12_brings rfl (Wp.r_iastore (pc := 94) o_X12_brings rfl ak_M_1 (⟨hc23, ?_⟩)))
  revert H
  generalize pI s22 1 ((r21 + 1).toNatClampNeg) ((s22.1 1 ((r21 + 1).toNatClampNeg)) + x8) = s24
  intro H
  have H := nmx_e H
  exact Wp.r_iload (pc := 95) o_X12_brings rfl rfl (Wp.r_ireturn (pc := 97) o_X12_brings rfl (⟨rfl, H⟩))
noncomputable abbrev Y_X12_shovel (d : Nat) (Q : Qt) : Xt := Wp SHM (WpM SHM MT (d + 2)) (flat2 cq_X12_shovel) (some .int) Q
noncomputable def f_X12_shovel (a1 : Int32) (a2 : Int32) (a3 : Int32) (s : Sg) : Option (Int32 × Sg) :=
  bd (f_X12_isHouse a1 s) (fun r1 s2 =>
  if r1 = 0 then
    bd (f_X12_refuse 1 s2) (fun r3 s4 =>
    some (r3, s4)
    )
  else
    bd (f_X12_isHouse a2 s2) (fun r5 s6 =>
    if r5 = 0 then
      bd (f_X12_refuse 1 s6) (fun r7 s8 =>
      some (r7, s8)
      )
    else
      if a1 = a2 then
        bd (f_X12_refuse 1 s6) (fun r9 s10 =>
        some (r9, s10)
        )
      else
        bd (f_X12_isFrom a3.toInt64 1 999 s6) (fun r11 s12 =>
        if r11 = 0 then
          bd (f_X12_refuse 1 s12) (fun r13 s14 =>
          some (r13, s14)
          )
        else
          bd (f_X12_grainsOn a1 s12) (fun r15 s16 =>
          if a3 ≤ r15 then
            bd (f_X12_isGone a1 s16) (fun r17 s18 =>
            if r17 = 0 then
              bd (f_X12_isGone a2 s18) (fun r19 s20 =>
              if r19 = 0 then
                bd (f_X12_brings a1 a2 a3 s20) (fun r21 s22 =>
                bd (f_X12_gives r21 s22) (fun r23 s24 =>
                some (r23, s24)
                )
                )
              else
                bd (f_X12_refuse 7 s20) (fun r25 s26 =>
                some (r25, s26)
                )
              )
            else
              bd (f_X12_refuse 7 s18) (fun r27 s28 =>
              some (r27, s28)
              )
            )
          else
            bd (f_X12_refuse 6 s16) (fun r29 s30 =>
            some (r29, s30)
            )
          )
        )
    )
  )
set_option maxRecDepth 100000 in
theorem w_X12_shovel {d : Nat} {s : Sg} {Q : Qt} (a1 : Int32) (a2 : Int32) (a3 : Int32) (H : OQ (f_X12_shovel a1 a2 a3 s) (fun r9 s9 => Q (some (.int r9)) s9)) : WpM SHM MT (d + 3) 275 [.ref 0, .int a1, .int a2, .int a3] s Q := by
  refine WpM.enter me_X12_shovel rfl rfl ?_
  show Y_X12_shovel d Q 0 [(0, .ref 0), (1, .int a1), (2, .int a2), (3, .int a3)] [] s
  unfold f_X12_shovel at H
  refine Wp.r_aload_n0 (pc := 0) o_X12_shovel rfl rfl (Wp.r_iload_n1 (pc := 1) o_X12_shovel rfl rfl (Wp.r_cv2 (pc := 2) o_X12_shovel rfl fk_M_0_0 (⟨rm8_ rfl, ?_⟩)))
  refine w_X12_isHouse (d := d + 1) _ ?_
  refine oq_bd H (fun r1 s2 H => ?_)
  refine Wp.r_if_eq (pc := 5) o_X12_shovel rfl (fun c9 => ?_) (fun c9 => ?_)
  · have H := oq_t c9 H
    refine Wp.f_al0_iconst (pc := 33) o_X12_shovel rfl rfl rfl (Wp.r_cv2 (pc := 35) o_X12_shovel rfl fk_M_0_0 (⟨rm8_ rfl, ?_⟩))
    refine w_X12_refuse (d := d + 1) _ ?_
    refine oq_bd H (fun r3 s4 H => ?_)
    exact Wp.r_ireturn (pc := 38) o_X12_shovel rfl (⟨rfl, H⟩)
  · have H := oq_f c9 H
    refine Wp.r_aload_n0 (pc := 8) o_X12_shovel rfl rfl (Wp.r_iload_n2 (pc := 9) o_X12_shovel rfl rfl (Wp.r_cv2 (pc := 10) o_X12_shovel rfl fk_M_0_0 (⟨rm8_ rfl, ?_⟩)))
    refine w_X12_isHouse (d := d + 1) _ ?_
    refine oq_bd H (fun r5 s6 H => ?_)
    refine Wp.r_if_eq (pc := 13) o_X12_shovel rfl (fun c9 => ?_) (fun c9 => ?_)
    · have H := oq_t c9 H
      refine Wp.f_al0_iconst (pc := 33) o_X12_shovel rfl rfl rfl (Wp.r_cv2 (pc := 35) o_X12_shovel rfl fk_M_0_0 (⟨rm8_ rfl, ?_⟩))
      refine w_X12_refuse (d := d + 1) _ ?_
      refine oq_bd H (fun r7 s8 H => ?_)
      exact Wp.r_ireturn (pc := 38) o_X12_shovel rfl (⟨rfl, H⟩)
    · have H := oq_f c9 H
      refine Wp.r_iload_n1 (pc := 16) o_X12_shovel rfl rfl (Wp.r_iload_n2 (pc := 17) o_X12_shovel rfl rfl (Wp.r_icmp_eq (pc := 18) o_X12_shovel rfl (fun c9 => ?_) (fun c9 => ?_)))
      · have H := oq_t c9 H
        refine Wp.f_al0_iconst (pc := 33) o_X12_shovel rfl rfl rfl (Wp.r_cv2 (pc := 35) o_X12_shovel rfl fk_M_0_0 (⟨rm8_ rfl, ?_⟩))
        refine w_X12_refuse (d := d + 1) _ ?_
        refine oq_bd H (fun r9 s10 H => ?_)
        exact Wp.r_ireturn (pc := 38) o_X12_shovel rfl (⟨rfl, H⟩)
      · have H := oq_f c9 H
        refine Wp.r_iload_n3 (pc := 21) o_X12_shovel rfl rfl (Wp.r_i2l (pc := 22) o_X12_shovel rfl (Wp.r_lconst (pc := 23) o_X12_shovel rfl (Wp.r_ldc2_w (pc := 24) o_X12_shovel rfl (Wp.r_cs3 (pc := 27) o_X12_shovel rfl (⟨rm8_ rfl, ?_⟩)))))
        refine w_X12_isFrom (d := d + 1) _ _ _ ?_
        refine oq_bd H (fun r11 s12 H => ?_)
        refine Wp.r_if_ne (pc := 30) o_X12_shovel rfl (fun c9 => ?_) (fun c9 => ?_)
        · have H := oq_t c9 H
          refine Wp.f_al0_iconst (pc := 33) o_X12_shovel rfl rfl rfl (Wp.r_cv2 (pc := 35) o_X12_shovel rfl fk_M_0_0 (⟨rm8_ rfl, ?_⟩))
          refine w_X12_refuse (d := d + 1) _ ?_
          refine oq_bd H (fun r13 s14 H => ?_)
          exact Wp.r_ireturn (pc := 38) o_X12_shovel rfl (⟨rfl, H⟩)
        · have H := oq_f c9 H
          refine Wp.r_aload_n0 (pc := 39) o_X12_shovel rfl rfl (Wp.r_iload_n1 (pc := 40) o_X12_shovel rfl rfl (Wp.r_cv2 (pc := 41) o_X12_shovel rfl fk_M_0_0 (⟨rm8_ rfl, ?_⟩)))
          refine w_X12_grainsOn (d := d) _ ?_
          refine oq_bd H (fun r15 s16 H => ?_)
          refine Wp.r_iload_n3 (pc := 44) o_X12_shovel rfl rfl (Wp.r_icmp_ge (pc := 45) o_X12_shovel rfl (fun c9 => ?_) (fun c9 => ?_))
          · have H := oq_t c9 H
            refine Wp.r_aload_n0 (pc := 55) o_X12_shovel rfl rfl (Wp.r_iload_n1 (pc := 56) o_X12_shovel rfl rfl (Wp.r_cv2 (pc := 57) o_X12_shovel rfl fk_M_0_0 (⟨rm8_ rfl, ?_⟩)))
            refine w_X12_isGone (d := d + 1) _ ?_
            refine oq_bd H (fun r17 s18 H => ?_)
            refine Wp.r_if_ne (pc := 60) o_X12_shovel rfl (fun c9 => ?_) (fun c9 => ?_)
            · have H := oq_t c9 H
              refine Wp.r_aload_n0 (pc := 63) o_X12_shovel rfl rfl (Wp.r_iload_n2 (pc := 64) o_X12_shovel rfl rfl (Wp.r_cv2 (pc := 65) o_X12_shovel rfl fk_M_0_0 (⟨rm8_ rfl, ?_⟩)))
              refine w_X12_isGone (d := d + 1) _ ?_
              refine oq_bd H (fun r19 s20 H => ?_)
              refine Wp.r_if_eq (pc := 68) o_X12_shovel rfl (fun c9 => ?_) (fun c9 => ?_)
              · have H := oq_t c9 H
                refine Wp.r_aload_n0 (pc := 80) o_X12_shovel rfl rfl (Wp.r_aload_n0 (pc := 81) o_X12_shovel rfl rfl (Wp.r_iload_n1 (pc := 82) o_X12_shovel rfl rfl (Wp.r_iload_n2 (pc := 83) o_X12_shovel rfl rfl (Wp.r_iload_n3 (pc := 84) o_X12_shovel rfl rfl (Wp.r_cv4 (pc := 85) o_X12_shovel rfl fk_M_0_0 (⟨rm8_ rfl, ?_⟩))))))
                refine w_X12_brings (d := d) _ _ _ ?_
                refine oq_bd H (fun r21 s22 H => ?_)
                refine Wp.r_cv2 (pc := 88) o_X12_shovel rfl fk_M_0_0 (⟨rm8_ rfl, ?_⟩)
                refine w_X12_gives (d := d + 1) _ ?_
                refine oq_bd H (fun r23 s24 H => ?_)
                exact Wp.r_ireturn (pc := 91) o_X12_shovel rfl (⟨rfl, H⟩)
              · have H := oq_f c9 H
                refine Wp.r_aload_n0 (pc := 71) o_X12_shovel rfl rfl (Wp.r_bipush (pc := 72) o_X12_shovel rfl (Wp.r_cv2 (pc := 74) o_X12_shovel rfl fk_M_0_0 (⟨rm8_ rfl, ?_⟩)))
                refine w_X12_refuse (d := d + 1) _ ?_
                refine oq_bd H (fun r25 s26 H => ?_)
                exact Wp.r_goto (pc := 77) o_X12_shovel rfl (Wp.r_ireturn (pc := 91) o_X12_shovel rfl (⟨rfl, H⟩))
            · have H := oq_f c9 H
              refine Wp.r_aload_n0 (pc := 71) o_X12_shovel rfl rfl (Wp.r_bipush (pc := 72) o_X12_shovel rfl (Wp.r_cv2 (pc := 74) o_X12_shovel rfl fk_M_0_0 (⟨rm8_ rfl, ?_⟩)))
              refine w_X12_refuse (d := d + 1) _ ?_
              refine oq_bd H (fun r27 s28 H => ?_)
              exact Wp.r_goto (pc := 77) o_X12_shovel rfl (Wp.r_ireturn (pc := 91) o_X12_shovel rfl (⟨rfl, H⟩))
          · have H := oq_f c9 H
            refine Wp.r_aload_n0 (pc := 48) o_X12_shovel rfl rfl (Wp.r_bipush (pc := 49) o_X12_shovel rfl (Wp.r_cv2 (pc := 51) o_X12_shovel rfl fk_M_0_0 (⟨rm8_ rfl, ?_⟩)))
            refine w_X12_refuse (d := d + 1) _ ?_
            refine oq_bd H (fun r29 s30 H => ?_)
            exact Wp.r_ireturn (pc := 54) o_X12_shovel rfl (⟨rfl, H⟩)
noncomputable abbrev Y_X12_rains (d : Nat) (Q : Qt) : Xt := Wp SHM (WpM SHM MT (d + 1)) (flat2 cq_X12_rains) (some .int) Q
noncomputable def f_X12_rains_b4 : Nat → Int32 → Int32 → Sg → Option (Int32 × Sg)
  | 0, _, _, _ => none
  | n + 1, v1, v2, s =>
    if (s.1 1 0) ≤ v2 then
      nmx (pI (pI s 1 6 ((s.1 1 6) + v1)) 1 10 1) (fun s1 =>
      some (v1, s1)
      )
    else
      bd (f_X12_houseRow v2 s) (fun r2 s3 =>
      ck (inr r2 2880) (
      nmx (if (s3.1 1 13) < (s3.1 1 r2.toNatClampNeg) then (s3.1 1 13) else (s3.1 1 r2.toNatClampNeg) : Int32) (fun x5 =>
      ck (inr (r2 + 1) 2880) (
      nmx (v1 + (x5 + (s3.1 1 ((r2 + 1).toNatClampNeg))) : Int32) (fun x7 =>
      nmx (pI s3 1 r2.toNatClampNeg ((s3.1 1 r2.toNatClampNeg) - x5)) (fun s8 =>
      nmx (pI s8 1 ((r2 + 1).toNatClampNeg) 0) (fun s9 =>
      (f_X12_rains_b4 n) x7 (v2 + 1) s9
      )
      )
      )
      )
      )
      )
      )
set_option maxRecDepth 100000 in
theorem w_X12_rains_b4 {d : Nat} {Q : Qt} (n : Nat) : ∀ (v1 : Int32) (v2 : Int32) (s : Sg), OQ (f_X12_rains_b4 n v1 v2 s) (fun r9 s9 => Q (some (.int r9)) s9) → Y_X12_rains d Q 4 [(0, .ref 0), (1, .int v1), (2, .int v2)] [] s := by
  induction n with
  | zero => intro v1 v2 s H; exact H.elim
  | succ n ih =>
    intro v1 v2 s H
    unfold f_X12_rains_b4 at H
    refine Wp.r_iload_n2 (pc := 4) o_X12_rains rfl rfl (Wp.f_al0_gfr (pc := 5) o_X12_rains rfl rfl rfl fk_M_0_0 (Wp.r_iconst (pc := 9) o_X12_rains rfl (Wp.r_iaload (pc := 10) o_X12_rains rfl ak_M_1 (show (vp_in 0 2880) ∧ Y_X12_rains d Q 11 [(0, .ref 0), (1, .int v1), (2, .int v2)] [.int (s.1 1 0), .int v2] s from ⟨by unfold vp_in; decide, ?_⟩))))
    refine Wp.r_icmp_ge (pc := 11) o_X12_rains rfl (fun c9 => ?_) (fun c9 => ?_)
    · have H := oq_t c9 H
      refine Wp.f_al0_gfr (pc := 77) o_X12_rains rfl rfl rfl fk_M_0_0 (Wp.r_bipush (pc := 81) o_X12_rains rfl (Wp.r_dup2 (pc := 83) o_X12_rains rfl (Wp.r_iaload (pc := 84) o_X12_rains rfl ak_M_1 (show (vp_in 6 2880) ∧ Y_X12_rains d Q 85 [(0, .ref 0), (1, .int v1), (2, .int v2)] [.int (s.1 1 6), .int 6, .ref 1] s from ⟨by unfold vp_in; decide, ?_⟩))))
      refine Wp.r_iload_n1 (pc := 85) o_X12_rains rfl rfl (Wp.r_iadd (pc := 86) o_X12_rains rfl (Wp.r_iastore (pc := 87) o_X12_rains rfl ak_M_1 (show (vp_in 6 2880) ∧ Y_X12_rains d Q 88 [(0, .ref 0), (1, .int v1), (2, .int v2)] [] (pI s 1 6 ((s.1 1 6) + v1)) from ⟨by unfold vp_in; decide, ?_⟩)))
      refine Wp.f_al0_gfr (pc := 88) o_X12_rains rfl rfl rfl fk_M_0_0 (Wp.r_bipush (pc := 92) o_X12_rains rfl (Wp.r_iconst (pc := 94) o_X12_rains rfl (Wp.r_iastore (pc := 95) o_X12_rains rfl ak_M_1 (show (vp_in 10 2880) ∧ Y_X12_rains d Q 96 [(0, .ref 0), (1, .int v1), (2, .int v2)] [] (pI (pI s 1 6 ((s.1 1 6) + v1)) 1 10 1) from ⟨by unfold vp_in; decide, ?_⟩))))
      revert H
      generalize pI (pI s 1 6 ((s.1 1 6) + v1)) 1 10 1 = s1
      intro H
      have H := nmx_e H
      exact Wp.r_iload_n1 (pc := 96) o_X12_rains rfl rfl (Wp.r_ireturn (pc := 97) o_X12_rains rfl (⟨rfl, H⟩))
    · have H := oq_f c9 H
      refine Wp.r_iload_n2 (pc := 14) o_X12_rains rfl rfl (Wp.r_cs1 (pc := 15) o_X12_rains rfl (⟨rm8_ rfl, ?_⟩))
      refine w_X12_houseRow (d := d) _ ?_
      refine oq_bd H (fun r2 s3 H => ?_)
      obtain ⟨hc4, H⟩ := oq_ck H
      refine Wp.r_istore_n3 (pc := 18) o_X12_rains rfl (Wp.f_al0_gfr (pc := 19) o_X12_rains rfl rfl rfl fk_M_0_0 (Wp.r_iload_n3 (pc := 23) o_X12_rains rfl rfl (Wp.r_iaload (pc := 24) o_X12_rains rfl ak_M_1 (⟨hc4, ?_⟩))))
      refine Wp.f_al0_gfr (pc := 25) o_X12_rains rfl rfl rfl fk_M_0_0 (Wp.r_bipush (pc := 29) o_X12_rains rfl (Wp.r_iaload (pc := 31) o_X12_rains rfl ak_M_1 (show (vp_in 13 2880) ∧ Y_X12_rains d Q 32 [(3, .int r2), (0, .ref 0), (1, .int v1), (2, .int v2)] [.int (s3.1 1 13), .int (s3.1 1 r2.toNatClampNeg)] s3 from ⟨by unfold vp_in; decide, ?_⟩)))
      refine Wp.r_min (pc := 32) o_X12_rains rfl (⟨rm8_ rfl, ?_⟩)
      refine Wp.r_istore (pc := 35) o_X12_rains rfl (show Y_X12_rains d Q 37 [(4, .int (if (s3.1 1 13) < (s3.1 1 r2.toNatClampNeg) then (s3.1 1 13) else (s3.1 1 r2.toNatClampNeg))), (3, .int r2), (0, .ref 0), (1, .int v1), (2, .int v2)] [] s3 from ?_)
      revert H
      generalize (if (s3.1 1 13) < (s3.1 1 r2.toNatClampNeg) then (s3.1 1 13) else (s3.1 1 r2.toNatClampNeg) : Int32) = x5
      intro H
      have H := nmx_e H
      obtain ⟨hc6, H⟩ := oq_ck H
      refine Wp.r_iload_n1 (pc := 37) o_X12_rains rfl rfl (Wp.r_iload (pc := 38) o_X12_rains rfl rfl (Wp.f_al0_gfr (pc := 40) o_X12_rains rfl rfl rfl fk_M_0_0 (Wp.r_iload_n3 (pc := 44) o_X12_rains rfl rfl (Wp.r_iconst (pc := 45) o_X12_rains rfl (Wp.r_iadd (pc := 46) o_X12_rains rfl (Wp.r_iaload (pc := 47) o_X12_rains rfl ak_M_1 (⟨hc6, ?_⟩)))))))
      refine Wp.r_iadd (pc := 48) o_X12_rains rfl (Wp.r_iadd (pc := 49) o_X12_rains rfl (Wp.r_istore_n1 (pc := 50) o_X12_rains rfl (show Y_X12_rains d Q 51 [(1, .int (v1 + (x5 + (s3.1 1 ((r2 + 1).toNatClampNeg))))), (4, .int x5), (3, .int r2), (0, .ref 0), (2, .int v2)] [] s3 from ?_)))
      revert H
      generalize (v1 + (x5 + (s3.1 1 ((r2 + 1).toNatClampNeg))) : Int32) = x7
      intro H
      have H := nmx_e H
      refine Wp.f_al0_gfr (pc := 51) o_X12_rains rfl rfl rfl fk_M_0_0 (Wp.r_iload_n3 (pc := 55) o_X12_rains rfl rfl (Wp.r_dup2 (pc := 56) o_X12_rains rfl (Wp.r_iaload (pc := 57) o_X12_rains rfl ak_M_1 (⟨hc4, ?_⟩))))
      refine Wp.r_iload (pc := 58) o_X12_rains rfl rfl (Wp.r_isub (pc := 60) o_X12_rains rfl (Wp.r_iastore (pc := 61) o_X12_rains rfl ak_M_1 (⟨hc4, ?_⟩)))
      revert H
      generalize pI s3 1 r2.toNatClampNeg ((s3.1 1 r2.toNatClampNeg) - x5) = s8
      intro H
      have H := nmx_e H
      refine Wp.f_al0_gfr (pc := 62) o_X12_rains rfl rfl rfl fk_M_0_0 (Wp.r_iload_n3 (pc := 66) o_X12_rains rfl rfl (Wp.r_iconst (pc := 67) o_X12_rains rfl (Wp.r_iadd (pc := 68) o_X12_rains rfl (Wp.r_iconst (pc := 69) o_X12_rains rfl (Wp.r_iastore (pc := 70) o_X12_rains rfl ak_M_1 (⟨hc6, ?_⟩))))))
      revert H
      generalize pI s8 1 ((r2 + 1).toNatClampNeg) 0 = s9
      intro H
      have H := nmx_e H
      exact Wp.f_iinc_goto (pc := 71) o_X12_rains rfl rfl rfl (Wp.weak2 [4, 1, 0] (ih _ _ _ H) rfl)
noncomputable def f_X12_rains  (s : Sg) : Option (Int32 × Sg) :=
  f_X12_rains_b4 BIG 0 0 s
set_option maxRecDepth 100000 in
theorem w_X12_rains {d : Nat} {s : Sg} {Q : Qt}  (H : OQ (f_X12_rains  s) (fun r9 s9 => Q (some (.int r9)) s9)) : WpM SHM MT (d + 2) 276 [.ref 0] s Q := by
  refine WpM.enter me_X12_rains rfl rfl ?_
  show Y_X12_rains d Q 0 [(0, .ref 0)] [] s
  unfold f_X12_rains at H
  exact Wp.r_iconst (pc := 0) o_X12_rains rfl (Wp.r_istore_n1 (pc := 1) o_X12_rains rfl (Wp.r_iconst (pc := 2) o_X12_rains rfl (Wp.r_istore_n2 (pc := 3) o_X12_rains rfl (Wp.weak2 [2, 1, 0] (w_X12_rains_b4 _ _ _ _ H) rfl))))
noncomputable abbrev Y_X12_rain (d : Nat) (Q : Qt) : Xt := Wp SHM (WpM SHM MT (d + 2)) (flat2 cq_X12_rain) (some .int) Q
noncomputable def f_X12_rain  (s : Sg) : Option (Int32 × Sg) :=
  bd (f_X12_rains s) (fun r1 s2 =>
  bd (f_X12_gives r1 s2) (fun r3 s4 =>
  some (r3, s4)
  )
  )
set_option maxRecDepth 100000 in
theorem w_X12_rain {d : Nat} {s : Sg} {Q : Qt}  (H : OQ (f_X12_rain  s) (fun r9 s9 => Q (some (.int r9)) s9)) : WpM SHM MT (d + 3) 277 [.ref 0] s Q := by
  refine WpM.enter me_X12_rain rfl rfl ?_
  show Y_X12_rain d Q 0 [(0, .ref 0)] [] s
  unfold f_X12_rain at H
  refine Wp.r_aload_n0 (pc := 0) o_X12_rain rfl rfl (Wp.r_aload_n0 (pc := 1) o_X12_rain rfl rfl (Wp.r_cv1 (pc := 2) o_X12_rain rfl fk_M_0_0 (⟨rm8_ rfl, ?_⟩)))
  refine w_X12_rains (d := d)  ?_
  refine oq_bd H (fun r1 s2 H => ?_)
  refine Wp.r_cv2 (pc := 5) o_X12_rain rfl fk_M_0_0 (⟨rm8_ rfl, ?_⟩)
  refine w_X12_gives (d := d + 1) _ ?_
  refine oq_bd H (fun r3 s4 H => ?_)
  exact Wp.r_ireturn (pc := 8) o_X12_rain rfl (⟨rfl, H⟩)
noncomputable abbrev Y_X12_snows (d : Nat) (Q : Qt) : Xt := Wp SHM (WpM SHM MT (d + 1)) (flat2 cq_X12_snows) (none) Q
noncomputable def f_X12_snows_b2 : Nat → Int32 → Int32 → Sg → Option (Unit × Sg)
  | 0, _, _, _ => none
  | n + 1, v1, v2, s =>
    if (s.1 1 0) ≤ v2 then
      some ((), s)
    else
      bd (f_X12_isGone v2 s) (fun r1 s2 =>
      if r1 = 0 then
        bd (f_X12_houseRow v2 s2) (fun r3 s4 =>
        bd (f_X12_houseRow v2 s4) (fun r5 s6 =>
        ck (inr (r5 + 2) 2880) (
        ck (inr (r3 + 2) 2880) (
        nmx (pI s6 1 ((r3 + 2).toNatClampNeg) (if ((s6.1 1 ((r5 + 2).toNatClampNeg)) + v1) < 99 then ((s6.1 1 ((r5 + 2).toNatClampNeg)) + v1) else 99)) (fun s9 =>
        (f_X12_snows_b2 n) v1 (v2 + 1) s9
        )
        )
        )
        )
        )
      else
        (f_X12_snows_b2 n) v1 (v2 + 1) s2
      )
set_option maxRecDepth 100000 in
theorem w_X12_snows_b2 {d : Nat} {Q : Qt} (n : Nat) : ∀ (v1 : Int32) (v2 : Int32) (s : Sg), OQ (f_X12_snows_b2 n v1 v2 s) (fun _ s9 => Q none s9) → Y_X12_snows d Q 2 [(0, .ref 0), (1, .int v1), (2, .int v2)] [] s := by
  induction n with
  | zero => intro v1 v2 s H; exact H.elim
  | succ n ih =>
    intro v1 v2 s H
    unfold f_X12_snows_b2 at H
    refine Wp.r_iload_n2 (pc := 2) o_X12_snows rfl rfl (Wp.f_al0_gfr (pc := 3) o_X12_snows rfl rfl rfl fk_M_0_0 (Wp.r_iconst (pc := 7) o_X12_snows rfl (Wp.r_iaload (pc := 8) o_X12_snows rfl ak_M_1 (show (vp_in 0 2880) ∧ Y_X12_snows d Q 9 [(0, .ref 0), (1, .int v1), (2, .int v2)] [.int (s.1 1 0), .int v2] s from ⟨by unfold vp_in; decide, ?_⟩))))
    refine Wp.r_icmp_ge (pc := 9) o_X12_snows rfl (fun c9 => ?_) (fun c9 => ?_)
    · have H := oq_t c9 H
      exact Wp.r_return (pc := 55) o_X12_snows rfl (H)
    · have H := oq_f c9 H
      refine Wp.r_aload_n0 (pc := 12) o_X12_snows rfl rfl (Wp.r_iload_n2 (pc := 13) o_X12_snows rfl rfl (Wp.r_cv2 (pc := 14) o_X12_snows rfl fk_M_0_0 (⟨rm8_ rfl, ?_⟩)))
      refine w_X12_isGone (d := d) _ ?_
      refine oq_bd H (fun r1 s2 H => ?_)
      refine Wp.r_if_ne (pc := 17) o_X12_snows rfl (fun c9 => ?_) (fun c9 => ?_)
      · have H := oq_t c9 H
        refine Wp.f_al0_gfr (pc := 20) o_X12_snows rfl rfl rfl fk_M_0_0 (Wp.r_iload_n2 (pc := 24) o_X12_snows rfl rfl (Wp.r_cs1 (pc := 25) o_X12_snows rfl (⟨rm8_ rfl, ?_⟩)))
        refine w_X12_houseRow (d := d) _ ?_
        refine oq_bd H (fun r3 s4 H => ?_)
        refine Wp.r_iconst (pc := 28) o_X12_snows rfl (Wp.r_iadd (pc := 29) o_X12_snows rfl (Wp.r_bipush (pc := 30) o_X12_snows rfl (Wp.f_al0_gfr (pc := 32) o_X12_snows rfl rfl rfl fk_M_0_0 (Wp.r_iload_n2 (pc := 36) o_X12_snows rfl rfl (Wp.r_cs1 (pc := 37) o_X12_snows rfl (⟨rm8_ rfl, ?_⟩))))))
        refine w_X12_houseRow (d := d) _ ?_
        refine oq_bd H (fun r5 s6 H => ?_)
        obtain ⟨hc7, H⟩ := oq_ck H
        refine Wp.r_iconst (pc := 40) o_X12_snows rfl (Wp.r_iadd (pc := 41) o_X12_snows rfl (Wp.r_iaload (pc := 42) o_X12_snows rfl ak_M_1 (⟨hc7, ?_⟩)))
        refine Wp.r_iload_n1 (pc := 43) o_X12_snows rfl rfl (Wp.r_iadd (pc := 44) o_X12_snows rfl (Wp.r_min (pc := 45) o_X12_snows rfl (⟨rm8_ rfl, ?_⟩)))
        obtain ⟨hc8, H⟩ := oq_ck H
        refine Wp.r_iastore (pc := 48) o_X12_snows rfl ak_M_1 (⟨hc8, ?_⟩)
        revert H
        generalize pI s6 1 ((r3 + 2).toNatClampNeg) (if ((s6.1 1 ((r5 + 2).toNatClampNeg)) + v1) < 99 then ((s6.1 1 ((r5 + 2).toNatClampNeg)) + v1) else 99) = s9
        intro H
        have H := nmx_e H
        exact Wp.f_iinc_goto (pc := 49) o_X12_snows rfl rfl rfl (Wp.weak2 [1, 2, 0] (ih _ _ _ H) rfl)
      · have H := oq_f c9 H
        exact Wp.f_iinc_goto (pc := 49) o_X12_snows rfl rfl rfl (Wp.weak2 [1, 2, 0] (ih _ _ _ H) rfl)
noncomputable def f_X12_snows (a1 : Int32) (s : Sg) : Option (Unit × Sg) :=
  f_X12_snows_b2 BIG a1 0 s
set_option maxRecDepth 100000 in
theorem w_X12_snows {d : Nat} {s : Sg} {Q : Qt} (a1 : Int32) (H : OQ (f_X12_snows a1 s) (fun _ s9 => Q none s9)) : WpM SHM MT (d + 2) 278 [.ref 0, .int a1] s Q := by
  refine WpM.enter me_X12_snows rfl rfl ?_
  show Y_X12_snows d Q 0 [(0, .ref 0), (1, .int a1)] [] s
  unfold f_X12_snows at H
  exact Wp.r_iconst (pc := 0) o_X12_snows rfl (Wp.r_istore_n2 (pc := 1) o_X12_snows rfl (Wp.weak2 [1, 2, 0] (w_X12_snows_b2 _ _ _ _ H) rfl))
noncomputable abbrev Y_X12_snow (d : Nat) (Q : Qt) : Xt := Wp SHM (WpM SHM MT (d + 2)) (flat2 cq_X12_snow) (some .boolean) Q
noncomputable def f_X12_snow (a1 : Int32) (s : Sg) : Option (Int32 × Sg) :=
  bd (f_X12_isFrom a1.toInt64 0 99 s) (fun r1 s2 =>
  if r1 = 0 then
    bd (f_X12_is 1 s2) (fun r3 s4 =>
    ck (r3 = 0 ∨ r3 = 1) (some (r3, s4))
    )
  else
    bd (f_X12_snows a1 s2) (fun _ s6 =>
    bd (f_X12_is 0 s6) (fun r7 s8 =>
    ck (r7 = 0 ∨ r7 = 1) (some (r7, s8))
    )
    )
  )
set_option maxRecDepth 100000 in
theorem w_X12_snow {d : Nat} {s : Sg} {Q : Qt} (a1 : Int32) (H : OQ (f_X12_snow a1 s) (fun r9 s9 => Q (some (.int r9)) s9)) : WpM SHM MT (d + 3) 279 [.ref 0, .int a1] s Q := by
  refine WpM.enter me_X12_snow rfl rfl ?_
  show Y_X12_snow d Q 0 [(0, .ref 0), (1, .int a1)] [] s
  unfold f_X12_snow at H
  refine Wp.r_iload_n1 (pc := 0) o_X12_snow rfl rfl (Wp.r_i2l (pc := 1) o_X12_snow rfl (Wp.r_lconst (pc := 2) o_X12_snow rfl (Wp.r_ldc2_w (pc := 3) o_X12_snow rfl (Wp.r_cs3 (pc := 6) o_X12_snow rfl (⟨rm8_ rfl, ?_⟩)))))
  refine w_X12_isFrom (d := d + 1) _ _ _ ?_
  refine oq_bd H (fun r1 s2 H => ?_)
  refine Wp.r_if_ne (pc := 9) o_X12_snow rfl (fun c9 => ?_) (fun c9 => ?_)
  · have H := oq_t c9 H
    refine Wp.f_al0_iconst (pc := 12) o_X12_snow rfl rfl rfl (Wp.r_cv2 (pc := 14) o_X12_snow rfl fk_M_0_0 (⟨rm8_ rfl, ?_⟩))
    refine w_X12_is (d := d + 1) _ ?_
    refine oq_bd H (fun r3 s4 H => ?_)
    obtain ⟨c9, H⟩ := oq_ck H
    exact Wp.r_ireturn (pc := 17) o_X12_snow rfl (⟨b01_n c9, H⟩)
  · have H := oq_f c9 H
    refine Wp.r_aload_n0 (pc := 18) o_X12_snow rfl rfl (Wp.r_iload_n1 (pc := 19) o_X12_snow rfl rfl (Wp.r_cv2 (pc := 20) o_X12_snow rfl fk_M_0_0 (⟨rm8_ rfl, ?_⟩)))
    refine w_X12_snows (d := d) _ ?_
    refine oq_bd H (fun _ s6 H => ?_)
    refine Wp.f_al0_iconst (pc := 23) o_X12_snow rfl rfl rfl (Wp.r_cv2 (pc := 25) o_X12_snow rfl fk_M_0_0 (⟨rm8_ rfl, ?_⟩))
    refine w_X12_is (d := d + 1) _ ?_
    refine oq_bd H (fun r7 s8 H => ?_)
    obtain ⟨c9, H⟩ := oq_ck H
    exact Wp.r_ireturn (pc := 28) o_X12_snow rfl (⟨b01_n c9, H⟩)
noncomputable abbrev Y_X12_nightGoes (d : Nat) (Q : Qt) : Xt := Wp SHM (WpM SHM MT (d + 6)) (flat2 cq_X12_nightGoes) (none) Q
noncomputable def f_X12_nightGoes_b269 (k_157 : Int32 → Sg → Option (Unit × Sg)) (v1 : Int32) (v2 : Int32) (t0 : Int32) (t1 : Int32) (s : Sg) : Option (Unit × Sg) :=
  ck (inr (v2 + 4) 2880) (
  ck (inr (v2 + 3) 2880) (
  nmx (pI (pI s 0 26 (t1 + t0)) 1 ((v2 + 4).toNatClampNeg) (((pI s 0 26 (t1 + t0)).1 1 ((v2 + 4).toNatClampNeg)) + (1 - ((pI s 0 26 (t1 + t0)).1 1 ((v2 + 3).toNatClampNeg))))) (fun s13 =>
  k_157 (v1 + 1) s13
  )
  )
  )
set_option maxRecDepth 100000 in
theorem w_X12_nightGoes_b269 {d : Nat} {Q : Qt} (k_157 : Int32 → Sg → Option (Unit × Sg)) (h_157 : ∀ (v1 : Int32) s, OQ (k_157 v1 s) (fun _ s9 => Q none s9) → Y_X12_nightGoes d Q 157 [(0, .ref 0), (1, .int v1)] [] s) (v1 : Int32) (v2 : Int32) (t0 : Int32) (t1 : Int32) (s : Sg) (H : OQ (f_X12_nightGoes_b269 k_157 v1 v2 t0 t1 s) (fun _ s9 => Q none s9)) : Y_X12_nightGoes d Q 269 [(0, .ref 0), (1, .int v1), (2, .int v2)] [.int t0, .int t1, .ref 0] s := by
  unfold f_X12_nightGoes_b269 at H
  obtain ⟨hc11, H⟩ := oq_ck H
  refine Wp.r_iadd (pc := 269) o_X12_nightGoes rfl (Wp.r_pfi (pc := 270) o_X12_nightGoes rfl fk_M_0_26 (Wp.f_al0_gfr (pc := 273) o_X12_nightGoes rfl rfl rfl fk_M_0_0 (Wp.r_iload_n2 (pc := 277) o_X12_nightGoes rfl rfl (Wp.r_iconst (pc := 278) o_X12_nightGoes rfl (Wp.r_iadd (pc := 279) o_X12_nightGoes rfl (Wp.r_dup2 (pc := 280) o_X12_nightGoes rfl (Wp.r_iaload (pc := 281) o_X12_nightGoes rfl ak_M_1 (⟨hc11, ?_⟩))))))))
  obtain ⟨hc12, H⟩ := oq_ck H
  refine Wp.r_iconst (pc := 282) o_X12_nightGoes rfl (Wp.f_al0_gfr (pc := 283) o_X12_nightGoes rfl rfl rfl fk_M_0_0 (Wp.r_iload_n2 (pc := 287) o_X12_nightGoes rfl rfl (Wp.r_iconst (pc := 288) o_X12_nightGoes rfl (Wp.r_iadd (pc := 289) o_X12_nightGoes rfl (Wp.r_iaload (pc := 290) o_X12_nightGoes rfl ak_M_1 (⟨hc12, ?_⟩))))))
  refine Wp.r_isub (pc := 291) o_X12_nightGoes rfl (Wp.r_iadd (pc := 292) o_X12_nightGoes rfl (Wp.r_iastore (pc := 293) o_X12_nightGoes rfl ak_M_1 (⟨hc11, ?_⟩)))
  revert H
  generalize pI (pI s 0 26 (t1 + t0)) 1 ((v2 + 4).toNatClampNeg) (((pI s 0 26 (t1 + t0)).1 1 ((v2 + 4).toNatClampNeg)) + (1 - ((pI s 0 26 (t1 + t0)).1 1 ((v2 + 3).toNatClampNeg)))) = s13
  intro H
  have H := nmx_e H
  exact Wp.f_iinc_goto (pc := 294) o_X12_nightGoes rfl rfl rfl (Wp.weak2 [1, 0] (h_157 _ _ H) rfl)
noncomputable def f_X12_nightGoes_b243 (k_157 : Int32 → Sg → Option (Unit × Sg)) (v1 : Int32) (v2 : Int32) (v3 : Int32) (t0 : Int32) (t1 : Int32) (s : Sg) : Option (Unit × Sg) :=
  ck (inr (v2 + 3) 2880) (
  if v3 ≤ ((pI s 0 25 (t1 + t0)).1 1 ((v2 + 3).toNatClampNeg)) then
    f_X12_nightGoes_b269 k_157 v1 v2 0 ((pI s 0 25 (t1 + t0)).1 0 26) (pI s 0 25 (t1 + t0))
  else
    f_X12_nightGoes_b269 k_157 v1 v2 1 ((pI s 0 25 (t1 + t0)).1 0 26) (pI s 0 25 (t1 + t0))
  )
set_option maxRecDepth 100000 in
theorem w_X12_nightGoes_b243 {d : Nat} {Q : Qt} (k_157 : Int32 → Sg → Option (Unit × Sg)) (h_157 : ∀ (v1 : Int32) s, OQ (k_157 v1 s) (fun _ s9 => Q none s9) → Y_X12_nightGoes d Q 157 [(0, .ref 0), (1, .int v1)] [] s) (v1 : Int32) (v2 : Int32) (v3 : Int32) (t0 : Int32) (t1 : Int32) (s : Sg) (H : OQ (f_X12_nightGoes_b243 k_157 v1 v2 v3 t0 t1 s) (fun _ s9 => Q none s9)) : Y_X12_nightGoes d Q 243 [(0, .ref 0), (1, .int v1), (2, .int v2), (3, .int v3)] [.int t0, .int t1, .ref 0] s := by
  unfold f_X12_nightGoes_b243 at H
  obtain ⟨hc10, H⟩ := oq_ck H
  refine Wp.r_iadd (pc := 243) o_X12_nightGoes rfl (Wp.r_pfi (pc := 244) o_X12_nightGoes rfl fk_M_0_25 (Wp.r_aload_n0 (pc := 247) o_X12_nightGoes rfl rfl (Wp.r_dup_r (pc := 248) o_X12_nightGoes rfl (Wp.r_gfi (pc := 249) o_X12_nightGoes rfl fk_M_0_26 (Wp.f_al0_gfr (pc := 252) o_X12_nightGoes rfl rfl rfl fk_M_0_0 (Wp.r_iload_n2 (pc := 256) o_X12_nightGoes rfl rfl (Wp.r_iconst (pc := 257) o_X12_nightGoes rfl (Wp.r_iadd (pc := 258) o_X12_nightGoes rfl (Wp.r_iaload (pc := 259) o_X12_nightGoes rfl ak_M_1 (⟨hc10, ?_⟩))))))))))
  refine Wp.r_iload_n3 (pc := 260) o_X12_nightGoes rfl rfl (Wp.r_icmp_ge (pc := 261) o_X12_nightGoes rfl (fun c9 => ?_) (fun c9 => ?_))
  · have H := oq_t c9 H
    exact Wp.r_iconst (pc := 268) o_X12_nightGoes rfl (Wp.weak2 [0, 1, 2] (w_X12_nightGoes_b269 k_157 h_157 _ _ _ _ _ H) rfl)
  · have H := oq_f c9 H
    exact Wp.r_iconst (pc := 264) o_X12_nightGoes rfl (Wp.r_goto (pc := 265) o_X12_nightGoes rfl (Wp.weak2 [0, 1, 2] (w_X12_nightGoes_b269 k_157 h_157 _ _ _ _ _ H) rfl))
noncomputable def f_X12_nightGoes_b221 (k_157 : Int32 → Sg → Option (Unit × Sg)) (v1 : Int32) (v2 : Int32) (v3 : Int32) (s : Sg) : Option (Unit × Sg) :=
  ck (inr (v2 + 3) 2880) (
  if (s.1 1 ((v2 + 3).toNatClampNeg)) ≤ v3 then
    f_X12_nightGoes_b243 k_157 v1 v2 v3 0 (s.1 0 25) s
  else
    f_X12_nightGoes_b243 k_157 v1 v2 v3 1 (s.1 0 25) s
  )
set_option maxRecDepth 100000 in
theorem w_X12_nightGoes_b221 {d : Nat} {Q : Qt} (k_157 : Int32 → Sg → Option (Unit × Sg)) (h_157 : ∀ (v1 : Int32) s, OQ (k_157 v1 s) (fun _ s9 => Q none s9) → Y_X12_nightGoes d Q 157 [(0, .ref 0), (1, .int v1)] [] s) (v1 : Int32) (v2 : Int32) (v3 : Int32) (s : Sg) (H : OQ (f_X12_nightGoes_b221 k_157 v1 v2 v3 s) (fun _ s9 => Q none s9)) : Y_X12_nightGoes d Q 221 [(0, .ref 0), (1, .int v1), (2, .int v2), (3, .int v3)] [] s := by
  unfold f_X12_nightGoes_b221 at H
  obtain ⟨hc9, H⟩ := oq_ck H
  refine Wp.r_aload_n0 (pc := 221) o_X12_nightGoes rfl rfl (Wp.r_dup_r (pc := 222) o_X12_nightGoes rfl (Wp.r_gfi (pc := 223) o_X12_nightGoes rfl fk_M_0_25 (Wp.f_al0_gfr (pc := 226) o_X12_nightGoes rfl rfl rfl fk_M_0_0 (Wp.r_iload_n2 (pc := 230) o_X12_nightGoes rfl rfl (Wp.r_iconst (pc := 231) o_X12_nightGoes rfl (Wp.r_iadd (pc := 232) o_X12_nightGoes rfl (Wp.r_iaload (pc := 233) o_X12_nightGoes rfl ak_M_1 (⟨hc9, ?_⟩))))))))
  refine Wp.r_iload_n3 (pc := 234) o_X12_nightGoes rfl rfl (Wp.r_icmp_le (pc := 235) o_X12_nightGoes rfl (fun c9 => ?_) (fun c9 => ?_))
  · have H := oq_t c9 H
    exact Wp.r_iconst (pc := 242) o_X12_nightGoes rfl (Wp.weak2 [0, 1, 2, 3] (w_X12_nightGoes_b243 k_157 h_157 _ _ _ _ _ _ H) rfl)
  · have H := oq_f c9 H
    exact Wp.r_iconst (pc := 238) o_X12_nightGoes rfl (Wp.r_goto (pc := 239) o_X12_nightGoes rfl (Wp.weak2 [0, 1, 2, 3] (w_X12_nightGoes_b243 k_157 h_157 _ _ _ _ _ _ H) rfl))
noncomputable def f_X12_nightGoes_b157 : Nat → Int32 → Sg → Option (Unit × Sg)
  | 0, _, _ => none
  | n + 1, v1, s =>
    if (s.1 1 1) ≤ v1 then
      nmx (pI (pI s 1 4 ((s.1 1 4) + 1)) 1 10 0) (fun s1 =>
      some ((), s1)
      )
    else
      bd (f_X12_quarrelRow v1 s) (fun r2 s3 =>
      ck (inr (r2 + 3) 2880) (
      nmx (s3.1 1 ((r2 + 3).toNatClampNeg) : Int32) (fun x5 =>
      bd (f_X12_hasPeace v1 s3) (fun r6 s7 =>
      if r6 = 0 then
        if (s7.1 1 10) = 1 then
          nmx (pI s7 1 ((r2 + 3).toNatClampNeg) 0) (fun s8 =>
          f_X12_nightGoes_b221 (f_X12_nightGoes_b157 n) v1 r2 x5 s8
          )
        else
          f_X12_nightGoes_b221 (f_X12_nightGoes_b157 n) v1 r2 x5 s7
      else
        nmx (pI s7 1 ((r2 + 3).toNatClampNeg) 1) (fun s14 =>
        f_X12_nightGoes_b221 (f_X12_nightGoes_b157 n) v1 r2 x5 s14
        )
      )
      )
      )
      )
set_option maxRecDepth 100000 in
theorem w_X12_nightGoes_b157 {d : Nat} {Q : Qt} (n : Nat) : ∀ (v1 : Int32) (s : Sg), OQ (f_X12_nightGoes_b157 n v1 s) (fun _ s9 => Q none s9) → Y_X12_nightGoes d Q 157 [(0, .ref 0), (1, .int v1)] [] s := by
  induction n with
  | zero => intro v1 s H; exact H.elim
  | succ n ih =>
    intro v1 s H
    unfold f_X12_nightGoes_b157 at H
    refine Wp.r_iload_n1 (pc := 157) o_X12_nightGoes rfl rfl (Wp.f_al0_gfr (pc := 158) o_X12_nightGoes rfl rfl rfl fk_M_0_0 (Wp.r_iconst (pc := 162) o_X12_nightGoes rfl (Wp.r_iaload (pc := 163) o_X12_nightGoes rfl ak_M_1 (show (vp_in 1 2880) ∧ Y_X12_nightGoes d Q 164 [(0, .ref 0), (1, .int v1)] [.int (s.1 1 1), .int v1] s from ⟨by unfold vp_in; decide, ?_⟩))))
    refine Wp.r_icmp_ge (pc := 164) o_X12_nightGoes rfl (fun c9 => ?_) (fun c9 => ?_)
    · have H := oq_t c9 H
      refine Wp.f_al0_gfr (pc := 300) o_X12_nightGoes rfl rfl rfl fk_M_0_0 (Wp.r_iconst (pc := 304) o_X12_nightGoes rfl (Wp.r_dup2 (pc := 305) o_X12_nightGoes rfl (Wp.r_iaload (pc := 306) o_X12_nightGoes rfl ak_M_1 (show (vp_in 4 2880) ∧ Y_X12_nightGoes d Q 307 [(0, .ref 0), (1, .int v1)] [.int (s.1 1 4), .int 4, .ref 1] s from ⟨by unfold vp_in; decide, ?_⟩))))
      refine Wp.r_iconst (pc := 307) o_X12_nightGoes rfl (Wp.r_iadd (pc := 308) o_X12_nightGoes rfl (Wp.r_iastore (pc := 309) o_X12_nightGoes rfl ak_M_1 (show (vp_in 4 2880) ∧ Y_X12_nightGoes d Q 310 [(0, .ref 0), (1, .int v1)] [] (pI s 1 4 ((s.1 1 4) + 1)) from ⟨by unfold vp_in; decide, ?_⟩)))
      refine Wp.f_al0_gfr (pc := 310) o_X12_nightGoes rfl rfl rfl fk_M_0_0 (Wp.r_bipush (pc := 314) o_X12_nightGoes rfl (Wp.r_iconst (pc := 316) o_X12_nightGoes rfl (Wp.r_iastore (pc := 317) o_X12_nightGoes rfl ak_M_1 (show (vp_in 10 2880) ∧ Y_X12_nightGoes d Q 318 [(0, .ref 0), (1, .int v1)] [] (pI (pI s 1 4 ((s.1 1 4) + 1)) 1 10 0) from ⟨by unfold vp_in; decide, ?_⟩))))
      revert H
      generalize pI (pI s 1 4 ((s.1 1 4) + 1)) 1 10 0 = s1
      intro H
      have H := nmx_e H
      exact Wp.r_return (pc := 318) o_X12_nightGoes rfl (H)
    · have H := oq_f c9 H
      refine Wp.r_iload_n1 (pc := 167) o_X12_nightGoes rfl rfl (Wp.r_cs1 (pc := 168) o_X12_nightGoes rfl (⟨rm8_ rfl, ?_⟩))
      refine w_X12_quarrelRow (d := d + 5) _ ?_
      refine oq_bd H (fun r2 s3 H => ?_)
      obtain ⟨hc4, H⟩ := oq_ck H
      refine Wp.r_istore_n2 (pc := 171) o_X12_nightGoes rfl (Wp.f_al0_gfr (pc := 172) o_X12_nightGoes rfl rfl rfl fk_M_0_0 (Wp.r_iload_n2 (pc := 176) o_X12_nightGoes rfl rfl (Wp.r_iconst (pc := 177) o_X12_nightGoes rfl (Wp.r_iadd (pc := 178) o_X12_nightGoes rfl (Wp.r_iaload (pc := 179) o_X12_nightGoes rfl ak_M_1 (⟨hc4, ?_⟩))))))
      refine Wp.r_istore_n3 (pc := 180) o_X12_nightGoes rfl (show Y_X12_nightGoes d Q 181 [(3, .int (s3.1 1 ((r2 + 3).toNatClampNeg))), (2, .int r2), (0, .ref 0), (1, .int v1)] [] s3 from ?_)
      revert H
      generalize (s3.1 1 ((r2 + 3).toNatClampNeg) : Int32) = x5
      intro H
      have H := nmx_e H
      refine Wp.r_aload_n0 (pc := 181) o_X12_nightGoes rfl rfl (Wp.r_iload_n1 (pc := 182) o_X12_nightGoes rfl rfl (Wp.r_cv2 (pc := 183) o_X12_nightGoes rfl fk_M_0_0 (⟨rm8_ rfl, ?_⟩)))
      refine w_X12_hasPeace (d := d) _ ?_
      refine oq_bd H (fun r6 s7 H => ?_)
      refine Wp.r_if_eq (pc := 186) o_X12_nightGoes rfl (fun c9 => ?_) (fun c9 => ?_)
      · have H := oq_t c9 H
        refine Wp.f_al0_gfr (pc := 201) o_X12_nightGoes rfl rfl rfl fk_M_0_0 (Wp.r_bipush (pc := 205) o_X12_nightGoes rfl (Wp.r_iaload (pc := 207) o_X12_nightGoes rfl ak_M_1 (show (vp_in 10 2880) ∧ Y_X12_nightGoes d Q 208 [(3, .int x5), (2, .int r2), (0, .ref 0), (1, .int v1)] [.int (s7.1 1 10)] s7 from ⟨by unfold vp_in; decide, ?_⟩)))
        refine Wp.r_iconst (pc := 208) o_X12_nightGoes rfl (Wp.r_icmp_ne (pc := 209) o_X12_nightGoes rfl (fun c9 => ?_) (fun c9 => ?_))
        · have H := oq_t c9 H
          refine Wp.f_al0_gfr (pc := 212) o_X12_nightGoes rfl rfl rfl fk_M_0_0 (Wp.r_iload_n2 (pc := 216) o_X12_nightGoes rfl rfl (Wp.r_iconst (pc := 217) o_X12_nightGoes rfl (Wp.r_iadd (pc := 218) o_X12_nightGoes rfl (Wp.r_iconst (pc := 219) o_X12_nightGoes rfl (Wp.r_iastore (pc := 220) o_X12_nightGoes rfl ak_M_1 (⟨hc4, ?_⟩))))))
          revert H
          generalize pI s7 1 ((r2 + 3).toNatClampNeg) 0 = s8
          intro H
          have H := nmx_e H
          exact Wp.weak2 [2, 3, 1, 0] (w_X12_nightGoes_b221 (f_X12_nightGoes_b157 n) ih _ _ _ _ H) rfl
        · have H := oq_f c9 H
          exact Wp.weak2 [2, 3, 1, 0] (w_X12_nightGoes_b221 (f_X12_nightGoes_b157 n) ih _ _ _ _ H) rfl
      · have H := oq_f c9 H
        refine Wp.f_al0_gfr (pc := 189) o_X12_nightGoes rfl rfl rfl fk_M_0_0 (Wp.r_iload_n2 (pc := 193) o_X12_nightGoes rfl rfl (Wp.r_iconst (pc := 194) o_X12_nightGoes rfl (Wp.r_iadd (pc := 195) o_X12_nightGoes rfl (Wp.r_iconst (pc := 196) o_X12_nightGoes rfl (Wp.r_iastore (pc := 197) o_X12_nightGoes rfl ak_M_1 (⟨hc4, ?_⟩))))))
        revert H
        generalize pI s7 1 ((r2 + 3).toNatClampNeg) 1 = s14
        intro H
        have H := nmx_e H
        exact Wp.r_goto (pc := 198) o_X12_nightGoes rfl (Wp.weak2 [2, 3, 1, 0] (w_X12_nightGoes_b221 (f_X12_nightGoes_b157 n) ih _ _ _ _ H) rfl)
noncomputable def f_X12_nightGoes_b73 : Nat → Int32 → Sg → Option (Unit × Sg)
  | 0, _, _ => none
  | n + 1, v1, s =>
    if (s.1 1 0) ≤ v1 then
      f_X12_nightGoes_b157 BIG 0 (pI (pI s 0 25 0) 0 26 0)
    else
      bd (f_X12_houseRow v1 s) (fun r15 s16 =>
      ck (inr r15 2880) (
      ck (inr (r15 + 2) 2880) (
      nmx (if (s16.1 1 ((r15 + 2).toNatClampNeg)) < (s16.1 1 r15.toNatClampNeg) then (s16.1 1 ((r15 + 2).toNatClampNeg)) else (s16.1 1 r15.toNatClampNeg) : Int32) (fun x19 =>
      nmx (pI s16 1 r15.toNatClampNeg ((s16.1 1 r15.toNatClampNeg) - x19)) (fun s20 =>
      nmx (pI s20 1 ((r15 + 2).toNatClampNeg) ((s20.1 1 ((r15 + 2).toNatClampNeg)) - x19)) (fun s21 =>
      (f_X12_nightGoes_b73 n) (v1 + 1) (pI s21 1 8 ((s21.1 1 8) + x19))
      )
      )
      )
      )
      )
      )
set_option maxRecDepth 100000 in
theorem w_X12_nightGoes_b73 {d : Nat} {Q : Qt} (n : Nat) : ∀ (v1 : Int32) (s : Sg), OQ (f_X12_nightGoes_b73 n v1 s) (fun _ s9 => Q none s9) → Y_X12_nightGoes d Q 73 [(0, .ref 0), (1, .int v1)] [] s := by
  induction n with
  | zero => intro v1 s H; exact H.elim
  | succ n ih =>
    intro v1 s H
    unfold f_X12_nightGoes_b73 at H
    refine Wp.r_iload_n1 (pc := 73) o_X12_nightGoes rfl rfl (Wp.f_al0_gfr (pc := 74) o_X12_nightGoes rfl rfl rfl fk_M_0_0 (Wp.r_iconst (pc := 78) o_X12_nightGoes rfl (Wp.r_iaload (pc := 79) o_X12_nightGoes rfl ak_M_1 (show (vp_in 0 2880) ∧ Y_X12_nightGoes d Q 80 [(0, .ref 0), (1, .int v1)] [.int (s.1 1 0), .int v1] s from ⟨by unfold vp_in; decide, ?_⟩))))
    refine Wp.r_icmp_ge (pc := 80) o_X12_nightGoes rfl (fun c9 => ?_) (fun c9 => ?_)
    · have H := oq_t c9 H
      exact Wp.f_al0_iconst (pc := 145) o_X12_nightGoes rfl rfl rfl (Wp.r_pfi (pc := 147) o_X12_nightGoes rfl fk_M_0_25 (Wp.f_al0_iconst (pc := 150) o_X12_nightGoes rfl rfl rfl (Wp.r_pfi (pc := 152) o_X12_nightGoes rfl fk_M_0_26 (Wp.r_iconst (pc := 155) o_X12_nightGoes rfl (Wp.r_istore_n1 (pc := 156) o_X12_nightGoes rfl (Wp.weak2 [1, 0] (w_X12_nightGoes_b157 _ _ _ H) rfl))))))
    · have H := oq_f c9 H
      refine Wp.r_iload_n1 (pc := 83) o_X12_nightGoes rfl rfl (Wp.r_cs1 (pc := 84) o_X12_nightGoes rfl (⟨rm8_ rfl, ?_⟩))
      refine w_X12_houseRow (d := d + 5) _ ?_
      refine oq_bd H (fun r15 s16 H => ?_)
      obtain ⟨hc17, H⟩ := oq_ck H
      refine Wp.r_istore_n2 (pc := 87) o_X12_nightGoes rfl (Wp.f_al0_gfr (pc := 88) o_X12_nightGoes rfl rfl rfl fk_M_0_0 (Wp.r_iload_n2 (pc := 92) o_X12_nightGoes rfl rfl (Wp.r_iaload (pc := 93) o_X12_nightGoes rfl ak_M_1 (⟨hc17, ?_⟩))))
      obtain ⟨hc18, H⟩ := oq_ck H
      refine Wp.f_al0_gfr (pc := 94) o_X12_nightGoes rfl rfl rfl fk_M_0_0 (Wp.r_iload_n2 (pc := 98) o_X12_nightGoes rfl rfl (Wp.r_iconst (pc := 99) o_X12_nightGoes rfl (Wp.r_iadd (pc := 100) o_X12_nightGoes rfl (Wp.r_iaload (pc := 101) o_X12_nightGoes rfl ak_M_1 (⟨hc18, ?_⟩)))))
      refine Wp.r_min (pc := 102) o_X12_nightGoes rfl (⟨rm8_ rfl, ?_⟩)
      refine Wp.r_istore_n3 (pc := 105) o_X12_nightGoes rfl (show Y_X12_nightGoes d Q 106 [(3, .int (if (s16.1 1 ((r15 + 2).toNatClampNeg)) < (s16.1 1 r15.toNatClampNeg) then (s16.1 1 ((r15 + 2).toNatClampNeg)) else (s16.1 1 r15.toNatClampNeg))), (2, .int r15), (0, .ref 0), (1, .int v1)] [] s16 from ?_)
      revert H
      generalize (if (s16.1 1 ((r15 + 2).toNatClampNeg)) < (s16.1 1 r15.toNatClampNeg) then (s16.1 1 ((r15 + 2).toNatClampNeg)) else (s16.1 1 r15.toNatClampNeg) : Int32) = x19
      intro H
      have H := nmx_e H
      refine Wp.f_al0_gfr (pc := 106) o_X12_nightGoes rfl rfl rfl fk_M_0_0 (Wp.r_iload_n2 (pc := 110) o_X12_nightGoes rfl rfl (Wp.r_dup2 (pc := 111) o_X12_nightGoes rfl (Wp.r_iaload (pc := 112) o_X12_nightGoes rfl ak_M_1 (⟨hc17, ?_⟩))))
      refine Wp.r_iload_n3 (pc := 113) o_X12_nightGoes rfl rfl (Wp.r_isub (pc := 114) o_X12_nightGoes rfl (Wp.r_iastore (pc := 115) o_X12_nightGoes rfl ak_M_1 (⟨hc17, ?_⟩)))
      revert H
      generalize pI s16 1 r15.toNatClampNeg ((s16.1 1 r15.toNatClampNeg) - x19) = s20
      intro H
      have H := nmx_e H
      refine Wp.f_al0_gfr (pc := 116) o_X12_nightGoes rfl rfl rfl fk_M_0_0 (Wp.r_iload_n2 (pc := 120) o_X12_nightGoes rfl rfl (Wp.r_iconst (pc := 121) o_X12_nightGoes rfl (Wp.r_iadd (pc := 122) o_X12_nightGoes rfl (Wp.r_dup2 (pc := 123) o_X12_nightGoes rfl (Wp.r_iaload (pc := 124) o_X12_nightGoes rfl ak_M_1 (⟨hc18, ?_⟩))))))
      refine Wp.r_iload_n3 (pc := 125) o_X12_nightGoes rfl rfl (Wp.r_isub (pc := 126) o_X12_nightGoes rfl (Wp.r_iastore (pc := 127) o_X12_nightGoes rfl ak_M_1 (⟨hc18, ?_⟩)))
      revert H
      generalize pI s20 1 ((r15 + 2).toNatClampNeg) ((s20.1 1 ((r15 + 2).toNatClampNeg)) - x19) = s21
      intro H
      have H := nmx_e H
      refine Wp.f_al0_gfr (pc := 128) o_X12_nightGoes rfl rfl rfl fk_M_0_0 (Wp.r_bipush (pc := 132) o_X12_nightGoes rfl (Wp.r_dup2 (pc := 134) o_X12_nightGoes rfl (Wp.r_iaload (pc := 135) o_X12_nightGoes rfl ak_M_1 (show (vp_in 8 2880) ∧ Y_X12_nightGoes d Q 136 [(3, .int x19), (2, .int r15), (0, .ref 0), (1, .int v1)] [.int (s21.1 1 8), .int 8, .ref 1] s21 from ⟨by unfold vp_in; decide, ?_⟩))))
      refine Wp.r_iload_n3 (pc := 136) o_X12_nightGoes rfl rfl (Wp.r_iadd (pc := 137) o_X12_nightGoes rfl (Wp.r_iastore (pc := 138) o_X12_nightGoes rfl ak_M_1 (show (vp_in 8 2880) ∧ Y_X12_nightGoes d Q 139 [(3, .int x19), (2, .int r15), (0, .ref 0), (1, .int v1)] [] (pI s21 1 8 ((s21.1 1 8) + x19)) from ⟨by unfold vp_in; decide, ?_⟩)))
      exact Wp.f_iinc_goto (pc := 139) o_X12_nightGoes rfl rfl rfl (Wp.weak2 [3, 0] (ih _ _ H) rfl)
noncomputable def f_X12_nightGoes_b2 : Nat → Int32 → Sg → Option (Unit × Sg)
  | 0, _, _ => none
  | n + 1, v1, s =>
    if (s.1 1 2) ≤ v1 then
      f_X12_nightGoes_b73 BIG 0 s
    else
      ck (inr (80 + (3 * v1)) 2880) (
      bd (f_X12_houseRow (s.1 1 ((80 + (3 * v1)).toNatClampNeg)) s) (fun r23 s24 =>
      ck (inr (r23 + 2) 2880) (
      if (s24.1 1 ((r23 + 2).toNatClampNeg)) = 0 then
        ck (inr ((80 + (3 * v1)) + 1) 2880) (
        ck (inr ((80 + (3 * v1)) + 2) 2880) (
        bd (f_X12_brings (s24.1 1 ((80 + (3 * v1)).toNatClampNeg)) (s24.1 1 (((80 + (3 * v1)) + 1).toNatClampNeg)) (s24.1 1 (((80 + (3 * v1)) + 2).toNatClampNeg)) s24) (fun r28 s29 =>
        (f_X12_nightGoes_b2 n) (v1 + 1) s29
        )
        )
        )
      else
        (f_X12_nightGoes_b2 n) (v1 + 1) s24
      )
      )
      )
set_option maxRecDepth 100000 in
theorem w_X12_nightGoes_b2 {d : Nat} {Q : Qt} (n : Nat) : ∀ (v1 : Int32) (s : Sg), OQ (f_X12_nightGoes_b2 n v1 s) (fun _ s9 => Q none s9) → Y_X12_nightGoes d Q 2 [(0, .ref 0), (1, .int v1)] [] s := by
  induction n with
  | zero => intro v1 s H; exact H.elim
  | succ n ih =>
    intro v1 s H
    unfold f_X12_nightGoes_b2 at H
    refine Wp.r_iload_n1 (pc := 2) o_X12_nightGoes rfl rfl (Wp.f_al0_gfr (pc := 3) o_X12_nightGoes rfl rfl rfl fk_M_0_0 (Wp.r_iconst (pc := 7) o_X12_nightGoes rfl (Wp.r_iaload (pc := 8) o_X12_nightGoes rfl ak_M_1 (show (vp_in 2 2880) ∧ Y_X12_nightGoes d Q 9 [(0, .ref 0), (1, .int v1)] [.int (s.1 1 2), .int v1] s from ⟨by unfold vp_in; decide, ?_⟩))))
    refine Wp.r_icmp_ge (pc := 9) o_X12_nightGoes rfl (fun c9 => ?_) (fun c9 => ?_)
    · have H := oq_t c9 H
      exact Wp.r_iconst (pc := 71) o_X12_nightGoes rfl (Wp.r_istore_n1 (pc := 72) o_X12_nightGoes rfl (Wp.weak2 [1, 0] (w_X12_nightGoes_b73 _ _ _ H) rfl))
    · have H := oq_f c9 H
      obtain ⟨hc22, H⟩ := oq_ck H
      refine Wp.r_bipush (pc := 12) o_X12_nightGoes rfl (Wp.r_iconst (pc := 14) o_X12_nightGoes rfl (Wp.r_iload_n1 (pc := 15) o_X12_nightGoes rfl rfl (Wp.r_imul (pc := 16) o_X12_nightGoes rfl (Wp.r_iadd (pc := 17) o_X12_nightGoes rfl (Wp.r_istore_n2 (pc := 18) o_X12_nightGoes rfl (Wp.f_al0_gfr (pc := 19) o_X12_nightGoes rfl rfl rfl fk_M_0_0 (Wp.f_al0_gfr (pc := 23) o_X12_nightGoes rfl rfl rfl fk_M_0_0 (Wp.r_iload_n2 (pc := 27) o_X12_nightGoes rfl rfl (Wp.r_iaload (pc := 28) o_X12_nightGoes rfl ak_M_1 (⟨hc22, ?_⟩))))))))))
      refine Wp.r_cs1 (pc := 29) o_X12_nightGoes rfl (⟨rm8_ rfl, ?_⟩)
      refine w_X12_houseRow (d := d + 5) _ ?_
      refine oq_bd H (fun r23 s24 H => ?_)
      obtain ⟨hc25, H⟩ := oq_ck H
      refine Wp.r_iconst (pc := 32) o_X12_nightGoes rfl (Wp.r_iadd (pc := 33) o_X12_nightGoes rfl (Wp.r_iaload (pc := 34) o_X12_nightGoes rfl ak_M_1 (⟨hc25, ?_⟩)))
      refine Wp.r_if_ne (pc := 35) o_X12_nightGoes rfl (fun c9 => ?_) (fun c9 => ?_)
      · have H := oq_t c9 H
        refine Wp.r_aload_n0 (pc := 38) o_X12_nightGoes rfl rfl (Wp.f_al0_gfr (pc := 39) o_X12_nightGoes rfl rfl rfl fk_M_0_0 (Wp.r_iload_n2 (pc := 43) o_X12_nightGoes rfl rfl (Wp.r_iaload (pc := 44) o_X12_nightGoes rfl ak_M_1 (⟨hc22, ?_⟩))))
        obtain ⟨hc26, H⟩ := oq_ck H
        refine Wp.f_al0_gfr (pc := 45) o_X12_nightGoes rfl rfl rfl fk_M_0_0 (Wp.r_iload_n2 (pc := 49) o_X12_nightGoes rfl rfl (Wp.r_iconst (pc := 50) o_X12_nightGoes rfl (Wp.r_iadd (pc := 51) o_X12_nightGoes rfl (Wp.r_iaload (pc := 52) o_X12_nightGoes rfl ak_M_1 (⟨hc26, ?_⟩)))))
        obtain ⟨hc27, H⟩ := oq_ck H
        refine Wp.f_al0_gfr (pc := 53) o_X12_nightGoes rfl rfl rfl fk_M_0_0 (Wp.r_iload_n2 (pc := 57) o_X12_nightGoes rfl rfl (Wp.r_iconst (pc := 58) o_X12_nightGoes rfl (Wp.r_iadd (pc := 59) o_X12_nightGoes rfl (Wp.r_iaload (pc := 60) o_X12_nightGoes rfl ak_M_1 (⟨hc27, ?_⟩)))))
        refine Wp.r_cv4 (pc := 61) o_X12_nightGoes rfl fk_M_0_0 (⟨rm8_ rfl, ?_⟩)
        refine w_X12_brings (d := d + 4) _ _ _ ?_
        refine oq_bd H (fun r28 s29 H => ?_)
        exact Wp.r_pop_i (pc := 64) o_X12_nightGoes rfl (Wp.f_iinc_goto (pc := 65) o_X12_nightGoes rfl rfl rfl (Wp.weak2 [2, 0] (ih _ _ H) rfl))
      · have H := oq_f c9 H
        exact Wp.f_iinc_goto (pc := 65) o_X12_nightGoes rfl rfl rfl (Wp.weak2 [2, 0] (ih _ _ H) rfl)
noncomputable def f_X12_nightGoes  (s : Sg) : Option (Unit × Sg) :=
  f_X12_nightGoes_b2 BIG 0 s
set_option maxRecDepth 100000 in
theorem w_X12_nightGoes {d : Nat} {s : Sg} {Q : Qt}  (H : OQ (f_X12_nightGoes  s) (fun _ s9 => Q none s9)) : WpM SHM MT (d + 7) 280 [.ref 0] s Q := by
  refine WpM.enter me_X12_nightGoes rfl rfl ?_
  show Y_X12_nightGoes d Q 0 [(0, .ref 0)] [] s
  unfold f_X12_nightGoes at H
  exact Wp.r_iconst (pc := 0) o_X12_nightGoes rfl (Wp.r_istore_n1 (pc := 1) o_X12_nightGoes rfl (Wp.weak2 [1, 0] (w_X12_nightGoes_b2 _ _ _ H) rfl))
noncomputable abbrev Y_X12_night (d : Nat) (Q : Qt) : Xt := Wp SHM (WpM SHM MT (d + 7)) (flat2 cq_X12_night) (some .int) Q
noncomputable def f_X12_night  (s : Sg) : Option (Int32 × Sg) :=
  if (s.1 1 4) = 999 then
    bd (f_X12_refuse 4 s) (fun r1 s2 =>
    some (r1, s2)
    )
  else
    bd (f_X12_nightGoes s) (fun _ s4 =>
    bd (f_X12_gives (s4.1 1 4) s4) (fun r5 s6 =>
    some (r5, s6)
    )
    )
set_option maxRecDepth 100000 in
theorem w_X12_night {d : Nat} {s : Sg} {Q : Qt}  (H : OQ (f_X12_night  s) (fun r9 s9 => Q (some (.int r9)) s9)) : WpM SHM MT (d + 8) 281 [.ref 0] s Q := by
  refine WpM.enter me_X12_night rfl rfl ?_
  show Y_X12_night d Q 0 [(0, .ref 0)] [] s
  unfold f_X12_night at H
  refine Wp.f_al0_gfr (pc := 0) o_X12_night rfl rfl rfl fk_M_0_0 (Wp.r_iconst (pc := 4) o_X12_night rfl (Wp.r_iaload (pc := 5) o_X12_night rfl ak_M_1 (show (vp_in 4 2880) ∧ Y_X12_night d Q 6 [(0, .ref 0)] [.int (s.1 1 4)] s from ⟨by unfold vp_in; decide, ?_⟩)))
  refine Wp.r_sipush (pc := 6) o_X12_night rfl (Wp.r_icmp_ne (pc := 9) o_X12_night rfl (fun c9 => ?_) (fun c9 => ?_))
  · have H := oq_t c9 H
    refine Wp.f_al0_iconst (pc := 12) o_X12_night rfl rfl rfl (Wp.r_cv2 (pc := 14) o_X12_night rfl fk_M_0_0 (⟨rm8_ rfl, ?_⟩))
    refine w_X12_refuse (d := d + 6) _ ?_
    refine oq_bd H (fun r1 s2 H => ?_)
    exact Wp.r_ireturn (pc := 17) o_X12_night rfl (⟨rfl, H⟩)
  · have H := oq_f c9 H
    refine Wp.r_aload_n0 (pc := 18) o_X12_night rfl rfl (Wp.r_cv1 (pc := 19) o_X12_night rfl fk_M_0_0 (⟨rm8_ rfl, ?_⟩))
    refine w_X12_nightGoes (d := d)  ?_
    refine oq_bd H (fun _ s4 H => ?_)
    refine Wp.r_aload_n0 (pc := 22) o_X12_night rfl rfl (Wp.f_al0_gfr (pc := 23) o_X12_night rfl rfl rfl fk_M_0_0 (Wp.r_iconst (pc := 27) o_X12_night rfl (Wp.r_iaload (pc := 28) o_X12_night rfl ak_M_1 (show (vp_in 4 2880) ∧ Y_X12_night d Q 29 [(0, .ref 0)] [.int (s4.1 1 4), .ref 0] s4 from ⟨by unfold vp_in; decide, ?_⟩))))
    refine Wp.r_cv2 (pc := 29) o_X12_night rfl fk_M_0_0 (⟨rm8_ rfl, ?_⟩)
    refine w_X12_gives (d := d + 6) _ ?_
    refine oq_bd H (fun r5 s6 H => ?_)
    exact Wp.r_ireturn (pc := 32) o_X12_night rfl (⟨rfl, H⟩)
noncomputable abbrev Y_X12_cat (d : Nat) (Q : Qt) : Xt := Wp SHM (WpM SHM MT (d + 1)) (flat2 cq_X12_cat) (some .int) Q
noncomputable def f_X12_cat (a1 : Int32) (a2 : Int32) (s : Sg) : Option (Int32 × Sg) :=
  if a1 < 0 then
    bd (f_X12_refuse 1 s) (fun r1 s2 =>
    some (r1, s2)
    )
  else
    if (s.1 1 2) ≤ a1 then
      bd (f_X12_refuse 1 s) (fun r3 s4 =>
      some (r3, s4)
      )
    else
      if a2 < 0 then
        bd (f_X12_refuse 1 s) (fun r5 s6 =>
        some (r5, s6)
        )
      else
        if 2 < a2 then
          bd (f_X12_refuse 1 s) (fun r7 s8 =>
          some (r7, s8)
          )
        else
          ck (inr ((80 + (3 * a1)) + a2) 2880) (
          bd (f_X12_gives (s.1 1 (((80 + (3 * a1)) + a2).toNatClampNeg)) s) (fun r10 s11 =>
          some (r10, s11)
          )
          )
set_option maxRecDepth 100000 in
theorem w_X12_cat {d : Nat} {s : Sg} {Q : Qt} (a1 : Int32) (a2 : Int32) (H : OQ (f_X12_cat a1 a2 s) (fun r9 s9 => Q (some (.int r9)) s9)) : WpM SHM MT (d + 2) 252 [.ref 0, .int a1, .int a2] s Q := by
  refine WpM.enter me_X12_cat rfl rfl ?_
  show Y_X12_cat d Q 0 [(0, .ref 0), (1, .int a1), (2, .int a2)] [] s
  unfold f_X12_cat at H
  refine Wp.r_iload_n1 (pc := 0) o_X12_cat rfl rfl (Wp.r_if_lt (pc := 1) o_X12_cat rfl (fun c9 => ?_) (fun c9 => ?_))
  · have H := oq_t c9 H
    refine Wp.f_al0_iconst (pc := 43) o_X12_cat rfl rfl rfl (Wp.r_cv2 (pc := 45) o_X12_cat rfl fk_M_0_0 (⟨rm8_ rfl, ?_⟩))
    refine w_X12_refuse (d := d) _ ?_
    refine oq_bd H (fun r1 s2 H => ?_)
    exact Wp.r_ireturn (pc := 48) o_X12_cat rfl (⟨rfl, H⟩)
  · have H := oq_f c9 H
    refine Wp.r_iload_n1 (pc := 4) o_X12_cat rfl rfl (Wp.f_al0_gfr (pc := 5) o_X12_cat rfl rfl rfl fk_M_0_0 (Wp.r_iconst (pc := 9) o_X12_cat rfl (Wp.r_iaload (pc := 10) o_X12_cat rfl ak_M_1 (show (vp_in 2 2880) ∧ Y_X12_cat d Q 11 [(0, .ref 0), (1, .int a1), (2, .int a2)] [.int (s.1 1 2), .int a1] s from ⟨by unfold vp_in; decide, ?_⟩))))
    refine Wp.r_icmp_ge (pc := 11) o_X12_cat rfl (fun c9 => ?_) (fun c9 => ?_)
    · have H := oq_t c9 H
      refine Wp.f_al0_iconst (pc := 43) o_X12_cat rfl rfl rfl (Wp.r_cv2 (pc := 45) o_X12_cat rfl fk_M_0_0 (⟨rm8_ rfl, ?_⟩))
      refine w_X12_refuse (d := d) _ ?_
      refine oq_bd H (fun r3 s4 H => ?_)
      exact Wp.r_ireturn (pc := 48) o_X12_cat rfl (⟨rfl, H⟩)
    · have H := oq_f c9 H
      refine Wp.r_iload_n2 (pc := 14) o_X12_cat rfl rfl (Wp.r_if_lt (pc := 15) o_X12_cat rfl (fun c9 => ?_) (fun c9 => ?_))
      · have H := oq_t c9 H
        refine Wp.f_al0_iconst (pc := 43) o_X12_cat rfl rfl rfl (Wp.r_cv2 (pc := 45) o_X12_cat rfl fk_M_0_0 (⟨rm8_ rfl, ?_⟩))
        refine w_X12_refuse (d := d) _ ?_
        refine oq_bd H (fun r5 s6 H => ?_)
        exact Wp.r_ireturn (pc := 48) o_X12_cat rfl (⟨rfl, H⟩)
      · have H := oq_f c9 H
        refine Wp.r_iload_n2 (pc := 18) o_X12_cat rfl rfl (Wp.r_iconst (pc := 19) o_X12_cat rfl (Wp.r_icmp_gt (pc := 20) o_X12_cat rfl (fun c9 => ?_) (fun c9 => ?_)))
        · have H := oq_t c9 H
          refine Wp.f_al0_iconst (pc := 43) o_X12_cat rfl rfl rfl (Wp.r_cv2 (pc := 45) o_X12_cat rfl fk_M_0_0 (⟨rm8_ rfl, ?_⟩))
          refine w_X12_refuse (d := d) _ ?_
          refine oq_bd H (fun r7 s8 H => ?_)
          exact Wp.r_ireturn (pc := 48) o_X12_cat rfl (⟨rfl, H⟩)
        · have H := oq_f c9 H
          obtain ⟨hc9, H⟩ := oq_ck H
          refine Wp.r_aload_n0 (pc := 23) o_X12_cat rfl rfl (Wp.f_al0_gfr (pc := 24) o_X12_cat rfl rfl rfl fk_M_0_0 (Wp.r_bipush (pc := 28) o_X12_cat rfl (Wp.r_iconst (pc := 30) o_X12_cat rfl (Wp.r_iload_n1 (pc := 31) o_X12_cat rfl rfl (Wp.r_imul (pc := 32) o_X12_cat rfl (Wp.r_iadd (pc := 33) o_X12_cat rfl (Wp.r_iload_n2 (pc := 34) o_X12_cat rfl rfl (Wp.r_iadd (pc := 35) o_X12_cat rfl (Wp.r_iaload (pc := 36) o_X12_cat rfl ak_M_1 (⟨hc9, ?_⟩))))))))))
          refine Wp.r_cv2 (pc := 37) o_X12_cat rfl fk_M_0_0 (⟨rm8_ rfl, ?_⟩)
          refine w_X12_gives (d := d) _ ?_
          refine oq_bd H (fun r10 s11 H => ?_)
          exact Wp.r_goto (pc := 40) o_X12_cat rfl (Wp.r_ireturn (pc := 48) o_X12_cat rfl (⟨rfl, H⟩))
noncomputable abbrev Y_X12_reaches (d : Nat) (Q : Qt) : Xt := Wp SHM (WpM SHM MT (d + 2)) (flat2 cq_X12_reaches) (some .int) Q
noncomputable def f_X12_reaches_b32 (k_23 : Int32 → Int32 → Sg → Option (Int32 × Sg)) : Nat → Int32 → Int32 → Int32 → Sg → Option (Int32 × Sg)
  | 0, _, _, _, _ => none
  | n + 1, v3, v4, v5, s =>
    if (s.1 1 2) ≤ v5 then
      k_23 v3 (v4 + 1) s
    else
      ck (inr (80 + (3 * v5)) 2880) (
      if ((v3 >>> ((s.1 1 ((80 + (3 * v5)).toNatClampNeg)) &&& 31)) &&& 1) = 1 then
        ck (inr ((80 + (3 * v5)) + 1) 2880) (
        nmx (v3 ||| ((1 : Int32) <<< ((s.1 1 (((80 + (3 * v5)) + 1).toNatClampNeg)) &&& 31)) : Int32) (fun x8 =>
        (f_X12_reaches_b32 k_23 n) x8 v4 (v5 + 1) s
        )
        )
      else
        (f_X12_reaches_b32 k_23 n) v3 v4 (v5 + 1) s
      )
set_option maxRecDepth 100000 in
theorem w_X12_reaches_b32 {d : Nat} {Q : Qt} (k_23 : Int32 → Int32 → Sg → Option (Int32 × Sg)) (h_23 : ∀ (v3 : Int32) (v4 : Int32) s, OQ (k_23 v3 v4 s) (fun r9 s9 => Q (some (.int r9)) s9) → Y_X12_reaches d Q 23 [(0, .ref 0), (3, .int v3), (4, .int v4)] [] s) (n : Nat) : ∀ (v3 : Int32) (v4 : Int32) (v5 : Int32) (s : Sg), OQ (f_X12_reaches_b32 k_23 n v3 v4 v5 s) (fun r9 s9 => Q (some (.int r9)) s9) → Y_X12_reaches d Q 32 [(0, .ref 0), (3, .int v3), (4, .int v4), (5, .int v5)] [] s := by
  induction n with
  | zero => intro v3 v4 v5 s H; exact H.elim
  | succ n ih =>
    intro v3 v4 v5 s H
    unfold f_X12_reaches_b32 at H
    refine Wp.r_iload (pc := 32) o_X12_reaches rfl rfl (Wp.f_al0_gfr (pc := 34) o_X12_reaches rfl rfl rfl fk_M_0_0 (Wp.r_iconst (pc := 38) o_X12_reaches rfl (Wp.r_iaload (pc := 39) o_X12_reaches rfl ak_M_1 (show (vp_in 2 2880) ∧ Y_X12_reaches d Q 40 [(0, .ref 0), (3, .int v3), (4, .int v4), (5, .int v5)] [.int (s.1 1 2), .int v5] s from ⟨by unfold vp_in; decide, ?_⟩))))
    refine Wp.r_icmp_ge (pc := 40) o_X12_reaches rfl (fun c9 => ?_) (fun c9 => ?_)
    · have H := oq_t c9 H
      exact Wp.f_iinc_goto (pc := 88) o_X12_reaches rfl rfl rfl (Wp.weak2 [1, 2, 0] (h_23 _ _ _ H) rfl)
    · have H := oq_f c9 H
      obtain ⟨hc6, H⟩ := oq_ck H
      refine Wp.r_iload_n3 (pc := 43) o_X12_reaches rfl rfl (Wp.f_al0_gfr (pc := 44) o_X12_reaches rfl rfl rfl fk_M_0_0 (Wp.r_bipush (pc := 48) o_X12_reaches rfl (Wp.r_iconst (pc := 50) o_X12_reaches rfl (Wp.r_iload (pc := 51) o_X12_reaches rfl rfl (Wp.r_imul (pc := 53) o_X12_reaches rfl (Wp.r_iadd (pc := 54) o_X12_reaches rfl (Wp.r_iaload (pc := 55) o_X12_reaches rfl ak_M_1 (⟨hc6, ?_⟩))))))))
      refine Wp.r_ishr (pc := 56) o_X12_reaches rfl (Wp.r_iconst (pc := 57) o_X12_reaches rfl (Wp.r_iand (pc := 58) o_X12_reaches rfl (Wp.r_iconst (pc := 59) o_X12_reaches rfl (Wp.r_icmp_ne (pc := 60) o_X12_reaches rfl (fun c9 => ?_) (fun c9 => ?_)))))
      · have H := oq_t c9 H
        obtain ⟨hc7, H⟩ := oq_ck H
        refine Wp.r_iload_n3 (pc := 63) o_X12_reaches rfl rfl (Wp.r_iconst (pc := 64) o_X12_reaches rfl (Wp.f_al0_gfr (pc := 65) o_X12_reaches rfl rfl rfl fk_M_0_0 (Wp.r_bipush (pc := 69) o_X12_reaches rfl (Wp.r_iconst (pc := 71) o_X12_reaches rfl (Wp.r_iload (pc := 72) o_X12_reaches rfl rfl (Wp.r_imul (pc := 74) o_X12_reaches rfl (Wp.r_iadd (pc := 75) o_X12_reaches rfl (Wp.r_iconst (pc := 76) o_X12_reaches rfl (Wp.r_iadd (pc := 77) o_X12_reaches rfl (Wp.r_iaload (pc := 78) o_X12_reaches rfl ak_M_1 (⟨hc7, ?_⟩)))))))))))
        refine Wp.r_ishl (pc := 79) o_X12_reaches rfl (Wp.r_ior (pc := 80) o_X12_reaches rfl (Wp.r_istore_n3 (pc := 81) o_X12_reaches rfl (show Y_X12_reaches d Q 82 [(3, .int (v3 ||| ((1 : Int32) <<< ((s.1 1 (((80 + (3 * v5)) + 1).toNatClampNeg)) &&& 31)))), (0, .ref 0), (4, .int v4), (5, .int v5)] [] s from ?_)))
        revert H
        generalize (v3 ||| ((1 : Int32) <<< ((s.1 1 (((80 + (3 * v5)) + 1).toNatClampNeg)) &&& 31)) : Int32) = x8
        intro H
        have H := nmx_e H
        exact Wp.f_iinc_goto (pc := 82) o_X12_reaches rfl rfl rfl (Wp.weak2 [2, 1, 3, 0] (ih _ _ _ _ H) rfl)
      · have H := oq_f c9 H
        exact Wp.f_iinc_goto (pc := 82) o_X12_reaches rfl rfl rfl (Wp.weak2 [1, 2, 3, 0] (ih _ _ _ _ H) rfl)
noncomputable def f_X12_reaches_b23 : Nat → Int32 → Int32 → Sg → Option (Int32 × Sg)
  | 0, _, _, _ => none
  | n + 1, v3, v4, s =>
    if 4 ≤ v4 then
      bd (f_X12_gives v3 s) (fun r4 s5 =>
      some (r4, s5)
      )
    else
      f_X12_reaches_b32 (f_X12_reaches_b23 n) BIG v3 v4 0 s
set_option maxRecDepth 100000 in
theorem w_X12_reaches_b23 {d : Nat} {Q : Qt} (n : Nat) : ∀ (v3 : Int32) (v4 : Int32) (s : Sg), OQ (f_X12_reaches_b23 n v3 v4 s) (fun r9 s9 => Q (some (.int r9)) s9) → Y_X12_reaches d Q 23 [(0, .ref 0), (3, .int v3), (4, .int v4)] [] s := by
  induction n with
  | zero => intro v3 v4 s H; exact H.elim
  | succ n ih =>
    intro v3 v4 s H
    unfold f_X12_reaches_b23 at H
    refine Wp.r_iload (pc := 23) o_X12_reaches rfl rfl (Wp.r_iconst (pc := 25) o_X12_reaches rfl (Wp.r_icmp_ge (pc := 26) o_X12_reaches rfl (fun c9 => ?_) (fun c9 => ?_)))
    · have H := oq_t c9 H
      refine Wp.r_aload_n0 (pc := 94) o_X12_reaches rfl rfl (Wp.r_iload_n3 (pc := 95) o_X12_reaches rfl rfl (Wp.r_cv2 (pc := 96) o_X12_reaches rfl fk_M_0_0 (⟨rm8_ rfl, ?_⟩)))
      refine w_X12_gives (d := d + 1) _ ?_
      refine oq_bd H (fun r4 s5 H => ?_)
      exact Wp.r_ireturn (pc := 99) o_X12_reaches rfl (⟨rfl, H⟩)
    · have H := oq_f c9 H
      exact Wp.r_iconst (pc := 29) o_X12_reaches rfl (Wp.r_istore (pc := 30) o_X12_reaches rfl (Wp.weak2 [1, 2, 3, 0] (w_X12_reaches_b32 (f_X12_reaches_b23 n) ih _ _ _ _ _ H) rfl))
noncomputable def f_X12_reaches (a1 : Int32) (s : Sg) : Option (Int32 × Sg) :=
  bd (f_X12_wrongStep a1 s) (fun r1 s2 =>
  if r1 ≤ 0 then
    nmx ((1 : Int32) <<< (a1 &&& 31) : Int32) (fun x3 =>
    f_X12_reaches_b23 BIG x3 0 s2
    )
  else
    bd (f_X12_refuse r1 s2) (fun r9 s10 =>
    some (r9, s10)
    )
  )
set_option maxRecDepth 100000 in
theorem w_X12_reaches {d : Nat} {s : Sg} {Q : Qt} (a1 : Int32) (H : OQ (f_X12_reaches a1 s) (fun r9 s9 => Q (some (.int r9)) s9)) : WpM SHM MT (d + 3) 282 [.ref 0, .int a1] s Q := by
  refine WpM.enter me_X12_reaches rfl rfl ?_
  show Y_X12_reaches d Q 0 [(0, .ref 0), (1, .int a1)] [] s
  unfold f_X12_reaches at H
  refine Wp.r_aload_n0 (pc := 0) o_X12_reaches rfl rfl (Wp.r_iload_n1 (pc := 1) o_X12_reaches rfl rfl (Wp.r_cv2 (pc := 2) o_X12_reaches rfl fk_M_0_0 (⟨rm8_ rfl, ?_⟩)))
  refine w_X12_wrongStep (d := d) _ ?_
  refine oq_bd H (fun r1 s2 H => ?_)
  refine Wp.r_istore_n2 (pc := 5) o_X12_reaches rfl (Wp.r_iload_n2 (pc := 6) o_X12_reaches rfl rfl (Wp.r_if_le (pc := 7) o_X12_reaches rfl (fun c9 => ?_) (fun c9 => ?_)))
  · have H := oq_t c9 H
    refine Wp.r_iconst (pc := 16) o_X12_reaches rfl (Wp.r_iload_n1 (pc := 17) o_X12_reaches rfl rfl (Wp.r_ishl (pc := 18) o_X12_reaches rfl (Wp.r_istore_n3 (pc := 19) o_X12_reaches rfl (show Y_X12_reaches d Q 20 [(3, .int ((1 : Int32) <<< (a1 &&& 31))), (2, .int r1), (0, .ref 0), (1, .int a1)] [] s2 from ?_))))
    revert H
    generalize ((1 : Int32) <<< (a1 &&& 31) : Int32) = x3
    intro H
    have H := nmx_e H
    exact Wp.r_iconst (pc := 20) o_X12_reaches rfl (Wp.r_istore (pc := 21) o_X12_reaches rfl (Wp.weak2 [3, 1, 0] (w_X12_reaches_b23 _ _ _ _ H) rfl))
  · have H := oq_f c9 H
    refine Wp.r_aload_n0 (pc := 10) o_X12_reaches rfl rfl (Wp.r_iload_n2 (pc := 11) o_X12_reaches rfl rfl (Wp.r_cv2 (pc := 12) o_X12_reaches rfl fk_M_0_0 (⟨rm8_ rfl, ?_⟩)))
    refine w_X12_refuse (d := d + 1) _ ?_
    refine oq_bd H (fun r9 s10 H => ?_)
    exact Wp.r_ireturn (pc := 15) o_X12_reaches rfl (⟨rfl, H⟩)
noncomputable abbrev Y_X12_chain (d : Nat) (Q : Qt) : Xt := Wp SHM (WpM SHM MT (d + 3)) (flat2 cq_X12_chain) (some .int) Q
noncomputable def f_X12_chain_b55 (k_29 : Int32 → Int32 → Int32 → Sg → Option (Int32 × Sg)) : Nat → Int32 → Int32 → Int32 → Int32 → Sg → Option (Int32 × Sg)
  | 0, _, _, _, _, _ => none
  | n + 1, v2, v3, v4, v5, s =>
    if (s.1 1 1) ≤ v5 then
      k_29 v2 v3 (v4 + 1) s
    else
      bd (f_X12_quarrelHouse v4 0 s) (fun r8 s9 =>
      ck (inr r8 2880) (
      bd (f_X12_isAt v5 (s9.1 1 r8.toNatClampNeg) s9) (fun r11 s12 =>
      if r11 = 0 then
        bd (f_X12_quarrelHouse v4 1 s12) (fun r13 s14 =>
        ck (inr r13 2880) (
        bd (f_X12_isAt v5 (s14.1 1 r13.toNatClampNeg) s14) (fun r16 s17 =>
        if r16 = 0 then
          (f_X12_chain_b55 k_29 n) v2 v3 v4 (v5 + 1) s17
        else
          nmx (v2 ||| ((1 : Int32) <<< (v5 &&& 31)) : Int32) (fun x18 =>
          (f_X12_chain_b55 k_29 n) x18 v3 v4 (v5 + 1) s17
          )
        )
        )
        )
      else
        nmx (v2 ||| ((1 : Int32) <<< (v5 &&& 31)) : Int32) (fun x19 =>
        (f_X12_chain_b55 k_29 n) x19 v3 v4 (v5 + 1) s12
        )
      )
      )
      )
set_option maxRecDepth 100000 in
theorem w_X12_chain_b55 {d : Nat} {Q : Qt} (k_29 : Int32 → Int32 → Int32 → Sg → Option (Int32 × Sg)) (h_29 : ∀ (v2 : Int32) (v3 : Int32) (v4 : Int32) s, OQ (k_29 v2 v3 v4 s) (fun r9 s9 => Q (some (.int r9)) s9) → Y_X12_chain d Q 29 [(0, .ref 0), (2, .int v2), (3, .int v3), (4, .int v4)] [] s) (n : Nat) : ∀ (v2 : Int32) (v3 : Int32) (v4 : Int32) (v5 : Int32) (s : Sg), OQ (f_X12_chain_b55 k_29 n v2 v3 v4 v5 s) (fun r9 s9 => Q (some (.int r9)) s9) → Y_X12_chain d Q 55 [(0, .ref 0), (2, .int v2), (3, .int v3), (4, .int v4), (5, .int v5)] [] s := by
  induction n with
  | zero => intro v2 v3 v4 v5 s H; exact H.elim
  | succ n ih =>
    intro v2 v3 v4 v5 s H
    unfold f_X12_chain_b55 at H
    refine Wp.r_iload (pc := 55) o_X12_chain rfl rfl (Wp.f_al0_gfr (pc := 57) o_X12_chain rfl rfl rfl fk_M_0_0 (Wp.r_iconst (pc := 61) o_X12_chain rfl (Wp.r_iaload (pc := 62) o_X12_chain rfl ak_M_1 (show (vp_in 1 2880) ∧ Y_X12_chain d Q 63 [(0, .ref 0), (2, .int v2), (3, .int v3), (4, .int v4), (5, .int v5)] [.int (s.1 1 1), .int v5] s from ⟨by unfold vp_in; decide, ?_⟩))))
    refine Wp.r_icmp_ge (pc := 63) o_X12_chain rfl (fun c9 => ?_) (fun c9 => ?_)
    · have H := oq_t c9 H
      exact Wp.f_iinc_goto (pc := 119) o_X12_chain rfl rfl rfl (Wp.weak2 [1, 2, 3, 0] (h_29 _ _ _ _ H) rfl)
    · have H := oq_f c9 H
      refine Wp.r_aload_n0 (pc := 66) o_X12_chain rfl rfl (Wp.r_iload (pc := 67) o_X12_chain rfl rfl (Wp.f_al0_gfr (pc := 69) o_X12_chain rfl rfl rfl fk_M_0_0 (Wp.r_iload (pc := 73) o_X12_chain rfl rfl (Wp.r_iconst (pc := 75) o_X12_chain rfl (Wp.r_cs2 (pc := 76) o_X12_chain rfl (⟨rm8_ rfl, ?_⟩))))))
      refine w_X12_quarrelHouse (d := d + 1) _ _ ?_
      refine oq_bd H (fun r8 s9 H => ?_)
      obtain ⟨hc10, H⟩ := oq_ck H
      refine Wp.r_iaload (pc := 79) o_X12_chain rfl ak_M_1 (⟨hc10, ?_⟩)
      refine Wp.r_cv3 (pc := 80) o_X12_chain rfl fk_M_0_0 (⟨rm8_ rfl, ?_⟩)
      refine w_X12_isAt (d := d) _ _ ?_
      refine oq_bd H (fun r11 s12 H => ?_)
      refine Wp.r_if_ne (pc := 83) o_X12_chain rfl (fun c9 => ?_) (fun c9 => ?_)
      · have H := oq_t c9 H
        refine Wp.r_aload_n0 (pc := 86) o_X12_chain rfl rfl (Wp.r_iload (pc := 87) o_X12_chain rfl rfl (Wp.f_al0_gfr (pc := 89) o_X12_chain rfl rfl rfl fk_M_0_0 (Wp.r_iload (pc := 93) o_X12_chain rfl rfl (Wp.r_iconst (pc := 95) o_X12_chain rfl (Wp.r_cs2 (pc := 96) o_X12_chain rfl (⟨rm8_ rfl, ?_⟩))))))
        refine w_X12_quarrelHouse (d := d + 1) _ _ ?_
        refine oq_bd H (fun r13 s14 H => ?_)
        obtain ⟨hc15, H⟩ := oq_ck H
        refine Wp.r_iaload (pc := 99) o_X12_chain rfl ak_M_1 (⟨hc15, ?_⟩)
        refine Wp.r_cv3 (pc := 100) o_X12_chain rfl fk_M_0_0 (⟨rm8_ rfl, ?_⟩)
        refine w_X12_isAt (d := d) _ _ ?_
        refine oq_bd H (fun r16 s17 H => ?_)
        refine Wp.r_if_eq (pc := 103) o_X12_chain rfl (fun c9 => ?_) (fun c9 => ?_)
        · have H := oq_t c9 H
          exact Wp.f_iinc_goto (pc := 113) o_X12_chain rfl rfl rfl (Wp.weak2 [1, 2, 3, 4, 0] (ih _ _ _ _ _ H) rfl)
        · have H := oq_f c9 H
          refine Wp.r_iload_n2 (pc := 106) o_X12_chain rfl rfl (Wp.r_iconst (pc := 107) o_X12_chain rfl (Wp.r_iload (pc := 108) o_X12_chain rfl rfl (Wp.r_ishl (pc := 110) o_X12_chain rfl (Wp.r_ior (pc := 111) o_X12_chain rfl (Wp.r_istore_n2 (pc := 112) o_X12_chain rfl (show Y_X12_chain d Q 113 [(2, .int (v2 ||| ((1 : Int32) <<< (v5 &&& 31)))), (0, .ref 0), (3, .int v3), (4, .int v4), (5, .int v5)] [] s17 from ?_))))))
          revert H
          generalize (v2 ||| ((1 : Int32) <<< (v5 &&& 31)) : Int32) = x18
          intro H
          have H := nmx_e H
          exact Wp.f_iinc_goto (pc := 113) o_X12_chain rfl rfl rfl (Wp.weak2 [2, 1, 3, 4, 0] (ih _ _ _ _ _ H) rfl)
      · have H := oq_f c9 H
        refine Wp.r_iload_n2 (pc := 106) o_X12_chain rfl rfl (Wp.r_iconst (pc := 107) o_X12_chain rfl (Wp.r_iload (pc := 108) o_X12_chain rfl rfl (Wp.r_ishl (pc := 110) o_X12_chain rfl (Wp.r_ior (pc := 111) o_X12_chain rfl (Wp.r_istore_n2 (pc := 112) o_X12_chain rfl (show Y_X12_chain d Q 113 [(2, .int (v2 ||| ((1 : Int32) <<< (v5 &&& 31)))), (0, .ref 0), (3, .int v3), (4, .int v4), (5, .int v5)] [] s12 from ?_))))))
        revert H
        generalize (v2 ||| ((1 : Int32) <<< (v5 &&& 31)) : Int32) = x19
        intro H
        have H := nmx_e H
        exact Wp.f_iinc_goto (pc := 113) o_X12_chain rfl rfl rfl (Wp.weak2 [2, 1, 3, 4, 0] (ih _ _ _ _ _ H) rfl)
noncomputable def f_X12_chain_b29 (k_20 : Int32 → Int32 → Sg → Option (Int32 × Sg)) : Nat → Int32 → Int32 → Int32 → Sg → Option (Int32 × Sg)
  | 0, _, _, _, _ => none
  | n + 1, v2, v3, v4, s =>
    if (s.1 1 1) ≤ v4 then
      k_20 v2 (v3 + 1) s
    else
      if ((v2 >>> (v4 &&& 31)) &&& 1) = 0 then
        (f_X12_chain_b29 k_20 n) v2 v3 (v4 + 1) s
      else
        f_X12_chain_b55 (f_X12_chain_b29 k_20 n) BIG v2 v3 v4 0 s
set_option maxRecDepth 100000 in
theorem w_X12_chain_b29 {d : Nat} {Q : Qt} (k_20 : Int32 → Int32 → Sg → Option (Int32 × Sg)) (h_20 : ∀ (v2 : Int32) (v3 : Int32) s, OQ (k_20 v2 v3 s) (fun r9 s9 => Q (some (.int r9)) s9) → Y_X12_chain d Q 20 [(0, .ref 0), (2, .int v2), (3, .int v3)] [] s) (n : Nat) : ∀ (v2 : Int32) (v3 : Int32) (v4 : Int32) (s : Sg), OQ (f_X12_chain_b29 k_20 n v2 v3 v4 s) (fun r9 s9 => Q (some (.int r9)) s9) → Y_X12_chain d Q 29 [(0, .ref 0), (2, .int v2), (3, .int v3), (4, .int v4)] [] s := by
  induction n with
  | zero => intro v2 v3 v4 s H; exact H.elim
  | succ n ih =>
    intro v2 v3 v4 s H
    unfold f_X12_chain_b29 at H
    refine Wp.r_iload (pc := 29) o_X12_chain rfl rfl (Wp.f_al0_gfr (pc := 31) o_X12_chain rfl rfl rfl fk_M_0_0 (Wp.r_iconst (pc := 35) o_X12_chain rfl (Wp.r_iaload (pc := 36) o_X12_chain rfl ak_M_1 (show (vp_in 1 2880) ∧ Y_X12_chain d Q 37 [(0, .ref 0), (2, .int v2), (3, .int v3), (4, .int v4)] [.int (s.1 1 1), .int v4] s from ⟨by unfold vp_in; decide, ?_⟩))))
    refine Wp.r_icmp_ge (pc := 37) o_X12_chain rfl (fun c9 => ?_) (fun c9 => ?_)
    · have H := oq_t c9 H
      exact Wp.f_iinc_goto (pc := 125) o_X12_chain rfl rfl rfl (Wp.weak2 [1, 2, 0] (h_20 _ _ _ H) rfl)
    · have H := oq_f c9 H
      refine Wp.r_iload_n2 (pc := 40) o_X12_chain rfl rfl (Wp.r_iload (pc := 41) o_X12_chain rfl rfl (Wp.r_ishr (pc := 43) o_X12_chain rfl (Wp.r_iconst (pc := 44) o_X12_chain rfl (Wp.r_iand (pc := 45) o_X12_chain rfl (Wp.r_if_ne (pc := 46) o_X12_chain rfl (fun c9 => ?_) (fun c9 => ?_))))))
      · have H := oq_t c9 H
        exact Wp.r_goto (pc := 49) o_X12_chain rfl (Wp.f_iinc_goto (pc := 119) o_X12_chain rfl rfl rfl (Wp.weak2 [1, 2, 3, 0] (ih _ _ _ _ H) rfl))
      · have H := oq_f c9 H
        exact Wp.r_iconst (pc := 52) o_X12_chain rfl (Wp.r_istore (pc := 53) o_X12_chain rfl (Wp.weak2 [1, 2, 3, 4, 0] (w_X12_chain_b55 (f_X12_chain_b29 k_20 n) ih _ _ _ _ _ _ H) rfl))
noncomputable def f_X12_chain_b20 : Nat → Int32 → Int32 → Sg → Option (Int32 × Sg)
  | 0, _, _, _ => none
  | n + 1, v2, v3, s =>
    if 8 ≤ v3 then
      bd (f_X12_gives v2 s) (fun r6 s7 =>
      some (r6, s7)
      )
    else
      f_X12_chain_b29 (f_X12_chain_b20 n) BIG v2 v3 0 s
set_option maxRecDepth 100000 in
theorem w_X12_chain_b20 {d : Nat} {Q : Qt} (n : Nat) : ∀ (v2 : Int32) (v3 : Int32) (s : Sg), OQ (f_X12_chain_b20 n v2 v3 s) (fun r9 s9 => Q (some (.int r9)) s9) → Y_X12_chain d Q 20 [(0, .ref 0), (2, .int v2), (3, .int v3)] [] s := by
  induction n with
  | zero => intro v2 v3 s H; exact H.elim
  | succ n ih =>
    intro v2 v3 s H
    unfold f_X12_chain_b20 at H
    refine Wp.r_iload_n3 (pc := 20) o_X12_chain rfl rfl (Wp.r_bipush (pc := 21) o_X12_chain rfl (Wp.r_icmp_ge (pc := 23) o_X12_chain rfl (fun c9 => ?_) (fun c9 => ?_)))
    · have H := oq_t c9 H
      refine Wp.r_aload_n0 (pc := 131) o_X12_chain rfl rfl (Wp.r_iload_n2 (pc := 132) o_X12_chain rfl rfl (Wp.r_cv2 (pc := 133) o_X12_chain rfl fk_M_0_0 (⟨rm8_ rfl, ?_⟩)))
      refine w_X12_gives (d := d + 2) _ ?_
      refine oq_bd H (fun r6 s7 H => ?_)
      exact Wp.r_ireturn (pc := 136) o_X12_chain rfl (⟨rfl, H⟩)
    · have H := oq_f c9 H
      exact Wp.r_iconst (pc := 26) o_X12_chain rfl (Wp.r_istore (pc := 27) o_X12_chain rfl (Wp.weak2 [1, 2, 3, 0] (w_X12_chain_b29 (f_X12_chain_b20 n) ih _ _ _ _ _ H) rfl))
noncomputable def f_X12_chain (a1 : Int32) (s : Sg) : Option (Int32 × Sg) :=
  bd (f_X12_isQuarrel a1 s) (fun r1 s2 =>
  if r1 = 0 then
    bd (f_X12_refuse 1 s2) (fun r3 s4 =>
    some (r3, s4)
    )
  else
    nmx ((1 : Int32) <<< (a1 &&& 31) : Int32) (fun x5 =>
    f_X12_chain_b20 BIG x5 0 s2
    )
  )
set_option maxRecDepth 100000 in
theorem w_X12_chain {d : Nat} {s : Sg} {Q : Qt} (a1 : Int32) (H : OQ (f_X12_chain a1 s) (fun r9 s9 => Q (some (.int r9)) s9)) : WpM SHM MT (d + 4) 283 [.ref 0, .int a1] s Q := by
  refine WpM.enter me_X12_chain rfl rfl ?_
  show Y_X12_chain d Q 0 [(0, .ref 0), (1, .int a1)] [] s
  unfold f_X12_chain at H
  refine Wp.r_aload_n0 (pc := 0) o_X12_chain rfl rfl (Wp.r_iload_n1 (pc := 1) o_X12_chain rfl rfl (Wp.r_cv2 (pc := 2) o_X12_chain rfl fk_M_0_0 (⟨rm8_ rfl, ?_⟩)))
  refine w_X12_isQuarrel (d := d + 2) _ ?_
  refine oq_bd H (fun r1 s2 H => ?_)
  refine Wp.r_if_ne (pc := 5) o_X12_chain rfl (fun c9 => ?_) (fun c9 => ?_)
  · have H := oq_t c9 H
    refine Wp.f_al0_iconst (pc := 8) o_X12_chain rfl rfl rfl (Wp.r_cv2 (pc := 10) o_X12_chain rfl fk_M_0_0 (⟨rm8_ rfl, ?_⟩))
    refine w_X12_refuse (d := d + 2) _ ?_
    refine oq_bd H (fun r3 s4 H => ?_)
    exact Wp.r_ireturn (pc := 13) o_X12_chain rfl (⟨rfl, H⟩)
  · have H := oq_f c9 H
    refine Wp.r_iconst (pc := 14) o_X12_chain rfl (Wp.r_iload_n1 (pc := 15) o_X12_chain rfl rfl (Wp.r_ishl (pc := 16) o_X12_chain rfl (Wp.r_istore_n2 (pc := 17) o_X12_chain rfl (show Y_X12_chain d Q 18 [(2, .int ((1 : Int32) <<< (a1 &&& 31))), (0, .ref 0), (1, .int a1)] [] s2 from ?_))))
    revert H
    generalize ((1 : Int32) <<< (a1 &&& 31) : Int32) = x5
    intro H
    have H := nmx_e H
    exact Wp.r_iconst (pc := 18) o_X12_chain rfl (Wp.r_istore_n3 (pc := 19) o_X12_chain rfl (Wp.weak2 [2, 1, 0] (w_X12_chain_b20 _ _ _ _ H) rfl))
noncomputable abbrev Y_X12_keepsAll (d : Nat) (Q : Qt) : Xt := Wp SHM (WpM SHM MT (d + 0)) (flat2 cq_X12_keepsAll) (none) Q
noncomputable def f_X12_keepsAll_b2 : Nat → Int32 → Sg → Option (Unit × Sg)
  | 0, _, _ => none
  | n + 1, v1, s =>
    if 110 ≤ v1 then
      some ((), s)
    else
      ck (inr v1 2880) (
      ck (inr (2400 + v1) 2880) (
      nmx (pI s 1 ((2400 + v1).toNatClampNeg) (s.1 1 v1.toNatClampNeg)) (fun s3 =>
      (f_X12_keepsAll_b2 n) (v1 + 1) s3
      )
      )
      )
set_option maxRecDepth 100000 in
theorem w_X12_keepsAll_b2 {d : Nat} {Q : Qt} (n : Nat) : ∀ (v1 : Int32) (s : Sg), OQ (f_X12_keepsAll_b2 n v1 s) (fun _ s9 => Q none s9) → Y_X12_keepsAll d Q 2 [(0, .ref 0), (1, .int v1)] [] s := by
  induction n with
  | zero => intro v1 s H; exact H.elim
  | succ n ih =>
    intro v1 s H
    unfold f_X12_keepsAll_b2 at H
    refine Wp.r_iload_n1 (pc := 2) o_X12_keepsAll rfl rfl (Wp.r_bipush (pc := 3) o_X12_keepsAll rfl (Wp.r_icmp_ge (pc := 5) o_X12_keepsAll rfl (fun c9 => ?_) (fun c9 => ?_)))
    · have H := oq_t c9 H
      exact Wp.r_return (pc := 30) o_X12_keepsAll rfl (H)
    · have H := oq_f c9 H
      obtain ⟨hc1, H⟩ := oq_ck H
      refine Wp.f_al0_gfr (pc := 8) o_X12_keepsAll rfl rfl rfl fk_M_0_0 (Wp.r_sipush (pc := 12) o_X12_keepsAll rfl (Wp.r_iload_n1 (pc := 15) o_X12_keepsAll rfl rfl (Wp.r_iadd (pc := 16) o_X12_keepsAll rfl (Wp.f_al0_gfr (pc := 17) o_X12_keepsAll rfl rfl rfl fk_M_0_0 (Wp.r_iload_n1 (pc := 21) o_X12_keepsAll rfl rfl (Wp.r_iaload (pc := 22) o_X12_keepsAll rfl ak_M_1 (⟨hc1, ?_⟩)))))))
      obtain ⟨hc2, H⟩ := oq_ck H
      refine Wp.r_iastore (pc := 23) o_X12_keepsAll rfl ak_M_1 (⟨hc2, ?_⟩)
      revert H
      generalize pI s 1 ((2400 + v1).toNatClampNeg) (s.1 1 v1.toNatClampNeg) = s3
      intro H
      have H := nmx_e H
      exact Wp.f_iinc_goto (pc := 24) o_X12_keepsAll rfl rfl rfl (Wp.weak2 [1, 0] (ih _ _ H) rfl)
noncomputable def f_X12_keepsAll  (s : Sg) : Option (Unit × Sg) :=
  f_X12_keepsAll_b2 BIG 0 s
set_option maxRecDepth 100000 in
theorem w_X12_keepsAll {d : Nat} {s : Sg} {Q : Qt}  (H : OQ (f_X12_keepsAll  s) (fun _ s9 => Q none s9)) : WpM SHM MT (d + 1) 284 [.ref 0] s Q := by
  refine WpM.enter me_X12_keepsAll rfl rfl ?_
  show Y_X12_keepsAll d Q 0 [(0, .ref 0)] [] s
  unfold f_X12_keepsAll at H
  exact Wp.r_iconst (pc := 0) o_X12_keepsAll rfl (Wp.r_istore_n1 (pc := 1) o_X12_keepsAll rfl (Wp.weak2 [1, 0] (w_X12_keepsAll_b2 _ _ _ H) rfl))
noncomputable abbrev Y_X12_takesBack (d : Nat) (Q : Qt) : Xt := Wp SHM (WpM SHM MT (d + 0)) (flat2 cq_X12_takesBack) (none) Q
noncomputable def f_X12_takesBack_b2 : Nat → Int32 → Sg → Option (Unit × Sg)
  | 0, _, _ => none
  | n + 1, v1, s =>
    if 110 ≤ v1 then
      some ((), s)
    else
      ck (inr (2400 + v1) 2880) (
      ck (inr v1 2880) (
      nmx (pI s 1 v1.toNatClampNeg (s.1 1 ((2400 + v1).toNatClampNeg))) (fun s3 =>
      (f_X12_takesBack_b2 n) (v1 + 1) s3
      )
      )
      )
set_option maxRecDepth 100000 in
theorem w_X12_takesBack_b2 {d : Nat} {Q : Qt} (n : Nat) : ∀ (v1 : Int32) (s : Sg), OQ (f_X12_takesBack_b2 n v1 s) (fun _ s9 => Q none s9) → Y_X12_takesBack d Q 2 [(0, .ref 0), (1, .int v1)] [] s := by
  induction n with
  | zero => intro v1 s H; exact H.elim
  | succ n ih =>
    intro v1 s H
    unfold f_X12_takesBack_b2 at H
    refine Wp.r_iload_n1 (pc := 2) o_X12_takesBack rfl rfl (Wp.r_bipush (pc := 3) o_X12_takesBack rfl (Wp.r_icmp_ge (pc := 5) o_X12_takesBack rfl (fun c9 => ?_) (fun c9 => ?_)))
    · have H := oq_t c9 H
      exact Wp.r_return (pc := 30) o_X12_takesBack rfl (H)
    · have H := oq_f c9 H
      obtain ⟨hc1, H⟩ := oq_ck H
      refine Wp.f_al0_gfr (pc := 8) o_X12_takesBack rfl rfl rfl fk_M_0_0 (Wp.r_iload_n1 (pc := 12) o_X12_takesBack rfl rfl (Wp.f_al0_gfr (pc := 13) o_X12_takesBack rfl rfl rfl fk_M_0_0 (Wp.r_sipush (pc := 17) o_X12_takesBack rfl (Wp.r_iload_n1 (pc := 20) o_X12_takesBack rfl rfl (Wp.r_iadd (pc := 21) o_X12_takesBack rfl (Wp.r_iaload (pc := 22) o_X12_takesBack rfl ak_M_1 (⟨hc1, ?_⟩)))))))
      obtain ⟨hc2, H⟩ := oq_ck H
      refine Wp.r_iastore (pc := 23) o_X12_takesBack rfl ak_M_1 (⟨hc2, ?_⟩)
      revert H
      generalize pI s 1 v1.toNatClampNeg (s.1 1 ((2400 + v1).toNatClampNeg)) = s3
      intro H
      have H := nmx_e H
      exact Wp.f_iinc_goto (pc := 24) o_X12_takesBack rfl rfl rfl (Wp.weak2 [1, 0] (ih _ _ H) rfl)
noncomputable def f_X12_takesBack  (s : Sg) : Option (Unit × Sg) :=
  f_X12_takesBack_b2 BIG 0 s
set_option maxRecDepth 100000 in
theorem w_X12_takesBack {d : Nat} {s : Sg} {Q : Qt}  (H : OQ (f_X12_takesBack  s) (fun _ s9 => Q none s9)) : WpM SHM MT (d + 1) 285 [.ref 0] s Q := by
  refine WpM.enter me_X12_takesBack rfl rfl ?_
  show Y_X12_takesBack d Q 0 [(0, .ref 0)] [] s
  unfold f_X12_takesBack at H
  exact Wp.r_iconst (pc := 0) o_X12_takesBack rfl (Wp.r_istore_n1 (pc := 1) o_X12_takesBack rfl (Wp.weak2 [1, 0] (w_X12_takesBack_b2 _ _ _ H) rfl))
noncomputable abbrev Y_X12_forecast (d : Nat) (Q : Qt) : Xt := Wp SHM (WpM SHM MT (d + 7)) (flat2 cq_X12_forecast) (some .int) Q
noncomputable def f_X12_forecast_b51 : Nat → Int32 → Int32 → Int32 → Int32 → Sg → Option (Int32 × Sg)
  | 0, _, _, _, _, _ => none
  | n + 1, v1, v2, v3, v5, s =>
    if v2 ≤ v5 then
      bd (f_X12_houseRow v1 s) (fun r5 s6 =>
      ck (inr (r5 + v3) 2880) (
      nmx (s6.1 1 ((r5 + v3).toNatClampNeg) : Int32) (fun x8 =>
      bd (f_X12_takesBack s6) (fun _ s10 =>
      bd (f_X12_gives x8 s10) (fun r11 s12 =>
      some (r11, s12)
      )
      )
      )
      )
      )
    else
      bd (f_X12_nightGoes s) (fun _ s14 =>
      (f_X12_forecast_b51 n) v1 v2 v3 (v5 + 1) s14
      )
set_option maxRecDepth 100000 in
theorem w_X12_forecast_b51 {d : Nat} {Q : Qt} (n : Nat) : ∀ (v1 : Int32) (v2 : Int32) (v3 : Int32) (v5 : Int32) (s : Sg), OQ (f_X12_forecast_b51 n v1 v2 v3 v5 s) (fun r9 s9 => Q (some (.int r9)) s9) → Y_X12_forecast d Q 51 [(0, .ref 0), (1, .int v1), (2, .int v2), (3, .int v3), (5, .int v5)] [] s := by
  induction n with
  | zero => intro v1 v2 v3 v5 s H; exact H.elim
  | succ n ih =>
    intro v1 v2 v3 v5 s H
    unfold f_X12_forecast_b51 at H
    refine Wp.r_iload (pc := 51) o_X12_forecast rfl rfl (Wp.r_iload_n2 (pc := 53) o_X12_forecast rfl rfl (Wp.r_icmp_ge (pc := 54) o_X12_forecast rfl (fun c9 => ?_) (fun c9 => ?_)))
    · have H := oq_t c9 H
      refine Wp.f_al0_gfr (pc := 67) o_X12_forecast rfl rfl rfl fk_M_0_0 (Wp.r_iload_n1 (pc := 71) o_X12_forecast rfl rfl (Wp.r_cs1 (pc := 72) o_X12_forecast rfl (⟨rm8_ rfl, ?_⟩)))
      refine w_X12_houseRow (d := d + 6) _ ?_
      refine oq_bd H (fun r5 s6 H => ?_)
      obtain ⟨hc7, H⟩ := oq_ck H
      refine Wp.r_iload_n3 (pc := 75) o_X12_forecast rfl rfl (Wp.r_iadd (pc := 76) o_X12_forecast rfl (Wp.r_iaload (pc := 77) o_X12_forecast rfl ak_M_1 (⟨hc7, ?_⟩)))
      refine Wp.r_istore (pc := 78) o_X12_forecast rfl (show Y_X12_forecast d Q 80 [(5, .int (s6.1 1 ((r5 + v3).toNatClampNeg))), (0, .ref 0), (1, .int v1), (2, .int v2), (3, .int v3)] [] s6 from ?_)
      revert H
      generalize (s6.1 1 ((r5 + v3).toNatClampNeg) : Int32) = x8
      intro H
      have H := nmx_e H
      refine Wp.r_aload_n0 (pc := 80) o_X12_forecast rfl rfl (Wp.r_cv1 (pc := 81) o_X12_forecast rfl fk_M_0_0 (⟨rm8_ rfl, ?_⟩))
      refine w_X12_takesBack (d := d + 6)  ?_
      refine oq_bd H (fun _ s10 H => ?_)
      refine Wp.r_aload_n0 (pc := 84) o_X12_forecast rfl rfl (Wp.r_iload (pc := 85) o_X12_forecast rfl rfl (Wp.r_cv2 (pc := 87) o_X12_forecast rfl fk_M_0_0 (⟨rm8_ rfl, ?_⟩)))
      refine w_X12_gives (d := d + 6) _ ?_
      refine oq_bd H (fun r11 s12 H => ?_)
      exact Wp.r_ireturn (pc := 90) o_X12_forecast rfl (⟨rfl, H⟩)
    · have H := oq_f c9 H
      refine Wp.r_aload_n0 (pc := 57) o_X12_forecast rfl rfl (Wp.r_cv1 (pc := 58) o_X12_forecast rfl fk_M_0_0 (⟨rm8_ rfl, ?_⟩))
      refine w_X12_nightGoes (d := d)  ?_
      refine oq_bd H (fun _ s14 H => ?_)
      exact Wp.f_iinc_goto (pc := 61) o_X12_forecast rfl rfl rfl (Wp.weak2 [1, 2, 3, 4, 0] (ih _ _ _ _ _ H) rfl)
noncomputable def f_X12_forecast_b30 (v1 : Int32) (v2 : Int32) (v3 : Int32) (t0 : Int32) (s : Sg) : Option (Int32 × Sg) :=
  if t0 ≤ 0 then
    bd (f_X12_keepsAll s) (fun _ s4 =>
    f_X12_forecast_b51 BIG v1 v2 v3 0 s4
    )
  else
    bd (f_X12_refuse t0 s) (fun r15 s16 =>
    some (r15, s16)
    )
set_option maxRecDepth 100000 in
theorem w_X12_forecast_b30 {d : Nat} {Q : Qt} (v1 : Int32) (v2 : Int32) (v3 : Int32) (t0 : Int32) (s : Sg) (H : OQ (f_X12_forecast_b30 v1 v2 v3 t0 s) (fun r9 s9 => Q (some (.int r9)) s9)) : Y_X12_forecast d Q 30 [(0, .ref 0), (1, .int v1), (2, .int v2), (3, .int v3)] [.int t0] s := by
  unfold f_X12_forecast_b30 at H
  refine Wp.r_istore (pc := 30) o_X12_forecast rfl (Wp.r_iload (pc := 32) o_X12_forecast rfl rfl (Wp.r_if_le (pc := 34) o_X12_forecast rfl (fun c9 => ?_) (fun c9 => ?_)))
  · have H := oq_t c9 H
    refine Wp.r_aload_n0 (pc := 44) o_X12_forecast rfl rfl (Wp.r_cv1 (pc := 45) o_X12_forecast rfl fk_M_0_0 (⟨rm8_ rfl, ?_⟩))
    refine w_X12_keepsAll (d := d + 6)  ?_
    refine oq_bd H (fun _ s4 H => ?_)
    exact Wp.r_iconst (pc := 48) o_X12_forecast rfl (Wp.r_istore (pc := 49) o_X12_forecast rfl (Wp.weak2 [2, 3, 4, 5, 0] (w_X12_forecast_b51 _ _ _ _ _ _ H) rfl))
  · have H := oq_f c9 H
    refine Wp.r_aload_n0 (pc := 37) o_X12_forecast rfl rfl (Wp.r_iload (pc := 38) o_X12_forecast rfl rfl (Wp.r_cv2 (pc := 40) o_X12_forecast rfl fk_M_0_0 (⟨rm8_ rfl, ?_⟩)))
    refine w_X12_refuse (d := d + 6) _ ?_
    refine oq_bd H (fun r15 s16 H => ?_)
    exact Wp.r_ireturn (pc := 43) o_X12_forecast rfl (⟨rfl, H⟩)
noncomputable def f_X12_forecast_b21 (v1 : Int32) (v2 : Int32) (v3 : Int32) (s : Sg) : Option (Int32 × Sg) :=
  f_X12_forecast_b30 v1 v2 v3 1 s
set_option maxRecDepth 100000 in
theorem w_X12_forecast_b21 {d : Nat} {Q : Qt} (v1 : Int32) (v2 : Int32) (v3 : Int32) (s : Sg) (H : OQ (f_X12_forecast_b21 v1 v2 v3 s) (fun r9 s9 => Q (some (.int r9)) s9)) : Y_X12_forecast d Q 21 [(0, .ref 0), (1, .int v1), (2, .int v2), (3, .int v3)] [] s := by
  unfold f_X12_forecast_b21 at H
  exact Wp.r_iconst (pc := 21) o_X12_forecast rfl (Wp.r_goto (pc := 22) o_X12_forecast rfl (Wp.weak2 [0, 1, 2, 3] (w_X12_forecast_b30 _ _ _ _ _ H) rfl))
noncomputable def f_X12_forecast (a1 : Int32) (a2 : Int32) (a3 : Int32) (s : Sg) : Option (Int32 × Sg) :=
  bd (f_X12_isFrom a2.toInt64 0 60 s) (fun r1 s2 =>
  if r1 = 0 then
    f_X12_forecast_b21 a1 a2 a3 s2
  else
    if a3 < 0 then
      f_X12_forecast_b21 a1 a2 a3 s2
    else
      if a3 ≤ 2 then
        bd (f_X12_wrongStep a1 s2) (fun r17 s18 =>
        f_X12_forecast_b30 a1 a2 a3 r17 s18
        )
      else
        f_X12_forecast_b21 a1 a2 a3 s2
  )
set_option maxRecDepth 100000 in
theorem w_X12_forecast {d : Nat} {s : Sg} {Q : Qt} (a1 : Int32) (a2 : Int32) (a3 : Int32) (H : OQ (f_X12_forecast a1 a2 a3 s) (fun r9 s9 => Q (some (.int r9)) s9)) : WpM SHM MT (d + 8) 286 [.ref 0, .int a1, .int a2, .int a3] s Q := by
  refine WpM.enter me_X12_forecast rfl rfl ?_
  show Y_X12_forecast d Q 0 [(0, .ref 0), (1, .int a1), (2, .int a2), (3, .int a3)] [] s
  unfold f_X12_forecast at H
  refine Wp.r_iload_n2 (pc := 0) o_X12_forecast rfl rfl (Wp.r_i2l (pc := 1) o_X12_forecast rfl (Wp.r_lconst (pc := 2) o_X12_forecast rfl (Wp.r_ldc2_w (pc := 3) o_X12_forecast rfl (Wp.r_cs3 (pc := 6) o_X12_forecast rfl (⟨rm8_ rfl, ?_⟩)))))
  refine w_X12_isFrom (d := d + 6) _ _ _ ?_
  refine oq_bd H (fun r1 s2 H => ?_)
  refine Wp.r_if_eq (pc := 9) o_X12_forecast rfl (fun c9 => ?_) (fun c9 => ?_)
  · have H := oq_t c9 H
    exact Wp.weak2 [0, 1, 2, 3] (w_X12_forecast_b21 _ _ _ _ H) rfl
  · have H := oq_f c9 H
    refine Wp.r_iload_n3 (pc := 12) o_X12_forecast rfl rfl (Wp.r_if_lt (pc := 13) o_X12_forecast rfl (fun c9 => ?_) (fun c9 => ?_))
    · have H := oq_t c9 H
      exact Wp.weak2 [0, 1, 2, 3] (w_X12_forecast_b21 _ _ _ _ H) rfl
    · have H := oq_f c9 H
      refine Wp.r_iload_n3 (pc := 16) o_X12_forecast rfl rfl (Wp.r_iconst (pc := 17) o_X12_forecast rfl (Wp.r_icmp_le (pc := 18) o_X12_forecast rfl (fun c9 => ?_) (fun c9 => ?_)))
      · have H := oq_t c9 H
        refine Wp.r_aload_n0 (pc := 25) o_X12_forecast rfl rfl (Wp.r_iload_n1 (pc := 26) o_X12_forecast rfl rfl (Wp.r_cv2 (pc := 27) o_X12_forecast rfl fk_M_0_0 (⟨rm8_ rfl, ?_⟩)))
        refine w_X12_wrongStep (d := d + 5) _ ?_
        refine oq_bd H (fun r17 s18 H => ?_)
        exact Wp.weak2 [0, 1, 2, 3] (w_X12_forecast_b30 _ _ _ _ _ H) rfl
      · have H := oq_f c9 H
        exact Wp.weak2 [0, 1, 2, 3] (w_X12_forecast_b21 _ _ _ _ H) rfl
noncomputable abbrev Y_X12_soonest (d : Nat) (Q : Qt) : Xt := Wp SHM (WpM SHM MT (d + 7)) (flat2 cq_X12_soonest) (some .int) Q
noncomputable def f_X12_soonest_b50 (v2 : Int32) (s : Sg) : Option (Int32 × Sg) :=
  bd (f_X12_takesBack s) (fun _ s8 =>
  if v2 = 61 then
    bd (f_X12_refuse 6 s8) (fun r9 s10 =>
    some (r9, s10)
    )
  else
    bd (f_X12_gives v2 s8) (fun r11 s12 =>
    some (r11, s12)
    )
  )
set_option maxRecDepth 100000 in
theorem w_X12_soonest_b50 {d : Nat} {Q : Qt} (v2 : Int32) (s : Sg) (H : OQ (f_X12_soonest_b50 v2 s) (fun r9 s9 => Q (some (.int r9)) s9)) : Y_X12_soonest d Q 50 [(0, .ref 0), (2, .int v2)] [] s := by
  unfold f_X12_soonest_b50 at H
  refine Wp.r_aload_n0 (pc := 50) o_X12_soonest rfl rfl (Wp.r_cv1 (pc := 51) o_X12_soonest rfl fk_M_0_0 (⟨rm8_ rfl, ?_⟩))
  refine w_X12_takesBack (d := d + 6)  ?_
  refine oq_bd H (fun _ s8 H => ?_)
  refine Wp.r_iload_n2 (pc := 54) o_X12_soonest rfl rfl (Wp.r_bipush (pc := 55) o_X12_soonest rfl (Wp.r_icmp_ne (pc := 57) o_X12_soonest rfl (fun c9 => ?_) (fun c9 => ?_)))
  · have H := oq_t c9 H
    refine Wp.r_aload_n0 (pc := 60) o_X12_soonest rfl rfl (Wp.r_bipush (pc := 61) o_X12_soonest rfl (Wp.r_cv2 (pc := 63) o_X12_soonest rfl fk_M_0_0 (⟨rm8_ rfl, ?_⟩)))
    refine w_X12_refuse (d := d + 6) _ ?_
    refine oq_bd H (fun r9 s10 H => ?_)
    exact Wp.r_goto (pc := 66) o_X12_soonest rfl (Wp.r_ireturn (pc := 74) o_X12_soonest rfl (⟨rfl, H⟩))
  · have H := oq_f c9 H
    refine Wp.r_aload_n0 (pc := 69) o_X12_soonest rfl rfl (Wp.r_iload_n2 (pc := 70) o_X12_soonest rfl rfl (Wp.r_cv2 (pc := 71) o_X12_soonest rfl fk_M_0_0 (⟨rm8_ rfl, ?_⟩)))
    refine w_X12_gives (d := d + 6) _ ?_
    refine oq_bd H (fun r11 s12 H => ?_)
    exact Wp.r_ireturn (pc := 74) o_X12_soonest rfl (⟨rfl, H⟩)
noncomputable def f_X12_soonest_b20 : Nat → Int32 → Int32 → Sg → Option (Int32 × Sg)
  | 0, _, _, _ => none
  | n + 1, v1, v2, s =>
    if 61 ≤ v2 then
      f_X12_soonest_b50 v2 s
    else
      bd (f_X12_quarrelRow v1 s) (fun r13 s14 =>
      ck (inr (r13 + 3) 2880) (
      if (s14.1 1 ((r13 + 3).toNatClampNeg)) = 0 then
        bd (f_X12_nightGoes s14) (fun _ s17 =>
        (f_X12_soonest_b20 n) v1 (v2 + 1) s17
        )
      else
        f_X12_soonest_b50 v2 s14
      )
      )
set_option maxRecDepth 100000 in
theorem w_X12_soonest_b20 {d : Nat} {Q : Qt} (n : Nat) : ∀ (v1 : Int32) (v2 : Int32) (s : Sg), OQ (f_X12_soonest_b20 n v1 v2 s) (fun r9 s9 => Q (some (.int r9)) s9) → Y_X12_soonest d Q 20 [(0, .ref 0), (1, .int v1), (2, .int v2)] [] s := by
  induction n with
  | zero => intro v1 v2 s H; exact H.elim
  | succ n ih =>
    intro v1 v2 s H
    unfold f_X12_soonest_b20 at H
    refine Wp.r_iload_n2 (pc := 20) o_X12_soonest rfl rfl (Wp.r_bipush (pc := 21) o_X12_soonest rfl (Wp.r_icmp_ge (pc := 23) o_X12_soonest rfl (fun c9 => ?_) (fun c9 => ?_)))
    · have H := oq_t c9 H
      exact Wp.weak2 [0, 2] (w_X12_soonest_b50 _ _ H) rfl
    · have H := oq_f c9 H
      refine Wp.f_al0_gfr (pc := 26) o_X12_soonest rfl rfl rfl fk_M_0_0 (Wp.r_iload_n1 (pc := 30) o_X12_soonest rfl rfl (Wp.r_cs1 (pc := 31) o_X12_soonest rfl (⟨rm8_ rfl, ?_⟩)))
      refine w_X12_quarrelRow (d := d + 6) _ ?_
      refine oq_bd H (fun r13 s14 H => ?_)
      obtain ⟨hc15, H⟩ := oq_ck H
      refine Wp.r_iconst (pc := 34) o_X12_soonest rfl (Wp.r_iadd (pc := 35) o_X12_soonest rfl (Wp.r_iaload (pc := 36) o_X12_soonest rfl ak_M_1 (⟨hc15, ?_⟩)))
      refine Wp.r_if_ne (pc := 37) o_X12_soonest rfl (fun c9 => ?_) (fun c9 => ?_)
      · have H := oq_t c9 H
        refine Wp.r_aload_n0 (pc := 40) o_X12_soonest rfl rfl (Wp.r_cv1 (pc := 41) o_X12_soonest rfl fk_M_0_0 (⟨rm8_ rfl, ?_⟩))
        refine w_X12_nightGoes (d := d)  ?_
        refine oq_bd H (fun _ s17 H => ?_)
        exact Wp.f_iinc_goto (pc := 44) o_X12_soonest rfl rfl rfl (Wp.weak2 [1, 2, 0] (ih _ _ _ H) rfl)
      · have H := oq_f c9 H
        exact Wp.weak2 [0, 2] (w_X12_soonest_b50 _ _ H) rfl
noncomputable def f_X12_soonest (a1 : Int32) (s : Sg) : Option (Int32 × Sg) :=
  bd (f_X12_isQuarrel a1 s) (fun r1 s2 =>
  if r1 = 0 then
    bd (f_X12_refuse 1 s2) (fun r3 s4 =>
    some (r3, s4)
    )
  else
    bd (f_X12_keepsAll s2) (fun _ s6 =>
    f_X12_soonest_b20 BIG a1 0 s6
    )
  )
set_option maxRecDepth 100000 in
theorem w_X12_soonest {d : Nat} {s : Sg} {Q : Qt} (a1 : Int32) (H : OQ (f_X12_soonest a1 s) (fun r9 s9 => Q (some (.int r9)) s9)) : WpM SHM MT (d + 8) 287 [.ref 0, .int a1] s Q := by
  refine WpM.enter me_X12_soonest rfl rfl ?_
  show Y_X12_soonest d Q 0 [(0, .ref 0), (1, .int a1)] [] s
  unfold f_X12_soonest at H
  refine Wp.r_aload_n0 (pc := 0) o_X12_soonest rfl rfl (Wp.r_iload_n1 (pc := 1) o_X12_soonest rfl rfl (Wp.r_cv2 (pc := 2) o_X12_soonest rfl fk_M_0_0 (⟨rm8_ rfl, ?_⟩)))
  refine w_X12_isQuarrel (d := d + 6) _ ?_
  refine oq_bd H (fun r1 s2 H => ?_)
  refine Wp.r_if_ne (pc := 5) o_X12_soonest rfl (fun c9 => ?_) (fun c9 => ?_)
  · have H := oq_t c9 H
    refine Wp.f_al0_iconst (pc := 8) o_X12_soonest rfl rfl rfl (Wp.r_cv2 (pc := 10) o_X12_soonest rfl fk_M_0_0 (⟨rm8_ rfl, ?_⟩))
    refine w_X12_refuse (d := d + 6) _ ?_
    refine oq_bd H (fun r3 s4 H => ?_)
    exact Wp.r_ireturn (pc := 13) o_X12_soonest rfl (⟨rfl, H⟩)
  · have H := oq_f c9 H
    refine Wp.r_aload_n0 (pc := 14) o_X12_soonest rfl rfl (Wp.r_cv1 (pc := 15) o_X12_soonest rfl fk_M_0_0 (⟨rm8_ rfl, ?_⟩))
    refine w_X12_keepsAll (d := d + 6)  ?_
    refine oq_bd H (fun _ s6 H => ?_)
    exact Wp.r_iconst (pc := 18) o_X12_soonest rfl (Wp.r_istore_n2 (pc := 19) o_X12_soonest rfl (Wp.weak2 [1, 2, 0] (w_X12_soonest_b20 _ _ _ _ H) rfl))
noncomputable abbrev Y_X12_orNone (d : Nat) (Q : Qt) : Xt := Wp SHM (WpM SHM MT (d + 1)) (flat2 cq_X12_orNone) (some .int) Q
noncomputable def f_X12_orNone (a1 : Int32) (s : Sg) : Option (Int32 × Sg) :=
  if a1 = (-1) then
    bd (f_X12_refuse 6 s) (fun r1 s2 =>
    some (r1, s2)
    )
  else
    bd (f_X12_gives a1 s) (fun r3 s4 =>
    some (r3, s4)
    )
set_option maxRecDepth 100000 in
theorem w_X12_orNone {d : Nat} {s : Sg} {Q : Qt} (a1 : Int32) (H : OQ (f_X12_orNone a1 s) (fun r9 s9 => Q (some (.int r9)) s9)) : WpM SHM MT (d + 2) 193 [.ref 0, .int a1] s Q := by
  refine WpM.enter me_X12_orNone rfl rfl ?_
  show Y_X12_orNone d Q 0 [(0, .ref 0), (1, .int a1)] [] s
  unfold f_X12_orNone at H
  refine Wp.r_iload_n1 (pc := 0) o_X12_orNone rfl rfl (Wp.r_iconst (pc := 1) o_X12_orNone rfl (Wp.r_icmp_ne (pc := 2) o_X12_orNone rfl (fun c9 => ?_) (fun c9 => ?_)))
  · have H := oq_t c9 H
    refine Wp.r_aload_n0 (pc := 5) o_X12_orNone rfl rfl (Wp.r_bipush (pc := 6) o_X12_orNone rfl (Wp.r_cv2 (pc := 8) o_X12_orNone rfl fk_M_0_0 (⟨rm8_ rfl, ?_⟩)))
    refine w_X12_refuse (d := d) _ ?_
    refine oq_bd H (fun r1 s2 H => ?_)
    exact Wp.r_goto (pc := 11) o_X12_orNone rfl (Wp.r_ireturn (pc := 19) o_X12_orNone rfl (⟨rfl, H⟩))
  · have H := oq_f c9 H
    refine Wp.r_aload_n0 (pc := 14) o_X12_orNone rfl rfl (Wp.r_iload_n1 (pc := 15) o_X12_orNone rfl rfl (Wp.r_cv2 (pc := 16) o_X12_orNone rfl fk_M_0_0 (⟨rm8_ rfl, ?_⟩)))
    refine w_X12_gives (d := d) _ ?_
    refine oq_bd H (fun r3 s4 H => ?_)
    exact Wp.r_ireturn (pc := 19) o_X12_orNone rfl (⟨rfl, H⟩)
noncomputable abbrev Y_X12_longest (d : Nat) (Q : Qt) : Xt := Wp SHM (WpM SHM MT (d + 2)) (flat2 cq_X12_longest) (some .int) Q
noncomputable def f_X12_longest_b4 : Nat → Int32 → Int32 → Sg → Option (Int32 × Sg)
  | 0, _, _, _ => none
  | n + 1, v1, v2, s =>
    if (s.1 1 1) ≤ v2 then
      bd (f_X12_orNone v1 s) (fun r1 s2 =>
      some (r1, s2)
      )
    else
      bd (f_X12_quarrelRow v2 s) (fun r3 s4 =>
      ck (inr (r3 + 3) 2880) (
      if (s4.1 1 ((r3 + 3).toNatClampNeg)) = 0 then
        if v1 = (-1) then
          (f_X12_longest_b4 n) v2 (v2 + 1) s4
        else
          bd (f_X12_quarrelRow v2 s4) (fun r6 s7 =>
          ck (inr (r6 + 4) 2880) (
          bd (f_X12_quarrelRow v1 s7) (fun r9 s10 =>
          ck (inr (r9 + 4) 2880) (
          if (s7.1 1 ((r6 + 4).toNatClampNeg)) ≤ (s10.1 1 ((r9 + 4).toNatClampNeg)) then
            (f_X12_longest_b4 n) v1 (v2 + 1) s10
          else
            (f_X12_longest_b4 n) v2 (v2 + 1) s10
          )
          )
          )
          )
      else
        (f_X12_longest_b4 n) v1 (v2 + 1) s4
      )
      )
set_option maxRecDepth 100000 in
theorem w_X12_longest_b4 {d : Nat} {Q : Qt} (n : Nat) : ∀ (v1 : Int32) (v2 : Int32) (s : Sg), OQ (f_X12_longest_b4 n v1 v2 s) (fun r9 s9 => Q (some (.int r9)) s9) → Y_X12_longest d Q 4 [(0, .ref 0), (1, .int v1), (2, .int v2)] [] s := by
  induction n with
  | zero => intro v1 v2 s H; exact H.elim
  | succ n ih =>
    intro v1 v2 s H
    unfold f_X12_longest_b4 at H
    refine Wp.r_iload_n2 (pc := 4) o_X12_longest rfl rfl (Wp.f_al0_gfr (pc := 5) o_X12_longest rfl rfl rfl fk_M_0_0 (Wp.r_iconst (pc := 9) o_X12_longest rfl (Wp.r_iaload (pc := 10) o_X12_longest rfl ak_M_1 (show (vp_in 1 2880) ∧ Y_X12_longest d Q 11 [(0, .ref 0), (1, .int v1), (2, .int v2)] [.int (s.1 1 1), .int v2] s from ⟨by unfold vp_in; decide, ?_⟩))))
    refine Wp.r_icmp_ge (pc := 11) o_X12_longest rfl (fun c9 => ?_) (fun c9 => ?_)
    · have H := oq_t c9 H
      refine Wp.r_aload_n0 (pc := 66) o_X12_longest rfl rfl (Wp.r_iload_n1 (pc := 67) o_X12_longest rfl rfl (Wp.r_cv2 (pc := 68) o_X12_longest rfl fk_M_0_0 (⟨rm8_ rfl, ?_⟩)))
      refine w_X12_orNone (d := d) _ ?_
      refine oq_bd H (fun r1 s2 H => ?_)
      exact Wp.r_ireturn (pc := 71) o_X12_longest rfl (⟨rfl, H⟩)
    · have H := oq_f c9 H
      refine Wp.f_al0_gfr (pc := 14) o_X12_longest rfl rfl rfl fk_M_0_0 (Wp.r_iload_n2 (pc := 18) o_X12_longest rfl rfl (Wp.r_cs1 (pc := 19) o_X12_longest rfl (⟨rm8_ rfl, ?_⟩)))
      refine w_X12_quarrelRow (d := d + 1) _ ?_
      refine oq_bd H (fun r3 s4 H => ?_)
      obtain ⟨hc5, H⟩ := oq_ck H
      refine Wp.r_iconst (pc := 22) o_X12_longest rfl (Wp.r_iadd (pc := 23) o_X12_longest rfl (Wp.r_iaload (pc := 24) o_X12_longest rfl ak_M_1 (⟨hc5, ?_⟩)))
      refine Wp.r_if_ne (pc := 25) o_X12_longest rfl (fun c9 => ?_) (fun c9 => ?_)
      · have H := oq_t c9 H
        refine Wp.r_iload_n1 (pc := 28) o_X12_longest rfl rfl (Wp.r_iconst (pc := 29) o_X12_longest rfl (Wp.r_icmp_eq (pc := 30) o_X12_longest rfl (fun c9 => ?_) (fun c9 => ?_)))
        · have H := oq_t c9 H
          exact Wp.r_iload_n2 (pc := 58) o_X12_longest rfl rfl (Wp.r_istore_n1 (pc := 59) o_X12_longest rfl (Wp.f_iinc_goto (pc := 60) o_X12_longest rfl rfl rfl (Wp.weak2 [2, 1, 0] (ih _ _ _ H) rfl)))
        · have H := oq_f c9 H
          refine Wp.f_al0_gfr (pc := 33) o_X12_longest rfl rfl rfl fk_M_0_0 (Wp.r_iload_n2 (pc := 37) o_X12_longest rfl rfl (Wp.r_cs1 (pc := 38) o_X12_longest rfl (⟨rm8_ rfl, ?_⟩)))
          refine w_X12_quarrelRow (d := d + 1) _ ?_
          refine oq_bd H (fun r6 s7 H => ?_)
          obtain ⟨hc8, H⟩ := oq_ck H
          refine Wp.r_iconst (pc := 41) o_X12_longest rfl (Wp.r_iadd (pc := 42) o_X12_longest rfl (Wp.r_iaload (pc := 43) o_X12_longest rfl ak_M_1 (⟨hc8, ?_⟩)))
          refine Wp.f_al0_gfr (pc := 44) o_X12_longest rfl rfl rfl fk_M_0_0 (Wp.r_iload_n1 (pc := 48) o_X12_longest rfl rfl (Wp.r_cs1 (pc := 49) o_X12_longest rfl (⟨rm8_ rfl, ?_⟩)))
          refine w_X12_quarrelRow (d := d + 1) _ ?_
          refine oq_bd H (fun r9 s10 H => ?_)
          obtain ⟨hc11, H⟩ := oq_ck H
          refine Wp.r_iconst (pc := 52) o_X12_longest rfl (Wp.r_iadd (pc := 53) o_X12_longest rfl (Wp.r_iaload (pc := 54) o_X12_longest rfl ak_M_1 (⟨hc11, ?_⟩)))
          refine Wp.r_icmp_le (pc := 55) o_X12_longest rfl (fun c9 => ?_) (fun c9 => ?_)
          · have H := oq_t c9 H
            exact Wp.f_iinc_goto (pc := 60) o_X12_longest rfl rfl rfl (Wp.weak2 [1, 2, 0] (ih _ _ _ H) rfl)
          · have H := oq_f c9 H
            exact Wp.r_iload_n2 (pc := 58) o_X12_longest rfl rfl (Wp.r_istore_n1 (pc := 59) o_X12_longest rfl (Wp.f_iinc_goto (pc := 60) o_X12_longest rfl rfl rfl (Wp.weak2 [2, 1, 0] (ih _ _ _ H) rfl)))
      · have H := oq_f c9 H
        exact Wp.f_iinc_goto (pc := 60) o_X12_longest rfl rfl rfl (Wp.weak2 [1, 2, 0] (ih _ _ _ H) rfl)
noncomputable def f_X12_longest  (s : Sg) : Option (Int32 × Sg) :=
  f_X12_longest_b4 BIG (-1) 0 s
set_option maxRecDepth 100000 in
theorem w_X12_longest {d : Nat} {s : Sg} {Q : Qt}  (H : OQ (f_X12_longest  s) (fun r9 s9 => Q (some (.int r9)) s9)) : WpM SHM MT (d + 3) 288 [.ref 0] s Q := by
  refine WpM.enter me_X12_longest rfl rfl ?_
  show Y_X12_longest d Q 0 [(0, .ref 0)] [] s
  unfold f_X12_longest at H
  exact Wp.r_iconst (pc := 0) o_X12_longest rfl (Wp.r_istore_n1 (pc := 1) o_X12_longest rfl (Wp.r_iconst (pc := 2) o_X12_longest rfl (Wp.r_istore_n2 (pc := 3) o_X12_longest rfl (Wp.weak2 [2, 1, 0] (w_X12_longest_b4 _ _ _ _ H) rfl))))
noncomputable abbrev Y_X12_fullest (d : Nat) (Q : Qt) : Xt := Wp SHM (WpM SHM MT (d + 2)) (flat2 cq_X12_fullest) (some .int) Q
noncomputable def f_X12_fullest_b4 : Nat → Int32 → Int32 → Sg → Option (Int32 × Sg)
  | 0, _, _, _ => none
  | n + 1, v1, v2, s =>
    if (s.1 1 0) ≤ v2 then
      bd (f_X12_orNone v1 s) (fun r1 s2 =>
      some (r1, s2)
      )
    else
      bd (f_X12_isGone v2 s) (fun r3 s4 =>
      if r3 = 0 then
        if v1 = (-1) then
          (f_X12_fullest_b4 n) v2 (v2 + 1) s4
        else
          bd (f_X12_grainsOn v2 s4) (fun r5 s6 =>
          bd (f_X12_grainsOn v1 s6) (fun r7 s8 =>
          if r5 ≤ r7 then
            (f_X12_fullest_b4 n) v1 (v2 + 1) s8
          else
            (f_X12_fullest_b4 n) v2 (v2 + 1) s8
          )
          )
      else
        (f_X12_fullest_b4 n) v1 (v2 + 1) s4
      )
set_option maxRecDepth 100000 in
theorem w_X12_fullest_b4 {d : Nat} {Q : Qt} (n : Nat) : ∀ (v1 : Int32) (v2 : Int32) (s : Sg), OQ (f_X12_fullest_b4 n v1 v2 s) (fun r9 s9 => Q (some (.int r9)) s9) → Y_X12_fullest d Q 4 [(0, .ref 0), (1, .int v1), (2, .int v2)] [] s := by
  induction n with
  | zero => intro v1 v2 s H; exact H.elim
  | succ n ih =>
    intro v1 v2 s H
    unfold f_X12_fullest_b4 at H
    refine Wp.r_iload_n2 (pc := 4) o_X12_fullest rfl rfl (Wp.f_al0_gfr (pc := 5) o_X12_fullest rfl rfl rfl fk_M_0_0 (Wp.r_iconst (pc := 9) o_X12_fullest rfl (Wp.r_iaload (pc := 10) o_X12_fullest rfl ak_M_1 (show (vp_in 0 2880) ∧ Y_X12_fullest d Q 11 [(0, .ref 0), (1, .int v1), (2, .int v2)] [.int (s.1 1 0), .int v2] s from ⟨by unfold vp_in; decide, ?_⟩))))
    refine Wp.r_icmp_ge (pc := 11) o_X12_fullest rfl (fun c9 => ?_) (fun c9 => ?_)
    · have H := oq_t c9 H
      refine Wp.r_aload_n0 (pc := 48) o_X12_fullest rfl rfl (Wp.r_iload_n1 (pc := 49) o_X12_fullest rfl rfl (Wp.r_cv2 (pc := 50) o_X12_fullest rfl fk_M_0_0 (⟨rm8_ rfl, ?_⟩)))
      refine w_X12_orNone (d := d) _ ?_
      refine oq_bd H (fun r1 s2 H => ?_)
      exact Wp.r_ireturn (pc := 53) o_X12_fullest rfl (⟨rfl, H⟩)
    · have H := oq_f c9 H
      refine Wp.r_aload_n0 (pc := 14) o_X12_fullest rfl rfl (Wp.r_iload_n2 (pc := 15) o_X12_fullest rfl rfl (Wp.r_cv2 (pc := 16) o_X12_fullest rfl fk_M_0_0 (⟨rm8_ rfl, ?_⟩)))
      refine w_X12_isGone (d := d + 1) _ ?_
      refine oq_bd H (fun r3 s4 H => ?_)
      refine Wp.r_if_ne (pc := 19) o_X12_fullest rfl (fun c9 => ?_) (fun c9 => ?_)
      · have H := oq_t c9 H
        refine Wp.r_iload_n1 (pc := 22) o_X12_fullest rfl rfl (Wp.r_iconst (pc := 23) o_X12_fullest rfl (Wp.r_icmp_eq (pc := 24) o_X12_fullest rfl (fun c9 => ?_) (fun c9 => ?_)))
        · have H := oq_t c9 H
          exact Wp.r_iload_n2 (pc := 40) o_X12_fullest rfl rfl (Wp.r_istore_n1 (pc := 41) o_X12_fullest rfl (Wp.f_iinc_goto (pc := 42) o_X12_fullest rfl rfl rfl (Wp.weak2 [2, 1, 0] (ih _ _ _ H) rfl)))
        · have H := oq_f c9 H
          refine Wp.r_aload_n0 (pc := 27) o_X12_fullest rfl rfl (Wp.r_iload_n2 (pc := 28) o_X12_fullest rfl rfl (Wp.r_cv2 (pc := 29) o_X12_fullest rfl fk_M_0_0 (⟨rm8_ rfl, ?_⟩)))
          refine w_X12_grainsOn (d := d) _ ?_
          refine oq_bd H (fun r5 s6 H => ?_)
          refine Wp.r_aload_n0 (pc := 32) o_X12_fullest rfl rfl (Wp.r_iload_n1 (pc := 33) o_X12_fullest rfl rfl (Wp.r_cv2 (pc := 34) o_X12_fullest rfl fk_M_0_0 (⟨rm8_ rfl, ?_⟩)))
          refine w_X12_grainsOn (d := d) _ ?_
          refine oq_bd H (fun r7 s8 H => ?_)
          refine Wp.r_icmp_le (pc := 37) o_X12_fullest rfl (fun c9 => ?_) (fun c9 => ?_)
          · have H := oq_t c9 H
            exact Wp.f_iinc_goto (pc := 42) o_X12_fullest rfl rfl rfl (Wp.weak2 [1, 2, 0] (ih _ _ _ H) rfl)
          · have H := oq_f c9 H
            exact Wp.r_iload_n2 (pc := 40) o_X12_fullest rfl rfl (Wp.r_istore_n1 (pc := 41) o_X12_fullest rfl (Wp.f_iinc_goto (pc := 42) o_X12_fullest rfl rfl rfl (Wp.weak2 [2, 1, 0] (ih _ _ _ H) rfl)))
      · have H := oq_f c9 H
        exact Wp.f_iinc_goto (pc := 42) o_X12_fullest rfl rfl rfl (Wp.weak2 [1, 2, 0] (ih _ _ _ H) rfl)
noncomputable def f_X12_fullest  (s : Sg) : Option (Int32 × Sg) :=
  f_X12_fullest_b4 BIG (-1) 0 s
set_option maxRecDepth 100000 in
theorem w_X12_fullest {d : Nat} {s : Sg} {Q : Qt}  (H : OQ (f_X12_fullest  s) (fun r9 s9 => Q (some (.int r9)) s9)) : WpM SHM MT (d + 3) 289 [.ref 0] s Q := by
  refine WpM.enter me_X12_fullest rfl rfl ?_
  show Y_X12_fullest d Q 0 [(0, .ref 0)] [] s
  unfold f_X12_fullest at H
  exact Wp.r_iconst (pc := 0) o_X12_fullest rfl (Wp.r_istore_n1 (pc := 1) o_X12_fullest rfl (Wp.r_iconst (pc := 2) o_X12_fullest rfl (Wp.r_istore_n2 (pc := 3) o_X12_fullest rfl (Wp.weak2 [2, 1, 0] (w_X12_fullest_b4 _ _ _ _ H) rfl))))
noncomputable abbrev Y_X12_bits (d : Nat) (Q : Qt) : Xt := Wp SHM (WpM SHM MT (d + 0)) (flat2 cq_X12_bits) (some .int) Q
noncomputable def f_X12_bits_b4 : Nat → Int32 → Int32 → Sg → Option (Int32 × Sg)
  | 0, _, _, _ => none
  | n + 1, v1, v2, s =>
    if v2 = 0 then
      some (v1, s)
    else
      (f_X12_bits_b4 n) (v1 + 1) (v2 &&& (v2 - 1)) s
set_option maxRecDepth 100000 in
theorem w_X12_bits_b4 {d : Nat} {Q : Qt} (n : Nat) : ∀ (v1 : Int32) (v2 : Int32) (s : Sg), OQ (f_X12_bits_b4 n v1 v2 s) (fun r9 s9 => Q (some (.int r9)) s9) → Y_X12_bits d Q 4 [(1, .int v1), (2, .int v2)] [] s := by
  induction n with
  | zero => intro v1 v2 s H; exact H.elim
  | succ n ih =>
    intro v1 v2 s H
    unfold f_X12_bits_b4 at H
    refine Wp.r_iload_n2 (pc := 4) o_X12_bits rfl rfl (Wp.r_if_eq (pc := 5) o_X12_bits rfl (fun c9 => ?_) (fun c9 => ?_))
    · have H := oq_t c9 H
      exact Wp.r_iload_n1 (pc := 20) o_X12_bits rfl rfl (Wp.r_ireturn (pc := 21) o_X12_bits rfl (⟨rfl, H⟩))
    · have H := oq_f c9 H
      exact Wp.r_iinc (pc := 8) o_X12_bits rfl rfl (Wp.r_iload_n2 (pc := 11) o_X12_bits rfl rfl (Wp.r_iload_n2 (pc := 12) o_X12_bits rfl rfl (Wp.r_iconst (pc := 13) o_X12_bits rfl (Wp.r_isub (pc := 14) o_X12_bits rfl (Wp.r_iand (pc := 15) o_X12_bits rfl (Wp.r_istore_n2 (pc := 16) o_X12_bits rfl (Wp.r_goto (pc := 17) o_X12_bits rfl (Wp.weak2 [1, 0] (ih _ _ _ H) rfl))))))))
noncomputable def f_X12_bits (a0 : Int32) (s : Sg) : Option (Int32 × Sg) :=
  f_X12_bits_b4 BIG 0 a0 s
set_option maxRecDepth 100000 in
theorem w_X12_bits {d : Nat} {s : Sg} {Q : Qt} (a0 : Int32) (H : OQ (f_X12_bits a0 s) (fun r9 s9 => Q (some (.int r9)) s9)) : WpM SHM MT (d + 1) 290 [.int a0] s Q := by
  refine WpM.enter me_X12_bits rfl rfl ?_
  show Y_X12_bits d Q 0 [(0, .int a0)] [] s
  unfold f_X12_bits at H
  exact Wp.r_iconst (pc := 0) o_X12_bits rfl (Wp.r_istore_n1 (pc := 1) o_X12_bits rfl (Wp.r_iload_n0 (pc := 2) o_X12_bits rfl rfl (Wp.r_istore_n2 (pc := 3) o_X12_bits rfl (Wp.weak2 [1, 0] (w_X12_bits_b4 _ _ _ _ H) rfl))))
noncomputable abbrev Y_X12_best (d : Nat) (Q : Qt) : Xt := Wp SHM (WpM SHM MT (d + 7)) (flat2 cq_X12_best) (some .int) Q
noncomputable def f_X12_best_b32 : Nat → Int32 → Int32 → Int32 → Int32 → Int32 → Sg → Option (Int32 × Sg)
  | 0, _, _, _, _, _, _ => none
  | n + 1, v1, v2, v3, v4, v5, s =>
    if (s.1 1 0) ≤ v5 then
      bd (f_X12_orNone v3 s) (fun r7 s8 =>
      some (r7, s8)
      )
    else
      bd (f_X12_isGone v5 s) (fun r9 s10 =>
      if r9 = 0 then
        bd (f_X12_houseRow v5 s10) (fun r11 s12 =>
        ck (inr r11 2880) (
        nmx (pI s12 1 r11.toNatClampNeg ((s12.1 1 r11.toNatClampNeg) + v1)) (fun s14 =>
        bd (f_X12_setOf 0 s14) (fun r15 s16 =>
        bd (f_X12_bits (r15 &&& (v2 ^^^ (-1))) s16) (fun r17 s18 =>
        bd (f_X12_houseRow v5 s18) (fun r19 s20 =>
        ck (inr r19 2880) (
        nmx (pI s20 1 r19.toNatClampNeg ((s20.1 1 r19.toNatClampNeg) - v1)) (fun s22 =>
        if v4 < r17 then
          (f_X12_best_b32 n) v1 v2 v5 r17 (v5 + 1) s22
        else
          (f_X12_best_b32 n) v1 v2 v3 v4 (v5 + 1) s22
        )
        )
        )
        )
        )
        )
        )
        )
      else
        (f_X12_best_b32 n) v1 v2 v3 v4 (v5 + 1) s10
      )
set_option maxRecDepth 100000 in
theorem w_X12_best_b32 {d : Nat} {Q : Qt} (n : Nat) : ∀ (v1 : Int32) (v2 : Int32) (v3 : Int32) (v4 : Int32) (v5 : Int32) (s : Sg), OQ (f_X12_best_b32 n v1 v2 v3 v4 v5 s) (fun r9 s9 => Q (some (.int r9)) s9) → Y_X12_best d Q 32 [(0, .ref 0), (1, .int v1), (2, .int v2), (3, .int v3), (4, .int v4), (5, .int v5)] [] s := by
  induction n with
  | zero => intro v1 v2 v3 v4 v5 s H; exact H.elim
  | succ n ih =>
    intro v1 v2 v3 v4 v5 s H
    unfold f_X12_best_b32 at H
    refine Wp.r_iload (pc := 32) o_X12_best rfl rfl (Wp.f_al0_gfr (pc := 34) o_X12_best rfl rfl rfl fk_M_0_0 (Wp.r_iconst (pc := 38) o_X12_best rfl (Wp.r_iaload (pc := 39) o_X12_best rfl ak_M_1 (show (vp_in 0 2880) ∧ Y_X12_best d Q 40 [(0, .ref 0), (1, .int v1), (2, .int v2), (3, .int v3), (4, .int v4), (5, .int v5)] [.int (s.1 1 0), .int v5] s from ⟨by unfold vp_in; decide, ?_⟩))))
    refine Wp.r_icmp_ge (pc := 40) o_X12_best rfl (fun c9 => ?_) (fun c9 => ?_)
    · have H := oq_t c9 H
      refine Wp.r_aload_n0 (pc := 120) o_X12_best rfl rfl (Wp.r_iload_n3 (pc := 121) o_X12_best rfl rfl (Wp.r_cv2 (pc := 122) o_X12_best rfl fk_M_0_0 (⟨rm8_ rfl, ?_⟩)))
      refine w_X12_orNone (d := d + 5) _ ?_
      refine oq_bd H (fun r7 s8 H => ?_)
      exact Wp.r_ireturn (pc := 125) o_X12_best rfl (⟨rfl, H⟩)
    · have H := oq_f c9 H
      refine Wp.r_aload_n0 (pc := 43) o_X12_best rfl rfl (Wp.r_iload (pc := 44) o_X12_best rfl rfl (Wp.r_cv2 (pc := 46) o_X12_best rfl fk_M_0_0 (⟨rm8_ rfl, ?_⟩)))
      refine w_X12_isGone (d := d + 6) _ ?_
      refine oq_bd H (fun r9 s10 H => ?_)
      refine Wp.r_if_eq (pc := 49) o_X12_best rfl (fun c9 => ?_) (fun c9 => ?_)
      · have H := oq_t c9 H
        refine Wp.f_al0_gfr (pc := 55) o_X12_best rfl rfl rfl fk_M_0_0 (Wp.r_iload (pc := 59) o_X12_best rfl rfl (Wp.r_cs1 (pc := 61) o_X12_best rfl (⟨rm8_ rfl, ?_⟩)))
        refine w_X12_houseRow (d := d + 6) _ ?_
        refine oq_bd H (fun r11 s12 H => ?_)
        obtain ⟨hc13, H⟩ := oq_ck H
        refine Wp.r_dup2 (pc := 64) o_X12_best rfl (Wp.r_iaload (pc := 65) o_X12_best rfl ak_M_1 (⟨hc13, ?_⟩))
        refine Wp.r_iload_n1 (pc := 66) o_X12_best rfl rfl (Wp.r_iadd (pc := 67) o_X12_best rfl (Wp.r_iastore (pc := 68) o_X12_best rfl ak_M_1 (⟨hc13, ?_⟩)))
        revert H
        generalize pI s12 1 r11.toNatClampNeg ((s12.1 1 r11.toNatClampNeg) + v1) = s14
        intro H
        have H := nmx_e H
        refine Wp.f_al0_iconst (pc := 69) o_X12_best rfl rfl rfl (Wp.r_cv2 (pc := 71) o_X12_best rfl fk_M_0_0 (⟨rm8_ rfl, ?_⟩))
        refine w_X12_setOf (d := d) _ ?_
        refine oq_bd H (fun r15 s16 H => ?_)
        refine Wp.r_iload_n2 (pc := 74) o_X12_best rfl rfl (Wp.r_iconst (pc := 75) o_X12_best rfl (Wp.r_ixor (pc := 76) o_X12_best rfl (Wp.r_iand (pc := 77) o_X12_best rfl (Wp.r_cs1 (pc := 78) o_X12_best rfl (⟨rm8_ rfl, ?_⟩)))))
        refine w_X12_bits (d := d + 6) _ ?_
        refine oq_bd H (fun r17 s18 H => ?_)
        refine Wp.r_istore (pc := 81) o_X12_best rfl (Wp.f_al0_gfr (pc := 83) o_X12_best rfl rfl rfl fk_M_0_0 (Wp.r_iload (pc := 87) o_X12_best rfl rfl (Wp.r_cs1 (pc := 89) o_X12_best rfl (⟨rm8_ rfl, ?_⟩))))
        refine w_X12_houseRow (d := d + 6) _ ?_
        refine oq_bd H (fun r19 s20 H => ?_)
        obtain ⟨hc21, H⟩ := oq_ck H
        refine Wp.r_dup2 (pc := 92) o_X12_best rfl (Wp.r_iaload (pc := 93) o_X12_best rfl ak_M_1 (⟨hc21, ?_⟩))
        refine Wp.r_iload_n1 (pc := 94) o_X12_best rfl rfl (Wp.r_isub (pc := 95) o_X12_best rfl (Wp.r_iastore (pc := 96) o_X12_best rfl ak_M_1 (⟨hc21, ?_⟩)))
        revert H
        generalize pI s20 1 r19.toNatClampNeg ((s20.1 1 r19.toNatClampNeg) - v1) = s22
        intro H
        have H := nmx_e H
        refine Wp.r_iload (pc := 97) o_X12_best rfl rfl (Wp.r_iload (pc := 99) o_X12_best rfl rfl (Wp.r_icmp_gt (pc := 101) o_X12_best rfl (fun c9 => ?_) (fun c9 => ?_)))
        · have H := oq_t c9 H
          exact Wp.r_iload (pc := 107) o_X12_best rfl rfl (Wp.r_istore (pc := 109) o_X12_best rfl (Wp.r_iload (pc := 111) o_X12_best rfl rfl (Wp.r_istore_n3 (pc := 113) o_X12_best rfl (Wp.f_iinc_goto (pc := 114) o_X12_best rfl rfl rfl (Wp.weak2 [4, 5, 6, 1, 2, 0] (ih _ _ _ _ _ _ H) rfl)))))
        · have H := oq_f c9 H
          exact Wp.r_goto (pc := 104) o_X12_best rfl (Wp.f_iinc_goto (pc := 114) o_X12_best rfl rfl rfl (Wp.weak2 [2, 3, 4, 5, 6, 0] (ih _ _ _ _ _ _ H) rfl))
      · have H := oq_f c9 H
        exact Wp.r_goto (pc := 52) o_X12_best rfl (Wp.f_iinc_goto (pc := 114) o_X12_best rfl rfl rfl (Wp.weak2 [1, 2, 3, 4, 5, 0] (ih _ _ _ _ _ _ H) rfl))
noncomputable def f_X12_best (a1 : Int32) (s : Sg) : Option (Int32 × Sg) :=
  bd (f_X12_isFrom a1.toInt64 1 999 s) (fun r1 s2 =>
  if r1 = 0 then
    bd (f_X12_refuse 1 s2) (fun r3 s4 =>
    some (r3, s4)
    )
  else
    bd (f_X12_setOf 0 s2) (fun r5 s6 =>
    f_X12_best_b32 BIG a1 r5 (-1) 0 0 s6
    )
  )
set_option maxRecDepth 100000 in
theorem w_X12_best {d : Nat} {s : Sg} {Q : Qt} (a1 : Int32) (H : OQ (f_X12_best a1 s) (fun r9 s9 => Q (some (.int r9)) s9)) : WpM SHM MT (d + 8) 291 [.ref 0, .int a1] s Q := by
  refine WpM.enter me_X12_best rfl rfl ?_
  show Y_X12_best d Q 0 [(0, .ref 0), (1, .int a1)] [] s
  unfold f_X12_best at H
  refine Wp.r_iload_n1 (pc := 0) o_X12_best rfl rfl (Wp.r_i2l (pc := 1) o_X12_best rfl (Wp.r_lconst (pc := 2) o_X12_best rfl (Wp.r_ldc2_w (pc := 3) o_X12_best rfl (Wp.r_cs3 (pc := 6) o_X12_best rfl (⟨rm8_ rfl, ?_⟩)))))
  refine w_X12_isFrom (d := d + 6) _ _ _ ?_
  refine oq_bd H (fun r1 s2 H => ?_)
  refine Wp.r_if_ne (pc := 9) o_X12_best rfl (fun c9 => ?_) (fun c9 => ?_)
  · have H := oq_t c9 H
    refine Wp.f_al0_iconst (pc := 12) o_X12_best rfl rfl rfl (Wp.r_cv2 (pc := 14) o_X12_best rfl fk_M_0_0 (⟨rm8_ rfl, ?_⟩))
    refine w_X12_refuse (d := d + 6) _ ?_
    refine oq_bd H (fun r3 s4 H => ?_)
    exact Wp.r_ireturn (pc := 17) o_X12_best rfl (⟨rfl, H⟩)
  · have H := oq_f c9 H
    refine Wp.f_al0_iconst (pc := 18) o_X12_best rfl rfl rfl (Wp.r_cv2 (pc := 20) o_X12_best rfl fk_M_0_0 (⟨rm8_ rfl, ?_⟩))
    refine w_X12_setOf (d := d) _ ?_
    refine oq_bd H (fun r5 s6 H => ?_)
    exact Wp.r_istore_n2 (pc := 23) o_X12_best rfl (Wp.r_iconst (pc := 24) o_X12_best rfl (Wp.r_istore_n3 (pc := 25) o_X12_best rfl (Wp.r_iconst (pc := 26) o_X12_best rfl (Wp.r_istore (pc := 27) o_X12_best rfl (Wp.r_iconst (pc := 29) o_X12_best rfl (Wp.r_istore (pc := 30) o_X12_best rfl (Wp.weak2 [4, 5, 3, 2, 1, 0] (w_X12_best_b32 _ _ _ _ _ _ _ H) rfl)))))))
noncomputable abbrev Y_X12_needAt (d : Nat) (Q : Qt) : Xt := Wp SHM (WpM SHM MT (d + 3)) (flat2 cq_X12_needAt) (some .int) Q
noncomputable def f_X12_needAt_b5 : Nat → Int32 → Int32 → Int32 → Int32 → Sg → Option (Int32 × Sg)
  | 0, _, _, _, _, _ => none
  | n + 1, v1, v2, v3, v4, s =>
    if (s.1 1 1) ≤ v4 then
      some (v3, s)
    else
      if ((v1 >>> (v4 &&& 31)) &&& 1) = 1 then
        bd (f_X12_isAt v4 v2 s) (fun r1 s2 =>
        if r1 = 0 then
          (f_X12_needAt_b5 n) v1 v2 (v3 + 0) (v4 + 1) s2
        else
          bd (f_X12_quarrelRow v4 s2) (fun r3 s4 =>
          ck (inr (r3 + 2) 2880) (
          nmx (v3 + (s4.1 1 ((r3 + 2).toNatClampNeg)) : Int32) (fun x6 =>
          (f_X12_needAt_b5 n) v1 v2 x6 (v4 + 1) s4
          )
          )
          )
        )
      else
        (f_X12_needAt_b5 n) v1 v2 (v3 + 0) (v4 + 1) s
set_option maxRecDepth 100000 in
theorem w_X12_needAt_b5 {d : Nat} {Q : Qt} (n : Nat) : ∀ (v1 : Int32) (v2 : Int32) (v3 : Int32) (v4 : Int32) (s : Sg), OQ (f_X12_needAt_b5 n v1 v2 v3 v4 s) (fun r9 s9 => Q (some (.int r9)) s9) → Y_X12_needAt d Q 5 [(0, .ref 0), (1, .int v1), (2, .int v2), (3, .int v3), (4, .int v4)] [] s := by
  induction n with
  | zero => intro v1 v2 v3 v4 s H; exact H.elim
  | succ n ih =>
    intro v1 v2 v3 v4 s H
    unfold f_X12_needAt_b5 at H
    refine Wp.r_iload (pc := 5) o_X12_needAt rfl rfl (Wp.f_al0_gfr (pc := 7) o_X12_needAt rfl rfl rfl fk_M_0_0 (Wp.r_iconst (pc := 11) o_X12_needAt rfl (Wp.r_iaload (pc := 12) o_X12_needAt rfl ak_M_1 (show (vp_in 1 2880) ∧ Y_X12_needAt d Q 13 [(0, .ref 0), (1, .int v1), (2, .int v2), (3, .int v3), (4, .int v4)] [.int (s.1 1 1), .int v4] s from ⟨by unfold vp_in; decide, ?_⟩))))
    refine Wp.r_icmp_ge (pc := 13) o_X12_needAt rfl (fun c9 => ?_) (fun c9 => ?_)
    · have H := oq_t c9 H
      exact Wp.r_iload_n3 (pc := 61) o_X12_needAt rfl rfl (Wp.r_ireturn (pc := 62) o_X12_needAt rfl (⟨rfl, H⟩))
    · have H := oq_f c9 H
      refine Wp.r_iload_n3 (pc := 16) o_X12_needAt rfl rfl (Wp.r_iload_n1 (pc := 17) o_X12_needAt rfl rfl (Wp.r_iload (pc := 18) o_X12_needAt rfl rfl (Wp.r_ishr (pc := 20) o_X12_needAt rfl (Wp.r_iconst (pc := 21) o_X12_needAt rfl (Wp.r_iand (pc := 22) o_X12_needAt rfl (Wp.r_iconst (pc := 23) o_X12_needAt rfl (Wp.r_icmp_ne (pc := 24) o_X12_needAt rfl (fun c9 => ?_) (fun c9 => ?_))))))))
      · have H := oq_t c9 H
        refine Wp.r_aload_n0 (pc := 27) o_X12_needAt rfl rfl (Wp.r_iload (pc := 28) o_X12_needAt rfl rfl (Wp.r_iload_n2 (pc := 30) o_X12_needAt rfl rfl (Wp.r_cv3 (pc := 31) o_X12_needAt rfl fk_M_0_0 (⟨rm8_ rfl, ?_⟩))))
        refine w_X12_isAt (d := d) _ _ ?_
        refine oq_bd H (fun r1 s2 H => ?_)
        refine Wp.r_if_eq (pc := 34) o_X12_needAt rfl (fun c9 => ?_) (fun c9 => ?_)
        · have H := oq_t c9 H
          exact Wp.r_iconst (pc := 52) o_X12_needAt rfl (Wp.r_iadd (pc := 53) o_X12_needAt rfl (Wp.r_istore_n3 (pc := 54) o_X12_needAt rfl (Wp.f_iinc_goto (pc := 55) o_X12_needAt rfl rfl rfl (Wp.weak2 [2, 3, 4, 1, 0] (ih _ _ _ _ _ H) rfl))))
        · have H := oq_f c9 H
          refine Wp.f_al0_gfr (pc := 37) o_X12_needAt rfl rfl rfl fk_M_0_0 (Wp.r_iload (pc := 41) o_X12_needAt rfl rfl (Wp.r_cs1 (pc := 43) o_X12_needAt rfl (⟨rm8_ rfl, ?_⟩)))
          refine w_X12_quarrelRow (d := d + 2) _ ?_
          refine oq_bd H (fun r3 s4 H => ?_)
          obtain ⟨hc5, H⟩ := oq_ck H
          refine Wp.r_iconst (pc := 46) o_X12_needAt rfl (Wp.r_iadd (pc := 47) o_X12_needAt rfl (Wp.r_iaload (pc := 48) o_X12_needAt rfl ak_M_1 (⟨hc5, ?_⟩)))
          refine Wp.r_goto (pc := 49) o_X12_needAt rfl (Wp.r_iadd (pc := 53) o_X12_needAt rfl (Wp.r_istore_n3 (pc := 54) o_X12_needAt rfl (show Y_X12_needAt d Q 55 [(3, .int (v3 + (s4.1 1 ((r3 + 2).toNatClampNeg)))), (0, .ref 0), (1, .int v1), (2, .int v2), (4, .int v4)] [] s4 from ?_)))
          revert H
          generalize (v3 + (s4.1 1 ((r3 + 2).toNatClampNeg)) : Int32) = x6
          intro H
          have H := nmx_e H
          exact Wp.f_iinc_goto (pc := 55) o_X12_needAt rfl rfl rfl (Wp.weak2 [2, 3, 4, 1, 0] (ih _ _ _ _ _ H) rfl)
      · have H := oq_f c9 H
        exact Wp.r_iconst (pc := 52) o_X12_needAt rfl (Wp.r_iadd (pc := 53) o_X12_needAt rfl (Wp.r_istore_n3 (pc := 54) o_X12_needAt rfl (Wp.f_iinc_goto (pc := 55) o_X12_needAt rfl rfl rfl (Wp.weak2 [2, 3, 4, 1, 0] (ih _ _ _ _ _ H) rfl))))
noncomputable def f_X12_needAt (a1 : Int32) (a2 : Int32) (s : Sg) : Option (Int32 × Sg) :=
  f_X12_needAt_b5 BIG a1 a2 0 0 s
set_option maxRecDepth 100000 in
theorem w_X12_needAt {d : Nat} {s : Sg} {Q : Qt} (a1 : Int32) (a2 : Int32) (H : OQ (f_X12_needAt a1 a2 s) (fun r9 s9 => Q (some (.int r9)) s9)) : WpM SHM MT (d + 4) 302 [.ref 0, .int a1, .int a2] s Q := by
  refine WpM.enter me_X12_needAt rfl rfl ?_
  show Y_X12_needAt d Q 0 [(0, .ref 0), (1, .int a1), (2, .int a2)] [] s
  unfold f_X12_needAt at H
  exact Wp.r_iconst (pc := 0) o_X12_needAt rfl (Wp.r_istore_n3 (pc := 1) o_X12_needAt rfl (Wp.r_iconst (pc := 2) o_X12_needAt rfl (Wp.r_istore (pc := 3) o_X12_needAt rfl (Wp.weak2 [2, 3, 4, 1, 0] (w_X12_needAt_b5 _ _ _ _ _ _ H) rfl))))
noncomputable abbrev Y_X12_lackOn (d : Nat) (Q : Qt) : Xt := Wp SHM (WpM SHM MT (d + 4)) (flat2 cq_X12_lackOn) (some .int) Q
noncomputable def f_X12_lackOn (a1 : Int32) (a2 : Int32) (s : Sg) : Option (Int32 × Sg) :=
  bd (f_X12_needAt a1 a2 s) (fun r1 s2 =>
  bd (f_X12_grainsOn a2 s2) (fun r3 s4 =>
  some (if 0 < (r1 - r3) then (r1 - r3) else 0, s4)
  )
  )
set_option maxRecDepth 100000 in
theorem w_X12_lackOn {d : Nat} {s : Sg} {Q : Qt} (a1 : Int32) (a2 : Int32) (H : OQ (f_X12_lackOn a1 a2 s) (fun r9 s9 => Q (some (.int r9)) s9)) : WpM SHM MT (d + 5) 306 [.ref 0, .int a1, .int a2] s Q := by
  refine WpM.enter me_X12_lackOn rfl rfl ?_
  show Y_X12_lackOn d Q 0 [(0, .ref 0), (1, .int a1), (2, .int a2)] [] s
  unfold f_X12_lackOn at H
  refine Wp.r_iconst (pc := 0) o_X12_lackOn rfl (Wp.r_aload_n0 (pc := 1) o_X12_lackOn rfl rfl (Wp.r_iload_n1 (pc := 2) o_X12_lackOn rfl rfl (Wp.r_iload_n2 (pc := 3) o_X12_lackOn rfl rfl (Wp.r_cv3 (pc := 4) o_X12_lackOn rfl fk_M_0_0 (⟨rm8_ rfl, ?_⟩)))))
  refine w_X12_needAt (d := d) _ _ ?_
  refine oq_bd H (fun r1 s2 H => ?_)
  refine Wp.r_aload_n0 (pc := 7) o_X12_lackOn rfl rfl (Wp.r_iload_n2 (pc := 8) o_X12_lackOn rfl rfl (Wp.r_cv2 (pc := 9) o_X12_lackOn rfl fk_M_0_0 (⟨rm8_ rfl, ?_⟩)))
  refine w_X12_grainsOn (d := d + 2) _ ?_
  refine oq_bd H (fun r3 s4 H => ?_)
  refine Wp.r_isub (pc := 12) o_X12_lackOn rfl (Wp.r_max (pc := 13) o_X12_lackOn rfl (⟨rm8_ rfl, ?_⟩))
  exact Wp.r_ireturn (pc := 16) o_X12_lackOn rfl (⟨rfl, H⟩)
noncomputable abbrev Y_X12_closest (d : Nat) (Q : Qt) : Xt := Wp SHM (WpM SHM MT (d + 6)) (flat2 cq_X12_closest) (some .int) Q
noncomputable def f_X12_closest_b41 (k_6 : Int32 → Int32 → Int32 → Sg → Option (Int32 × Sg)) : Nat → Int32 → Int32 → Int32 → Int32 → Int32 → Sg → Option (Int32 × Sg)
  | 0, _, _, _, _, _, _ => none
  | n + 1, v1, v2, v3, v4, v5, s =>
    if (s.1 1 0) ≤ v5 then
      if v1 = (-1) then
        k_6 v3 v4 (v3 + 1) s
      else
        if v4 < v2 then
          k_6 v3 v4 (v3 + 1) s
        else
          k_6 v1 v2 (v3 + 1) s
    else
      bd (f_X12_isGone v5 s) (fun r7 s8 =>
      if r7 = 0 then
        bd (f_X12_lackOn ((1 : Int32) <<< (v3 &&& 31)) v5 s8) (fun r9 s10 =>
        (f_X12_closest_b41 k_6 n) v1 v2 v3 (v4 + r9) (v5 + 1) s10
        )
      else
        (f_X12_closest_b41 k_6 n) v1 v2 v3 (v4 + 0) (v5 + 1) s8
      )
set_option maxRecDepth 100000 in
theorem w_X12_closest_b41 {d : Nat} {Q : Qt} (k_6 : Int32 → Int32 → Int32 → Sg → Option (Int32 × Sg)) (h_6 : ∀ (v1 : Int32) (v2 : Int32) (v3 : Int32) s, OQ (k_6 v1 v2 v3 s) (fun r9 s9 => Q (some (.int r9)) s9) → Y_X12_closest d Q 6 [(0, .ref 0), (1, .int v1), (2, .int v2), (3, .int v3)] [] s) (n : Nat) : ∀ (v1 : Int32) (v2 : Int32) (v3 : Int32) (v4 : Int32) (v5 : Int32) (s : Sg), OQ (f_X12_closest_b41 k_6 n v1 v2 v3 v4 v5 s) (fun r9 s9 => Q (some (.int r9)) s9) → Y_X12_closest d Q 41 [(0, .ref 0), (1, .int v1), (2, .int v2), (3, .int v3), (4, .int v4), (5, .int v5)] [] s := by
  induction n with
  | zero => intro v1 v2 v3 v4 v5 s H; exact H.elim
  | succ n ih =>
    intro v1 v2 v3 v4 v5 s H
    unfold f_X12_closest_b41 at H
    refine Wp.r_iload (pc := 41) o_X12_closest rfl rfl (Wp.f_al0_gfr (pc := 43) o_X12_closest rfl rfl rfl fk_M_0_0 (Wp.r_iconst (pc := 47) o_X12_closest rfl (Wp.r_iaload (pc := 48) o_X12_closest rfl ak_M_1 (show (vp_in 0 2880) ∧ Y_X12_closest d Q 49 [(0, .ref 0), (1, .int v1), (2, .int v2), (3, .int v3), (4, .int v4), (5, .int v5)] [.int (s.1 1 0), .int v5] s from ⟨by unfold vp_in; decide, ?_⟩))))
    refine Wp.r_icmp_ge (pc := 49) o_X12_closest rfl (fun c9 => ?_) (fun c9 => ?_)
    · have H := oq_t c9 H
      refine Wp.r_iload_n1 (pc := 85) o_X12_closest rfl rfl (Wp.r_iconst (pc := 86) o_X12_closest rfl (Wp.r_icmp_eq (pc := 87) o_X12_closest rfl (fun c9 => ?_) (fun c9 => ?_)))
      · have H := oq_t c9 H
        exact Wp.r_iload_n3 (pc := 99) o_X12_closest rfl rfl (Wp.r_istore_n1 (pc := 100) o_X12_closest rfl (Wp.r_iload (pc := 101) o_X12_closest rfl rfl (Wp.r_istore_n2 (pc := 103) o_X12_closest rfl (Wp.f_iinc_goto (pc := 104) o_X12_closest rfl rfl rfl (Wp.weak2 [3, 2, 1, 0] (h_6 _ _ _ _ H) rfl)))))
      · have H := oq_f c9 H
        refine Wp.r_iload (pc := 90) o_X12_closest rfl rfl (Wp.r_iload_n2 (pc := 92) o_X12_closest rfl rfl (Wp.r_icmp_lt (pc := 93) o_X12_closest rfl (fun c9 => ?_) (fun c9 => ?_)))
        · have H := oq_t c9 H
          exact Wp.r_iload_n3 (pc := 99) o_X12_closest rfl rfl (Wp.r_istore_n1 (pc := 100) o_X12_closest rfl (Wp.r_iload (pc := 101) o_X12_closest rfl rfl (Wp.r_istore_n2 (pc := 103) o_X12_closest rfl (Wp.f_iinc_goto (pc := 104) o_X12_closest rfl rfl rfl (Wp.weak2 [3, 2, 1, 0] (h_6 _ _ _ _ H) rfl)))))
        · have H := oq_f c9 H
          exact Wp.r_goto (pc := 96) o_X12_closest rfl (Wp.f_iinc_goto (pc := 104) o_X12_closest rfl rfl rfl (Wp.weak2 [1, 2, 3, 0] (h_6 _ _ _ _ H) rfl))
    · have H := oq_f c9 H
      refine Wp.r_iload (pc := 52) o_X12_closest rfl rfl (Wp.r_aload_n0 (pc := 54) o_X12_closest rfl rfl (Wp.r_iload (pc := 55) o_X12_closest rfl rfl (Wp.r_cv2 (pc := 57) o_X12_closest rfl fk_M_0_0 (⟨rm8_ rfl, ?_⟩))))
      refine w_X12_isGone (d := d + 5) _ ?_
      refine oq_bd H (fun r7 s8 H => ?_)
      refine Wp.r_if_eq (pc := 60) o_X12_closest rfl (fun c9 => ?_) (fun c9 => ?_)
      · have H := oq_t c9 H
        refine Wp.f_al0_iconst (pc := 67) o_X12_closest rfl rfl rfl (Wp.r_iload_n3 (pc := 69) o_X12_closest rfl rfl (Wp.r_ishl (pc := 70) o_X12_closest rfl (Wp.r_iload (pc := 71) o_X12_closest rfl rfl (Wp.r_cv3 (pc := 73) o_X12_closest rfl fk_M_0_0 (⟨rm8_ rfl, ?_⟩)))))
        refine w_X12_lackOn (d := d + 1) _ _ ?_
        refine oq_bd H (fun r9 s10 H => ?_)
        exact Wp.r_iadd (pc := 76) o_X12_closest rfl (Wp.r_istore (pc := 77) o_X12_closest rfl (Wp.f_iinc_goto (pc := 79) o_X12_closest rfl rfl rfl (Wp.weak2 [2, 3, 4, 5, 1, 0] (ih _ _ _ _ _ _ H) rfl)))
      · have H := oq_f c9 H
        exact Wp.r_iconst (pc := 63) o_X12_closest rfl (Wp.r_goto (pc := 64) o_X12_closest rfl (Wp.r_iadd (pc := 76) o_X12_closest rfl (Wp.r_istore (pc := 77) o_X12_closest rfl (Wp.f_iinc_goto (pc := 79) o_X12_closest rfl rfl rfl (Wp.weak2 [2, 3, 4, 5, 1, 0] (ih _ _ _ _ _ _ H) rfl)))))
noncomputable def f_X12_closest_b6 : Nat → Int32 → Int32 → Int32 → Sg → Option (Int32 × Sg)
  | 0, _, _, _, _ => none
  | n + 1, v1, v2, v3, s =>
    if (s.1 1 1) ≤ v3 then
      bd (f_X12_orNone v1 s) (fun r1 s2 =>
      some (r1, s2)
      )
    else
      bd (f_X12_hasPeace v3 s) (fun r3 s4 =>
      if r3 = 0 then
        bd (f_X12_neverCan v3 s4) (fun r5 s6 =>
        if r5 = 0 then
          f_X12_closest_b41 (f_X12_closest_b6 n) BIG v1 v2 v3 0 0 s6
        else
          (f_X12_closest_b6 n) v1 v2 (v3 + 1) s6
        )
      else
        (f_X12_closest_b6 n) v1 v2 (v3 + 1) s4
      )
set_option maxRecDepth 100000 in
theorem w_X12_closest_b6 {d : Nat} {Q : Qt} (n : Nat) : ∀ (v1 : Int32) (v2 : Int32) (v3 : Int32) (s : Sg), OQ (f_X12_closest_b6 n v1 v2 v3 s) (fun r9 s9 => Q (some (.int r9)) s9) → Y_X12_closest d Q 6 [(0, .ref 0), (1, .int v1), (2, .int v2), (3, .int v3)] [] s := by
  induction n with
  | zero => intro v1 v2 v3 s H; exact H.elim
  | succ n ih =>
    intro v1 v2 v3 s H
    unfold f_X12_closest_b6 at H
    refine Wp.r_iload_n3 (pc := 6) o_X12_closest rfl rfl (Wp.f_al0_gfr (pc := 7) o_X12_closest rfl rfl rfl fk_M_0_0 (Wp.r_iconst (pc := 11) o_X12_closest rfl (Wp.r_iaload (pc := 12) o_X12_closest rfl ak_M_1 (show (vp_in 1 2880) ∧ Y_X12_closest d Q 13 [(0, .ref 0), (1, .int v1), (2, .int v2), (3, .int v3)] [.int (s.1 1 1), .int v3] s from ⟨by unfold vp_in; decide, ?_⟩))))
    refine Wp.r_icmp_ge (pc := 13) o_X12_closest rfl (fun c9 => ?_) (fun c9 => ?_)
    · have H := oq_t c9 H
      refine Wp.r_aload_n0 (pc := 110) o_X12_closest rfl rfl (Wp.r_iload_n1 (pc := 111) o_X12_closest rfl rfl (Wp.r_cv2 (pc := 112) o_X12_closest rfl fk_M_0_0 (⟨rm8_ rfl, ?_⟩)))
      refine w_X12_orNone (d := d + 4) _ ?_
      refine oq_bd H (fun r1 s2 H => ?_)
      exact Wp.r_ireturn (pc := 115) o_X12_closest rfl (⟨rfl, H⟩)
    · have H := oq_f c9 H
      refine Wp.r_aload_n0 (pc := 16) o_X12_closest rfl rfl (Wp.r_iload_n3 (pc := 17) o_X12_closest rfl rfl (Wp.r_cv2 (pc := 18) o_X12_closest rfl fk_M_0_0 (⟨rm8_ rfl, ?_⟩)))
      refine w_X12_hasPeace (d := d) _ ?_
      refine oq_bd H (fun r3 s4 H => ?_)
      refine Wp.r_if_ne (pc := 21) o_X12_closest rfl (fun c9 => ?_) (fun c9 => ?_)
      · have H := oq_t c9 H
        refine Wp.r_aload_n0 (pc := 24) o_X12_closest rfl rfl (Wp.r_iload_n3 (pc := 25) o_X12_closest rfl rfl (Wp.r_cv2 (pc := 26) o_X12_closest rfl fk_M_0_0 (⟨rm8_ rfl, ?_⟩)))
        refine w_X12_neverCan (d := d + 3) _ ?_
        refine oq_bd H (fun r5 s6 H => ?_)
        refine Wp.r_if_eq (pc := 29) o_X12_closest rfl (fun c9 => ?_) (fun c9 => ?_)
        · have H := oq_t c9 H
          exact Wp.r_iconst (pc := 35) o_X12_closest rfl (Wp.r_istore (pc := 36) o_X12_closest rfl (Wp.r_iconst (pc := 38) o_X12_closest rfl (Wp.r_istore (pc := 39) o_X12_closest rfl (Wp.weak2 [2, 3, 4, 5, 1, 0] (w_X12_closest_b41 (f_X12_closest_b6 n) ih _ _ _ _ _ _ _ H) rfl))))
        · have H := oq_f c9 H
          exact Wp.r_goto (pc := 32) o_X12_closest rfl (Wp.f_iinc_goto (pc := 104) o_X12_closest rfl rfl rfl (Wp.weak2 [1, 2, 3, 0] (ih _ _ _ _ H) rfl))
      · have H := oq_f c9 H
        exact Wp.f_iinc_goto (pc := 104) o_X12_closest rfl rfl rfl (Wp.weak2 [1, 2, 3, 0] (ih _ _ _ _ H) rfl)
noncomputable def f_X12_closest  (s : Sg) : Option (Int32 × Sg) :=
  f_X12_closest_b6 BIG (-1) 0 0 s
set_option maxRecDepth 100000 in
theorem w_X12_closest {d : Nat} {s : Sg} {Q : Qt}  (H : OQ (f_X12_closest  s) (fun r9 s9 => Q (some (.int r9)) s9)) : WpM SHM MT (d + 7) 308 [.ref 0] s Q := by
  refine WpM.enter me_X12_closest rfl rfl ?_
  show Y_X12_closest d Q 0 [(0, .ref 0)] [] s
  unfold f_X12_closest at H
  exact Wp.r_iconst (pc := 0) o_X12_closest rfl (Wp.r_istore_n1 (pc := 1) o_X12_closest rfl (Wp.r_iconst (pc := 2) o_X12_closest rfl (Wp.r_istore_n2 (pc := 3) o_X12_closest rfl (Wp.r_iconst (pc := 4) o_X12_closest rfl (Wp.r_istore_n3 (pc := 5) o_X12_closest rfl (Wp.weak2 [3, 2, 1, 0] (w_X12_closest_b6 _ _ _ _ _ H) rfl))))))
noncomputable abbrev Y_X12_level (d : Nat) (Q : Qt) : Xt := Wp SHM (WpM SHM MT (d + 2)) (flat2 cq_X12_level) (some .int) Q
noncomputable def f_X12_level_b107 (k_67 : Int32 → Int32 → Int32 → Int32 → Int32 → Int32 → Sg → Option (Int32 × Sg)) (v1 : Int32) (v2 : Int32) (v3 : Int32) (v5 : Int32) (v6 : Int32) (t0 : Int32) (t1 : Int32) (s : Sg) : Option (Int32 × Sg) :=
  bd (f_X12_grainsOn v6 s) (fun r11 s12 =>
  nmx (v5 + (if 0 < ((r11 - v3) - 1) then ((r11 - v3) - 1) else 0) : Int32) (fun x13 =>
  k_67 v1 v2 v3 (t1 + t0) x13 (v6 + 1) s12
  )
  )
set_option maxRecDepth 100000 in
theorem w_X12_level_b107 {d : Nat} {Q : Qt} (k_67 : Int32 → Int32 → Int32 → Int32 → Int32 → Int32 → Sg → Option (Int32 × Sg)) (h_67 : ∀ (v1 : Int32) (v2 : Int32) (v3 : Int32) (v4 : Int32) (v5 : Int32) (v6 : Int32) s, OQ (k_67 v1 v2 v3 v4 v5 v6 s) (fun r9 s9 => Q (some (.int r9)) s9) → Y_X12_level d Q 67 [(0, .ref 0), (1, .int v1), (2, .int v2), (3, .int v3), (4, .int v4), (5, .int v5), (6, .int v6)] [] s) (v1 : Int32) (v2 : Int32) (v3 : Int32) (v5 : Int32) (v6 : Int32) (t0 : Int32) (t1 : Int32) (s : Sg) (H : OQ (f_X12_level_b107 k_67 v1 v2 v3 v5 v6 t0 t1 s) (fun r9 s9 => Q (some (.int r9)) s9)) : Y_X12_level d Q 107 [(0, .ref 0), (1, .int v1), (2, .int v2), (3, .int v3), (5, .int v5), (6, .int v6)] [.int t0, .int t1] s := by
  unfold f_X12_level_b107 at H
  refine Wp.r_iadd (pc := 107) o_X12_level rfl (Wp.r_istore (pc := 108) o_X12_level rfl (Wp.r_iload (pc := 110) o_X12_level rfl rfl (Wp.r_iconst (pc := 112) o_X12_level rfl (Wp.r_aload_n0 (pc := 113) o_X12_level rfl rfl (Wp.r_iload (pc := 114) o_X12_level rfl rfl (Wp.r_cv2 (pc := 116) o_X12_level rfl fk_M_0_0 (⟨rm8_ rfl, ?_⟩)))))))
  refine w_X12_grainsOn (d := d) _ ?_
  refine oq_bd H (fun r11 s12 H => ?_)
  refine Wp.r_iload_n3 (pc := 119) o_X12_level rfl rfl (Wp.r_isub (pc := 120) o_X12_level rfl (Wp.r_iconst (pc := 121) o_X12_level rfl (Wp.r_isub (pc := 122) o_X12_level rfl (Wp.r_max (pc := 123) o_X12_level rfl (⟨rm8_ rfl, ?_⟩)))))
  refine Wp.r_iadd (pc := 126) o_X12_level rfl (Wp.r_istore (pc := 127) o_X12_level rfl (show Y_X12_level d Q 129 [(5, .int (v5 + (if 0 < ((r11 - v3) - 1) then ((r11 - v3) - 1) else 0))), (4, .int (t1 + t0)), (0, .ref 0), (1, .int v1), (2, .int v2), (3, .int v3), (6, .int v6)] [] s12 from ?_))
  revert H
  generalize (v5 + (if 0 < ((r11 - v3) - 1) then ((r11 - v3) - 1) else 0) : Int32) = x13
  intro H
  have H := nmx_e H
  exact Wp.f_iinc_goto (pc := 129) o_X12_level rfl rfl rfl (Wp.weak2 [3, 4, 5, 6, 2, 1, 0] (h_67 _ _ _ _ _ _ _ H) rfl)
noncomputable def f_X12_level_b67 : Nat → Int32 → Int32 → Int32 → Int32 → Int32 → Int32 → Sg → Option (Int32 × Sg)
  | 0, _, _, _, _, _, _, _ => none
  | n + 1, v1, v2, v3, v4, v5, v6, s =>
    if (s.1 1 0) ≤ v6 then
      ck (¬ v1 = 0) (
      bd (f_X12_gives (v5 + (if 0 < (v4 - (v2 - v2 / v1 * v1)) then (v4 - (v2 - v2 / v1 * v1)) else 0)) s) (fun r5 s6 =>
      some (r5, s6)
      )
      )
    else
      bd (f_X12_isGone v6 s) (fun r7 s8 =>
      if r7 = 0 then
        bd (f_X12_grainsOn v6 s8) (fun r9 s10 =>
        if r9 ≤ v3 then
          f_X12_level_b107 (f_X12_level_b67 n) v1 v2 v3 v5 v6 0 v4 s10
        else
          f_X12_level_b107 (f_X12_level_b67 n) v1 v2 v3 v5 v6 1 v4 s10
        )
      else
        (f_X12_level_b67 n) v1 v2 v3 v4 v5 (v6 + 1) s8
      )
set_option maxRecDepth 100000 in
theorem w_X12_level_b67 {d : Nat} {Q : Qt} (n : Nat) : ∀ (v1 : Int32) (v2 : Int32) (v3 : Int32) (v4 : Int32) (v5 : Int32) (v6 : Int32) (s : Sg), OQ (f_X12_level_b67 n v1 v2 v3 v4 v5 v6 s) (fun r9 s9 => Q (some (.int r9)) s9) → Y_X12_level d Q 67 [(0, .ref 0), (1, .int v1), (2, .int v2), (3, .int v3), (4, .int v4), (5, .int v5), (6, .int v6)] [] s := by
  induction n with
  | zero => intro v1 v2 v3 v4 v5 v6 s H; exact H.elim
  | succ n ih =>
    intro v1 v2 v3 v4 v5 v6 s H
    unfold f_X12_level_b67 at H
    refine Wp.r_iload (pc := 67) o_X12_level rfl rfl (Wp.f_al0_gfr (pc := 69) o_X12_level rfl rfl rfl fk_M_0_0 (Wp.r_iconst (pc := 73) o_X12_level rfl (Wp.r_iaload (pc := 74) o_X12_level rfl ak_M_1 (show (vp_in 0 2880) ∧ Y_X12_level d Q 75 [(0, .ref 0), (1, .int v1), (2, .int v2), (3, .int v3), (4, .int v4), (5, .int v5), (6, .int v6)] [.int (s.1 1 0), .int v6] s from ⟨by unfold vp_in; decide, ?_⟩))))
    refine Wp.r_icmp_ge (pc := 75) o_X12_level rfl (fun c9 => ?_) (fun c9 => ?_)
    · have H := oq_t c9 H
      obtain ⟨hc4, H⟩ := oq_ck H
      refine Wp.r_aload_n0 (pc := 135) o_X12_level rfl rfl (Wp.r_iload (pc := 136) o_X12_level rfl rfl (Wp.r_iconst (pc := 138) o_X12_level rfl (Wp.r_iload (pc := 139) o_X12_level rfl rfl (Wp.r_iload_n2 (pc := 141) o_X12_level rfl rfl (Wp.r_iload_n1 (pc := 142) o_X12_level rfl rfl (Wp.r_irem (pc := 143) o_X12_level rfl (⟨hc4, ?_⟩)))))))
      refine Wp.r_isub (pc := 144) o_X12_level rfl (Wp.r_max (pc := 145) o_X12_level rfl (⟨rm8_ rfl, ?_⟩))
      refine Wp.r_iadd (pc := 148) o_X12_level rfl (Wp.r_cv2 (pc := 149) o_X12_level rfl fk_M_0_0 (⟨rm8_ rfl, ?_⟩))
      refine w_X12_gives (d := d + 1) _ ?_
      refine oq_bd H (fun r5 s6 H => ?_)
      exact Wp.r_ireturn (pc := 152) o_X12_level rfl (⟨rfl, H⟩)
    · have H := oq_f c9 H
      refine Wp.r_aload_n0 (pc := 78) o_X12_level rfl rfl (Wp.r_iload (pc := 79) o_X12_level rfl rfl (Wp.r_cv2 (pc := 81) o_X12_level rfl fk_M_0_0 (⟨rm8_ rfl, ?_⟩)))
      refine w_X12_isGone (d := d + 1) _ ?_
      refine oq_bd H (fun r7 s8 H => ?_)
      refine Wp.r_if_eq (pc := 84) o_X12_level rfl (fun c9 => ?_) (fun c9 => ?_)
      · have H := oq_t c9 H
        refine Wp.r_iload (pc := 90) o_X12_level rfl rfl (Wp.r_aload_n0 (pc := 92) o_X12_level rfl rfl (Wp.r_iload (pc := 93) o_X12_level rfl rfl (Wp.r_cv2 (pc := 95) o_X12_level rfl fk_M_0_0 (⟨rm8_ rfl, ?_⟩))))
        refine w_X12_grainsOn (d := d) _ ?_
        refine oq_bd H (fun r9 s10 H => ?_)
        refine Wp.r_iload_n3 (pc := 98) o_X12_level rfl rfl (Wp.r_icmp_le (pc := 99) o_X12_level rfl (fun c9 => ?_) (fun c9 => ?_))
        · have H := oq_t c9 H
          exact Wp.r_iconst (pc := 106) o_X12_level rfl (Wp.weak2 [0, 1, 2, 3, 5, 6] (w_X12_level_b107 (f_X12_level_b67 n) ih _ _ _ _ _ _ _ _ H) rfl)
        · have H := oq_f c9 H
          exact Wp.r_iconst (pc := 102) o_X12_level rfl (Wp.r_goto (pc := 103) o_X12_level rfl (Wp.weak2 [0, 1, 2, 3, 5, 6] (w_X12_level_b107 (f_X12_level_b67 n) ih _ _ _ _ _ _ _ _ H) rfl))
      · have H := oq_f c9 H
        exact Wp.r_goto (pc := 87) o_X12_level rfl (Wp.f_iinc_goto (pc := 129) o_X12_level rfl rfl rfl (Wp.weak2 [1, 2, 3, 4, 5, 6, 0] (ih _ _ _ _ _ _ _ H) rfl))
noncomputable def f_X12_level_b6 : Nat → Int32 → Int32 → Int32 → Sg → Option (Int32 × Sg)
  | 0, _, _, _, _ => none
  | n + 1, v1, v2, v3, s =>
    if (s.1 1 0) ≤ v3 then
      if v1 = 0 then
        bd (f_X12_gives 0 s) (fun r1 s2 =>
        some (r1, s2)
        )
      else
        ck (¬ v1 = 0) (
        f_X12_level_b67 BIG v1 v2 (v2 / v1) 0 0 0 s
        )
    else
      bd (f_X12_isGone v3 s) (fun r14 s15 =>
      if r14 = 0 then
        bd (f_X12_grainsOn v3 s15) (fun r16 s17 =>
        (f_X12_level_b6 n) (v1 + 1) (v2 + r16) (v3 + 1) s17
        )
      else
        (f_X12_level_b6 n) v1 v2 (v3 + 1) s15
      )
set_option maxRecDepth 100000 in
theorem w_X12_level_b6 {d : Nat} {Q : Qt} (n : Nat) : ∀ (v1 : Int32) (v2 : Int32) (v3 : Int32) (s : Sg), OQ (f_X12_level_b6 n v1 v2 v3 s) (fun r9 s9 => Q (some (.int r9)) s9) → Y_X12_level d Q 6 [(0, .ref 0), (1, .int v1), (2, .int v2), (3, .int v3)] [] s := by
  induction n with
  | zero => intro v1 v2 v3 s H; exact H.elim
  | succ n ih =>
    intro v1 v2 v3 s H
    unfold f_X12_level_b6 at H
    refine Wp.r_iload_n3 (pc := 6) o_X12_level rfl rfl (Wp.f_al0_gfr (pc := 7) o_X12_level rfl rfl rfl fk_M_0_0 (Wp.r_iconst (pc := 11) o_X12_level rfl (Wp.r_iaload (pc := 12) o_X12_level rfl ak_M_1 (show (vp_in 0 2880) ∧ Y_X12_level d Q 13 [(0, .ref 0), (1, .int v1), (2, .int v2), (3, .int v3)] [.int (s.1 1 0), .int v3] s from ⟨by unfold vp_in; decide, ?_⟩))))
    refine Wp.r_icmp_ge (pc := 13) o_X12_level rfl (fun c9 => ?_) (fun c9 => ?_)
    · have H := oq_t c9 H
      refine Wp.r_iload_n1 (pc := 44) o_X12_level rfl rfl (Wp.r_if_ne (pc := 45) o_X12_level rfl (fun c9 => ?_) (fun c9 => ?_))
      · have H := oq_t c9 H
        refine Wp.f_al0_iconst (pc := 48) o_X12_level rfl rfl rfl (Wp.r_cv2 (pc := 50) o_X12_level rfl fk_M_0_0 (⟨rm8_ rfl, ?_⟩))
        refine w_X12_gives (d := d + 1) _ ?_
        refine oq_bd H (fun r1 s2 H => ?_)
        exact Wp.r_ireturn (pc := 53) o_X12_level rfl (⟨rfl, H⟩)
      · have H := oq_f c9 H
        obtain ⟨hc3, H⟩ := oq_ck H
        refine Wp.r_iload_n2 (pc := 54) o_X12_level rfl rfl (Wp.r_iload_n1 (pc := 55) o_X12_level rfl rfl (Wp.r_idiv (pc := 56) o_X12_level rfl (⟨hc3, ?_⟩)))
        exact Wp.r_istore_n3 (pc := 57) o_X12_level rfl (Wp.r_iconst (pc := 58) o_X12_level rfl (Wp.r_istore (pc := 59) o_X12_level rfl (Wp.r_iconst (pc := 61) o_X12_level rfl (Wp.r_istore (pc := 62) o_X12_level rfl (Wp.r_iconst (pc := 64) o_X12_level rfl (Wp.r_istore (pc := 65) o_X12_level rfl (Wp.weak2 [4, 5, 6, 3, 2, 1, 0] (w_X12_level_b67 _ _ _ _ _ _ _ _ H) rfl)))))))
    · have H := oq_f c9 H
      refine Wp.r_aload_n0 (pc := 16) o_X12_level rfl rfl (Wp.r_iload_n3 (pc := 17) o_X12_level rfl rfl (Wp.r_cv2 (pc := 18) o_X12_level rfl fk_M_0_0 (⟨rm8_ rfl, ?_⟩)))
      refine w_X12_isGone (d := d + 1) _ ?_
      refine oq_bd H (fun r14 s15 H => ?_)
      refine Wp.r_if_eq (pc := 21) o_X12_level rfl (fun c9 => ?_) (fun c9 => ?_)
      · have H := oq_t c9 H
        refine Wp.r_iinc (pc := 27) o_X12_level rfl rfl (Wp.r_iload_n2 (pc := 30) o_X12_level rfl rfl (Wp.r_aload_n0 (pc := 31) o_X12_level rfl rfl (Wp.r_iload_n3 (pc := 32) o_X12_level rfl rfl (Wp.r_cv2 (pc := 33) o_X12_level rfl fk_M_0_0 (⟨rm8_ rfl, ?_⟩)))))
        refine w_X12_grainsOn (d := d) _ ?_
        refine oq_bd H (fun r16 s17 H => ?_)
        exact Wp.r_iadd (pc := 36) o_X12_level rfl (Wp.r_istore_n2 (pc := 37) o_X12_level rfl (Wp.f_iinc_goto (pc := 38) o_X12_level rfl rfl rfl (Wp.weak2 [3, 2, 1, 0] (ih _ _ _ _ H) rfl)))
      · have H := oq_f c9 H
        exact Wp.r_goto (pc := 24) o_X12_level rfl (Wp.f_iinc_goto (pc := 38) o_X12_level rfl rfl rfl (Wp.weak2 [1, 2, 3, 0] (ih _ _ _ _ H) rfl))
noncomputable def f_X12_level  (s : Sg) : Option (Int32 × Sg) :=
  f_X12_level_b6 BIG 0 0 0 s
set_option maxRecDepth 100000 in
theorem w_X12_level {d : Nat} {s : Sg} {Q : Qt}  (H : OQ (f_X12_level  s) (fun r9 s9 => Q (some (.int r9)) s9)) : WpM SHM MT (d + 3) 301 [.ref 0] s Q := by
  refine WpM.enter me_X12_level rfl rfl ?_
  show Y_X12_level d Q 0 [(0, .ref 0)] [] s
  unfold f_X12_level at H
  exact Wp.r_iconst (pc := 0) o_X12_level rfl (Wp.r_istore_n1 (pc := 1) o_X12_level rfl (Wp.r_iconst (pc := 2) o_X12_level rfl (Wp.r_istore_n2 (pc := 3) o_X12_level rfl (Wp.r_iconst (pc := 4) o_X12_level rfl (Wp.r_istore_n3 (pc := 5) o_X12_level rfl (Wp.weak2 [3, 2, 1, 0] (w_X12_level_b6 _ _ _ _ _ H) rfl))))))
noncomputable abbrev Y_X12_thaw (d : Nat) (Q : Qt) : Xt := Wp SHM (WpM SHM MT (d + 7)) (flat2 cq_X12_thaw) (some .int) Q
noncomputable def f_X12_thaw_b52 (v3 : Int32) (s : Sg) : Option (Int32 × Sg) :=
  bd (f_X12_takesBack s) (fun _ s6 =>
  if v3 = 61 then
    bd (f_X12_refuse 6 s6) (fun r7 s8 =>
    some (r7, s8)
    )
  else
    bd (f_X12_gives v3 s6) (fun r9 s10 =>
    some (r9, s10)
    )
  )
set_option maxRecDepth 100000 in
theorem w_X12_thaw_b52 {d : Nat} {Q : Qt} (v3 : Int32) (s : Sg) (H : OQ (f_X12_thaw_b52 v3 s) (fun r9 s9 => Q (some (.int r9)) s9)) : Y_X12_thaw d Q 52 [(0, .ref 0), (3, .int v3)] [] s := by
  unfold f_X12_thaw_b52 at H
  refine Wp.r_aload_n0 (pc := 52) o_X12_thaw rfl rfl (Wp.r_cv1 (pc := 53) o_X12_thaw rfl fk_M_0_0 (⟨rm8_ rfl, ?_⟩))
  refine w_X12_takesBack (d := d + 6)  ?_
  refine oq_bd H (fun _ s6 H => ?_)
  refine Wp.r_iload_n3 (pc := 56) o_X12_thaw rfl rfl (Wp.r_bipush (pc := 57) o_X12_thaw rfl (Wp.r_icmp_ne (pc := 59) o_X12_thaw rfl (fun c9 => ?_) (fun c9 => ?_)))
  · have H := oq_t c9 H
    refine Wp.r_aload_n0 (pc := 62) o_X12_thaw rfl rfl (Wp.r_bipush (pc := 63) o_X12_thaw rfl (Wp.r_cv2 (pc := 65) o_X12_thaw rfl fk_M_0_0 (⟨rm8_ rfl, ?_⟩)))
    refine w_X12_refuse (d := d + 6) _ ?_
    refine oq_bd H (fun r7 s8 H => ?_)
    exact Wp.r_goto (pc := 68) o_X12_thaw rfl (Wp.r_ireturn (pc := 76) o_X12_thaw rfl (⟨rfl, H⟩))
  · have H := oq_f c9 H
    refine Wp.r_aload_n0 (pc := 71) o_X12_thaw rfl rfl (Wp.r_iload_n3 (pc := 72) o_X12_thaw rfl rfl (Wp.r_cv2 (pc := 73) o_X12_thaw rfl fk_M_0_0 (⟨rm8_ rfl, ?_⟩)))
    refine w_X12_gives (d := d + 6) _ ?_
    refine oq_bd H (fun r9 s10 H => ?_)
    exact Wp.r_ireturn (pc := 76) o_X12_thaw rfl (⟨rfl, H⟩)
noncomputable def f_X12_thaw_b22 : Nat → Int32 → Int32 → Sg → Option (Int32 × Sg)
  | 0, _, _, _ => none
  | n + 1, v1, v3, s =>
    if 61 ≤ v3 then
      f_X12_thaw_b52 v3 s
    else
      bd (f_X12_houseRow v1 s) (fun r11 s12 =>
      ck (inr (r11 + 2) 2880) (
      if (s12.1 1 ((r11 + 2).toNatClampNeg)) ≤ 0 then
        f_X12_thaw_b52 v3 s12
      else
        bd (f_X12_nightGoes s12) (fun _ s15 =>
        (f_X12_thaw_b22 n) v1 (v3 + 1) s15
        )
      )
      )
set_option maxRecDepth 100000 in
theorem w_X12_thaw_b22 {d : Nat} {Q : Qt} (n : Nat) : ∀ (v1 : Int32) (v3 : Int32) (s : Sg), OQ (f_X12_thaw_b22 n v1 v3 s) (fun r9 s9 => Q (some (.int r9)) s9) → Y_X12_thaw d Q 22 [(0, .ref 0), (1, .int v1), (3, .int v3)] [] s := by
  induction n with
  | zero => intro v1 v3 s H; exact H.elim
  | succ n ih =>
    intro v1 v3 s H
    unfold f_X12_thaw_b22 at H
    refine Wp.r_iload_n3 (pc := 22) o_X12_thaw rfl rfl (Wp.r_bipush (pc := 23) o_X12_thaw rfl (Wp.r_icmp_ge (pc := 25) o_X12_thaw rfl (fun c9 => ?_) (fun c9 => ?_)))
    · have H := oq_t c9 H
      exact Wp.weak2 [0, 2] (w_X12_thaw_b52 _ _ H) rfl
    · have H := oq_f c9 H
      refine Wp.f_al0_gfr (pc := 28) o_X12_thaw rfl rfl rfl fk_M_0_0 (Wp.r_iload_n1 (pc := 32) o_X12_thaw rfl rfl (Wp.r_cs1 (pc := 33) o_X12_thaw rfl (⟨rm8_ rfl, ?_⟩)))
      refine w_X12_houseRow (d := d + 6) _ ?_
      refine oq_bd H (fun r11 s12 H => ?_)
      obtain ⟨hc13, H⟩ := oq_ck H
      refine Wp.r_iconst (pc := 36) o_X12_thaw rfl (Wp.r_iadd (pc := 37) o_X12_thaw rfl (Wp.r_iaload (pc := 38) o_X12_thaw rfl ak_M_1 (⟨hc13, ?_⟩)))
      refine Wp.r_if_le (pc := 39) o_X12_thaw rfl (fun c9 => ?_) (fun c9 => ?_)
      · have H := oq_t c9 H
        exact Wp.weak2 [0, 2] (w_X12_thaw_b52 _ _ H) rfl
      · have H := oq_f c9 H
        refine Wp.r_aload_n0 (pc := 42) o_X12_thaw rfl rfl (Wp.r_cv1 (pc := 43) o_X12_thaw rfl fk_M_0_0 (⟨rm8_ rfl, ?_⟩))
        refine w_X12_nightGoes (d := d)  ?_
        refine oq_bd H (fun _ s15 H => ?_)
        exact Wp.f_iinc_goto (pc := 46) o_X12_thaw rfl rfl rfl (Wp.weak2 [1, 2, 0] (ih _ _ _ H) rfl)
noncomputable def f_X12_thaw (a1 : Int32) (s : Sg) : Option (Int32 × Sg) :=
  bd (f_X12_wrongStep a1 s) (fun r1 s2 =>
  if r1 ≤ 0 then
    bd (f_X12_keepsAll s2) (fun _ s4 =>
    f_X12_thaw_b22 BIG a1 0 s4
    )
  else
    bd (f_X12_refuse r1 s2) (fun r16 s17 =>
    some (r16, s17)
    )
  )
set_option maxRecDepth 100000 in
theorem w_X12_thaw {d : Nat} {s : Sg} {Q : Qt} (a1 : Int32) (H : OQ (f_X12_thaw a1 s) (fun r9 s9 => Q (some (.int r9)) s9)) : WpM SHM MT (d + 8) 292 [.ref 0, .int a1] s Q := by
  refine WpM.enter me_X12_thaw rfl rfl ?_
  show Y_X12_thaw d Q 0 [(0, .ref 0), (1, .int a1)] [] s
  unfold f_X12_thaw at H
  refine Wp.r_aload_n0 (pc := 0) o_X12_thaw rfl rfl (Wp.r_iload_n1 (pc := 1) o_X12_thaw rfl rfl (Wp.r_cv2 (pc := 2) o_X12_thaw rfl fk_M_0_0 (⟨rm8_ rfl, ?_⟩)))
  refine w_X12_wrongStep (d := d + 5) _ ?_
  refine oq_bd H (fun r1 s2 H => ?_)
  refine Wp.r_istore_n2 (pc := 5) o_X12_thaw rfl (Wp.r_iload_n2 (pc := 6) o_X12_thaw rfl rfl (Wp.r_if_le (pc := 7) o_X12_thaw rfl (fun c9 => ?_) (fun c9 => ?_)))
  · have H := oq_t c9 H
    refine Wp.r_aload_n0 (pc := 16) o_X12_thaw rfl rfl (Wp.r_cv1 (pc := 17) o_X12_thaw rfl fk_M_0_0 (⟨rm8_ rfl, ?_⟩))
    refine w_X12_keepsAll (d := d + 6)  ?_
    refine oq_bd H (fun _ s4 H => ?_)
    exact Wp.r_iconst (pc := 20) o_X12_thaw rfl (Wp.r_istore_n3 (pc := 21) o_X12_thaw rfl (Wp.weak2 [2, 3, 0] (w_X12_thaw_b22 _ _ _ _ H) rfl))
  · have H := oq_f c9 H
    refine Wp.r_aload_n0 (pc := 10) o_X12_thaw rfl rfl (Wp.r_iload_n2 (pc := 11) o_X12_thaw rfl rfl (Wp.r_cv2 (pc := 12) o_X12_thaw rfl fk_M_0_0 (⟨rm8_ rfl, ?_⟩)))
    refine w_X12_refuse (d := d + 6) _ ?_
    refine oq_bd H (fun r16 s17 H => ?_)
    exact Wp.r_ireturn (pc := 15) o_X12_thaw rfl (⟨rfl, H⟩)
noncomputable abbrev Y_X12_isSnow (d : Nat) (Q : Qt) : Xt := Wp SHM (WpM SHM MT (d + 1)) (flat2 cq_X12_isSnow) (some .boolean) Q
noncomputable def f_X12_isSnow_b2 : Nat → Int32 → Sg → Option (Int32 × Sg)
  | 0, _, _ => none
  | n + 1, v1, s =>
    if (s.1 1 0) ≤ v1 then
      some (0, s)
    else
      bd (f_X12_houseRow v1 s) (fun r1 s2 =>
      ck (inr (r1 + 2) 2880) (
      if (s2.1 1 ((r1 + 2).toNatClampNeg)) ≤ 0 then
        (f_X12_isSnow_b2 n) (v1 + 1) s2
      else
        some (1, s2)
      )
      )
set_option maxRecDepth 100000 in
theorem w_X12_isSnow_b2 {d : Nat} {Q : Qt} (n : Nat) : ∀ (v1 : Int32) (s : Sg), OQ (f_X12_isSnow_b2 n v1 s) (fun r9 s9 => Q (some (.int r9)) s9) → Y_X12_isSnow d Q 2 [(0, .ref 0), (1, .int v1)] [] s := by
  induction n with
  | zero => intro v1 s H; exact H.elim
  | succ n ih =>
    intro v1 s H
    unfold f_X12_isSnow_b2 at H
    refine Wp.r_iload_n1 (pc := 2) o_X12_isSnow rfl rfl (Wp.f_al0_gfr (pc := 3) o_X12_isSnow rfl rfl rfl fk_M_0_0 (Wp.r_iconst (pc := 7) o_X12_isSnow rfl (Wp.r_iaload (pc := 8) o_X12_isSnow rfl ak_M_1 (show (vp_in 0 2880) ∧ Y_X12_isSnow d Q 9 [(0, .ref 0), (1, .int v1)] [.int (s.1 1 0), .int v1] s from ⟨by unfold vp_in; decide, ?_⟩))))
    refine Wp.r_icmp_ge (pc := 9) o_X12_isSnow rfl (fun c9 => ?_) (fun c9 => ?_)
    · have H := oq_t c9 H
      exact Wp.r_iconst (pc := 34) o_X12_isSnow rfl (Wp.r_ireturn (pc := 35) o_X12_isSnow rfl (⟨rfl, H⟩))
    · have H := oq_f c9 H
      refine Wp.f_al0_gfr (pc := 12) o_X12_isSnow rfl rfl rfl fk_M_0_0 (Wp.r_iload_n1 (pc := 16) o_X12_isSnow rfl rfl (Wp.r_cs1 (pc := 17) o_X12_isSnow rfl (⟨rm8_ rfl, ?_⟩)))
      refine w_X12_houseRow (d := d) _ ?_
      refine oq_bd H (fun r1 s2 H => ?_)
      obtain ⟨hc3, H⟩ := oq_ck H
      refine Wp.r_iconst (pc := 20) o_X12_isSnow rfl (Wp.r_iadd (pc := 21) o_X12_isSnow rfl (Wp.r_iaload (pc := 22) o_X12_isSnow rfl ak_M_1 (⟨hc3, ?_⟩)))
      refine Wp.r_if_le (pc := 23) o_X12_isSnow rfl (fun c9 => ?_) (fun c9 => ?_)
      · have H := oq_t c9 H
        exact Wp.f_iinc_goto (pc := 28) o_X12_isSnow rfl rfl rfl (Wp.weak2 [1, 0] (ih _ _ H) rfl)
      · have H := oq_f c9 H
        exact Wp.r_iconst (pc := 26) o_X12_isSnow rfl (Wp.r_ireturn (pc := 27) o_X12_isSnow rfl (⟨rfl, H⟩))
noncomputable def f_X12_isSnow  (s : Sg) : Option (Int32 × Sg) :=
  f_X12_isSnow_b2 BIG 0 s
set_option maxRecDepth 100000 in
theorem w_X12_isSnow {d : Nat} {s : Sg} {Q : Qt}  (H : OQ (f_X12_isSnow  s) (fun r9 s9 => Q (some (.int r9)) s9)) : WpM SHM MT (d + 2) 293 [.ref 0] s Q := by
  refine WpM.enter me_X12_isSnow rfl rfl ?_
  show Y_X12_isSnow d Q 0 [(0, .ref 0)] [] s
  unfold f_X12_isSnow at H
  exact Wp.r_iconst (pc := 0) o_X12_isSnow rfl (Wp.r_istore_n1 (pc := 1) o_X12_isSnow rfl (Wp.weak2 [1, 0] (w_X12_isSnow_b2 _ _ _ H) rfl))
noncomputable abbrev Y_X12_thawAll (d : Nat) (Q : Qt) : Xt := Wp SHM (WpM SHM MT (d + 7)) (flat2 cq_X12_thawAll) (some .int) Q
noncomputable def f_X12_thawAll_b29 (v1 : Int32) (s : Sg) : Option (Int32 × Sg) :=
  bd (f_X12_takesBack s) (fun _ s4 =>
  if v1 = 61 then
    bd (f_X12_refuse 6 s4) (fun r5 s6 =>
    some (r5, s6)
    )
  else
    bd (f_X12_gives v1 s4) (fun r7 s8 =>
    some (r7, s8)
    )
  )
set_option maxRecDepth 100000 in
theorem w_X12_thawAll_b29 {d : Nat} {Q : Qt} (v1 : Int32) (s : Sg) (H : OQ (f_X12_thawAll_b29 v1 s) (fun r9 s9 => Q (some (.int r9)) s9)) : Y_X12_thawAll d Q 29 [(0, .ref 0), (1, .int v1)] [] s := by
  unfold f_X12_thawAll_b29 at H
  refine Wp.r_aload_n0 (pc := 29) o_X12_thawAll rfl rfl (Wp.r_cv1 (pc := 30) o_X12_thawAll rfl fk_M_0_0 (⟨rm8_ rfl, ?_⟩))
  refine w_X12_takesBack (d := d + 6)  ?_
  refine oq_bd H (fun _ s4 H => ?_)
  refine Wp.r_iload_n1 (pc := 33) o_X12_thawAll rfl rfl (Wp.r_bipush (pc := 34) o_X12_thawAll rfl (Wp.r_icmp_ne (pc := 36) o_X12_thawAll rfl (fun c9 => ?_) (fun c9 => ?_)))
  · have H := oq_t c9 H
    refine Wp.r_aload_n0 (pc := 39) o_X12_thawAll rfl rfl (Wp.r_bipush (pc := 40) o_X12_thawAll rfl (Wp.r_cv2 (pc := 42) o_X12_thawAll rfl fk_M_0_0 (⟨rm8_ rfl, ?_⟩)))
    refine w_X12_refuse (d := d + 6) _ ?_
    refine oq_bd H (fun r5 s6 H => ?_)
    exact Wp.r_goto (pc := 45) o_X12_thawAll rfl (Wp.r_ireturn (pc := 53) o_X12_thawAll rfl (⟨rfl, H⟩))
  · have H := oq_f c9 H
    refine Wp.r_aload_n0 (pc := 48) o_X12_thawAll rfl rfl (Wp.r_iload_n1 (pc := 49) o_X12_thawAll rfl rfl (Wp.r_cv2 (pc := 50) o_X12_thawAll rfl fk_M_0_0 (⟨rm8_ rfl, ?_⟩)))
    refine w_X12_gives (d := d + 6) _ ?_
    refine oq_bd H (fun r7 s8 H => ?_)
    exact Wp.r_ireturn (pc := 53) o_X12_thawAll rfl (⟨rfl, H⟩)
noncomputable def f_X12_thawAll_b6 : Nat → Int32 → Sg → Option (Int32 × Sg)
  | 0, _, _ => none
  | n + 1, v1, s =>
    if 61 ≤ v1 then
      f_X12_thawAll_b29 v1 s
    else
      bd (f_X12_isSnow s) (fun r9 s10 =>
      if r9 = 0 then
        f_X12_thawAll_b29 v1 s10
      else
        bd (f_X12_nightGoes s10) (fun _ s12 =>
        (f_X12_thawAll_b6 n) (v1 + 1) s12
        )
      )
set_option maxRecDepth 100000 in
theorem w_X12_thawAll_b6 {d : Nat} {Q : Qt} (n : Nat) : ∀ (v1 : Int32) (s : Sg), OQ (f_X12_thawAll_b6 n v1 s) (fun r9 s9 => Q (some (.int r9)) s9) → Y_X12_thawAll d Q 6 [(0, .ref 0), (1, .int v1)] [] s := by
  induction n with
  | zero => intro v1 s H; exact H.elim
  | succ n ih =>
    intro v1 s H
    unfold f_X12_thawAll_b6 at H
    refine Wp.r_iload_n1 (pc := 6) o_X12_thawAll rfl rfl (Wp.r_bipush (pc := 7) o_X12_thawAll rfl (Wp.r_icmp_ge (pc := 9) o_X12_thawAll rfl (fun c9 => ?_) (fun c9 => ?_)))
    · have H := oq_t c9 H
      exact Wp.weak2 [0, 1] (w_X12_thawAll_b29 _ _ H) rfl
    · have H := oq_f c9 H
      refine Wp.r_aload_n0 (pc := 12) o_X12_thawAll rfl rfl (Wp.r_cv1 (pc := 13) o_X12_thawAll rfl fk_M_0_0 (⟨rm8_ rfl, ?_⟩))
      refine w_X12_isSnow (d := d + 5)  ?_
      refine oq_bd H (fun r9 s10 H => ?_)
      refine Wp.r_if_eq (pc := 16) o_X12_thawAll rfl (fun c9 => ?_) (fun c9 => ?_)
      · have H := oq_t c9 H
        exact Wp.weak2 [0, 1] (w_X12_thawAll_b29 _ _ H) rfl
      · have H := oq_f c9 H
        refine Wp.r_aload_n0 (pc := 19) o_X12_thawAll rfl rfl (Wp.r_cv1 (pc := 20) o_X12_thawAll rfl fk_M_0_0 (⟨rm8_ rfl, ?_⟩))
        refine w_X12_nightGoes (d := d)  ?_
        refine oq_bd H (fun _ s12 H => ?_)
        exact Wp.f_iinc_goto (pc := 23) o_X12_thawAll rfl rfl rfl (Wp.weak2 [1, 0] (ih _ _ H) rfl)
noncomputable def f_X12_thawAll  (s : Sg) : Option (Int32 × Sg) :=
  bd (f_X12_keepsAll s) (fun _ s2 =>
  f_X12_thawAll_b6 BIG 0 s2
  )
set_option maxRecDepth 100000 in
theorem w_X12_thawAll {d : Nat} {s : Sg} {Q : Qt}  (H : OQ (f_X12_thawAll  s) (fun r9 s9 => Q (some (.int r9)) s9)) : WpM SHM MT (d + 8) 294 [.ref 0] s Q := by
  refine WpM.enter me_X12_thawAll rfl rfl ?_
  show Y_X12_thawAll d Q 0 [(0, .ref 0)] [] s
  unfold f_X12_thawAll at H
  refine Wp.r_aload_n0 (pc := 0) o_X12_thawAll rfl rfl (Wp.r_cv1 (pc := 1) o_X12_thawAll rfl fk_M_0_0 (⟨rm8_ rfl, ?_⟩))
  refine w_X12_keepsAll (d := d + 6)  ?_
  refine oq_bd H (fun _ s2 H => ?_)
  exact Wp.r_iconst (pc := 4) o_X12_thawAll rfl (Wp.r_istore_n1 (pc := 5) o_X12_thawAll rfl (Wp.weak2 [1, 0] (w_X12_thawAll_b6 _ _ _ H) rfl))
noncomputable abbrev Y_X12_wants (d : Nat) (Q : Qt) : Xt := Wp SHM (WpM SHM MT (d + 5)) (flat2 cq_X12_wants) (some .int) Q
noncomputable def f_X12_wants_b65 (k_21 : Int32 → Int32 → Int32 → Sg → Option (Int32 × Sg)) (v1 : Int32) (v3 : Int32) (v4 : Int32) (t0 : Int32) (s : Sg) : Option (Int32 × Sg) :=
  bd (f_X12_isFull v4 (1 - t0) s) (fun r10 s11 =>
  if r10 = 0 then
    k_21 v1 (v3 ||| 0) (v4 + 1) s11
  else
    bd (f_X12_isFull v4 t0 s11) (fun r12 s13 =>
    if r12 = 0 then
      nmx (v3 ||| ((1 : Int32) <<< (v4 &&& 31)) : Int32) (fun x14 =>
      k_21 v1 x14 (v4 + 1) s13
      )
    else
      k_21 v1 (v3 ||| 0) (v4 + 1) s13
    )
  )
set_option maxRecDepth 100000 in
theorem w_X12_wants_b65 {d : Nat} {Q : Qt} (k_21 : Int32 → Int32 → Int32 → Sg → Option (Int32 × Sg)) (h_21 : ∀ (v1 : Int32) (v3 : Int32) (v4 : Int32) s, OQ (k_21 v1 v3 v4 s) (fun r9 s9 => Q (some (.int r9)) s9) → Y_X12_wants d Q 21 [(0, .ref 0), (1, .int v1), (3, .int v3), (4, .int v4)] [] s) (v1 : Int32) (v3 : Int32) (v4 : Int32) (t0 : Int32) (s : Sg) (H : OQ (f_X12_wants_b65 k_21 v1 v3 v4 t0 s) (fun r9 s9 => Q (some (.int r9)) s9)) : Y_X12_wants d Q 65 [(0, .ref 0), (1, .int v1), (3, .int v3), (4, .int v4)] [.int t0] s := by
  unfold f_X12_wants_b65 at H
  refine Wp.r_istore (pc := 65) o_X12_wants rfl (Wp.r_iload_n3 (pc := 67) o_X12_wants rfl rfl (Wp.r_aload_n0 (pc := 68) o_X12_wants rfl rfl (Wp.r_iload (pc := 69) o_X12_wants rfl rfl (Wp.r_iconst (pc := 71) o_X12_wants rfl (Wp.r_iload (pc := 72) o_X12_wants rfl rfl (Wp.r_isub (pc := 74) o_X12_wants rfl (Wp.r_cv3 (pc := 75) o_X12_wants rfl fk_M_0_0 (⟨rm8_ rfl, ?_⟩))))))))
  refine w_X12_isFull (d := d) _ _ ?_
  refine oq_bd H (fun r10 s11 H => ?_)
  refine Wp.r_if_eq (pc := 78) o_X12_wants rfl (fun c9 => ?_) (fun c9 => ?_)
  · have H := oq_t c9 H
    exact Wp.r_iconst (pc := 99) o_X12_wants rfl (Wp.r_ior (pc := 100) o_X12_wants rfl (Wp.r_istore_n3 (pc := 101) o_X12_wants rfl (Wp.f_iinc_goto (pc := 102) o_X12_wants rfl rfl rfl (Wp.weak2 [3, 4, 1, 0] (h_21 _ _ _ _ H) rfl))))
  · have H := oq_f c9 H
    refine Wp.r_aload_n0 (pc := 81) o_X12_wants rfl rfl (Wp.r_iload (pc := 82) o_X12_wants rfl rfl (Wp.r_iload (pc := 84) o_X12_wants rfl rfl (Wp.r_cv3 (pc := 86) o_X12_wants rfl fk_M_0_0 (⟨rm8_ rfl, ?_⟩))))
    refine w_X12_isFull (d := d) _ _ ?_
    refine oq_bd H (fun r12 s13 H => ?_)
    refine Wp.r_if_ne (pc := 89) o_X12_wants rfl (fun c9 => ?_) (fun c9 => ?_)
    · have H := oq_t c9 H
      refine Wp.r_iconst (pc := 92) o_X12_wants rfl (Wp.r_iload (pc := 93) o_X12_wants rfl rfl (Wp.r_ishl (pc := 95) o_X12_wants rfl (Wp.r_goto (pc := 96) o_X12_wants rfl (Wp.r_ior (pc := 100) o_X12_wants rfl (Wp.r_istore_n3 (pc := 101) o_X12_wants rfl (show Y_X12_wants d Q 102 [(3, .int (v3 ||| ((1 : Int32) <<< (v4 &&& 31)))), (5, .int t0), (0, .ref 0), (1, .int v1), (4, .int v4)] [] s13 from ?_))))))
      revert H
      generalize (v3 ||| ((1 : Int32) <<< (v4 &&& 31)) : Int32) = x14
      intro H
      have H := nmx_e H
      exact Wp.f_iinc_goto (pc := 102) o_X12_wants rfl rfl rfl (Wp.weak2 [3, 4, 1, 0] (h_21 _ _ _ _ H) rfl)
    · have H := oq_f c9 H
      exact Wp.r_iconst (pc := 99) o_X12_wants rfl (Wp.r_ior (pc := 100) o_X12_wants rfl (Wp.r_istore_n3 (pc := 101) o_X12_wants rfl (Wp.f_iinc_goto (pc := 102) o_X12_wants rfl rfl rfl (Wp.weak2 [3, 4, 1, 0] (h_21 _ _ _ _ H) rfl))))
noncomputable def f_X12_wants_b21 : Nat → Int32 → Int32 → Int32 → Sg → Option (Int32 × Sg)
  | 0, _, _, _, _ => none
  | n + 1, v1, v3, v4, s =>
    if (s.1 1 1) ≤ v4 then
      bd (f_X12_gives v3 s) (fun r3 s4 =>
      some (r3, s4)
      )
    else
      bd (f_X12_isAt v4 v1 s) (fun r5 s6 =>
      if r5 = 0 then
        (f_X12_wants_b21 n) v1 v3 (v4 + 1) s6
      else
        bd (f_X12_quarrelHouse v4 0 s6) (fun r7 s8 =>
        ck (inr r7 2880) (
        if (s8.1 1 r7.toNatClampNeg) = v1 then
          f_X12_wants_b65 (f_X12_wants_b21 n) v1 v3 v4 0 s8
        else
          f_X12_wants_b65 (f_X12_wants_b21 n) v1 v3 v4 1 s8
        )
        )
      )
set_option maxRecDepth 100000 in
theorem w_X12_wants_b21 {d : Nat} {Q : Qt} (n : Nat) : ∀ (v1 : Int32) (v3 : Int32) (v4 : Int32) (s : Sg), OQ (f_X12_wants_b21 n v1 v3 v4 s) (fun r9 s9 => Q (some (.int r9)) s9) → Y_X12_wants d Q 21 [(0, .ref 0), (1, .int v1), (3, .int v3), (4, .int v4)] [] s := by
  induction n with
  | zero => intro v1 v3 v4 s H; exact H.elim
  | succ n ih =>
    intro v1 v3 v4 s H
    unfold f_X12_wants_b21 at H
    refine Wp.r_iload (pc := 21) o_X12_wants rfl rfl (Wp.f_al0_gfr (pc := 23) o_X12_wants rfl rfl rfl fk_M_0_0 (Wp.r_iconst (pc := 27) o_X12_wants rfl (Wp.r_iaload (pc := 28) o_X12_wants rfl ak_M_1 (show (vp_in 1 2880) ∧ Y_X12_wants d Q 29 [(0, .ref 0), (1, .int v1), (3, .int v3), (4, .int v4)] [.int (s.1 1 1), .int v4] s from ⟨by unfold vp_in; decide, ?_⟩))))
    refine Wp.r_icmp_ge (pc := 29) o_X12_wants rfl (fun c9 => ?_) (fun c9 => ?_)
    · have H := oq_t c9 H
      refine Wp.r_aload_n0 (pc := 108) o_X12_wants rfl rfl (Wp.r_iload_n3 (pc := 109) o_X12_wants rfl rfl (Wp.r_cv2 (pc := 110) o_X12_wants rfl fk_M_0_0 (⟨rm8_ rfl, ?_⟩)))
      refine w_X12_gives (d := d + 4) _ ?_
      refine oq_bd H (fun r3 s4 H => ?_)
      exact Wp.r_ireturn (pc := 113) o_X12_wants rfl (⟨rfl, H⟩)
    · have H := oq_f c9 H
      refine Wp.r_aload_n0 (pc := 32) o_X12_wants rfl rfl (Wp.r_iload (pc := 33) o_X12_wants rfl rfl (Wp.r_iload_n1 (pc := 35) o_X12_wants rfl rfl (Wp.r_cv3 (pc := 36) o_X12_wants rfl fk_M_0_0 (⟨rm8_ rfl, ?_⟩))))
      refine w_X12_isAt (d := d + 2) _ _ ?_
      refine oq_bd H (fun r5 s6 H => ?_)
      refine Wp.r_if_ne (pc := 39) o_X12_wants rfl (fun c9 => ?_) (fun c9 => ?_)
      · have H := oq_t c9 H
        exact Wp.r_goto (pc := 42) o_X12_wants rfl (Wp.f_iinc_goto (pc := 102) o_X12_wants rfl rfl rfl (Wp.weak2 [1, 2, 3, 0] (ih _ _ _ _ H) rfl))
      · have H := oq_f c9 H
        refine Wp.f_al0_gfr (pc := 45) o_X12_wants rfl rfl rfl fk_M_0_0 (Wp.r_iload (pc := 49) o_X12_wants rfl rfl (Wp.r_iconst (pc := 51) o_X12_wants rfl (Wp.r_cs2 (pc := 52) o_X12_wants rfl (⟨rm8_ rfl, ?_⟩))))
        refine w_X12_quarrelHouse (d := d + 3) _ _ ?_
        refine oq_bd H (fun r7 s8 H => ?_)
        obtain ⟨hc9, H⟩ := oq_ck H
        refine Wp.r_iaload (pc := 55) o_X12_wants rfl ak_M_1 (⟨hc9, ?_⟩)
        refine Wp.r_iload_n1 (pc := 56) o_X12_wants rfl rfl (Wp.r_icmp_ne (pc := 57) o_X12_wants rfl (fun c9 => ?_) (fun c9 => ?_))
        · have H := oq_t c9 H
          exact Wp.r_iconst (pc := 60) o_X12_wants rfl (Wp.r_goto (pc := 61) o_X12_wants rfl (Wp.weak2 [0, 1, 2, 3] (w_X12_wants_b65 (f_X12_wants_b21 n) ih _ _ _ _ _ H) rfl))
        · have H := oq_f c9 H
          exact Wp.r_iconst (pc := 64) o_X12_wants rfl (Wp.weak2 [0, 1, 2, 3] (w_X12_wants_b65 (f_X12_wants_b21 n) ih _ _ _ _ _ H) rfl)
noncomputable def f_X12_wants (a1 : Int32) (s : Sg) : Option (Int32 × Sg) :=
  bd (f_X12_wrongStep a1 s) (fun r1 s2 =>
  if r1 ≤ 0 then
    f_X12_wants_b21 BIG a1 0 0 s2
  else
    bd (f_X12_refuse r1 s2) (fun r15 s16 =>
    some (r15, s16)
    )
  )
set_option maxRecDepth 100000 in
theorem w_X12_wants {d : Nat} {s : Sg} {Q : Qt} (a1 : Int32) (H : OQ (f_X12_wants a1 s) (fun r9 s9 => Q (some (.int r9)) s9)) : WpM SHM MT (d + 6) 295 [.ref 0, .int a1] s Q := by
  refine WpM.enter me_X12_wants rfl rfl ?_
  show Y_X12_wants d Q 0 [(0, .ref 0), (1, .int a1)] [] s
  unfold f_X12_wants at H
  refine Wp.r_aload_n0 (pc := 0) o_X12_wants rfl rfl (Wp.r_iload_n1 (pc := 1) o_X12_wants rfl rfl (Wp.r_cv2 (pc := 2) o_X12_wants rfl fk_M_0_0 (⟨rm8_ rfl, ?_⟩)))
  refine w_X12_wrongStep (d := d + 3) _ ?_
  refine oq_bd H (fun r1 s2 H => ?_)
  refine Wp.r_istore_n2 (pc := 5) o_X12_wants rfl (Wp.r_iload_n2 (pc := 6) o_X12_wants rfl rfl (Wp.r_if_le (pc := 7) o_X12_wants rfl (fun c9 => ?_) (fun c9 => ?_)))
  · have H := oq_t c9 H
    exact Wp.r_iconst (pc := 16) o_X12_wants rfl (Wp.r_istore_n3 (pc := 17) o_X12_wants rfl (Wp.r_iconst (pc := 18) o_X12_wants rfl (Wp.r_istore (pc := 19) o_X12_wants rfl (Wp.weak2 [3, 4, 1, 0] (w_X12_wants_b21 _ _ _ _ _ H) rfl))))
  · have H := oq_f c9 H
    refine Wp.r_aload_n0 (pc := 10) o_X12_wants rfl rfl (Wp.r_iload_n2 (pc := 11) o_X12_wants rfl rfl (Wp.r_cv2 (pc := 12) o_X12_wants rfl fk_M_0_0 (⟨rm8_ rfl, ?_⟩)))
    refine w_X12_refuse (d := d + 4) _ ?_
    refine oq_bd H (fun r15 s16 H => ?_)
    exact Wp.r_ireturn (pc := 15) o_X12_wants rfl (⟨rfl, H⟩)
noncomputable abbrev Y_X12_cliff (d : Nat) (Q : Qt) : Xt := Wp SHM (WpM SHM MT (d + 2)) (flat2 cq_X12_cliff) (some .int) Q
noncomputable def f_X12_cliff_b4 : Nat → Int32 → Int32 → Sg → Option (Int32 × Sg)
  | 0, _, _, _ => none
  | n + 1, v1, v2, s =>
    if (s.1 1 0) ≤ v2 then
      bd (f_X12_gives v1 s) (fun r1 s2 =>
      some (r1, s2)
      )
    else
      bd (f_X12_isGone v2 s) (fun r3 s4 =>
      if r3 = 0 then
        bd (f_X12_isGone (v2 - 1) s4) (fun r5 s6 =>
        if r5 = 0 then
          bd (f_X12_grainsOn v2 s6) (fun r7 s8 =>
          bd (f_X12_grainsOn (v2 - 1) s8) (fun r9 s10 =>
          nmx (if v1 < (if 0 ≤ (r7 - r9) then (r7 - r9) else 0 - (r7 - r9)) then (if 0 ≤ (r7 - r9) then (r7 - r9) else 0 - (r7 - r9)) else v1 : Int32) (fun x11 =>
          (f_X12_cliff_b4 n) x11 (v2 + 1) s10
          )
          )
          )
        else
          (f_X12_cliff_b4 n) v1 (v2 + 1) s6
        )
      else
        (f_X12_cliff_b4 n) v1 (v2 + 1) s4
      )
set_option maxRecDepth 100000 in
theorem w_X12_cliff_b4 {d : Nat} {Q : Qt} (n : Nat) : ∀ (v1 : Int32) (v2 : Int32) (s : Sg), OQ (f_X12_cliff_b4 n v1 v2 s) (fun r9 s9 => Q (some (.int r9)) s9) → Y_X12_cliff d Q 4 [(0, .ref 0), (1, .int v1), (2, .int v2)] [] s := by
  induction n with
  | zero => intro v1 v2 s H; exact H.elim
  | succ n ih =>
    intro v1 v2 s H
    unfold f_X12_cliff_b4 at H
    refine Wp.r_iload_n2 (pc := 4) o_X12_cliff rfl rfl (Wp.f_al0_gfr (pc := 5) o_X12_cliff rfl rfl rfl fk_M_0_0 (Wp.r_iconst (pc := 9) o_X12_cliff rfl (Wp.r_iaload (pc := 10) o_X12_cliff rfl ak_M_1 (show (vp_in 0 2880) ∧ Y_X12_cliff d Q 11 [(0, .ref 0), (1, .int v1), (2, .int v2)] [.int (s.1 1 0), .int v2] s from ⟨by unfold vp_in; decide, ?_⟩))))
    refine Wp.r_icmp_ge (pc := 11) o_X12_cliff rfl (fun c9 => ?_) (fun c9 => ?_)
    · have H := oq_t c9 H
      refine Wp.r_aload_n0 (pc := 59) o_X12_cliff rfl rfl (Wp.r_iload_n1 (pc := 60) o_X12_cliff rfl rfl (Wp.r_cv2 (pc := 61) o_X12_cliff rfl fk_M_0_0 (⟨rm8_ rfl, ?_⟩)))
      refine w_X12_gives (d := d + 1) _ ?_
      refine oq_bd H (fun r1 s2 H => ?_)
      exact Wp.r_ireturn (pc := 64) o_X12_cliff rfl (⟨rfl, H⟩)
    · have H := oq_f c9 H
      refine Wp.r_aload_n0 (pc := 14) o_X12_cliff rfl rfl (Wp.r_iload_n2 (pc := 15) o_X12_cliff rfl rfl (Wp.r_cv2 (pc := 16) o_X12_cliff rfl fk_M_0_0 (⟨rm8_ rfl, ?_⟩)))
      refine w_X12_isGone (d := d + 1) _ ?_
      refine oq_bd H (fun r3 s4 H => ?_)
      refine Wp.r_if_ne (pc := 19) o_X12_cliff rfl (fun c9 => ?_) (fun c9 => ?_)
      · have H := oq_t c9 H
        refine Wp.r_aload_n0 (pc := 22) o_X12_cliff rfl rfl (Wp.r_iload_n2 (pc := 23) o_X12_cliff rfl rfl (Wp.r_iconst (pc := 24) o_X12_cliff rfl (Wp.r_isub (pc := 25) o_X12_cliff rfl (Wp.r_cv2 (pc := 26) o_X12_cliff rfl fk_M_0_0 (⟨rm8_ rfl, ?_⟩)))))
        refine w_X12_isGone (d := d + 1) _ ?_
        refine oq_bd H (fun r5 s6 H => ?_)
        refine Wp.r_if_ne (pc := 29) o_X12_cliff rfl (fun c9 => ?_) (fun c9 => ?_)
        · have H := oq_t c9 H
          refine Wp.r_iload_n1 (pc := 32) o_X12_cliff rfl rfl (Wp.r_aload_n0 (pc := 33) o_X12_cliff rfl rfl (Wp.r_iload_n2 (pc := 34) o_X12_cliff rfl rfl (Wp.r_cv2 (pc := 35) o_X12_cliff rfl fk_M_0_0 (⟨rm8_ rfl, ?_⟩))))
          refine w_X12_grainsOn (d := d) _ ?_
          refine oq_bd H (fun r7 s8 H => ?_)
          refine Wp.r_aload_n0 (pc := 38) o_X12_cliff rfl rfl (Wp.r_iload_n2 (pc := 39) o_X12_cliff rfl rfl (Wp.r_iconst (pc := 40) o_X12_cliff rfl (Wp.r_isub (pc := 41) o_X12_cliff rfl (Wp.r_cv2 (pc := 42) o_X12_cliff rfl fk_M_0_0 (⟨rm8_ rfl, ?_⟩)))))
          refine w_X12_grainsOn (d := d) _ ?_
          refine oq_bd H (fun r9 s10 H => ?_)
          refine Wp.r_isub (pc := 45) o_X12_cliff rfl (Wp.r_abs (pc := 46) o_X12_cliff rfl (⟨rm8_ rfl, ?_⟩))
          refine Wp.r_max (pc := 49) o_X12_cliff rfl (⟨rm8_ rfl, ?_⟩)
          refine Wp.r_istore_n1 (pc := 52) o_X12_cliff rfl (show Y_X12_cliff d Q 53 [(1, .int (if v1 < (if 0 ≤ (r7 - r9) then (r7 - r9) else 0 - (r7 - r9)) then (if 0 ≤ (r7 - r9) then (r7 - r9) else 0 - (r7 - r9)) else v1)), (0, .ref 0), (2, .int v2)] [] s10 from ?_)
          revert H
          generalize (if v1 < (if 0 ≤ (r7 - r9) then (r7 - r9) else 0 - (r7 - r9)) then (if 0 ≤ (r7 - r9) then (r7 - r9) else 0 - (r7 - r9)) else v1 : Int32) = x11
          intro H
          have H := nmx_e H
          exact Wp.f_iinc_goto (pc := 53) o_X12_cliff rfl rfl rfl (Wp.weak2 [2, 1, 0] (ih _ _ _ H) rfl)
        · have H := oq_f c9 H
          exact Wp.f_iinc_goto (pc := 53) o_X12_cliff rfl rfl rfl (Wp.weak2 [1, 2, 0] (ih _ _ _ H) rfl)
      · have H := oq_f c9 H
        exact Wp.f_iinc_goto (pc := 53) o_X12_cliff rfl rfl rfl (Wp.weak2 [1, 2, 0] (ih _ _ _ H) rfl)
noncomputable def f_X12_cliff  (s : Sg) : Option (Int32 × Sg) :=
  f_X12_cliff_b4 BIG 0 1 s
set_option maxRecDepth 100000 in
theorem w_X12_cliff {d : Nat} {s : Sg} {Q : Qt}  (H : OQ (f_X12_cliff  s) (fun r9 s9 => Q (some (.int r9)) s9)) : WpM SHM MT (d + 3) 296 [.ref 0] s Q := by
  refine WpM.enter me_X12_cliff rfl rfl ?_
  show Y_X12_cliff d Q 0 [(0, .ref 0)] [] s
  unfold f_X12_cliff at H
  exact Wp.r_iconst (pc := 0) o_X12_cliff rfl (Wp.r_istore_n1 (pc := 1) o_X12_cliff rfl (Wp.r_iconst (pc := 2) o_X12_cliff rfl (Wp.r_istore_n2 (pc := 3) o_X12_cliff rfl (Wp.weak2 [2, 1, 0] (w_X12_cliff_b4 _ _ _ _ H) rfl))))
noncomputable abbrev Y_X12_steps (d : Nat) (Q : Qt) : Xt := Wp SHM (WpM SHM MT (d + 2)) (flat2 cq_X12_steps) (some .int) Q
noncomputable def f_X12_steps_b106 (k_19 : Int32 → Int32 → Int32 → Sg → Option (Int32 × Sg)) (v1 : Int32) (v2 : Int32) (v3 : Int32) (t0 : Int32) (s : Sg) : Option (Int32 × Sg) :=
  bd (f_X12_isGone v3 s) (fun r13 s14 =>
  if r13 = 0 then
    if t0 = 0 then
      k_19 v1 (v2 + 0) (v3 + 1) s14
    else
      k_19 v1 (v2 + 1) (v3 + 1) s14
  else
    k_19 v1 (v2 + 0) (v3 + 1) s14
  )
set_option maxRecDepth 100000 in
theorem w_X12_steps_b106 {d : Nat} {Q : Qt} (k_19 : Int32 → Int32 → Int32 → Sg → Option (Int32 × Sg)) (h_19 : ∀ (v1 : Int32) (v2 : Int32) (v3 : Int32) s, OQ (k_19 v1 v2 v3 s) (fun r9 s9 => Q (some (.int r9)) s9) → Y_X12_steps d Q 19 [(0, .ref 0), (1, .int v1), (2, .int v2), (3, .int v3)] [] s) (v1 : Int32) (v2 : Int32) (v3 : Int32) (t0 : Int32) (s : Sg) (H : OQ (f_X12_steps_b106 k_19 v1 v2 v3 t0 s) (fun r9 s9 => Q (some (.int r9)) s9)) : Y_X12_steps d Q 106 [(0, .ref 0), (1, .int v1), (2, .int v2), (3, .int v3)] [.int t0] s := by
  unfold f_X12_steps_b106 at H
  refine Wp.r_istore (pc := 106) o_X12_steps rfl (Wp.r_iload_n2 (pc := 108) o_X12_steps rfl rfl (Wp.r_aload_n0 (pc := 109) o_X12_steps rfl rfl (Wp.r_iload_n3 (pc := 110) o_X12_steps rfl rfl (Wp.r_cv2 (pc := 111) o_X12_steps rfl fk_M_0_0 (⟨rm8_ rfl, ?_⟩)))))
  refine w_X12_isGone (d := d + 1) _ ?_
  refine oq_bd H (fun r13 s14 H => ?_)
  refine Wp.r_if_ne (pc := 114) o_X12_steps rfl (fun c9 => ?_) (fun c9 => ?_)
  · have H := oq_t c9 H
    refine Wp.r_iload (pc := 117) o_X12_steps rfl rfl (Wp.r_if_eq (pc := 119) o_X12_steps rfl (fun c9 => ?_) (fun c9 => ?_))
    · have H := oq_t c9 H
      exact Wp.r_iconst (pc := 126) o_X12_steps rfl (Wp.r_iadd (pc := 127) o_X12_steps rfl (Wp.r_istore_n2 (pc := 128) o_X12_steps rfl (Wp.f_iinc_goto (pc := 129) o_X12_steps rfl rfl rfl (Wp.weak2 [3, 4, 1, 0] (h_19 _ _ _ _ H) rfl))))
    · have H := oq_f c9 H
      exact Wp.r_iconst (pc := 122) o_X12_steps rfl (Wp.r_goto (pc := 123) o_X12_steps rfl (Wp.r_iadd (pc := 127) o_X12_steps rfl (Wp.r_istore_n2 (pc := 128) o_X12_steps rfl (Wp.f_iinc_goto (pc := 129) o_X12_steps rfl rfl rfl (Wp.weak2 [3, 4, 1, 0] (h_19 _ _ _ _ H) rfl)))))
  · have H := oq_f c9 H
    exact Wp.r_iconst (pc := 126) o_X12_steps rfl (Wp.r_iadd (pc := 127) o_X12_steps rfl (Wp.r_istore_n2 (pc := 128) o_X12_steps rfl (Wp.f_iinc_goto (pc := 129) o_X12_steps rfl rfl rfl (Wp.weak2 [3, 4, 1, 0] (h_19 _ _ _ _ H) rfl))))
noncomputable def f_X12_steps_b19 : Nat → Int32 → Int32 → Int32 → Sg → Option (Int32 × Sg)
  | 0, _, _, _, _ => none
  | n + 1, v1, v2, v3, s =>
    if (s.1 1 0) ≤ v3 then
      bd (f_X12_gives v2 s) (fun r3 s4 =>
      some (r3, s4)
      )
    else
      bd (f_X12_houseRow v3 s) (fun r5 s6 =>
      ck (inr (r5 + 1) 2880) (
      nmx (s6.1 1 ((r5 + 1).toNatClampNeg) : Int32) (fun x8 =>
      bd (f_X12_houseRow v3 s6) (fun r9 s10 =>
      ck (inr (r9 + 2) 2880) (
      nmx (s10.1 1 ((r9 + 2).toNatClampNeg) : Int32) (fun x12 =>
      if v1 = 0 then
        if x8 ≤ 0 then
          f_X12_steps_b106 (f_X12_steps_b19 n) v1 v2 v3 0 s10
        else
          f_X12_steps_b106 (f_X12_steps_b19 n) v1 v2 v3 1 s10
      else
        if v1 = 1 then
          if x12 ≤ 0 then
            f_X12_steps_b106 (f_X12_steps_b19 n) v1 v2 v3 0 s10
          else
            f_X12_steps_b106 (f_X12_steps_b19 n) v1 v2 v3 1 s10
        else
          bd (f_X12_grainsOn v3 s10) (fun r15 s16 =>
          if (r15 + x12) = 0 then
            f_X12_steps_b106 (f_X12_steps_b19 n) v1 v2 v3 1 s16
          else
            f_X12_steps_b106 (f_X12_steps_b19 n) v1 v2 v3 0 s16
          )
      )
      )
      )
      )
      )
      )
set_option maxRecDepth 100000 in
theorem w_X12_steps_b19 {d : Nat} {Q : Qt} (n : Nat) : ∀ (v1 : Int32) (v2 : Int32) (v3 : Int32) (s : Sg), OQ (f_X12_steps_b19 n v1 v2 v3 s) (fun r9 s9 => Q (some (.int r9)) s9) → Y_X12_steps d Q 19 [(0, .ref 0), (1, .int v1), (2, .int v2), (3, .int v3)] [] s := by
  induction n with
  | zero => intro v1 v2 v3 s H; exact H.elim
  | succ n ih =>
    intro v1 v2 v3 s H
    unfold f_X12_steps_b19 at H
    refine Wp.r_iload_n3 (pc := 19) o_X12_steps rfl rfl (Wp.f_al0_gfr (pc := 20) o_X12_steps rfl rfl rfl fk_M_0_0 (Wp.r_iconst (pc := 24) o_X12_steps rfl (Wp.r_iaload (pc := 25) o_X12_steps rfl ak_M_1 (show (vp_in 0 2880) ∧ Y_X12_steps d Q 26 [(0, .ref 0), (1, .int v1), (2, .int v2), (3, .int v3)] [.int (s.1 1 0), .int v3] s from ⟨by unfold vp_in; decide, ?_⟩))))
    refine Wp.r_icmp_ge (pc := 26) o_X12_steps rfl (fun c9 => ?_) (fun c9 => ?_)
    · have H := oq_t c9 H
      refine Wp.r_aload_n0 (pc := 135) o_X12_steps rfl rfl (Wp.r_iload_n2 (pc := 136) o_X12_steps rfl rfl (Wp.r_cv2 (pc := 137) o_X12_steps rfl fk_M_0_0 (⟨rm8_ rfl, ?_⟩)))
      refine w_X12_gives (d := d + 1) _ ?_
      refine oq_bd H (fun r3 s4 H => ?_)
      exact Wp.r_ireturn (pc := 140) o_X12_steps rfl (⟨rfl, H⟩)
    · have H := oq_f c9 H
      refine Wp.f_al0_gfr (pc := 29) o_X12_steps rfl rfl rfl fk_M_0_0 (Wp.r_iload_n3 (pc := 33) o_X12_steps rfl rfl (Wp.r_cs1 (pc := 34) o_X12_steps rfl (⟨rm8_ rfl, ?_⟩)))
      refine w_X12_houseRow (d := d + 1) _ ?_
      refine oq_bd H (fun r5 s6 H => ?_)
      obtain ⟨hc7, H⟩ := oq_ck H
      refine Wp.r_iconst (pc := 37) o_X12_steps rfl (Wp.r_iadd (pc := 38) o_X12_steps rfl (Wp.r_iaload (pc := 39) o_X12_steps rfl ak_M_1 (⟨hc7, ?_⟩)))
      refine Wp.r_istore (pc := 40) o_X12_steps rfl (show Y_X12_steps d Q 42 [(4, .int (s6.1 1 ((r5 + 1).toNatClampNeg))), (0, .ref 0), (1, .int v1), (2, .int v2), (3, .int v3)] [] s6 from ?_)
      revert H
      generalize (s6.1 1 ((r5 + 1).toNatClampNeg) : Int32) = x8
      intro H
      have H := nmx_e H
      refine Wp.f_al0_gfr (pc := 42) o_X12_steps rfl rfl rfl fk_M_0_0 (Wp.r_iload_n3 (pc := 46) o_X12_steps rfl rfl (Wp.r_cs1 (pc := 47) o_X12_steps rfl (⟨rm8_ rfl, ?_⟩)))
      refine w_X12_houseRow (d := d + 1) _ ?_
      refine oq_bd H (fun r9 s10 H => ?_)
      obtain ⟨hc11, H⟩ := oq_ck H
      refine Wp.r_iconst (pc := 50) o_X12_steps rfl (Wp.r_iadd (pc := 51) o_X12_steps rfl (Wp.r_iaload (pc := 52) o_X12_steps rfl ak_M_1 (⟨hc11, ?_⟩)))
      refine Wp.r_istore (pc := 53) o_X12_steps rfl (show Y_X12_steps d Q 55 [(5, .int (s10.1 1 ((r9 + 2).toNatClampNeg))), (4, .int x8), (0, .ref 0), (1, .int v1), (2, .int v2), (3, .int v3)] [] s10 from ?_)
      revert H
      generalize (s10.1 1 ((r9 + 2).toNatClampNeg) : Int32) = x12
      intro H
      have H := nmx_e H
      refine Wp.r_iload_n1 (pc := 55) o_X12_steps rfl rfl (Wp.r_if_ne (pc := 56) o_X12_steps rfl (fun c9 => ?_) (fun c9 => ?_))
      · have H := oq_t c9 H
        refine Wp.r_iload (pc := 59) o_X12_steps rfl rfl (Wp.r_if_le (pc := 61) o_X12_steps rfl (fun c9 => ?_) (fun c9 => ?_))
        · have H := oq_t c9 H
          exact Wp.r_iconst (pc := 68) o_X12_steps rfl (Wp.r_goto (pc := 69) o_X12_steps rfl (Wp.weak2 [2, 3, 4, 5] (w_X12_steps_b106 (f_X12_steps_b19 n) ih _ _ _ _ _ H) rfl))
        · have H := oq_f c9 H
          exact Wp.r_iconst (pc := 64) o_X12_steps rfl (Wp.r_goto (pc := 65) o_X12_steps rfl (Wp.weak2 [2, 3, 4, 5] (w_X12_steps_b106 (f_X12_steps_b19 n) ih _ _ _ _ _ H) rfl))
      · have H := oq_f c9 H
        refine Wp.r_iload_n1 (pc := 72) o_X12_steps rfl rfl (Wp.r_iconst (pc := 73) o_X12_steps rfl (Wp.r_icmp_ne (pc := 74) o_X12_steps rfl (fun c9 => ?_) (fun c9 => ?_)))
        · have H := oq_t c9 H
          refine Wp.r_iload (pc := 77) o_X12_steps rfl rfl (Wp.r_if_le (pc := 79) o_X12_steps rfl (fun c9 => ?_) (fun c9 => ?_))
          · have H := oq_t c9 H
            exact Wp.r_iconst (pc := 86) o_X12_steps rfl (Wp.r_goto (pc := 87) o_X12_steps rfl (Wp.weak2 [2, 3, 4, 5] (w_X12_steps_b106 (f_X12_steps_b19 n) ih _ _ _ _ _ H) rfl))
          · have H := oq_f c9 H
            exact Wp.r_iconst (pc := 82) o_X12_steps rfl (Wp.r_goto (pc := 83) o_X12_steps rfl (Wp.weak2 [2, 3, 4, 5] (w_X12_steps_b106 (f_X12_steps_b19 n) ih _ _ _ _ _ H) rfl))
        · have H := oq_f c9 H
          refine Wp.r_aload_n0 (pc := 90) o_X12_steps rfl rfl (Wp.r_iload_n3 (pc := 91) o_X12_steps rfl rfl (Wp.r_cv2 (pc := 92) o_X12_steps rfl fk_M_0_0 (⟨rm8_ rfl, ?_⟩)))
          refine w_X12_grainsOn (d := d) _ ?_
          refine oq_bd H (fun r15 s16 H => ?_)
          refine Wp.r_iload (pc := 95) o_X12_steps rfl rfl (Wp.r_iadd (pc := 97) o_X12_steps rfl (Wp.r_if_ne (pc := 98) o_X12_steps rfl (fun c9 => ?_) (fun c9 => ?_)))
          · have H := oq_t c9 H
            exact Wp.r_iconst (pc := 101) o_X12_steps rfl (Wp.r_goto (pc := 102) o_X12_steps rfl (Wp.weak2 [2, 3, 4, 5] (w_X12_steps_b106 (f_X12_steps_b19 n) ih _ _ _ _ _ H) rfl))
          · have H := oq_f c9 H
            exact Wp.r_iconst (pc := 105) o_X12_steps rfl (Wp.weak2 [2, 3, 4, 5] (w_X12_steps_b106 (f_X12_steps_b19 n) ih _ _ _ _ _ H) rfl)
noncomputable def f_X12_steps (a1 : Int32) (s : Sg) : Option (Int32 × Sg) :=
  if a1 < 0 then
    bd (f_X12_refuse 1 s) (fun r1 s2 =>
    some (r1, s2)
    )
  else
    if a1 ≤ 2 then
      f_X12_steps_b19 BIG a1 0 0 s
    else
      bd (f_X12_refuse 1 s) (fun r17 s18 =>
      some (r17, s18)
      )
set_option maxRecDepth 100000 in
theorem w_X12_steps {d : Nat} {s : Sg} {Q : Qt} (a1 : Int32) (H : OQ (f_X12_steps a1 s) (fun r9 s9 => Q (some (.int r9)) s9)) : WpM SHM MT (d + 3) 297 [.ref 0, .int a1] s Q := by
  refine WpM.enter me_X12_steps rfl rfl ?_
  show Y_X12_steps d Q 0 [(0, .ref 0), (1, .int a1)] [] s
  unfold f_X12_steps at H
  refine Wp.r_iload_n1 (pc := 0) o_X12_steps rfl rfl (Wp.r_if_lt (pc := 1) o_X12_steps rfl (fun c9 => ?_) (fun c9 => ?_))
  · have H := oq_t c9 H
    refine Wp.f_al0_iconst (pc := 9) o_X12_steps rfl rfl rfl (Wp.r_cv2 (pc := 11) o_X12_steps rfl fk_M_0_0 (⟨rm8_ rfl, ?_⟩))
    refine w_X12_refuse (d := d + 1) _ ?_
    refine oq_bd H (fun r1 s2 H => ?_)
    exact Wp.r_ireturn (pc := 14) o_X12_steps rfl (⟨rfl, H⟩)
  · have H := oq_f c9 H
    refine Wp.r_iload_n1 (pc := 4) o_X12_steps rfl rfl (Wp.r_iconst (pc := 5) o_X12_steps rfl (Wp.r_icmp_le (pc := 6) o_X12_steps rfl (fun c9 => ?_) (fun c9 => ?_)))
    · have H := oq_t c9 H
      exact Wp.r_iconst (pc := 15) o_X12_steps rfl (Wp.r_istore_n2 (pc := 16) o_X12_steps rfl (Wp.r_iconst (pc := 17) o_X12_steps rfl (Wp.r_istore_n3 (pc := 18) o_X12_steps rfl (Wp.weak2 [2, 3, 1, 0] (w_X12_steps_b19 _ _ _ _ _ H) rfl))))
    · have H := oq_f c9 H
      refine Wp.f_al0_iconst (pc := 9) o_X12_steps rfl rfl rfl (Wp.r_cv2 (pc := 11) o_X12_steps rfl fk_M_0_0 (⟨rm8_ rfl, ?_⟩))
      refine w_X12_refuse (d := d + 1) _ ?_
      refine oq_bd H (fun r17 s18 H => ?_)
      exact Wp.r_ireturn (pc := 14) o_X12_steps rfl (⟨rfl, H⟩)
noncomputable abbrev Y_X12_costOf (d : Nat) (Q : Qt) : Xt := Wp SHM (WpM SHM MT (d + 0)) (flat2 cq_X12_costOf) (some .int) Q
noncomputable def f_X12_costOf_b88 (k_26 : Int32 → Int32 → Int32 → Int32 → Sg → Option (Int32 × Sg)) (v2 : Int32) (v3 : Int32) (v4 : Int32) (v5 : Int32) (v7 : Int32) (s : Sg) : Option (Int32 × Sg) :=
  k_26 (v2 - v7) (v3 + (v7 * v4)) v4 (v5 + 1) s
set_option maxRecDepth 100000 in
theorem w_X12_costOf_b88 {d : Nat} {Q : Qt} (k_26 : Int32 → Int32 → Int32 → Int32 → Sg → Option (Int32 × Sg)) (h_26 : ∀ (v2 : Int32) (v3 : Int32) (v4 : Int32) (v5 : Int32) s, OQ (k_26 v2 v3 v4 v5 s) (fun r9 s9 => Q (some (.int r9)) s9) → Y_X12_costOf d Q 26 [(0, .ref 0), (2, .int v2), (3, .int v3), (4, .int v4), (5, .int v5)] [] s) (v2 : Int32) (v3 : Int32) (v4 : Int32) (v5 : Int32) (v7 : Int32) (s : Sg) (H : OQ (f_X12_costOf_b88 k_26 v2 v3 v4 v5 v7 s) (fun r9 s9 => Q (some (.int r9)) s9)) : Y_X12_costOf d Q 88 [(0, .ref 0), (2, .int v2), (3, .int v3), (4, .int v4), (5, .int v5), (7, .int v7)] [] s := by
  unfold f_X12_costOf_b88 at H
  exact Wp.r_iload_n3 (pc := 88) o_X12_costOf rfl rfl (Wp.r_iload (pc := 89) o_X12_costOf rfl rfl (Wp.r_iload (pc := 91) o_X12_costOf rfl rfl (Wp.r_imul (pc := 93) o_X12_costOf rfl (Wp.r_iadd (pc := 94) o_X12_costOf rfl (Wp.r_istore_n3 (pc := 95) o_X12_costOf rfl (Wp.r_iload_n2 (pc := 96) o_X12_costOf rfl rfl (Wp.r_iload (pc := 97) o_X12_costOf rfl rfl (Wp.r_isub (pc := 99) o_X12_costOf rfl (Wp.r_istore_n2 (pc := 100) o_X12_costOf rfl (Wp.f_iinc_goto (pc := 101) o_X12_costOf rfl rfl rfl (Wp.weak2 [3, 1, 2, 4, 0] (h_26 _ _ _ _ _ H) rfl)))))))))))
noncomputable def f_X12_costOf_b75 (k_26 : Int32 → Int32 → Int32 → Int32 → Sg → Option (Int32 × Sg)) (v2 : Int32) (v3 : Int32) (v4 : Int32) (v5 : Int32) (t0 : Int32) (s : Sg) : Option (Int32 × Sg) :=
  if t0 ≤ 0 then
    f_X12_costOf_b88 k_26 v2 v3 v4 v5 t0 s
  else
    f_X12_costOf_b88 k_26 v2 v3 v4 v5 t0 (pI s 0 27 v4)
set_option maxRecDepth 100000 in
theorem w_X12_costOf_b75 {d : Nat} {Q : Qt} (k_26 : Int32 → Int32 → Int32 → Int32 → Sg → Option (Int32 × Sg)) (h_26 : ∀ (v2 : Int32) (v3 : Int32) (v4 : Int32) (v5 : Int32) s, OQ (k_26 v2 v3 v4 v5 s) (fun r9 s9 => Q (some (.int r9)) s9) → Y_X12_costOf d Q 26 [(0, .ref 0), (2, .int v2), (3, .int v3), (4, .int v4), (5, .int v5)] [] s) (v2 : Int32) (v3 : Int32) (v4 : Int32) (v5 : Int32) (t0 : Int32) (s : Sg) (H : OQ (f_X12_costOf_b75 k_26 v2 v3 v4 v5 t0 s) (fun r9 s9 => Q (some (.int r9)) s9)) : Y_X12_costOf d Q 75 [(0, .ref 0), (2, .int v2), (3, .int v3), (4, .int v4), (5, .int v5)] [.int t0] s := by
  unfold f_X12_costOf_b75 at H
  refine Wp.r_istore (pc := 75) o_X12_costOf rfl (Wp.r_iload (pc := 77) o_X12_costOf rfl rfl (Wp.r_if_le (pc := 79) o_X12_costOf rfl (fun c9 => ?_) (fun c9 => ?_)))
  · have H := oq_t c9 H
    exact Wp.weak2 [1, 2, 3, 4, 5, 0] (w_X12_costOf_b88 k_26 h_26 _ _ _ _ _ _ H) rfl
  · have H := oq_f c9 H
    exact Wp.r_aload_n0 (pc := 82) o_X12_costOf rfl rfl (Wp.r_iload (pc := 83) o_X12_costOf rfl rfl (Wp.r_pfi (pc := 85) o_X12_costOf rfl fk_M_0_27 (Wp.weak2 [1, 2, 3, 4, 5, 0] (w_X12_costOf_b88 k_26 h_26 _ _ _ _ _ _ H) rfl)))
noncomputable def f_X12_costOf_b26 (k_12 : Int32 → Int32 → Int32 → Sg → Option (Int32 × Sg)) : Nat → Int32 → Int32 → Int32 → Int32 → Sg → Option (Int32 × Sg)
  | 0, _, _, _, _, _ => none
  | n + 1, v2, v3, v4, v5, s =>
    if (s.1 1 3) ≤ v5 then
      k_12 v2 v3 (v4 + 1) s
    else
      ck (inr ((92 + (3 * v5)) + 1) 2880) (
      if (s.1 1 (((92 + (3 * v5)) + 1).toNatClampNeg)) = v4 then
        ck (inr (92 + (3 * v5)) 2880) (
        f_X12_costOf_b75 (f_X12_costOf_b26 k_12 n) v2 v3 v4 v5 (if (s.1 1 ((92 + (3 * v5)).toNatClampNeg)) < v2 then (s.1 1 ((92 + (3 * v5)).toNatClampNeg)) else v2) s
        )
      else
        f_X12_costOf_b75 (f_X12_costOf_b26 k_12 n) v2 v3 v4 v5 0 s
      )
set_option maxRecDepth 100000 in
theorem w_X12_costOf_b26 {d : Nat} {Q : Qt} (k_12 : Int32 → Int32 → Int32 → Sg → Option (Int32 × Sg)) (h_12 : ∀ (v2 : Int32) (v3 : Int32) (v4 : Int32) s, OQ (k_12 v2 v3 v4 s) (fun r9 s9 => Q (some (.int r9)) s9) → Y_X12_costOf d Q 12 [(0, .ref 0), (2, .int v2), (3, .int v3), (4, .int v4)] [] s) (n : Nat) : ∀ (v2 : Int32) (v3 : Int32) (v4 : Int32) (v5 : Int32) (s : Sg), OQ (f_X12_costOf_b26 k_12 n v2 v3 v4 v5 s) (fun r9 s9 => Q (some (.int r9)) s9) → Y_X12_costOf d Q 26 [(0, .ref 0), (2, .int v2), (3, .int v3), (4, .int v4), (5, .int v5)] [] s := by
  induction n with
  | zero => intro v2 v3 v4 v5 s H; exact H.elim
  | succ n ih =>
    intro v2 v3 v4 v5 s H
    unfold f_X12_costOf_b26 at H
    refine Wp.r_iload (pc := 26) o_X12_costOf rfl rfl (Wp.f_al0_gfr (pc := 28) o_X12_costOf rfl rfl rfl fk_M_0_0 (Wp.r_iconst (pc := 32) o_X12_costOf rfl (Wp.r_iaload (pc := 33) o_X12_costOf rfl ak_M_1 (show (vp_in 3 2880) ∧ Y_X12_costOf d Q 34 [(0, .ref 0), (2, .int v2), (3, .int v3), (4, .int v4), (5, .int v5)] [.int (s.1 1 3), .int v5] s from ⟨by unfold vp_in; decide, ?_⟩))))
    refine Wp.r_icmp_ge (pc := 34) o_X12_costOf rfl (fun c9 => ?_) (fun c9 => ?_)
    · have H := oq_t c9 H
      exact Wp.f_iinc_goto (pc := 107) o_X12_costOf rfl rfl rfl (Wp.weak2 [1, 2, 3, 0] (h_12 _ _ _ _ H) rfl)
    · have H := oq_f c9 H
      obtain ⟨hc1, H⟩ := oq_ck H
      refine Wp.r_bipush (pc := 37) o_X12_costOf rfl (Wp.r_iconst (pc := 39) o_X12_costOf rfl (Wp.r_iload (pc := 40) o_X12_costOf rfl rfl (Wp.r_imul (pc := 42) o_X12_costOf rfl (Wp.r_iadd (pc := 43) o_X12_costOf rfl (Wp.r_istore (pc := 44) o_X12_costOf rfl (Wp.f_al0_gfr (pc := 46) o_X12_costOf rfl rfl rfl fk_M_0_0 (Wp.r_iload (pc := 50) o_X12_costOf rfl rfl (Wp.r_iconst (pc := 52) o_X12_costOf rfl (Wp.r_iadd (pc := 53) o_X12_costOf rfl (Wp.r_iaload (pc := 54) o_X12_costOf rfl ak_M_1 (⟨hc1, ?_⟩)))))))))))
      refine Wp.r_iload (pc := 55) o_X12_costOf rfl rfl (Wp.r_icmp_ne (pc := 57) o_X12_costOf rfl (fun c9 => ?_) (fun c9 => ?_))
      · have H := oq_t c9 H
        obtain ⟨hc2, H⟩ := oq_ck H
        refine Wp.r_iload_n2 (pc := 60) o_X12_costOf rfl rfl (Wp.f_al0_gfr (pc := 61) o_X12_costOf rfl rfl rfl fk_M_0_0 (Wp.r_iload (pc := 65) o_X12_costOf rfl rfl (Wp.r_iaload (pc := 67) o_X12_costOf rfl ak_M_1 (⟨hc2, ?_⟩))))
        refine Wp.r_min (pc := 68) o_X12_costOf rfl (⟨rm8_ rfl, ?_⟩)
        exact Wp.r_goto (pc := 71) o_X12_costOf rfl (Wp.weak2 [1, 2, 3, 4, 5] (w_X12_costOf_b75 (f_X12_costOf_b26 k_12 n) ih _ _ _ _ _ _ H) rfl)
      · have H := oq_f c9 H
        exact Wp.r_iconst (pc := 74) o_X12_costOf rfl (Wp.weak2 [1, 2, 3, 4, 5] (w_X12_costOf_b75 (f_X12_costOf_b26 k_12 n) ih _ _ _ _ _ _ H) rfl)
noncomputable def f_X12_costOf_b12 : Nat → Int32 → Int32 → Int32 → Sg → Option (Int32 × Sg)
  | 0, _, _, _, _ => none
  | n + 1, v2, v3, v4, s =>
    if 100 ≤ v4 then
      if v2 ≤ 0 then
        some (v3, s)
      else
        some ((-1), s)
    else
      if v2 ≤ 0 then
        if v2 ≤ 0 then
          some (v3, s)
        else
          some ((-1), s)
      else
        f_X12_costOf_b26 (f_X12_costOf_b12 n) BIG v2 v3 v4 0 s
set_option maxRecDepth 100000 in
theorem w_X12_costOf_b12 {d : Nat} {Q : Qt} (n : Nat) : ∀ (v2 : Int32) (v3 : Int32) (v4 : Int32) (s : Sg), OQ (f_X12_costOf_b12 n v2 v3 v4 s) (fun r9 s9 => Q (some (.int r9)) s9) → Y_X12_costOf d Q 12 [(0, .ref 0), (2, .int v2), (3, .int v3), (4, .int v4)] [] s := by
  induction n with
  | zero => intro v2 v3 v4 s H; exact H.elim
  | succ n ih =>
    intro v2 v3 v4 s H
    unfold f_X12_costOf_b12 at H
    refine Wp.r_iload (pc := 12) o_X12_costOf rfl rfl (Wp.r_bipush (pc := 14) o_X12_costOf rfl (Wp.r_icmp_ge (pc := 16) o_X12_costOf rfl (fun c9 => ?_) (fun c9 => ?_)))
    · have H := oq_t c9 H
      refine Wp.r_iload_n2 (pc := 113) o_X12_costOf rfl rfl (Wp.r_if_le (pc := 114) o_X12_costOf rfl (fun c9 => ?_) (fun c9 => ?_))
      · have H := oq_t c9 H
        exact Wp.r_iload_n3 (pc := 121) o_X12_costOf rfl rfl (Wp.r_ireturn (pc := 122) o_X12_costOf rfl (⟨rfl, H⟩))
      · have H := oq_f c9 H
        exact Wp.r_iconst (pc := 117) o_X12_costOf rfl (Wp.r_goto (pc := 118) o_X12_costOf rfl (Wp.r_ireturn (pc := 122) o_X12_costOf rfl (⟨rfl, H⟩)))
    · have H := oq_f c9 H
      refine Wp.r_iload_n2 (pc := 19) o_X12_costOf rfl rfl (Wp.r_if_le (pc := 20) o_X12_costOf rfl (fun c9 => ?_) (fun c9 => ?_))
      · have H := oq_t c9 H
        refine Wp.r_iload_n2 (pc := 113) o_X12_costOf rfl rfl (Wp.r_if_le (pc := 114) o_X12_costOf rfl (fun c9 => ?_) (fun c9 => ?_))
        · have H := oq_t c9 H
          exact Wp.r_iload_n3 (pc := 121) o_X12_costOf rfl rfl (Wp.r_ireturn (pc := 122) o_X12_costOf rfl (⟨rfl, H⟩))
        · have H := oq_f c9 H
          exact Wp.r_iconst (pc := 117) o_X12_costOf rfl (Wp.r_goto (pc := 118) o_X12_costOf rfl (Wp.r_ireturn (pc := 122) o_X12_costOf rfl (⟨rfl, H⟩)))
      · have H := oq_f c9 H
        exact Wp.r_iconst (pc := 23) o_X12_costOf rfl (Wp.r_istore (pc := 24) o_X12_costOf rfl (Wp.weak2 [1, 2, 3, 4, 0] (w_X12_costOf_b26 (f_X12_costOf_b12 n) ih _ _ _ _ _ _ H) rfl))
noncomputable def f_X12_costOf (a1 : Int32) (s : Sg) : Option (Int32 × Sg) :=
  f_X12_costOf_b12 BIG a1 0 1 (pI s 0 27 0)
set_option maxRecDepth 100000 in
theorem w_X12_costOf {d : Nat} {s : Sg} {Q : Qt} (a1 : Int32) (H : OQ (f_X12_costOf a1 s) (fun r9 s9 => Q (some (.int r9)) s9)) : WpM SHM MT (d + 1) 311 [.ref 0, .int a1] s Q := by
  refine WpM.enter me_X12_costOf rfl rfl ?_
  show Y_X12_costOf d Q 0 [(0, .ref 0), (1, .int a1)] [] s
  unfold f_X12_costOf at H
  exact Wp.r_iload_n1 (pc := 0) o_X12_costOf rfl rfl (Wp.r_istore_n2 (pc := 1) o_X12_costOf rfl (Wp.r_iconst (pc := 2) o_X12_costOf rfl (Wp.r_istore_n3 (pc := 3) o_X12_costOf rfl (Wp.f_al0_iconst (pc := 4) o_X12_costOf rfl rfl rfl (Wp.r_pfi (pc := 6) o_X12_costOf rfl fk_M_0_27 (Wp.r_iconst (pc := 9) o_X12_costOf rfl (Wp.r_istore (pc := 10) o_X12_costOf rfl (Wp.weak2 [3, 2, 1, 0] (w_X12_costOf_b12 _ _ _ _ _ H) rfl))))))))
noncomputable abbrev Y_X12_value (d : Nat) (Q : Qt) : Xt := Wp SHM (WpM SHM MT (d + 2)) (flat2 cq_X12_value) (some .int) Q
noncomputable def f_X12_value (a1 : Int32) (s : Sg) : Option (Int32 × Sg) :=
  bd (f_X12_wrongStep a1 s) (fun r1 s2 =>
  if r1 ≤ 0 then
    bd (f_X12_grainsOn a1 s2) (fun r3 s4 =>
    bd (f_X12_costOf r3 s4) (fun r5 s6 =>
    bd (f_X12_orNone r5 s6) (fun r7 s8 =>
    some (r7, s8)
    )
    )
    )
  else
    bd (f_X12_refuse r1 s2) (fun r9 s10 =>
    some (r9, s10)
    )
  )
set_option maxRecDepth 100000 in
theorem w_X12_value {d : Nat} {s : Sg} {Q : Qt} (a1 : Int32) (H : OQ (f_X12_value a1 s) (fun r9 s9 => Q (some (.int r9)) s9)) : WpM SHM MT (d + 3) 298 [.ref 0, .int a1] s Q := by
  refine WpM.enter me_X12_value rfl rfl ?_
  show Y_X12_value d Q 0 [(0, .ref 0), (1, .int a1)] [] s
  unfold f_X12_value at H
  refine Wp.r_aload_n0 (pc := 0) o_X12_value rfl rfl (Wp.r_iload_n1 (pc := 1) o_X12_value rfl rfl (Wp.r_cv2 (pc := 2) o_X12_value rfl fk_M_0_0 (⟨rm8_ rfl, ?_⟩)))
  refine w_X12_wrongStep (d := d) _ ?_
  refine oq_bd H (fun r1 s2 H => ?_)
  refine Wp.r_istore_n2 (pc := 5) o_X12_value rfl (Wp.r_iload_n2 (pc := 6) o_X12_value rfl rfl (Wp.r_if_le (pc := 7) o_X12_value rfl (fun c9 => ?_) (fun c9 => ?_)))
  · have H := oq_t c9 H
    refine Wp.r_aload_n0 (pc := 18) o_X12_value rfl rfl (Wp.r_aload_n0 (pc := 19) o_X12_value rfl rfl (Wp.r_aload_n0 (pc := 20) o_X12_value rfl rfl (Wp.r_iload_n1 (pc := 21) o_X12_value rfl rfl (Wp.r_cv2 (pc := 22) o_X12_value rfl fk_M_0_0 (⟨rm8_ rfl, ?_⟩)))))
    refine w_X12_grainsOn (d := d) _ ?_
    refine oq_bd H (fun r3 s4 H => ?_)
    refine Wp.r_cv2 (pc := 25) o_X12_value rfl fk_M_0_0 (⟨rm8_ rfl, ?_⟩)
    refine w_X12_costOf (d := d + 1) _ ?_
    refine oq_bd H (fun r5 s6 H => ?_)
    refine Wp.r_cv2 (pc := 28) o_X12_value rfl fk_M_0_0 (⟨rm8_ rfl, ?_⟩)
    refine w_X12_orNone (d := d) _ ?_
    refine oq_bd H (fun r7 s8 H => ?_)
    exact Wp.r_ireturn (pc := 31) o_X12_value rfl (⟨rfl, H⟩)
  · have H := oq_f c9 H
    refine Wp.r_aload_n0 (pc := 10) o_X12_value rfl rfl (Wp.r_iload_n2 (pc := 11) o_X12_value rfl rfl (Wp.r_cv2 (pc := 12) o_X12_value rfl fk_M_0_0 (⟨rm8_ rfl, ?_⟩)))
    refine w_X12_refuse (d := d + 1) _ ?_
    refine oq_bd H (fun r9 s10 H => ?_)
    exact Wp.r_goto (pc := 15) o_X12_value rfl (Wp.r_ireturn (pc := 31) o_X12_value rfl (⟨rfl, H⟩))
noncomputable abbrev Y_X12_beside (d : Nat) (Q : Qt) : Xt := Wp SHM (WpM SHM MT (d + 2)) (flat2 cq_X12_beside) (some .int) Q
noncomputable def f_X12_beside_b30 (v1 : Int32) (t0 : Int32) (s : Sg) : Option (Int32 × Sg) :=
  bd (f_X12_isHouse (v1 + 1) s) (fun r5 s6 =>
  if r5 = 0 then
    bd (f_X12_gives (t0 + 0) s6) (fun r7 s8 =>
    some (r7, s8)
    )
  else
    bd (f_X12_grainsOn (v1 + 1) s6) (fun r9 s10 =>
    bd (f_X12_gives (t0 + r9) s10) (fun r11 s12 =>
    some (r11, s12)
    )
    )
  )
set_option maxRecDepth 100000 in
theorem w_X12_beside_b30 {d : Nat} {Q : Qt} (v1 : Int32) (t0 : Int32) (s : Sg) (H : OQ (f_X12_beside_b30 v1 t0 s) (fun r9 s9 => Q (some (.int r9)) s9)) : Y_X12_beside d Q 30 [(0, .ref 0), (1, .int v1)] [.int t0, .ref 0] s := by
  unfold f_X12_beside_b30 at H
  refine Wp.r_aload_n0 (pc := 30) o_X12_beside rfl rfl (Wp.r_iload_n1 (pc := 31) o_X12_beside rfl rfl (Wp.r_iconst (pc := 32) o_X12_beside rfl (Wp.r_iadd (pc := 33) o_X12_beside rfl (Wp.r_cv2 (pc := 34) o_X12_beside rfl fk_M_0_0 (⟨rm8_ rfl, ?_⟩)))))
  refine w_X12_isHouse (d := d + 1) _ ?_
  refine oq_bd H (fun r5 s6 H => ?_)
  refine Wp.r_if_eq (pc := 37) o_X12_beside rfl (fun c9 => ?_) (fun c9 => ?_)
  · have H := oq_t c9 H
    refine Wp.r_iconst (pc := 50) o_X12_beside rfl (Wp.r_iadd (pc := 51) o_X12_beside rfl (Wp.r_cv2 (pc := 52) o_X12_beside rfl fk_M_0_0 (⟨rm8_ rfl, ?_⟩)))
    refine w_X12_gives (d := d + 1) _ ?_
    refine oq_bd H (fun r7 s8 H => ?_)
    exact Wp.r_ireturn (pc := 55) o_X12_beside rfl (⟨rfl, H⟩)
  · have H := oq_f c9 H
    refine Wp.r_aload_n0 (pc := 40) o_X12_beside rfl rfl (Wp.r_iload_n1 (pc := 41) o_X12_beside rfl rfl (Wp.r_iconst (pc := 42) o_X12_beside rfl (Wp.r_iadd (pc := 43) o_X12_beside rfl (Wp.r_cv2 (pc := 44) o_X12_beside rfl fk_M_0_0 (⟨rm8_ rfl, ?_⟩)))))
    refine w_X12_grainsOn (d := d) _ ?_
    refine oq_bd H (fun r9 s10 H => ?_)
    refine Wp.r_goto (pc := 47) o_X12_beside rfl (Wp.r_iadd (pc := 51) o_X12_beside rfl (Wp.r_cv2 (pc := 52) o_X12_beside rfl fk_M_0_0 (⟨rm8_ rfl, ?_⟩)))
    refine w_X12_gives (d := d + 1) _ ?_
    refine oq_bd H (fun r11 s12 H => ?_)
    exact Wp.r_ireturn (pc := 55) o_X12_beside rfl (⟨rfl, H⟩)
noncomputable def f_X12_beside (a1 : Int32) (s : Sg) : Option (Int32 × Sg) :=
  bd (f_X12_isHouse a1 s) (fun r1 s2 =>
  if r1 = 0 then
    bd (f_X12_refuse 1 s2) (fun r3 s4 =>
    some (r3, s4)
    )
  else
    if a1 ≤ 0 then
      f_X12_beside_b30 a1 0 s2
    else
      bd (f_X12_grainsOn (a1 - 1) s2) (fun r13 s14 =>
      f_X12_beside_b30 a1 r13 s14
      )
  )
set_option maxRecDepth 100000 in
theorem w_X12_beside {d : Nat} {s : Sg} {Q : Qt} (a1 : Int32) (H : OQ (f_X12_beside a1 s) (fun r9 s9 => Q (some (.int r9)) s9)) : WpM SHM MT (d + 3) 299 [.ref 0, .int a1] s Q := by
  refine WpM.enter me_X12_beside rfl rfl ?_
  show Y_X12_beside d Q 0 [(0, .ref 0), (1, .int a1)] [] s
  unfold f_X12_beside at H
  refine Wp.r_aload_n0 (pc := 0) o_X12_beside rfl rfl (Wp.r_iload_n1 (pc := 1) o_X12_beside rfl rfl (Wp.r_cv2 (pc := 2) o_X12_beside rfl fk_M_0_0 (⟨rm8_ rfl, ?_⟩)))
  refine w_X12_isHouse (d := d + 1) _ ?_
  refine oq_bd H (fun r1 s2 H => ?_)
  refine Wp.r_if_ne (pc := 5) o_X12_beside rfl (fun c9 => ?_) (fun c9 => ?_)
  · have H := oq_t c9 H
    refine Wp.f_al0_iconst (pc := 8) o_X12_beside rfl rfl rfl (Wp.r_cv2 (pc := 10) o_X12_beside rfl fk_M_0_0 (⟨rm8_ rfl, ?_⟩))
    refine w_X12_refuse (d := d + 1) _ ?_
    refine oq_bd H (fun r3 s4 H => ?_)
    exact Wp.r_ireturn (pc := 13) o_X12_beside rfl (⟨rfl, H⟩)
  · have H := oq_f c9 H
    refine Wp.r_aload_n0 (pc := 14) o_X12_beside rfl rfl (Wp.r_iload_n1 (pc := 15) o_X12_beside rfl rfl (Wp.r_if_le (pc := 16) o_X12_beside rfl (fun c9 => ?_) (fun c9 => ?_)))
    · have H := oq_t c9 H
      exact Wp.r_iconst (pc := 29) o_X12_beside rfl (Wp.weak2 [0, 1] (w_X12_beside_b30 _ _ _ H) rfl)
    · have H := oq_f c9 H
      refine Wp.r_aload_n0 (pc := 19) o_X12_beside rfl rfl (Wp.r_iload_n1 (pc := 20) o_X12_beside rfl rfl (Wp.r_iconst (pc := 21) o_X12_beside rfl (Wp.r_isub (pc := 22) o_X12_beside rfl (Wp.r_cv2 (pc := 23) o_X12_beside rfl fk_M_0_0 (⟨rm8_ rfl, ?_⟩)))))
      refine w_X12_grainsOn (d := d) _ ?_
      refine oq_bd H (fun r13 s14 H => ?_)
      exact Wp.r_goto (pc := 26) o_X12_beside rfl (Wp.weak2 [0, 1] (w_X12_beside_b30 _ _ _ H) rfl)
noncomputable abbrev Y_X12_ghosts (d : Nat) (Q : Qt) : Xt := Wp SHM (WpM SHM MT (d + 2)) (flat2 cq_X12_ghosts) (some .int) Q
noncomputable def f_X12_ghosts_b4 : Nat → Int32 → Int32 → Sg → Option (Int32 × Sg)
  | 0, _, _, _ => none
  | n + 1, v1, v2, s =>
    if (s.1 1 1) ≤ v2 then
      bd (f_X12_gives v1 s) (fun r1 s2 =>
      some (r1, s2)
      )
    else
      bd (f_X12_quarrelHouse v2 0 s) (fun r3 s4 =>
      ck (inr r3 2880) (
      bd (f_X12_isGone (s4.1 1 r3.toNatClampNeg) s4) (fun r6 s7 =>
      if r6 = 0 then
        (f_X12_ghosts_b4 n) (v1 ||| 0) (v2 + 1) s7
      else
        bd (f_X12_quarrelHouse v2 1 s7) (fun r8 s9 =>
        ck (inr r8 2880) (
        bd (f_X12_isGone (s9.1 1 r8.toNatClampNeg) s9) (fun r11 s12 =>
        if r11 = 0 then
          (f_X12_ghosts_b4 n) (v1 ||| 0) (v2 + 1) s12
        else
          nmx (v1 ||| ((1 : Int32) <<< (v2 &&& 31)) : Int32) (fun x13 =>
          (f_X12_ghosts_b4 n) x13 (v2 + 1) s12
          )
        )
        )
        )
      )
      )
      )
set_option maxRecDepth 100000 in
theorem w_X12_ghosts_b4 {d : Nat} {Q : Qt} (n : Nat) : ∀ (v1 : Int32) (v2 : Int32) (s : Sg), OQ (f_X12_ghosts_b4 n v1 v2 s) (fun r9 s9 => Q (some (.int r9)) s9) → Y_X12_ghosts d Q 4 [(0, .ref 0), (1, .int v1), (2, .int v2)] [] s := by
  induction n with
  | zero => intro v1 v2 s H; exact H.elim
  | succ n ih =>
    intro v1 v2 s H
    unfold f_X12_ghosts_b4 at H
    refine Wp.r_iload_n2 (pc := 4) o_X12_ghosts rfl rfl (Wp.f_al0_gfr (pc := 5) o_X12_ghosts rfl rfl rfl fk_M_0_0 (Wp.r_iconst (pc := 9) o_X12_ghosts rfl (Wp.r_iaload (pc := 10) o_X12_ghosts rfl ak_M_1 (show (vp_in 1 2880) ∧ Y_X12_ghosts d Q 11 [(0, .ref 0), (1, .int v1), (2, .int v2)] [.int (s.1 1 1), .int v2] s from ⟨by unfold vp_in; decide, ?_⟩))))
    refine Wp.r_icmp_ge (pc := 11) o_X12_ghosts rfl (fun c9 => ?_) (fun c9 => ?_)
    · have H := oq_t c9 H
      refine Wp.r_aload_n0 (pc := 64) o_X12_ghosts rfl rfl (Wp.r_iload_n1 (pc := 65) o_X12_ghosts rfl rfl (Wp.r_cv2 (pc := 66) o_X12_ghosts rfl fk_M_0_0 (⟨rm8_ rfl, ?_⟩)))
      refine w_X12_gives (d := d + 1) _ ?_
      refine oq_bd H (fun r1 s2 H => ?_)
      exact Wp.r_ireturn (pc := 69) o_X12_ghosts rfl (⟨rfl, H⟩)
    · have H := oq_f c9 H
      refine Wp.r_iload_n1 (pc := 14) o_X12_ghosts rfl rfl (Wp.r_aload_n0 (pc := 15) o_X12_ghosts rfl rfl (Wp.f_al0_gfr (pc := 16) o_X12_ghosts rfl rfl rfl fk_M_0_0 (Wp.r_iload_n2 (pc := 20) o_X12_ghosts rfl rfl (Wp.r_iconst (pc := 21) o_X12_ghosts rfl (Wp.r_cs2 (pc := 22) o_X12_ghosts rfl (⟨rm8_ rfl, ?_⟩))))))
      refine w_X12_quarrelHouse (d := d) _ _ ?_
      refine oq_bd H (fun r3 s4 H => ?_)
      obtain ⟨hc5, H⟩ := oq_ck H
      refine Wp.r_iaload (pc := 25) o_X12_ghosts rfl ak_M_1 (⟨hc5, ?_⟩)
      refine Wp.r_cv2 (pc := 26) o_X12_ghosts rfl fk_M_0_0 (⟨rm8_ rfl, ?_⟩)
      refine w_X12_isGone (d := d + 1) _ ?_
      refine oq_bd H (fun r6 s7 H => ?_)
      refine Wp.r_if_eq (pc := 29) o_X12_ghosts rfl (fun c9 => ?_) (fun c9 => ?_)
      · have H := oq_t c9 H
        exact Wp.r_iconst (pc := 55) o_X12_ghosts rfl (Wp.r_ior (pc := 56) o_X12_ghosts rfl (Wp.r_istore_n1 (pc := 57) o_X12_ghosts rfl (Wp.f_iinc_goto (pc := 58) o_X12_ghosts rfl rfl rfl (Wp.weak2 [2, 1, 0] (ih _ _ _ H) rfl))))
      · have H := oq_f c9 H
        refine Wp.r_aload_n0 (pc := 32) o_X12_ghosts rfl rfl (Wp.f_al0_gfr (pc := 33) o_X12_ghosts rfl rfl rfl fk_M_0_0 (Wp.r_iload_n2 (pc := 37) o_X12_ghosts rfl rfl (Wp.r_iconst (pc := 38) o_X12_ghosts rfl (Wp.r_cs2 (pc := 39) o_X12_ghosts rfl (⟨rm8_ rfl, ?_⟩)))))
        refine w_X12_quarrelHouse (d := d) _ _ ?_
        refine oq_bd H (fun r8 s9 H => ?_)
        obtain ⟨hc10, H⟩ := oq_ck H
        refine Wp.r_iaload (pc := 42) o_X12_ghosts rfl ak_M_1 (⟨hc10, ?_⟩)
        refine Wp.r_cv2 (pc := 43) o_X12_ghosts rfl fk_M_0_0 (⟨rm8_ rfl, ?_⟩)
        refine w_X12_isGone (d := d + 1) _ ?_
        refine oq_bd H (fun r11 s12 H => ?_)
        refine Wp.r_if_eq (pc := 46) o_X12_ghosts rfl (fun c9 => ?_) (fun c9 => ?_)
        · have H := oq_t c9 H
          exact Wp.r_iconst (pc := 55) o_X12_ghosts rfl (Wp.r_ior (pc := 56) o_X12_ghosts rfl (Wp.r_istore_n1 (pc := 57) o_X12_ghosts rfl (Wp.f_iinc_goto (pc := 58) o_X12_ghosts rfl rfl rfl (Wp.weak2 [2, 1, 0] (ih _ _ _ H) rfl))))
        · have H := oq_f c9 H
          refine Wp.r_iconst (pc := 49) o_X12_ghosts rfl (Wp.r_iload_n2 (pc := 50) o_X12_ghosts rfl rfl (Wp.r_ishl (pc := 51) o_X12_ghosts rfl (Wp.r_goto (pc := 52) o_X12_ghosts rfl (Wp.r_ior (pc := 56) o_X12_ghosts rfl (Wp.r_istore_n1 (pc := 57) o_X12_ghosts rfl (show Y_X12_ghosts d Q 58 [(1, .int (v1 ||| ((1 : Int32) <<< (v2 &&& 31)))), (0, .ref 0), (2, .int v2)] [] s12 from ?_))))))
          revert H
          generalize (v1 ||| ((1 : Int32) <<< (v2 &&& 31)) : Int32) = x13
          intro H
          have H := nmx_e H
          exact Wp.f_iinc_goto (pc := 58) o_X12_ghosts rfl rfl rfl (Wp.weak2 [2, 1, 0] (ih _ _ _ H) rfl)
noncomputable def f_X12_ghosts  (s : Sg) : Option (Int32 × Sg) :=
  f_X12_ghosts_b4 BIG 0 0 s
set_option maxRecDepth 100000 in
theorem w_X12_ghosts {d : Nat} {s : Sg} {Q : Qt}  (H : OQ (f_X12_ghosts  s) (fun r9 s9 => Q (some (.int r9)) s9)) : WpM SHM MT (d + 3) 300 [.ref 0] s Q := by
  refine WpM.enter me_X12_ghosts rfl rfl ?_
  show Y_X12_ghosts d Q 0 [(0, .ref 0)] [] s
  unfold f_X12_ghosts at H
  exact Wp.r_iconst (pc := 0) o_X12_ghosts rfl (Wp.r_istore_n1 (pc := 1) o_X12_ghosts rfl (Wp.r_iconst (pc := 2) o_X12_ghosts rfl (Wp.r_istore_n2 (pc := 3) o_X12_ghosts rfl (Wp.weak2 [2, 1, 0] (w_X12_ghosts_b4 _ _ _ _ H) rfl))))
noncomputable abbrev Y_X12_couldBe (d : Nat) (Q : Qt) : Xt := Wp SHM (WpM SHM MT (d + 7)) (flat2 cq_X12_couldBe) (some .boolean) Q
noncomputable def f_X12_couldBe_b14 : Nat → Int32 → Int32 → Sg → Option (Int32 × Sg)
  | 0, _, _, _ => none
  | n + 1, v1, v2, s =>
    if (s.1 1 0) ≤ v2 then
      some (1, s)
    else
      bd (f_X12_isGone v2 s) (fun r3 s4 =>
      if r3 = 0 then
        bd (f_X12_needAt v1 v2 s4) (fun r5 s6 =>
        bd (f_X12_houseRow v2 s6) (fun r7 s8 =>
        ck (inr (r7 + 2) 2880) (
        if (s8.1 1 ((r7 + 2).toNatClampNeg)) ≤ 0 then
          bd (f_X12_grainsOn v2 s8) (fun r10 s11 =>
          if r5 ≤ r10 then
            (f_X12_couldBe_b14 n) v1 (v2 + 1) s11
          else
            some (0, s11)
          )
        else
          if r5 ≤ 0 then
            (f_X12_couldBe_b14 n) v1 (v2 + 1) s8
          else
            some (0, s8)
        )
        )
        )
      else
        (f_X12_couldBe_b14 n) v1 (v2 + 1) s4
      )
set_option maxRecDepth 100000 in
theorem w_X12_couldBe_b14 {d : Nat} {Q : Qt} (n : Nat) : ∀ (v1 : Int32) (v2 : Int32) (s : Sg), OQ (f_X12_couldBe_b14 n v1 v2 s) (fun r9 s9 => Q (some (.int r9)) s9) → Y_X12_couldBe d Q 14 [(0, .ref 0), (1, .int v1), (2, .int v2)] [] s := by
  induction n with
  | zero => intro v1 v2 s H; exact H.elim
  | succ n ih =>
    intro v1 v2 s H
    unfold f_X12_couldBe_b14 at H
    refine Wp.r_iload_n2 (pc := 14) o_X12_couldBe rfl rfl (Wp.f_al0_gfr (pc := 15) o_X12_couldBe rfl rfl rfl fk_M_0_0 (Wp.r_iconst (pc := 19) o_X12_couldBe rfl (Wp.r_iaload (pc := 20) o_X12_couldBe rfl ak_M_1 (show (vp_in 0 2880) ∧ Y_X12_couldBe d Q 21 [(0, .ref 0), (1, .int v1), (2, .int v2)] [.int (s.1 1 0), .int v2] s from ⟨by unfold vp_in; decide, ?_⟩))))
    refine Wp.r_icmp_ge (pc := 21) o_X12_couldBe rfl (fun c9 => ?_) (fun c9 => ?_)
    · have H := oq_t c9 H
      exact Wp.r_iconst (pc := 72) o_X12_couldBe rfl (Wp.r_ireturn (pc := 73) o_X12_couldBe rfl (⟨rfl, H⟩))
    · have H := oq_f c9 H
      refine Wp.r_aload_n0 (pc := 24) o_X12_couldBe rfl rfl (Wp.r_iload_n2 (pc := 25) o_X12_couldBe rfl rfl (Wp.r_cv2 (pc := 26) o_X12_couldBe rfl fk_M_0_0 (⟨rm8_ rfl, ?_⟩)))
      refine w_X12_isGone (d := d + 6) _ ?_
      refine oq_bd H (fun r3 s4 H => ?_)
      refine Wp.r_if_ne (pc := 29) o_X12_couldBe rfl (fun c9 => ?_) (fun c9 => ?_)
      · have H := oq_t c9 H
        refine Wp.r_aload_n0 (pc := 32) o_X12_couldBe rfl rfl (Wp.r_iload_n1 (pc := 33) o_X12_couldBe rfl rfl (Wp.r_iload_n2 (pc := 34) o_X12_couldBe rfl rfl (Wp.r_cv3 (pc := 35) o_X12_couldBe rfl fk_M_0_0 (⟨rm8_ rfl, ?_⟩))))
        refine w_X12_needAt (d := d + 3) _ _ ?_
        refine oq_bd H (fun r5 s6 H => ?_)
        refine Wp.f_al0_gfr (pc := 38) o_X12_couldBe rfl rfl rfl fk_M_0_0 (Wp.r_iload_n2 (pc := 42) o_X12_couldBe rfl rfl (Wp.r_cs1 (pc := 43) o_X12_couldBe rfl (⟨rm8_ rfl, ?_⟩)))
        refine w_X12_houseRow (d := d + 6) _ ?_
        refine oq_bd H (fun r7 s8 H => ?_)
        obtain ⟨hc9, H⟩ := oq_ck H
        refine Wp.r_iconst (pc := 46) o_X12_couldBe rfl (Wp.r_iadd (pc := 47) o_X12_couldBe rfl (Wp.r_iaload (pc := 48) o_X12_couldBe rfl ak_M_1 (⟨hc9, ?_⟩)))
        refine Wp.r_if_le (pc := 49) o_X12_couldBe rfl (fun c9 => ?_) (fun c9 => ?_)
        · have H := oq_t c9 H
          refine Wp.r_aload_n0 (pc := 56) o_X12_couldBe rfl rfl (Wp.r_iload_n2 (pc := 57) o_X12_couldBe rfl rfl (Wp.r_cv2 (pc := 58) o_X12_couldBe rfl fk_M_0_0 (⟨rm8_ rfl, ?_⟩)))
          refine w_X12_grainsOn (d := d + 5) _ ?_
          refine oq_bd H (fun r10 s11 H => ?_)
          refine Wp.r_icmp_le (pc := 61) o_X12_couldBe rfl (fun c9 => ?_) (fun c9 => ?_)
          · have H := oq_t c9 H
            exact Wp.f_iinc_goto (pc := 66) o_X12_couldBe rfl rfl rfl (Wp.weak2 [1, 2, 0] (ih _ _ _ H) rfl)
          · have H := oq_f c9 H
            exact Wp.r_iconst (pc := 64) o_X12_couldBe rfl (Wp.r_ireturn (pc := 65) o_X12_couldBe rfl (⟨rfl, H⟩))
        · have H := oq_f c9 H
          refine Wp.r_iconst (pc := 52) o_X12_couldBe rfl (Wp.r_goto (pc := 53) o_X12_couldBe rfl (Wp.r_icmp_le (pc := 61) o_X12_couldBe rfl (fun c9 => ?_) (fun c9 => ?_)))
          · have H := oq_t c9 H
            exact Wp.f_iinc_goto (pc := 66) o_X12_couldBe rfl rfl rfl (Wp.weak2 [1, 2, 0] (ih _ _ _ H) rfl)
          · have H := oq_f c9 H
            exact Wp.r_iconst (pc := 64) o_X12_couldBe rfl (Wp.r_ireturn (pc := 65) o_X12_couldBe rfl (⟨rfl, H⟩))
      · have H := oq_f c9 H
        exact Wp.f_iinc_goto (pc := 66) o_X12_couldBe rfl rfl rfl (Wp.weak2 [1, 2, 0] (ih _ _ _ H) rfl)
noncomputable def f_X12_couldBe (a1 : Int32) (s : Sg) : Option (Int32 × Sg) :=
  bd (f_X12_setOf 3 s) (fun r1 s2 =>
  if (a1 &&& r1) = 0 then
    f_X12_couldBe_b14 BIG a1 0 s2
  else
    some (0, s2)
  )
set_option maxRecDepth 100000 in
theorem w_X12_couldBe {d : Nat} {s : Sg} {Q : Qt} (a1 : Int32) (H : OQ (f_X12_couldBe a1 s) (fun r9 s9 => Q (some (.int r9)) s9)) : WpM SHM MT (d + 8) 303 [.ref 0, .int a1] s Q := by
  refine WpM.enter me_X12_couldBe rfl rfl ?_
  show Y_X12_couldBe d Q 0 [(0, .ref 0), (1, .int a1)] [] s
  unfold f_X12_couldBe at H
  refine Wp.r_iload_n1 (pc := 0) o_X12_couldBe rfl rfl (Wp.f_al0_iconst (pc := 1) o_X12_couldBe rfl rfl rfl (Wp.r_cv2 (pc := 3) o_X12_couldBe rfl fk_M_0_0 (⟨rm8_ rfl, ?_⟩)))
  refine w_X12_setOf (d := d) _ ?_
  refine oq_bd H (fun r1 s2 H => ?_)
  refine Wp.r_iand (pc := 6) o_X12_couldBe rfl (Wp.r_if_eq (pc := 7) o_X12_couldBe rfl (fun c9 => ?_) (fun c9 => ?_))
  · have H := oq_t c9 H
    exact Wp.r_iconst (pc := 12) o_X12_couldBe rfl (Wp.r_istore_n2 (pc := 13) o_X12_couldBe rfl (Wp.weak2 [1, 2, 0] (w_X12_couldBe_b14 _ _ _ _ H) rfl))
  · have H := oq_f c9 H
    exact Wp.r_iconst (pc := 10) o_X12_couldBe rfl (Wp.r_ireturn (pc := 11) o_X12_couldBe rfl (⟨rfl, H⟩))
noncomputable abbrev Y_X12_most (d : Nat) (Q : Qt) : Xt := Wp SHM (WpM SHM MT (d + 8)) (flat2 cq_X12_most) (some .int) Q
noncomputable def f_X12_most_b4 : Nat → Int32 → Int32 → Sg → Option (Int32 × Sg)
  | 0, _, _, _ => none
  | n + 1, v1, v2, s =>
    if ((1 : Int32) <<< ((s.1 1 1) &&& 31)) ≤ v2 then
      bd (f_X12_gives v1 s) (fun r1 s2 =>
      some (r1, s2)
      )
    else
      bd (f_X12_bits v2 s) (fun r3 s4 =>
      bd (f_X12_bits v1 s4) (fun r5 s6 =>
      if r3 ≤ r5 then
        (f_X12_most_b4 n) v1 (v2 + 1) s6
      else
        bd (f_X12_couldBe v2 s6) (fun r7 s8 =>
        if r7 = 0 then
          (f_X12_most_b4 n) v1 (v2 + 1) s8
        else
          (f_X12_most_b4 n) v2 (v2 + 1) s8
        )
      )
      )
set_option maxRecDepth 100000 in
theorem w_X12_most_b4 {d : Nat} {Q : Qt} (n : Nat) : ∀ (v1 : Int32) (v2 : Int32) (s : Sg), OQ (f_X12_most_b4 n v1 v2 s) (fun r9 s9 => Q (some (.int r9)) s9) → Y_X12_most d Q 4 [(0, .ref 0), (1, .int v1), (2, .int v2)] [] s := by
  induction n with
  | zero => intro v1 v2 s H; exact H.elim
  | succ n ih =>
    intro v1 v2 s H
    unfold f_X12_most_b4 at H
    refine Wp.r_iload_n2 (pc := 4) o_X12_most rfl rfl (Wp.r_iconst (pc := 5) o_X12_most rfl (Wp.f_al0_gfr (pc := 6) o_X12_most rfl rfl rfl fk_M_0_0 (Wp.r_iconst (pc := 10) o_X12_most rfl (Wp.r_iaload (pc := 11) o_X12_most rfl ak_M_1 (show (vp_in 1 2880) ∧ Y_X12_most d Q 12 [(0, .ref 0), (1, .int v1), (2, .int v2)] [.int (s.1 1 1), .int 1, .int v2] s from ⟨by unfold vp_in; decide, ?_⟩)))))
    refine Wp.r_ishl (pc := 12) o_X12_most rfl (Wp.r_icmp_ge (pc := 13) o_X12_most rfl (fun c9 => ?_) (fun c9 => ?_))
    · have H := oq_t c9 H
      refine Wp.r_aload_n0 (pc := 43) o_X12_most rfl rfl (Wp.r_iload_n1 (pc := 44) o_X12_most rfl rfl (Wp.r_cv2 (pc := 45) o_X12_most rfl fk_M_0_0 (⟨rm8_ rfl, ?_⟩)))
      refine w_X12_gives (d := d + 7) _ ?_
      refine oq_bd H (fun r1 s2 H => ?_)
      exact Wp.r_ireturn (pc := 48) o_X12_most rfl (⟨rfl, H⟩)
    · have H := oq_f c9 H
      refine Wp.r_iload_n2 (pc := 16) o_X12_most rfl rfl (Wp.r_cs1 (pc := 17) o_X12_most rfl (⟨rm8_ rfl, ?_⟩))
      refine w_X12_bits (d := d + 7) _ ?_
      refine oq_bd H (fun r3 s4 H => ?_)
      refine Wp.r_iload_n1 (pc := 20) o_X12_most rfl rfl (Wp.r_cs1 (pc := 21) o_X12_most rfl (⟨rm8_ rfl, ?_⟩))
      refine w_X12_bits (d := d + 7) _ ?_
      refine oq_bd H (fun r5 s6 H => ?_)
      refine Wp.r_icmp_le (pc := 24) o_X12_most rfl (fun c9 => ?_) (fun c9 => ?_)
      · have H := oq_t c9 H
        exact Wp.f_iinc_goto (pc := 37) o_X12_most rfl rfl rfl (Wp.weak2 [1, 2, 0] (ih _ _ _ H) rfl)
      · have H := oq_f c9 H
        refine Wp.r_aload_n0 (pc := 27) o_X12_most rfl rfl (Wp.r_iload_n2 (pc := 28) o_X12_most rfl rfl (Wp.r_cv2 (pc := 29) o_X12_most rfl fk_M_0_0 (⟨rm8_ rfl, ?_⟩)))
        refine w_X12_couldBe (d := d) _ ?_
        refine oq_bd H (fun r7 s8 H => ?_)
        refine Wp.r_if_eq (pc := 32) o_X12_most rfl (fun c9 => ?_) (fun c9 => ?_)
        · have H := oq_t c9 H
          exact Wp.f_iinc_goto (pc := 37) o_X12_most rfl rfl rfl (Wp.weak2 [1, 2, 0] (ih _ _ _ H) rfl)
        · have H := oq_f c9 H
          exact Wp.r_iload_n2 (pc := 35) o_X12_most rfl rfl (Wp.r_istore_n1 (pc := 36) o_X12_most rfl (Wp.f_iinc_goto (pc := 37) o_X12_most rfl rfl rfl (Wp.weak2 [2, 1, 0] (ih _ _ _ H) rfl)))
noncomputable def f_X12_most  (s : Sg) : Option (Int32 × Sg) :=
  f_X12_most_b4 BIG 0 1 s
set_option maxRecDepth 100000 in
theorem w_X12_most {d : Nat} {s : Sg} {Q : Qt}  (H : OQ (f_X12_most  s) (fun r9 s9 => Q (some (.int r9)) s9)) : WpM SHM MT (d + 9) 304 [.ref 0] s Q := by
  refine WpM.enter me_X12_most rfl rfl ?_
  show Y_X12_most d Q 0 [(0, .ref 0)] [] s
  unfold f_X12_most at H
  exact Wp.r_iconst (pc := 0) o_X12_most rfl (Wp.r_istore_n1 (pc := 1) o_X12_most rfl (Wp.r_iconst (pc := 2) o_X12_most rfl (Wp.r_istore_n2 (pc := 3) o_X12_most rfl (Wp.weak2 [2, 1, 0] (w_X12_most_b4 _ _ _ _ H) rfl))))
