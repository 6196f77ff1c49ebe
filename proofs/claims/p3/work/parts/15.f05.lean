noncomputable abbrev Y_X12_wrongPlace (d : Nat) (Q : Qt) : Xt := Wp SHM (WpM SHM MT (d + 1)) (flat2 cq_X12_wrongPlace) (some .int) Q
noncomputable def f_X12_wrongPlace (a1 : Int32) (a2 : Int32) (s : Sg) : Option (Int32 × Sg) :=
  bd (f_X12_isTray a1 s) (fun r1 s2 =>
  if r1 = 0 then
    some (1, s2)
  else
    ck (inr a1 4) (
    if (s2.1 4 a1.toNatClampNeg) = (-1) then
      some (2, s2)
    else
      if a2 < 0 then
        some (3, s2)
      else
        if a2 < (s2.1 4 a1.toNatClampNeg) then
          some (0, s2)
        else
          some (3, s2)
    )
  )
set_option maxRecDepth 100000 in
theorem w_X12_wrongPlace {d : Nat} {s : Sg} {Q : Qt} (a1 : Int32) (a2 : Int32) (H : OQ (f_X12_wrongPlace a1 a2 s) (fun r9 s9 => Q (some (.int r9)) s9)) : WpM SHM MT (d + 2) 198 [.ref 0, .int a1, .int a2] s Q := by
  refine WpM.enter me_X12_wrongPlace rfl rfl ?_
  show Y_X12_wrongPlace d Q 0 [(0, .ref 0), (1, .int a1), (2, .int a2)] [] s
  unfold f_X12_wrongPlace at H
  refine Wp.r_iload_n1 (pc := 0) o_X12_wrongPlace rfl rfl (Wp.r_cs1 (pc := 1) o_X12_wrongPlace rfl (⟨rm8_ rfl, ?_⟩))
  refine w_X12_isTray (d := d) _ ?_
  refine oq_bd H (fun r1 s2 H => ?_)
  refine Wp.r_if_ne (pc := 4) o_X12_wrongPlace rfl (fun c9 => ?_) (fun c9 => ?_)
  · have H := oq_t c9 H
    exact Wp.r_iconst (pc := 7) o_X12_wrongPlace rfl (Wp.r_goto (pc := 8) o_X12_wrongPlace rfl (Wp.r_ireturn (pc := 44) o_X12_wrongPlace rfl (⟨rfl, H⟩)))
  · have H := oq_f c9 H
    obtain ⟨hc3, H⟩ := oq_ck H
    refine Wp.f_al0_gfr (pc := 11) o_X12_wrongPlace rfl rfl rfl fk_M_0_6 (Wp.r_iload_n1 (pc := 15) o_X12_wrongPlace rfl rfl (Wp.r_iaload (pc := 16) o_X12_wrongPlace rfl ak_M_4 (⟨hc3, ?_⟩)))
    refine Wp.r_iconst (pc := 17) o_X12_wrongPlace rfl (Wp.r_icmp_ne (pc := 18) o_X12_wrongPlace rfl (fun c9 => ?_) (fun c9 => ?_))
    · have H := oq_t c9 H
      exact Wp.r_iconst (pc := 21) o_X12_wrongPlace rfl (Wp.r_goto (pc := 22) o_X12_wrongPlace rfl (Wp.r_ireturn (pc := 44) o_X12_wrongPlace rfl (⟨rfl, H⟩)))
    · have H := oq_f c9 H
      refine Wp.r_iload_n2 (pc := 25) o_X12_wrongPlace rfl rfl (Wp.r_if_lt (pc := 26) o_X12_wrongPlace rfl (fun c9 => ?_) (fun c9 => ?_))
      · have H := oq_t c9 H
        exact Wp.r_iconst (pc := 39) o_X12_wrongPlace rfl (Wp.r_goto (pc := 40) o_X12_wrongPlace rfl (Wp.r_ireturn (pc := 44) o_X12_wrongPlace rfl (⟨rfl, H⟩)))
      · have H := oq_f c9 H
        refine Wp.r_iload_n2 (pc := 29) o_X12_wrongPlace rfl rfl (Wp.f_al0_gfr (pc := 30) o_X12_wrongPlace rfl rfl rfl fk_M_0_6 (Wp.r_iload_n1 (pc := 34) o_X12_wrongPlace rfl rfl (Wp.r_iaload (pc := 35) o_X12_wrongPlace rfl ak_M_4 (⟨hc3, ?_⟩))))
        refine Wp.r_icmp_lt (pc := 36) o_X12_wrongPlace rfl (fun c9 => ?_) (fun c9 => ?_)
        · have H := oq_t c9 H
          exact Wp.r_iconst (pc := 43) o_X12_wrongPlace rfl (Wp.r_ireturn (pc := 44) o_X12_wrongPlace rfl (⟨rfl, H⟩))
        · have H := oq_f c9 H
          exact Wp.r_iconst (pc := 39) o_X12_wrongPlace rfl (Wp.r_goto (pc := 40) o_X12_wrongPlace rfl (Wp.r_ireturn (pc := 44) o_X12_wrongPlace rfl (⟨rfl, H⟩)))
noncomputable abbrev Y_X12_cut (d : Nat) (Q : Qt) : Xt := Wp SHM (WpM SHM MT (d + 0)) (flat2 cq_X12_cut) (some .long) Q
noncomputable def f_X12_cut (a0 : Int64) (a1 : Int32) (s : Sg) : Option (Int64 × Sg) :=
  if a1 = 0 then
    some (a0.toInt32.toInt8.toInt32.toInt64, s)
  else
    if a1 = 1 then
      some (a0.toInt32.toInt16.toInt32.toInt64, s)
    else
      if a1 = 2 then
        some (a0.toInt32.toInt64, s)
      else
        some (a0, s)
set_option maxRecDepth 100000 in
theorem w_X12_cut {d : Nat} {s : Sg} {Q : Qt} (a0 : Int64) (a1 : Int32) (H : OQ (f_X12_cut a0 a1 s) (fun r9 s9 => Q (some (.long r9)) s9)) : WpM SHM MT (d + 1) 196 [.long a0, .int a1] s Q := by
  refine WpM.enter me_X12_cut rfl rfl ?_
  show Y_X12_cut d Q 0 [(0, .long a0), (2, .int a1)] [] s
  unfold f_X12_cut at H
  refine Wp.r_iload_n2 (pc := 0) o_X12_cut rfl rfl (Wp.r_if_ne (pc := 1) o_X12_cut rfl (fun c9 => ?_) (fun c9 => ?_))
  · have H := oq_t c9 H
    exact Wp.r_lload_n0 (pc := 4) o_X12_cut rfl rfl (Wp.r_l2i (pc := 5) o_X12_cut rfl (Wp.r_i2b (pc := 6) o_X12_cut rfl (Wp.r_i2l (pc := 7) o_X12_cut rfl (Wp.r_goto (pc := 8) o_X12_cut rfl (Wp.r_lreturn (pc := 35) o_X12_cut rfl (H))))))
  · have H := oq_f c9 H
    refine Wp.r_iload_n2 (pc := 11) o_X12_cut rfl rfl (Wp.r_iconst (pc := 12) o_X12_cut rfl (Wp.r_icmp_ne (pc := 13) o_X12_cut rfl (fun c9 => ?_) (fun c9 => ?_)))
    · have H := oq_t c9 H
      exact Wp.r_lload_n0 (pc := 16) o_X12_cut rfl rfl (Wp.r_l2i (pc := 17) o_X12_cut rfl (Wp.r_i2s (pc := 18) o_X12_cut rfl (Wp.r_i2l (pc := 19) o_X12_cut rfl (Wp.r_goto (pc := 20) o_X12_cut rfl (Wp.r_lreturn (pc := 35) o_X12_cut rfl (H))))))
    · have H := oq_f c9 H
      refine Wp.r_iload_n2 (pc := 23) o_X12_cut rfl rfl (Wp.r_iconst (pc := 24) o_X12_cut rfl (Wp.r_icmp_ne (pc := 25) o_X12_cut rfl (fun c9 => ?_) (fun c9 => ?_)))
      · have H := oq_t c9 H
        exact Wp.r_lload_n0 (pc := 28) o_X12_cut rfl rfl (Wp.r_l2i (pc := 29) o_X12_cut rfl (Wp.r_i2l (pc := 30) o_X12_cut rfl (Wp.r_goto (pc := 31) o_X12_cut rfl (Wp.r_lreturn (pc := 35) o_X12_cut rfl (H)))))
      · have H := oq_f c9 H
        exact Wp.r_lload_n0 (pc := 34) o_X12_cut rfl rfl (Wp.r_lreturn (pc := 35) o_X12_cut rfl (H))
noncomputable abbrev Y_X12_write (d : Nat) (Q : Qt) : Xt := Wp SHM (WpM SHM MT (d + 2)) (flat2 cq_X12_write) (some .boolean) Q
noncomputable def f_X12_write (a1 : Int32) (a2 : Int32) (a3 : Int64) (s : Sg) : Option (Int32 × Sg) :=
  bd (f_X12_wrongPlace a1 a2 s) (fun r1 s2 =>
  if r1 = 0 then
    ck (inr a1 4) (
    bd (f_X12_cut a3 (s2.1 3 a1.toNatClampNeg) s2) (fun r4 s5 =>
    ck (inr ((60 * a1) + a2) 240) (
    nmx (pL s5 5 (((60 * a1) + a2).toNatClampNeg) r4) (fun s7 =>
    bd (f_X12_is r1 s7) (fun r8 s9 =>
    ck (r8 = 0 ∨ r8 = 1) (some (r8, s9))
    )
    )
    )
    )
    )
  else
    bd (f_X12_is r1 s2) (fun r10 s11 =>
    ck (r10 = 0 ∨ r10 = 1) (some (r10, s11))
    )
  )
set_option maxRecDepth 100000 in
theorem w_X12_write {d : Nat} {s : Sg} {Q : Qt} (a1 : Int32) (a2 : Int32) (a3 : Int64) (H : OQ (f_X12_write a1 a2 a3 s) (fun r9 s9 => Q (some (.int r9)) s9)) : WpM SHM MT (d + 3) 199 [.ref 0, .int a1, .int a2, .long a3] s Q := by
  refine WpM.enter me_X12_write rfl rfl ?_
  show Y_X12_write d Q 0 [(0, .ref 0), (1, .int a1), (2, .int a2), (3, .long a3)] [] s
  unfold f_X12_write at H
  refine Wp.r_aload_n0 (pc := 0) o_X12_write rfl rfl (Wp.r_iload_n1 (pc := 1) o_X12_write rfl rfl (Wp.r_iload_n2 (pc := 2) o_X12_write rfl rfl (Wp.r_cv3 (pc := 3) o_X12_write rfl fk_M_0_0 (⟨rm8_ rfl, ?_⟩))))
  refine w_X12_wrongPlace (d := d) _ _ ?_
  refine oq_bd H (fun r1 s2 H => ?_)
  refine Wp.r_istore (pc := 6) o_X12_write rfl (Wp.r_iload (pc := 8) o_X12_write rfl rfl (Wp.r_if_ne (pc := 10) o_X12_write rfl (fun c9 => ?_) (fun c9 => ?_)))
  · have H := oq_t c9 H
    obtain ⟨hc3, H⟩ := oq_ck H
    refine Wp.f_al0_gfr (pc := 13) o_X12_write rfl rfl rfl fk_M_0_7 (Wp.r_bipush (pc := 17) o_X12_write rfl (Wp.r_iload_n1 (pc := 19) o_X12_write rfl rfl (Wp.r_imul (pc := 20) o_X12_write rfl (Wp.r_iload_n2 (pc := 21) o_X12_write rfl rfl (Wp.r_iadd (pc := 22) o_X12_write rfl (Wp.r_lload_n3 (pc := 23) o_X12_write rfl rfl (Wp.f_al0_gfr (pc := 24) o_X12_write rfl rfl rfl fk_M_0_5 (Wp.r_iload_n1 (pc := 28) o_X12_write rfl rfl (Wp.r_iaload (pc := 29) o_X12_write rfl ak_M_3 (⟨hc3, ?_⟩))))))))))
    refine Wp.r_cs2 (pc := 30) o_X12_write rfl (⟨rm8_ rfl, ?_⟩)
    refine w_X12_cut (d := d + 1) _ _ ?_
    refine oq_bd H (fun r4 s5 H => ?_)
    obtain ⟨hc6, H⟩ := oq_ck H
    refine Wp.r_lastore (pc := 33) o_X12_write rfl ak_M_5 (⟨hc6, ?_⟩)
    revert H
    generalize pL s5 5 (((60 * a1) + a2).toNatClampNeg) r4 = s7
    intro H
    have H := nmx_e H
    refine Wp.r_aload_n0 (pc := 34) o_X12_write rfl rfl (Wp.r_iload (pc := 35) o_X12_write rfl rfl (Wp.r_cv2 (pc := 37) o_X12_write rfl fk_M_0_0 (⟨rm8_ rfl, ?_⟩)))
    refine w_X12_is (d := d + 1) _ ?_
    refine oq_bd H (fun r8 s9 H => ?_)
    obtain ⟨c9, H⟩ := oq_ck H
    exact Wp.r_ireturn (pc := 40) o_X12_write rfl (⟨b01_n c9, H⟩)
  · have H := oq_f c9 H
    refine Wp.r_aload_n0 (pc := 34) o_X12_write rfl rfl (Wp.r_iload (pc := 35) o_X12_write rfl rfl (Wp.r_cv2 (pc := 37) o_X12_write rfl fk_M_0_0 (⟨rm8_ rfl, ?_⟩)))
    refine w_X12_is (d := d + 1) _ ?_
    refine oq_bd H (fun r10 s11 H => ?_)
    obtain ⟨c9, H⟩ := oq_ck H
    exact Wp.r_ireturn (pc := 40) o_X12_write rfl (⟨b01_n c9, H⟩)
noncomputable abbrev Y_X12_read (d : Nat) (Q : Qt) : Xt := Wp SHM (WpM SHM MT (d + 2)) (flat2 cq_X12_read) (some .long) Q
noncomputable def f_X12_read (a1 : Int32) (a2 : Int32) (s : Sg) : Option (Int64 × Sg) :=
  bd (f_X12_wrongPlace a1 a2 s) (fun r1 s2 =>
  if ((pI s2 0 2 r1).1 0 2) ≤ 0 then
    ck (inr ((60 * a1) + a2) 240) (
    some ((pI s2 0 2 r1).2 5 (((60 * a1) + a2).toNatClampNeg), pI s2 0 2 r1)
    )
  else
    some ((-1), pI s2 0 2 r1)
  )
set_option maxRecDepth 100000 in
theorem w_X12_read {d : Nat} {s : Sg} {Q : Qt} (a1 : Int32) (a2 : Int32) (H : OQ (f_X12_read a1 a2 s) (fun r9 s9 => Q (some (.long r9)) s9)) : WpM SHM MT (d + 3) 200 [.ref 0, .int a1, .int a2] s Q := by
  refine WpM.enter me_X12_read rfl rfl ?_
  show Y_X12_read d Q 0 [(0, .ref 0), (1, .int a1), (2, .int a2)] [] s
  unfold f_X12_read at H
  refine Wp.r_aload_n0 (pc := 0) o_X12_read rfl rfl (Wp.r_aload_n0 (pc := 1) o_X12_read rfl rfl (Wp.r_iload_n1 (pc := 2) o_X12_read rfl rfl (Wp.r_iload_n2 (pc := 3) o_X12_read rfl rfl (Wp.r_cv3 (pc := 4) o_X12_read rfl fk_M_0_0 (⟨rm8_ rfl, ?_⟩)))))
  refine w_X12_wrongPlace (d := d) _ _ ?_
  refine oq_bd H (fun r1 s2 H => ?_)
  refine Wp.r_pfi (pc := 7) o_X12_read rfl fk_M_0_2 (Wp.f_al0_gfi (pc := 10) o_X12_read rfl rfl rfl fk_M_0_2 (Wp.r_if_le (pc := 14) o_X12_read rfl (fun c9 => ?_) (fun c9 => ?_)))
  · have H := oq_t c9 H
    obtain ⟨hc3, H⟩ := oq_ck H
    refine Wp.f_al0_gfr (pc := 23) o_X12_read rfl rfl rfl fk_M_0_7 (Wp.r_bipush (pc := 27) o_X12_read rfl (Wp.r_iload_n1 (pc := 29) o_X12_read rfl rfl (Wp.r_imul (pc := 30) o_X12_read rfl (Wp.r_iload_n2 (pc := 31) o_X12_read rfl rfl (Wp.r_iadd (pc := 32) o_X12_read rfl (Wp.r_laload (pc := 33) o_X12_read rfl ak_M_5 (⟨hc3, ?_⟩)))))))
    exact Wp.r_lreturn (pc := 34) o_X12_read rfl (H)
  · have H := oq_f c9 H
    exact Wp.r_ldc2_w (pc := 17) o_X12_read rfl (Wp.r_goto (pc := 20) o_X12_read rfl (Wp.r_lreturn (pc := 34) o_X12_read rfl (H)))
noncomputable abbrev Y_X12_pour (d : Nat) (Q : Qt) : Xt := Wp SHM (WpM SHM MT (d + 1)) (flat2 cq_X12_pour) (some .boolean) Q
noncomputable def f_X12_pour_b143 (k_118 : Int32 → Int32 → Int32 → Int32 → Int32 → Int32 → Sg → Option (Int32 × Sg)) (v1 : Int32) (v2 : Int32) (v3 : Int32) (v4 : Int32) (v5 : Int32) (v6 : Int32) (t0 : Int32) (s : Sg) : Option (Int32 × Sg) :=
  ck (inr (((60 * v1) + v2) + t0) 240) (
  ck (inr (((60 * v3) + v4) + t0) 240) (
  nmx (pL s 5 ((((60 * v3) + v4) + t0).toNatClampNeg) (s.2 5 ((((60 * v1) + v2) + t0).toNatClampNeg))) (fun s25 =>
  k_118 v1 v2 v3 v4 v5 (v6 + 1) s25
  )
  )
  )
set_option maxRecDepth 100000 in
theorem w_X12_pour_b143 {d : Nat} {Q : Qt} (k_118 : Int32 → Int32 → Int32 → Int32 → Int32 → Int32 → Sg → Option (Int32 × Sg)) (h_118 : ∀ (v1 : Int32) (v2 : Int32) (v3 : Int32) (v4 : Int32) (v5 : Int32) (v6 : Int32) s, OQ (k_118 v1 v2 v3 v4 v5 v6 s) (fun r9 s9 => Q (some (.int r9)) s9) → Y_X12_pour d Q 118 [(0, .ref 0), (1, .int v1), (2, .int v2), (3, .int v3), (4, .int v4), (5, .int v5), (6, .int v6)] [] s) (v1 : Int32) (v2 : Int32) (v3 : Int32) (v4 : Int32) (v5 : Int32) (v6 : Int32) (t0 : Int32) (s : Sg) (H : OQ (f_X12_pour_b143 k_118 v1 v2 v3 v4 v5 v6 t0 s) (fun r9 s9 => Q (some (.int r9)) s9)) : Y_X12_pour d Q 143 [(0, .ref 0), (1, .int v1), (2, .int v2), (3, .int v3), (4, .int v4), (5, .int v5), (6, .int v6)] [.int t0] s := by
  unfold f_X12_pour_b143 at H
  obtain ⟨hc23, H⟩ := oq_ck H
  refine Wp.r_istore (pc := 143) o_X12_pour rfl (Wp.f_al0_gfr (pc := 145) o_X12_pour rfl rfl rfl fk_M_0_7 (Wp.r_bipush (pc := 149) o_X12_pour rfl (Wp.r_iload_n3 (pc := 151) o_X12_pour rfl rfl (Wp.r_imul (pc := 152) o_X12_pour rfl (Wp.r_iload (pc := 153) o_X12_pour rfl rfl (Wp.r_iadd (pc := 155) o_X12_pour rfl (Wp.r_iload (pc := 156) o_X12_pour rfl rfl (Wp.r_iadd (pc := 158) o_X12_pour rfl (Wp.f_al0_gfr (pc := 159) o_X12_pour rfl rfl rfl fk_M_0_7 (Wp.r_bipush (pc := 163) o_X12_pour rfl (Wp.r_iload_n1 (pc := 165) o_X12_pour rfl rfl (Wp.r_imul (pc := 166) o_X12_pour rfl (Wp.r_iload_n2 (pc := 167) o_X12_pour rfl rfl (Wp.r_iadd (pc := 168) o_X12_pour rfl (Wp.r_iload (pc := 169) o_X12_pour rfl rfl (Wp.r_iadd (pc := 171) o_X12_pour rfl (Wp.r_laload (pc := 172) o_X12_pour rfl ak_M_5 (⟨hc23, ?_⟩))))))))))))))))))
  obtain ⟨hc24, H⟩ := oq_ck H
  refine Wp.r_lastore (pc := 173) o_X12_pour rfl ak_M_5 (⟨hc24, ?_⟩)
  revert H
  generalize pL s 5 ((((60 * v3) + v4) + t0).toNatClampNeg) (s.2 5 ((((60 * v1) + v2) + t0).toNatClampNeg)) = s25
  intro H
  have H := nmx_e H
  exact Wp.f_iinc_goto (pc := 174) o_X12_pour rfl rfl rfl (Wp.weak2 [2, 3, 4, 5, 6, 7, 0] (h_118 _ _ _ _ _ _ _ H) rfl)
noncomputable def f_X12_pour_b118 : Nat → Int32 → Int32 → Int32 → Int32 → Int32 → Int32 → Sg → Option (Int32 × Sg)
  | 0, _, _, _, _, _, _, _ => none
  | n + 1, v1, v2, v3, v4, v5, v6, s =>
    if v5 ≤ v6 then
      bd (f_X12_is 0 s) (fun r21 s22 =>
      ck (r21 = 0 ∨ r21 = 1) (some (r21, s22))
      )
    else
      if v4 ≤ v2 then
        f_X12_pour_b143 (f_X12_pour_b118 n) v1 v2 v3 v4 v5 v6 v6 s
      else
        f_X12_pour_b143 (f_X12_pour_b118 n) v1 v2 v3 v4 v5 v6 ((v5 - 1) - v6) s
set_option maxRecDepth 100000 in
theorem w_X12_pour_b118 {d : Nat} {Q : Qt} (n : Nat) : ∀ (v1 : Int32) (v2 : Int32) (v3 : Int32) (v4 : Int32) (v5 : Int32) (v6 : Int32) (s : Sg), OQ (f_X12_pour_b118 n v1 v2 v3 v4 v5 v6 s) (fun r9 s9 => Q (some (.int r9)) s9) → Y_X12_pour d Q 118 [(0, .ref 0), (1, .int v1), (2, .int v2), (3, .int v3), (4, .int v4), (5, .int v5), (6, .int v6)] [] s := by
  induction n with
  | zero => intro v1 v2 v3 v4 v5 v6 s H; exact H.elim
  | succ n ih =>
    intro v1 v2 v3 v4 v5 v6 s H
    unfold f_X12_pour_b118 at H
    refine Wp.r_iload (pc := 118) o_X12_pour rfl rfl (Wp.r_iload (pc := 120) o_X12_pour rfl rfl (Wp.r_icmp_ge (pc := 122) o_X12_pour rfl (fun c9 => ?_) (fun c9 => ?_)))
    · have H := oq_t c9 H
      refine Wp.f_al0_iconst (pc := 180) o_X12_pour rfl rfl rfl (Wp.r_cv2 (pc := 182) o_X12_pour rfl fk_M_0_0 (⟨rm8_ rfl, ?_⟩))
      refine w_X12_is (d := d) _ ?_
      refine oq_bd H (fun r21 s22 H => ?_)
      obtain ⟨c9, H⟩ := oq_ck H
      exact Wp.r_ireturn (pc := 185) o_X12_pour rfl (⟨b01_n c9, H⟩)
    · have H := oq_f c9 H
      refine Wp.r_iload_n2 (pc := 125) o_X12_pour rfl rfl (Wp.r_iload (pc := 126) o_X12_pour rfl rfl (Wp.r_icmp_ge (pc := 128) o_X12_pour rfl (fun c9 => ?_) (fun c9 => ?_)))
      · have H := oq_t c9 H
        exact Wp.r_iload (pc := 141) o_X12_pour rfl rfl (Wp.weak2 [0, 1, 2, 3, 4, 5, 6] (w_X12_pour_b143 (f_X12_pour_b118 n) ih _ _ _ _ _ _ _ _ H) rfl)
      · have H := oq_f c9 H
        exact Wp.r_iload (pc := 131) o_X12_pour rfl rfl (Wp.r_iconst (pc := 133) o_X12_pour rfl (Wp.r_isub (pc := 134) o_X12_pour rfl (Wp.r_iload (pc := 135) o_X12_pour rfl rfl (Wp.r_isub (pc := 137) o_X12_pour rfl (Wp.r_goto (pc := 138) o_X12_pour rfl (Wp.weak2 [0, 1, 2, 3, 4, 5, 6] (w_X12_pour_b143 (f_X12_pour_b118 n) ih _ _ _ _ _ _ _ _ H) rfl))))))
noncomputable def f_X12_pour (a1 : Int32) (a2 : Int32) (a3 : Int32) (a4 : Int32) (a5 : Int32) (s : Sg) : Option (Int32 × Sg) :=
  bd (f_X12_isTray a1 s) (fun r1 s2 =>
  if r1 = 0 then
    bd (f_X12_is 1 s2) (fun r3 s4 =>
    ck (r3 = 0 ∨ r3 = 1) (some (r3, s4))
    )
  else
    bd (f_X12_isTray a3 s2) (fun r5 s6 =>
    if r5 = 0 then
      bd (f_X12_is 1 s6) (fun r7 s8 =>
      ck (r7 = 0 ∨ r7 = 1) (some (r7, s8))
      )
    else
      if a2 < 0 then
        bd (f_X12_is 1 s6) (fun r9 s10 =>
        ck (r9 = 0 ∨ r9 = 1) (some (r9, s10))
        )
      else
        if a4 < 0 then
          bd (f_X12_is 1 s6) (fun r11 s12 =>
          ck (r11 = 0 ∨ r11 = 1) (some (r11, s12))
          )
        else
          if 0 ≤ a5 then
            ck (inr a1 4) (
            if (s6.1 4 a1.toNatClampNeg) = (-1) then
              bd (f_X12_is 2 s6) (fun r14 s15 =>
              ck (r14 = 0 ∨ r14 = 1) (some (r14, s15))
              )
            else
              ck (inr a3 4) (
              if (s6.1 4 a3.toNatClampNeg) = (-1) then
                bd (f_X12_is 2 s6) (fun r17 s18 =>
                ck (r17 = 0 ∨ r17 = 1) (some (r17, s18))
                )
              else
                if (s6.1 3 a1.toNatClampNeg) = (s6.1 3 a3.toNatClampNeg) then
                  if ((s6.1 4 a1.toNatClampNeg) - a2) < a5 then
                    bd (f_X12_is 3 s6) (fun r19 s20 =>
                    ck (r19 = 0 ∨ r19 = 1) (some (r19, s20))
                    )
                  else
                    if a5 ≤ ((s6.1 4 a3.toNatClampNeg) - a4) then
                      f_X12_pour_b118 BIG a1 a2 a3 a4 a5 0 s6
                    else
                      bd (f_X12_is 3 s6) (fun r26 s27 =>
                      ck (r26 = 0 ∨ r26 = 1) (some (r26, s27))
                      )
                else
                  bd (f_X12_is 8 s6) (fun r28 s29 =>
                  ck (r28 = 0 ∨ r28 = 1) (some (r28, s29))
                  )
              )
            )
          else
            bd (f_X12_is 1 s6) (fun r30 s31 =>
            ck (r30 = 0 ∨ r30 = 1) (some (r30, s31))
            )
    )
  )
set_option maxRecDepth 100000 in
theorem w_X12_pour {d : Nat} {s : Sg} {Q : Qt} (a1 : Int32) (a2 : Int32) (a3 : Int32) (a4 : Int32) (a5 : Int32) (H : OQ (f_X12_pour a1 a2 a3 a4 a5 s) (fun r9 s9 => Q (some (.int r9)) s9)) : WpM SHM MT (d + 2) 201 [.ref 0, .int a1, .int a2, .int a3, .int a4, .int a5] s Q := by
  refine WpM.enter me_X12_pour rfl rfl ?_
  show Y_X12_pour d Q 0 [(0, .ref 0), (1, .int a1), (2, .int a2), (3, .int a3), (4, .int a4), (5, .int a5)] [] s
  unfold f_X12_pour at H
  refine Wp.r_iload_n1 (pc := 0) o_X12_pour rfl rfl (Wp.r_cs1 (pc := 1) o_X12_pour rfl (⟨rm8_ rfl, ?_⟩))
  refine w_X12_isTray (d := d) _ ?_
  refine oq_bd H (fun r1 s2 H => ?_)
  refine Wp.r_if_eq (pc := 4) o_X12_pour rfl (fun c9 => ?_) (fun c9 => ?_)
  · have H := oq_t c9 H
    refine Wp.f_al0_iconst (pc := 28) o_X12_pour rfl rfl rfl (Wp.r_cv2 (pc := 30) o_X12_pour rfl fk_M_0_0 (⟨rm8_ rfl, ?_⟩))
    refine w_X12_is (d := d) _ ?_
    refine oq_bd H (fun r3 s4 H => ?_)
    obtain ⟨c9, H⟩ := oq_ck H
    exact Wp.r_ireturn (pc := 33) o_X12_pour rfl (⟨b01_n c9, H⟩)
  · have H := oq_f c9 H
    refine Wp.r_iload_n3 (pc := 7) o_X12_pour rfl rfl (Wp.r_cs1 (pc := 8) o_X12_pour rfl (⟨rm8_ rfl, ?_⟩))
    refine w_X12_isTray (d := d) _ ?_
    refine oq_bd H (fun r5 s6 H => ?_)
    refine Wp.r_if_eq (pc := 11) o_X12_pour rfl (fun c9 => ?_) (fun c9 => ?_)
    · have H := oq_t c9 H
      refine Wp.f_al0_iconst (pc := 28) o_X12_pour rfl rfl rfl (Wp.r_cv2 (pc := 30) o_X12_pour rfl fk_M_0_0 (⟨rm8_ rfl, ?_⟩))
      refine w_X12_is (d := d) _ ?_
      refine oq_bd H (fun r7 s8 H => ?_)
      obtain ⟨c9, H⟩ := oq_ck H
      exact Wp.r_ireturn (pc := 33) o_X12_pour rfl (⟨b01_n c9, H⟩)
    · have H := oq_f c9 H
      refine Wp.r_iload_n2 (pc := 14) o_X12_pour rfl rfl (Wp.r_if_lt (pc := 15) o_X12_pour rfl (fun c9 => ?_) (fun c9 => ?_))
      · have H := oq_t c9 H
        refine Wp.f_al0_iconst (pc := 28) o_X12_pour rfl rfl rfl (Wp.r_cv2 (pc := 30) o_X12_pour rfl fk_M_0_0 (⟨rm8_ rfl, ?_⟩))
        refine w_X12_is (d := d) _ ?_
        refine oq_bd H (fun r9 s10 H => ?_)
        obtain ⟨c9, H⟩ := oq_ck H
        exact Wp.r_ireturn (pc := 33) o_X12_pour rfl (⟨b01_n c9, H⟩)
      · have H := oq_f c9 H
        refine Wp.r_iload (pc := 18) o_X12_pour rfl rfl (Wp.r_if_lt (pc := 20) o_X12_pour rfl (fun c9 => ?_) (fun c9 => ?_))
        · have H := oq_t c9 H
          refine Wp.f_al0_iconst (pc := 28) o_X12_pour rfl rfl rfl (Wp.r_cv2 (pc := 30) o_X12_pour rfl fk_M_0_0 (⟨rm8_ rfl, ?_⟩))
          refine w_X12_is (d := d) _ ?_
          refine oq_bd H (fun r11 s12 H => ?_)
          obtain ⟨c9, H⟩ := oq_ck H
          exact Wp.r_ireturn (pc := 33) o_X12_pour rfl (⟨b01_n c9, H⟩)
        · have H := oq_f c9 H
          refine Wp.r_iload (pc := 23) o_X12_pour rfl rfl (Wp.r_if_ge (pc := 25) o_X12_pour rfl (fun c9 => ?_) (fun c9 => ?_))
          · have H := oq_t c9 H
            obtain ⟨hc13, H⟩ := oq_ck H
            refine Wp.f_al0_gfr (pc := 34) o_X12_pour rfl rfl rfl fk_M_0_6 (Wp.r_iload_n1 (pc := 38) o_X12_pour rfl rfl (Wp.r_iaload (pc := 39) o_X12_pour rfl ak_M_4 (⟨hc13, ?_⟩)))
            refine Wp.r_iconst (pc := 40) o_X12_pour rfl (Wp.r_icmp_eq (pc := 41) o_X12_pour rfl (fun c9 => ?_) (fun c9 => ?_))
            · have H := oq_t c9 H
              refine Wp.f_al0_iconst (pc := 54) o_X12_pour rfl rfl rfl (Wp.r_cv2 (pc := 56) o_X12_pour rfl fk_M_0_0 (⟨rm8_ rfl, ?_⟩))
              refine w_X12_is (d := d) _ ?_
              refine oq_bd H (fun r14 s15 H => ?_)
              obtain ⟨c9, H⟩ := oq_ck H
              exact Wp.r_ireturn (pc := 59) o_X12_pour rfl (⟨b01_n c9, H⟩)
            · have H := oq_f c9 H
              obtain ⟨hc16, H⟩ := oq_ck H
              refine Wp.f_al0_gfr (pc := 44) o_X12_pour rfl rfl rfl fk_M_0_6 (Wp.r_iload_n3 (pc := 48) o_X12_pour rfl rfl (Wp.r_iaload (pc := 49) o_X12_pour rfl ak_M_4 (⟨hc16, ?_⟩)))
              refine Wp.r_iconst (pc := 50) o_X12_pour rfl (Wp.r_icmp_ne (pc := 51) o_X12_pour rfl (fun c9 => ?_) (fun c9 => ?_))
              · have H := oq_t c9 H
                refine Wp.f_al0_iconst (pc := 54) o_X12_pour rfl rfl rfl (Wp.r_cv2 (pc := 56) o_X12_pour rfl fk_M_0_0 (⟨rm8_ rfl, ?_⟩))
                refine w_X12_is (d := d) _ ?_
                refine oq_bd H (fun r17 s18 H => ?_)
                obtain ⟨c9, H⟩ := oq_ck H
                exact Wp.r_ireturn (pc := 59) o_X12_pour rfl (⟨b01_n c9, H⟩)
              · have H := oq_f c9 H
                refine Wp.f_al0_gfr (pc := 60) o_X12_pour rfl rfl rfl fk_M_0_5 (Wp.r_iload_n1 (pc := 64) o_X12_pour rfl rfl (Wp.r_iaload (pc := 65) o_X12_pour rfl ak_M_3 (⟨hc13, ?_⟩)))
                refine Wp.f_al0_gfr (pc := 66) o_X12_pour rfl rfl rfl fk_M_0_5 (Wp.r_iload_n3 (pc := 70) o_X12_pour rfl rfl (Wp.r_iaload (pc := 71) o_X12_pour rfl ak_M_3 (⟨hc16, ?_⟩)))
                refine Wp.r_icmp_eq (pc := 72) o_X12_pour rfl (fun c9 => ?_) (fun c9 => ?_)
                · have H := oq_t c9 H
                  refine Wp.r_iload (pc := 82) o_X12_pour rfl rfl (Wp.f_al0_gfr (pc := 84) o_X12_pour rfl rfl rfl fk_M_0_6 (Wp.r_iload_n1 (pc := 88) o_X12_pour rfl rfl (Wp.r_iaload (pc := 89) o_X12_pour rfl ak_M_4 (⟨hc13, ?_⟩))))
                  refine Wp.r_iload_n2 (pc := 90) o_X12_pour rfl rfl (Wp.r_isub (pc := 91) o_X12_pour rfl (Wp.r_icmp_gt (pc := 92) o_X12_pour rfl (fun c9 => ?_) (fun c9 => ?_)))
                  · have H := oq_t c9 H
                    refine Wp.f_al0_iconst (pc := 109) o_X12_pour rfl rfl rfl (Wp.r_cv2 (pc := 111) o_X12_pour rfl fk_M_0_0 (⟨rm8_ rfl, ?_⟩))
                    refine w_X12_is (d := d) _ ?_
                    refine oq_bd H (fun r19 s20 H => ?_)
                    obtain ⟨c9, H⟩ := oq_ck H
                    exact Wp.r_ireturn (pc := 114) o_X12_pour rfl (⟨b01_n c9, H⟩)
                  · have H := oq_f c9 H
                    refine Wp.r_iload (pc := 95) o_X12_pour rfl rfl (Wp.f_al0_gfr (pc := 97) o_X12_pour rfl rfl rfl fk_M_0_6 (Wp.r_iload_n3 (pc := 101) o_X12_pour rfl rfl (Wp.r_iaload (pc := 102) o_X12_pour rfl ak_M_4 (⟨hc16, ?_⟩))))
                    refine Wp.r_iload (pc := 103) o_X12_pour rfl rfl (Wp.r_isub (pc := 105) o_X12_pour rfl (Wp.r_icmp_le (pc := 106) o_X12_pour rfl (fun c9 => ?_) (fun c9 => ?_)))
                    · have H := oq_t c9 H
                      exact Wp.r_iconst (pc := 115) o_X12_pour rfl (Wp.r_istore (pc := 116) o_X12_pour rfl (Wp.weak2 [1, 2, 3, 4, 5, 6, 0] (w_X12_pour_b118 _ _ _ _ _ _ _ _ H) rfl))
                    · have H := oq_f c9 H
                      refine Wp.f_al0_iconst (pc := 109) o_X12_pour rfl rfl rfl (Wp.r_cv2 (pc := 111) o_X12_pour rfl fk_M_0_0 (⟨rm8_ rfl, ?_⟩))
                      refine w_X12_is (d := d) _ ?_
                      refine oq_bd H (fun r26 s27 H => ?_)
                      obtain ⟨c9, H⟩ := oq_ck H
                      exact Wp.r_ireturn (pc := 114) o_X12_pour rfl (⟨b01_n c9, H⟩)
                · have H := oq_f c9 H
                  refine Wp.r_aload_n0 (pc := 75) o_X12_pour rfl rfl (Wp.r_bipush (pc := 76) o_X12_pour rfl (Wp.r_cv2 (pc := 78) o_X12_pour rfl fk_M_0_0 (⟨rm8_ rfl, ?_⟩)))
                  refine w_X12_is (d := d) _ ?_
                  refine oq_bd H (fun r28 s29 H => ?_)
                  obtain ⟨c9, H⟩ := oq_ck H
                  exact Wp.r_ireturn (pc := 81) o_X12_pour rfl (⟨b01_n c9, H⟩)
          · have H := oq_f c9 H
            refine Wp.f_al0_iconst (pc := 28) o_X12_pour rfl rfl rfl (Wp.r_cv2 (pc := 30) o_X12_pour rfl fk_M_0_0 (⟨rm8_ rfl, ?_⟩))
            refine w_X12_is (d := d) _ ?_
            refine oq_bd H (fun r30 s31 H => ?_)
            obtain ⟨c9, H⟩ := oq_ck H
            exact Wp.r_ireturn (pc := 33) o_X12_pour rfl (⟨b01_n c9, H⟩)
noncomputable abbrev Y_X12_four (d : Nat) (Q : Qt) : Xt := Wp SHM (WpM SHM MT (d + 0)) (flat2 cq_X12_four) (none) Q
noncomputable def f_X12_four_b3 : Nat → Int32 → Int32 → Sg → Option (Unit × Sg)
  | 0, _, _, _ => none
  | n + 1, v1, v2, s =>
    if v2 < 0 then
      some ((), s)
    else
      ck (inr (s.1 0 10) 900) (
      nmx (pI s 6 ((s.1 0 10).toNatClampNeg) (vp_nar .byte ((v1 >>> (v2 &&& 31)).toInt8.toInt32))) (fun s2 =>
      (f_X12_four_b3 n) v1 (v2 + (-8)) (pI s2 0 10 ((s2.1 0 10) + 1))
      )
      )
set_option maxRecDepth 100000 in
theorem w_X12_four_b3 {d : Nat} {Q : Qt} (n : Nat) : ∀ (v1 : Int32) (v2 : Int32) (s : Sg), OQ (f_X12_four_b3 n v1 v2 s) (fun _ s9 => Q none s9) → Y_X12_four d Q 3 [(0, .ref 0), (1, .int v1), (2, .int v2)] [] s := by
  induction n with
  | zero => intro v1 v2 s H; exact H.elim
  | succ n ih =>
    intro v1 v2 s H
    unfold f_X12_four_b3 at H
    refine Wp.r_iload_n2 (pc := 3) o_X12_four rfl rfl (Wp.r_if_lt (pc := 4) o_X12_four rfl (fun c9 => ?_) (fun c9 => ?_))
    · have H := oq_t c9 H
      exact Wp.r_return (pc := 36) o_X12_four rfl (H)
    · have H := oq_f c9 H
      obtain ⟨hc1, H⟩ := oq_ck H
      refine Wp.f_al0_gfr (pc := 7) o_X12_four rfl rfl rfl fk_M_0_8 (Wp.f_al0_gfi (pc := 11) o_X12_four rfl rfl rfl fk_M_0_10 (Wp.r_iload_n1 (pc := 15) o_X12_four rfl rfl (Wp.r_iload_n2 (pc := 16) o_X12_four rfl rfl (Wp.r_ishr (pc := 17) o_X12_four rfl (Wp.r_i2b (pc := 18) o_X12_four rfl (Wp.r_bastore (pc := 19) o_X12_four rfl ak_M_6 (⟨hc1, ?_⟩)))))))
      revert H
      generalize pI s 6 ((s.1 0 10).toNatClampNeg) (vp_nar .byte ((v1 >>> (v2 &&& 31)).toInt8.toInt32)) = s2
      intro H
      have H := nmx_e H
      exact Wp.r_aload_n0 (pc := 20) o_X12_four rfl rfl (Wp.r_dup_r (pc := 21) o_X12_four rfl (Wp.r_gfi (pc := 22) o_X12_four rfl fk_M_0_10 (Wp.r_iconst (pc := 25) o_X12_four rfl (Wp.r_iadd (pc := 26) o_X12_four rfl (Wp.r_pfi (pc := 27) o_X12_four rfl fk_M_0_10 (Wp.f_iinc_goto (pc := 30) o_X12_four rfl rfl rfl (Wp.weak2 [1, 2, 0] (ih _ _ _ H) rfl)))))))
noncomputable def f_X12_four (a1 : Int32) (s : Sg) : Option (Unit × Sg) :=
  f_X12_four_b3 BIG a1 24 s
set_option maxRecDepth 100000 in
theorem w_X12_four {d : Nat} {s : Sg} {Q : Qt} (a1 : Int32) (H : OQ (f_X12_four a1 s) (fun _ s9 => Q none s9)) : WpM SHM MT (d + 1) 204 [.ref 0, .int a1] s Q := by
  refine WpM.enter me_X12_four rfl rfl ?_
  show Y_X12_four d Q 0 [(0, .ref 0), (1, .int a1)] [] s
  unfold f_X12_four at H
  exact Wp.r_bipush (pc := 0) o_X12_four rfl (Wp.r_istore_n2 (pc := 2) o_X12_four rfl (Wp.weak2 [1, 2, 0] (w_X12_four_b3 _ _ _ _ H) rfl))
noncomputable abbrev Y_X12_feed (d : Nat) (Q : Qt) : Xt := Wp SHM (WpM SHM MT (d + 1)) (flat2 cq_X12_feed) (some .int) Q
noncomputable def f_X12_feed (a1 : Int32) (a2 : Int32) (a3 : Int32) (a4 : Int32) (a5 : Int32) (s : Sg) : Option (Int32 × Sg) :=
  if ((s.1 0 10) + 20) ≤ 900 then
    bd (f_X12_four a1 s) (fun _ s2 =>
    bd (f_X12_four a2 s2) (fun _ s4 =>
    bd (f_X12_four a3 s4) (fun _ s6 =>
    bd (f_X12_four a4 s6) (fun _ s8 =>
    bd (f_X12_four a5 s8) (fun _ s10 =>
    some (s10.1 0 10, s10)
    )
    )
    )
    )
    )
  else
    some ((-1), s)
set_option maxRecDepth 100000 in
theorem w_X12_feed {d : Nat} {s : Sg} {Q : Qt} (a1 : Int32) (a2 : Int32) (a3 : Int32) (a4 : Int32) (a5 : Int32) (H : OQ (f_X12_feed a1 a2 a3 a4 a5 s) (fun r9 s9 => Q (some (.int r9)) s9)) : WpM SHM MT (d + 2) 203 [.ref 0, .int a1, .int a2, .int a3, .int a4, .int a5] s Q := by
  refine WpM.enter me_X12_feed rfl rfl ?_
  show Y_X12_feed d Q 0 [(0, .ref 0), (1, .int a1), (2, .int a2), (3, .int a3), (4, .int a4), (5, .int a5)] [] s
  unfold f_X12_feed at H
  refine Wp.f_al0_gfi (pc := 0) o_X12_feed rfl rfl rfl fk_M_0_10 (Wp.r_bipush (pc := 4) o_X12_feed rfl (Wp.r_iadd (pc := 6) o_X12_feed rfl (Wp.r_sipush (pc := 7) o_X12_feed rfl (Wp.r_icmp_le (pc := 10) o_X12_feed rfl (fun c9 => ?_) (fun c9 => ?_)))))
  · have H := oq_t c9 H
    refine Wp.r_aload_n0 (pc := 15) o_X12_feed rfl rfl (Wp.r_iload_n1 (pc := 16) o_X12_feed rfl rfl (Wp.r_cv2 (pc := 17) o_X12_feed rfl fk_M_0_0 (⟨rm8_ rfl, ?_⟩)))
    refine w_X12_four (d := d) _ ?_
    refine oq_bd H (fun _ s2 H => ?_)
    refine Wp.r_aload_n0 (pc := 20) o_X12_feed rfl rfl (Wp.r_iload_n2 (pc := 21) o_X12_feed rfl rfl (Wp.r_cv2 (pc := 22) o_X12_feed rfl fk_M_0_0 (⟨rm8_ rfl, ?_⟩)))
    refine w_X12_four (d := d) _ ?_
    refine oq_bd H (fun _ s4 H => ?_)
    refine Wp.r_aload_n0 (pc := 25) o_X12_feed rfl rfl (Wp.r_iload_n3 (pc := 26) o_X12_feed rfl rfl (Wp.r_cv2 (pc := 27) o_X12_feed rfl fk_M_0_0 (⟨rm8_ rfl, ?_⟩)))
    refine w_X12_four (d := d) _ ?_
    refine oq_bd H (fun _ s6 H => ?_)
    refine Wp.r_aload_n0 (pc := 30) o_X12_feed rfl rfl (Wp.r_iload (pc := 31) o_X12_feed rfl rfl (Wp.r_cv2 (pc := 33) o_X12_feed rfl fk_M_0_0 (⟨rm8_ rfl, ?_⟩)))
    refine w_X12_four (d := d) _ ?_
    refine oq_bd H (fun _ s8 H => ?_)
    refine Wp.r_aload_n0 (pc := 36) o_X12_feed rfl rfl (Wp.r_iload (pc := 37) o_X12_feed rfl rfl (Wp.r_cv2 (pc := 39) o_X12_feed rfl fk_M_0_0 (⟨rm8_ rfl, ?_⟩)))
    refine w_X12_four (d := d) _ ?_
    refine oq_bd H (fun _ s10 H => ?_)
    exact Wp.f_al0_gfi (pc := 42) o_X12_feed rfl rfl rfl fk_M_0_10 (Wp.r_ireturn (pc := 46) o_X12_feed rfl (⟨rfl, H⟩))
  · have H := oq_f c9 H
    exact Wp.r_iconst (pc := 13) o_X12_feed rfl (Wp.r_ireturn (pc := 14) o_X12_feed rfl (⟨rfl, H⟩))
noncomputable abbrev Y_X12_byteAt (d : Nat) (Q : Qt) : Xt := Wp SHM (WpM SHM MT (d + 0)) (flat2 cq_X12_byteAt) (some .int) Q
noncomputable def f_X12_byteAt (a1 : Int32) (s : Sg) : Option (Int32 × Sg) :=
  if (s.1 0 11) ≤ a1 then
    some ((-1), s)
  else
    ck (inr a1 900) (
    some ((s.1 7 a1.toNatClampNeg) &&& 255, s)
    )
set_option maxRecDepth 100000 in
theorem w_X12_byteAt {d : Nat} {s : Sg} {Q : Qt} (a1 : Int32) (H : OQ (f_X12_byteAt a1 s) (fun r9 s9 => Q (some (.int r9)) s9)) : WpM SHM MT (d + 1) 205 [.ref 0, .int a1] s Q := by
  refine WpM.enter me_X12_byteAt rfl rfl ?_
  show Y_X12_byteAt d Q 0 [(0, .ref 0), (1, .int a1)] [] s
  unfold f_X12_byteAt at H
  refine Wp.r_iload_n1 (pc := 0) o_X12_byteAt rfl rfl (Wp.f_al0_gfi (pc := 1) o_X12_byteAt rfl rfl rfl fk_M_0_11 (Wp.r_icmp_ge (pc := 5) o_X12_byteAt rfl (fun c9 => ?_) (fun c9 => ?_)))
  · have H := oq_t c9 H
    exact Wp.r_iconst (pc := 21) o_X12_byteAt rfl (Wp.r_ireturn (pc := 22) o_X12_byteAt rfl (⟨rfl, H⟩))
  · have H := oq_f c9 H
    obtain ⟨hc1, H⟩ := oq_ck H
    refine Wp.f_al0_gfr (pc := 8) o_X12_byteAt rfl rfl rfl fk_M_0_9 (Wp.r_iload_n1 (pc := 12) o_X12_byteAt rfl rfl (Wp.r_baload (pc := 13) o_X12_byteAt rfl ak_M_7 (⟨hc1, ?_⟩)))
    exact Wp.r_sipush (pc := 14) o_X12_byteAt rfl (Wp.r_iand (pc := 17) o_X12_byteAt rfl (Wp.r_goto (pc := 18) o_X12_byteAt rfl (Wp.r_ireturn (pc := 22) o_X12_byteAt rfl (⟨rfl, H⟩))))
noncomputable abbrev Y_X12_isSmall (d : Nat) (Q : Qt) : Xt := Wp SHM (WpM SHM MT (d + 0)) (flat2 cq_X12_isSmall) (some .boolean) Q
noncomputable def f_X12_isSmall (a0 : Int32) (s : Sg) : Option (Int32 × Sg) :=
  if a0 < 97 then
    some (0, s)
  else
    if 122 < a0 then
      some (0, s)
    else
      some (1, s)
set_option maxRecDepth 100000 in
theorem w_X12_isSmall {d : Nat} {s : Sg} {Q : Qt} (a0 : Int32) (H : OQ (f_X12_isSmall a0 s) (fun r9 s9 => Q (some (.int r9)) s9)) : WpM SHM MT (d + 1) 206 [.int a0] s Q := by
  refine WpM.enter me_X12_isSmall rfl rfl ?_
  show Y_X12_isSmall d Q 0 [(0, .int a0)] [] s
  unfold f_X12_isSmall at H
  refine Wp.r_iload_n0 (pc := 0) o_X12_isSmall rfl rfl (Wp.r_bipush (pc := 1) o_X12_isSmall rfl (Wp.r_icmp_lt (pc := 3) o_X12_isSmall rfl (fun c9 => ?_) (fun c9 => ?_)))
  · have H := oq_t c9 H
    exact Wp.r_iconst (pc := 16) o_X12_isSmall rfl (Wp.r_ireturn (pc := 17) o_X12_isSmall rfl (⟨rfl, H⟩))
  · have H := oq_f c9 H
    refine Wp.r_iload_n0 (pc := 6) o_X12_isSmall rfl rfl (Wp.r_bipush (pc := 7) o_X12_isSmall rfl (Wp.r_icmp_gt (pc := 9) o_X12_isSmall rfl (fun c9 => ?_) (fun c9 => ?_)))
    · have H := oq_t c9 H
      exact Wp.r_iconst (pc := 16) o_X12_isSmall rfl (Wp.r_ireturn (pc := 17) o_X12_isSmall rfl (⟨rfl, H⟩))
    · have H := oq_f c9 H
      exact Wp.r_iconst (pc := 12) o_X12_isSmall rfl (Wp.r_goto (pc := 13) o_X12_isSmall rfl (Wp.r_ireturn (pc := 17) o_X12_isSmall rfl (⟨rfl, H⟩)))
noncomputable abbrev Y_X12_isDigit (d : Nat) (Q : Qt) : Xt := Wp SHM (WpM SHM MT (d + 0)) (flat2 cq_X12_isDigit) (some .boolean) Q
noncomputable def f_X12_isDigit (a0 : Int32) (s : Sg) : Option (Int32 × Sg) :=
  if a0 < 48 then
    some (0, s)
  else
    if 57 < a0 then
      some (0, s)
    else
      some (1, s)
set_option maxRecDepth 100000 in
theorem w_X12_isDigit {d : Nat} {s : Sg} {Q : Qt} (a0 : Int32) (H : OQ (f_X12_isDigit a0 s) (fun r9 s9 => Q (some (.int r9)) s9)) : WpM SHM MT (d + 1) 207 [.int a0] s Q := by
  refine WpM.enter me_X12_isDigit rfl rfl ?_
  show Y_X12_isDigit d Q 0 [(0, .int a0)] [] s
  unfold f_X12_isDigit at H
  refine Wp.r_iload_n0 (pc := 0) o_X12_isDigit rfl rfl (Wp.r_bipush (pc := 1) o_X12_isDigit rfl (Wp.r_icmp_lt (pc := 3) o_X12_isDigit rfl (fun c9 => ?_) (fun c9 => ?_)))
  · have H := oq_t c9 H
    exact Wp.r_iconst (pc := 16) o_X12_isDigit rfl (Wp.r_ireturn (pc := 17) o_X12_isDigit rfl (⟨rfl, H⟩))
  · have H := oq_f c9 H
    refine Wp.r_iload_n0 (pc := 6) o_X12_isDigit rfl rfl (Wp.r_bipush (pc := 7) o_X12_isDigit rfl (Wp.r_icmp_gt (pc := 9) o_X12_isDigit rfl (fun c9 => ?_) (fun c9 => ?_)))
    · have H := oq_t c9 H
      exact Wp.r_iconst (pc := 16) o_X12_isDigit rfl (Wp.r_ireturn (pc := 17) o_X12_isDigit rfl (⟨rfl, H⟩))
    · have H := oq_f c9 H
      exact Wp.r_iconst (pc := 12) o_X12_isDigit rfl (Wp.r_goto (pc := 13) o_X12_isDigit rfl (Wp.r_ireturn (pc := 17) o_X12_isDigit rfl (⟨rfl, H⟩)))
noncomputable abbrev Y_X12_ahead (d : Nat) (Q : Qt) : Xt := Wp SHM (WpM SHM MT (d + 1)) (flat2 cq_X12_ahead) (none) Q
noncomputable def f_X12_ahead_b128 : Nat → Sg → Option (Unit × Sg)
  | 0, _ => none
  | n + 1, s =>
    bd (f_X12_byteAt (s.1 0 14) s) (fun r16 s17 =>
    bd (f_X12_isDigit r16 s17) (fun r18 s19 =>
    if r18 = 0 then
      if ((s19.1 0 14) - (s19.1 0 13)) ≤ 4 then
        some ((), pI s19 0 12 3)
      else
        some ((), pI s19 0 12 1)
    else
      bd (f_X12_byteAt (s19.1 0 14) s19) (fun r20 s21 =>
      nmx (pI s21 0 15 (if (((10 * (s19.1 0 15)) + r20) - 48) < 100000 then (((10 * (s19.1 0 15)) + r20) - 48) else 100000)) (fun s22 =>
      (f_X12_ahead_b128 n) (pI s22 0 14 ((s22.1 0 14) + 1))
      )
      )
    )
    )
set_option maxRecDepth 100000 in
theorem w_X12_ahead_b128 {d : Nat} {Q : Qt} (n : Nat) : ∀  (s : Sg), OQ (f_X12_ahead_b128 n  s) (fun _ s9 => Q none s9) → Y_X12_ahead d Q 128 [(0, .ref 0)] [] s := by
  induction n with
  | zero => intro  s H; exact H.elim
  | succ n ih =>
    intro  s H
    unfold f_X12_ahead_b128 at H
    refine Wp.r_aload_n0 (pc := 128) o_X12_ahead rfl rfl (Wp.f_al0_gfi (pc := 129) o_X12_ahead rfl rfl rfl fk_M_0_14 (Wp.r_cv2 (pc := 133) o_X12_ahead rfl fk_M_0_0 (⟨rm8_ rfl, ?_⟩)))
    refine w_X12_byteAt (d := d) _ ?_
    refine oq_bd H (fun r16 s17 H => ?_)
    refine Wp.r_cs1 (pc := 136) o_X12_ahead rfl (⟨rm8_ rfl, ?_⟩)
    refine w_X12_isDigit (d := d) _ ?_
    refine oq_bd H (fun r18 s19 H => ?_)
    refine Wp.r_if_eq (pc := 139) o_X12_ahead rfl (fun c9 => ?_) (fun c9 => ?_)
    · have H := oq_t c9 H
      refine Wp.r_aload_n0 (pc := 183) o_X12_ahead rfl rfl (Wp.f_al0_gfi (pc := 184) o_X12_ahead rfl rfl rfl fk_M_0_14 (Wp.f_al0_gfi (pc := 188) o_X12_ahead rfl rfl rfl fk_M_0_13 (Wp.r_isub (pc := 192) o_X12_ahead rfl (Wp.r_iconst (pc := 193) o_X12_ahead rfl (Wp.r_icmp_le (pc := 194) o_X12_ahead rfl (fun c9 => ?_) (fun c9 => ?_))))))
      · have H := oq_t c9 H
        exact Wp.r_iconst (pc := 201) o_X12_ahead rfl (Wp.r_pfi (pc := 202) o_X12_ahead rfl fk_M_0_12 (Wp.r_goto (pc := 205) o_X12_ahead rfl (Wp.r_return (pc := 251) o_X12_ahead rfl (H))))
      · have H := oq_f c9 H
        exact Wp.r_iconst (pc := 197) o_X12_ahead rfl (Wp.r_goto (pc := 198) o_X12_ahead rfl (Wp.r_pfi (pc := 202) o_X12_ahead rfl fk_M_0_12 (Wp.r_goto (pc := 205) o_X12_ahead rfl (Wp.r_return (pc := 251) o_X12_ahead rfl (H)))))
    · have H := oq_f c9 H
      refine Wp.r_aload_n0 (pc := 142) o_X12_ahead rfl rfl (Wp.r_ldc (pc := 143) o_X12_ahead rfl (Wp.r_bipush (pc := 145) o_X12_ahead rfl (Wp.f_al0_gfi (pc := 147) o_X12_ahead rfl rfl rfl fk_M_0_15 (Wp.r_imul (pc := 151) o_X12_ahead rfl (Wp.r_aload_n0 (pc := 152) o_X12_ahead rfl rfl (Wp.f_al0_gfi (pc := 153) o_X12_ahead rfl rfl rfl fk_M_0_14 (Wp.r_cv2 (pc := 157) o_X12_ahead rfl fk_M_0_0 (⟨rm8_ rfl, ?_⟩))))))))
      refine w_X12_byteAt (d := d) _ ?_
      refine oq_bd H (fun r20 s21 H => ?_)
      refine Wp.r_iadd (pc := 160) o_X12_ahead rfl (Wp.r_bipush (pc := 161) o_X12_ahead rfl (Wp.r_isub (pc := 163) o_X12_ahead rfl (Wp.r_min (pc := 164) o_X12_ahead rfl (⟨rm8_ rfl, ?_⟩))))
      refine Wp.r_pfi (pc := 167) o_X12_ahead rfl fk_M_0_15 (show Y_X12_ahead d Q 170 [(0, .ref 0)] [] (pI s21 0 15 (if (((10 * (s19.1 0 15)) + r20) - 48) < 100000 then (((10 * (s19.1 0 15)) + r20) - 48) else 100000)) from ?_)
      revert H
      generalize pI s21 0 15 (if (((10 * (s19.1 0 15)) + r20) - 48) < 100000 then (((10 * (s19.1 0 15)) + r20) - 48) else 100000) = s22
      intro H
      have H := nmx_e H
      exact Wp.r_aload_n0 (pc := 170) o_X12_ahead rfl rfl (Wp.r_dup_r (pc := 171) o_X12_ahead rfl (Wp.r_gfi (pc := 172) o_X12_ahead rfl fk_M_0_14 (Wp.r_iconst (pc := 175) o_X12_ahead rfl (Wp.r_iadd (pc := 176) o_X12_ahead rfl (Wp.r_pfi (pc := 177) o_X12_ahead rfl fk_M_0_14 (Wp.r_goto (pc := 180) o_X12_ahead rfl (Wp.weak2 [0] (ih _ H) rfl)))))))
noncomputable def f_X12_ahead_b81 : Nat → Sg → Option (Unit × Sg)
  | 0, _ => none
  | n + 1, s =>
    bd (f_X12_byteAt (s.1 0 14) s) (fun r23 s24 =>
    bd (f_X12_isSmall r23 s24) (fun r25 s26 =>
    if r25 = 0 then
      some ((), pI s26 0 12 2)
    else
      (f_X12_ahead_b81 n) (pI s26 0 14 ((s26.1 0 14) + 1))
    )
    )
set_option maxRecDepth 100000 in
theorem w_X12_ahead_b81 {d : Nat} {Q : Qt} (n : Nat) : ∀  (s : Sg), OQ (f_X12_ahead_b81 n  s) (fun _ s9 => Q none s9) → Y_X12_ahead d Q 81 [(0, .ref 0)] [] s := by
  induction n with
  | zero => intro  s H; exact H.elim
  | succ n ih =>
    intro  s H
    unfold f_X12_ahead_b81 at H
    refine Wp.r_aload_n0 (pc := 81) o_X12_ahead rfl rfl (Wp.f_al0_gfi (pc := 82) o_X12_ahead rfl rfl rfl fk_M_0_14 (Wp.r_cv2 (pc := 86) o_X12_ahead rfl fk_M_0_0 (⟨rm8_ rfl, ?_⟩)))
    refine w_X12_byteAt (d := d) _ ?_
    refine oq_bd H (fun r23 s24 H => ?_)
    refine Wp.r_cs1 (pc := 89) o_X12_ahead rfl (⟨rm8_ rfl, ?_⟩)
    refine w_X12_isSmall (d := d) _ ?_
    refine oq_bd H (fun r25 s26 H => ?_)
    refine Wp.r_if_eq (pc := 92) o_X12_ahead rfl (fun c9 => ?_) (fun c9 => ?_)
    · have H := oq_t c9 H
      exact Wp.f_al0_iconst (pc := 108) o_X12_ahead rfl rfl rfl (Wp.r_pfi (pc := 110) o_X12_ahead rfl fk_M_0_12 (Wp.r_goto (pc := 113) o_X12_ahead rfl (Wp.r_return (pc := 251) o_X12_ahead rfl (H))))
    · have H := oq_f c9 H
      exact Wp.r_aload_n0 (pc := 95) o_X12_ahead rfl rfl (Wp.r_dup_r (pc := 96) o_X12_ahead rfl (Wp.r_gfi (pc := 97) o_X12_ahead rfl fk_M_0_14 (Wp.r_iconst (pc := 100) o_X12_ahead rfl (Wp.r_iadd (pc := 101) o_X12_ahead rfl (Wp.r_pfi (pc := 102) o_X12_ahead rfl fk_M_0_14 (Wp.r_goto (pc := 105) o_X12_ahead rfl (Wp.weak2 [0] (ih _ H) rfl)))))))
noncomputable def f_X12_ahead_b0 : Nat → Sg → Option (Unit × Sg)
  | 0, _ => none
  | n + 1, s =>
    bd (f_X12_byteAt (s.1 0 14) s) (fun r1 s2 =>
    if r1 = 32 then
      (f_X12_ahead_b0 n) (pI s2 0 14 ((s2.1 0 14) + 1))
    else
      bd (f_X12_byteAt (s2.1 0 14) s2) (fun r3 s4 =>
      if r3 = 10 then
        (f_X12_ahead_b0 n) (pI s4 0 14 ((s4.1 0 14) + 1))
      else
        bd (f_X12_byteAt ((pI s4 0 13 (s4.1 0 14)).1 0 14) (pI s4 0 13 (s4.1 0 14))) (fun r5 s6 =>
        if r5 = (-1) then
          some ((), pI (pI s6 0 15 r5) 0 12 0)
        else
          bd (f_X12_isSmall r5 (pI s6 0 15 r5)) (fun r7 s8 =>
          if r7 = 0 then
            bd (f_X12_isDigit r5 s8) (fun r9 s10 =>
            if r9 = 0 then
              if r5 = 59 then
                nmx (pI (pI s10 0 14 ((s10.1 0 14) + 1)) 0 12 4) (fun s11 =>
                some ((), s11)
                )
              else
                if r5 = 60 then
                  nmx (pI (pI s10 0 14 ((s10.1 0 14) + 1)) 0 12 4) (fun s12 =>
                  some ((), s12)
                  )
                else
                  if r5 = 62 then
                    nmx (pI (pI s10 0 14 ((s10.1 0 14) + 1)) 0 12 4) (fun s13 =>
                    some ((), s13)
                    )
                  else
                    if r5 = 61 then
                      nmx (pI (pI s10 0 14 ((s10.1 0 14) + 1)) 0 12 4) (fun s14 =>
                      some ((), s14)
                      )
                    else
                      nmx (pI (pI s10 0 14 ((s10.1 0 14) + 1)) 0 12 1) (fun s15 =>
                      some ((), s15)
                      )
            else
              f_X12_ahead_b128 BIG (pI s10 0 15 0)
            )
          else
            f_X12_ahead_b81 BIG s8
          )
        )
      )
    )
set_option maxRecDepth 100000 in
theorem w_X12_ahead_b0 {d : Nat} {Q : Qt} (n : Nat) : ∀  (s : Sg), OQ (f_X12_ahead_b0 n  s) (fun _ s9 => Q none s9) → Y_X12_ahead d Q 0 [(0, .ref 0)] [] s := by
  induction n with
  | zero => intro  s H; exact H.elim
  | succ n ih =>
    intro  s H
    unfold f_X12_ahead_b0 at H
    refine Wp.r_aload_n0 (pc := 0) o_X12_ahead rfl rfl (Wp.f_al0_gfi (pc := 1) o_X12_ahead rfl rfl rfl fk_M_0_14 (Wp.r_cv2 (pc := 5) o_X12_ahead rfl fk_M_0_0 (⟨rm8_ rfl, ?_⟩)))
    refine w_X12_byteAt (d := d) _ ?_
    refine oq_bd H (fun r1 s2 H => ?_)
    refine Wp.r_bipush (pc := 8) o_X12_ahead rfl (Wp.r_icmp_eq (pc := 10) o_X12_ahead rfl (fun c9 => ?_) (fun c9 => ?_))
    · have H := oq_t c9 H
      exact Wp.r_aload_n0 (pc := 26) o_X12_ahead rfl rfl (Wp.r_dup_r (pc := 27) o_X12_ahead rfl (Wp.r_gfi (pc := 28) o_X12_ahead rfl fk_M_0_14 (Wp.r_iconst (pc := 31) o_X12_ahead rfl (Wp.r_iadd (pc := 32) o_X12_ahead rfl (Wp.r_pfi (pc := 33) o_X12_ahead rfl fk_M_0_14 (Wp.r_goto (pc := 36) o_X12_ahead rfl (Wp.weak2 [0] (ih _ H) rfl)))))))
    · have H := oq_f c9 H
      refine Wp.r_aload_n0 (pc := 13) o_X12_ahead rfl rfl (Wp.f_al0_gfi (pc := 14) o_X12_ahead rfl rfl rfl fk_M_0_14 (Wp.r_cv2 (pc := 18) o_X12_ahead rfl fk_M_0_0 (⟨rm8_ rfl, ?_⟩)))
      refine w_X12_byteAt (d := d) _ ?_
      refine oq_bd H (fun r3 s4 H => ?_)
      refine Wp.r_bipush (pc := 21) o_X12_ahead rfl (Wp.r_icmp_ne (pc := 23) o_X12_ahead rfl (fun c9 => ?_) (fun c9 => ?_))
      · have H := oq_t c9 H
        exact Wp.r_aload_n0 (pc := 26) o_X12_ahead rfl rfl (Wp.r_dup_r (pc := 27) o_X12_ahead rfl (Wp.r_gfi (pc := 28) o_X12_ahead rfl fk_M_0_14 (Wp.r_iconst (pc := 31) o_X12_ahead rfl (Wp.r_iadd (pc := 32) o_X12_ahead rfl (Wp.r_pfi (pc := 33) o_X12_ahead rfl fk_M_0_14 (Wp.r_goto (pc := 36) o_X12_ahead rfl (Wp.weak2 [0] (ih _ H) rfl)))))))
      · have H := oq_f c9 H
        refine Wp.r_aload_n0 (pc := 39) o_X12_ahead rfl rfl (Wp.f_al0_gfi (pc := 40) o_X12_ahead rfl rfl rfl fk_M_0_14 (Wp.r_pfi (pc := 44) o_X12_ahead rfl fk_M_0_13 (Wp.r_aload_n0 (pc := 47) o_X12_ahead rfl rfl (Wp.f_al0_gfi (pc := 48) o_X12_ahead rfl rfl rfl fk_M_0_14 (Wp.r_cv2 (pc := 52) o_X12_ahead rfl fk_M_0_0 (⟨rm8_ rfl, ?_⟩))))))
        refine w_X12_byteAt (d := d) _ ?_
        refine oq_bd H (fun r5 s6 H => ?_)
        refine Wp.r_istore_n1 (pc := 55) o_X12_ahead rfl (Wp.r_aload_n0 (pc := 56) o_X12_ahead rfl rfl (Wp.r_iload_n1 (pc := 57) o_X12_ahead rfl rfl (Wp.r_pfi (pc := 58) o_X12_ahead rfl fk_M_0_15 (Wp.r_iload_n1 (pc := 61) o_X12_ahead rfl rfl (Wp.r_iconst (pc := 62) o_X12_ahead rfl (Wp.r_icmp_ne (pc := 63) o_X12_ahead rfl (fun c9 => ?_) (fun c9 => ?_)))))))
        · have H := oq_t c9 H
          exact Wp.f_al0_iconst (pc := 66) o_X12_ahead rfl rfl rfl (Wp.r_pfi (pc := 68) o_X12_ahead rfl fk_M_0_12 (Wp.r_goto (pc := 71) o_X12_ahead rfl (Wp.r_return (pc := 251) o_X12_ahead rfl (H))))
        · have H := oq_f c9 H
          refine Wp.r_iload_n1 (pc := 74) o_X12_ahead rfl rfl (Wp.r_cs1 (pc := 75) o_X12_ahead rfl (⟨rm8_ rfl, ?_⟩))
          refine w_X12_isSmall (d := d) _ ?_
          refine oq_bd H (fun r7 s8 H => ?_)
          refine Wp.r_if_eq (pc := 78) o_X12_ahead rfl (fun c9 => ?_) (fun c9 => ?_)
          · have H := oq_t c9 H
            refine Wp.r_iload_n1 (pc := 116) o_X12_ahead rfl rfl (Wp.r_cs1 (pc := 117) o_X12_ahead rfl (⟨rm8_ rfl, ?_⟩))
            refine w_X12_isDigit (d := d) _ ?_
            refine oq_bd H (fun r9 s10 H => ?_)
            refine Wp.r_if_eq (pc := 120) o_X12_ahead rfl (fun c9 => ?_) (fun c9 => ?_)
            · have H := oq_t c9 H
              refine Wp.r_aload_n0 (pc := 208) o_X12_ahead rfl rfl (Wp.r_dup_r (pc := 209) o_X12_ahead rfl (Wp.r_gfi (pc := 210) o_X12_ahead rfl fk_M_0_14 (Wp.r_iconst (pc := 213) o_X12_ahead rfl (Wp.r_iadd (pc := 214) o_X12_ahead rfl (Wp.r_pfi (pc := 215) o_X12_ahead rfl fk_M_0_14 (Wp.r_aload_n0 (pc := 218) o_X12_ahead rfl rfl (Wp.r_iload_n1 (pc := 219) o_X12_ahead rfl rfl (Wp.r_bipush (pc := 220) o_X12_ahead rfl (Wp.r_icmp_eq (pc := 222) o_X12_ahead rfl (fun c9 => ?_) (fun c9 => ?_))))))))))
              · have H := oq_t c9 H
                refine Wp.r_iconst (pc := 243) o_X12_ahead rfl (Wp.r_goto (pc := 244) o_X12_ahead rfl (Wp.r_pfi (pc := 248) o_X12_ahead rfl fk_M_0_12 (show Y_X12_ahead d Q 251 [(1, .int r5), (0, .ref 0)] [] (pI (pI s10 0 14 ((s10.1 0 14) + 1)) 0 12 4) from ?_)))
                revert H
                generalize pI (pI s10 0 14 ((s10.1 0 14) + 1)) 0 12 4 = s11
                intro H
                have H := nmx_e H
                exact Wp.r_return (pc := 251) o_X12_ahead rfl (H)
              · have H := oq_f c9 H
                refine Wp.r_iload_n1 (pc := 225) o_X12_ahead rfl rfl (Wp.r_bipush (pc := 226) o_X12_ahead rfl (Wp.r_icmp_eq (pc := 228) o_X12_ahead rfl (fun c9 => ?_) (fun c9 => ?_)))
                · have H := oq_t c9 H
                  refine Wp.r_iconst (pc := 243) o_X12_ahead rfl (Wp.r_goto (pc := 244) o_X12_ahead rfl (Wp.r_pfi (pc := 248) o_X12_ahead rfl fk_M_0_12 (show Y_X12_ahead d Q 251 [(1, .int r5), (0, .ref 0)] [] (pI (pI s10 0 14 ((s10.1 0 14) + 1)) 0 12 4) from ?_)))
                  revert H
                  generalize pI (pI s10 0 14 ((s10.1 0 14) + 1)) 0 12 4 = s12
                  intro H
                  have H := nmx_e H
                  exact Wp.r_return (pc := 251) o_X12_ahead rfl (H)
                · have H := oq_f c9 H
                  refine Wp.r_iload_n1 (pc := 231) o_X12_ahead rfl rfl (Wp.r_bipush (pc := 232) o_X12_ahead rfl (Wp.r_icmp_eq (pc := 234) o_X12_ahead rfl (fun c9 => ?_) (fun c9 => ?_)))
                  · have H := oq_t c9 H
                    refine Wp.r_iconst (pc := 243) o_X12_ahead rfl (Wp.r_goto (pc := 244) o_X12_ahead rfl (Wp.r_pfi (pc := 248) o_X12_ahead rfl fk_M_0_12 (show Y_X12_ahead d Q 251 [(1, .int r5), (0, .ref 0)] [] (pI (pI s10 0 14 ((s10.1 0 14) + 1)) 0 12 4) from ?_)))
                    revert H
                    generalize pI (pI s10 0 14 ((s10.1 0 14) + 1)) 0 12 4 = s13
                    intro H
                    have H := nmx_e H
                    exact Wp.r_return (pc := 251) o_X12_ahead rfl (H)
                  · have H := oq_f c9 H
                    refine Wp.r_iload_n1 (pc := 237) o_X12_ahead rfl rfl (Wp.r_bipush (pc := 238) o_X12_ahead rfl (Wp.r_icmp_ne (pc := 240) o_X12_ahead rfl (fun c9 => ?_) (fun c9 => ?_)))
                    · have H := oq_t c9 H
                      refine Wp.r_iconst (pc := 243) o_X12_ahead rfl (Wp.r_goto (pc := 244) o_X12_ahead rfl (Wp.r_pfi (pc := 248) o_X12_ahead rfl fk_M_0_12 (show Y_X12_ahead d Q 251 [(1, .int r5), (0, .ref 0)] [] (pI (pI s10 0 14 ((s10.1 0 14) + 1)) 0 12 4) from ?_)))
                      revert H
                      generalize pI (pI s10 0 14 ((s10.1 0 14) + 1)) 0 12 4 = s14
                      intro H
                      have H := nmx_e H
                      exact Wp.r_return (pc := 251) o_X12_ahead rfl (H)
                    · have H := oq_f c9 H
                      refine Wp.r_iconst (pc := 247) o_X12_ahead rfl (Wp.r_pfi (pc := 248) o_X12_ahead rfl fk_M_0_12 (show Y_X12_ahead d Q 251 [(1, .int r5), (0, .ref 0)] [] (pI (pI s10 0 14 ((s10.1 0 14) + 1)) 0 12 1) from ?_))
                      revert H
                      generalize pI (pI s10 0 14 ((s10.1 0 14) + 1)) 0 12 1 = s15
                      intro H
                      have H := nmx_e H
                      exact Wp.r_return (pc := 251) o_X12_ahead rfl (H)
            · have H := oq_f c9 H
              exact Wp.f_al0_iconst (pc := 123) o_X12_ahead rfl rfl rfl (Wp.r_pfi (pc := 125) o_X12_ahead rfl fk_M_0_15 (Wp.weak2 [1] (w_X12_ahead_b128 _ _ H) rfl))
          · have H := oq_f c9 H
            exact Wp.weak2 [1] (w_X12_ahead_b81 _ _ H) rfl
noncomputable def f_X12_ahead  (s : Sg) : Option (Unit × Sg) :=
  f_X12_ahead_b0 BIG s
set_option maxRecDepth 100000 in
theorem w_X12_ahead {d : Nat} {s : Sg} {Q : Qt}  (H : OQ (f_X12_ahead  s) (fun _ s9 => Q none s9)) : WpM SHM MT (d + 2) 208 [.ref 0] s Q := by
  refine WpM.enter me_X12_ahead rfl rfl ?_
  show Y_X12_ahead d Q 0 [(0, .ref 0)] [] s
  unfold f_X12_ahead at H
  exact Wp.weak2 [0] (w_X12_ahead_b0 _ _ H) rfl
noncomputable abbrev Y_X12_begins (d : Nat) (Q : Qt) : Xt := Wp SHM (WpM SHM MT (d + 2)) (flat2 cq_X12_begins) (some .boolean) Q
noncomputable def f_X12_begins_b26 : Nat → Int32 → Int32 → Sg → Option (Int32 × Sg)
  | 0, _, _, _ => none
  | n + 1, v1, v3, s =>
    if v1 ≤ v3 then
      nmx (pI (pI (pI s 0 10 0) 0 18 0) 0 17 (-1)) (fun s1 =>
      bd (f_X12_ahead (pI (pI s1 0 14 0) 0 19 0)) (fun _ s3 =>
      some (1, s3)
      )
      )
    else
      ck (inr v3 900) (
      nmx (pI s 7 v3.toNatClampNeg (vp_nar .byte (s.1 6 v3.toNatClampNeg))) (fun s5 =>
      (f_X12_begins_b26 n) v1 (v3 + 1) s5
      )
      )
set_option maxRecDepth 100000 in
theorem w_X12_begins_b26 {d : Nat} {Q : Qt} (n : Nat) : ∀ (v1 : Int32) (v3 : Int32) (s : Sg), OQ (f_X12_begins_b26 n v1 v3 s) (fun r9 s9 => Q (some (.int r9)) s9) → Y_X12_begins d Q 26 [(0, .ref 0), (1, .int v1), (3, .int v3)] [] s := by
  induction n with
  | zero => intro v1 v3 s H; exact H.elim
  | succ n ih =>
    intro v1 v3 s H
    unfold f_X12_begins_b26 at H
    refine Wp.r_iload_n3 (pc := 26) o_X12_begins rfl rfl (Wp.r_iload_n1 (pc := 27) o_X12_begins rfl rfl (Wp.r_icmp_ge (pc := 28) o_X12_begins rfl (fun c9 => ?_) (fun c9 => ?_)))
    · have H := oq_t c9 H
      refine Wp.f_al0_iconst (pc := 49) o_X12_begins rfl rfl rfl (Wp.r_pfi (pc := 51) o_X12_begins rfl fk_M_0_10 (Wp.f_al0_iconst (pc := 54) o_X12_begins rfl rfl rfl (Wp.r_pfi (pc := 56) o_X12_begins rfl fk_M_0_18 (Wp.f_al0_iconst (pc := 59) o_X12_begins rfl rfl rfl (Wp.r_pfi (pc := 61) o_X12_begins rfl fk_M_0_17 (show Y_X12_begins d Q 64 [(0, .ref 0), (1, .int v1), (3, .int v3)] [] (pI (pI (pI s 0 10 0) 0 18 0) 0 17 (-1)) from ?_))))))
      revert H
      generalize pI (pI (pI s 0 10 0) 0 18 0) 0 17 (-1) = s1
      intro H
      have H := nmx_e H
      refine Wp.f_al0_iconst (pc := 64) o_X12_begins rfl rfl rfl (Wp.r_pfi (pc := 66) o_X12_begins rfl fk_M_0_14 (Wp.f_al0_iconst (pc := 69) o_X12_begins rfl rfl rfl (Wp.r_pfi (pc := 71) o_X12_begins rfl fk_M_0_19 (Wp.r_aload_n0 (pc := 74) o_X12_begins rfl rfl (Wp.r_cv1 (pc := 75) o_X12_begins rfl fk_M_0_0 (⟨rm8_ rfl, ?_⟩))))))
      refine w_X12_ahead (d := d)  ?_
      refine oq_bd H (fun _ s3 H => ?_)
      exact Wp.r_iconst (pc := 78) o_X12_begins rfl (Wp.r_ireturn (pc := 79) o_X12_begins rfl (⟨rfl, H⟩))
    · have H := oq_f c9 H
      obtain ⟨hc4, H⟩ := oq_ck H
      refine Wp.f_al0_gfr (pc := 31) o_X12_begins rfl rfl rfl fk_M_0_9 (Wp.r_iload_n3 (pc := 35) o_X12_begins rfl rfl (Wp.f_al0_gfr (pc := 36) o_X12_begins rfl rfl rfl fk_M_0_8 (Wp.r_iload_n3 (pc := 40) o_X12_begins rfl rfl (Wp.r_baload (pc := 41) o_X12_begins rfl ak_M_6 (⟨hc4, ?_⟩)))))
      refine Wp.r_bastore (pc := 42) o_X12_begins rfl ak_M_7 (⟨hc4, ?_⟩)
      revert H
      generalize pI s 7 v3.toNatClampNeg (vp_nar .byte (s.1 6 v3.toNatClampNeg)) = s5
      intro H
      have H := nmx_e H
      exact Wp.f_iinc_goto (pc := 43) o_X12_begins rfl rfl rfl (Wp.weak2 [1, 2, 0] (ih _ _ _ H) rfl)
noncomputable def f_X12_begins (a1 : Int32) (a2 : Int32) (s : Sg) : Option (Int32 × Sg) :=
  if a1 < 0 then
    some (0, s)
  else
    if (s.1 0 10) < a1 then
      some (0, s)
    else
      if a1 ≤ a2 then
        f_X12_begins_b26 BIG a1 0 (pI s 0 11 a1)
      else
        some (0, s)
set_option maxRecDepth 100000 in
theorem w_X12_begins {d : Nat} {s : Sg} {Q : Qt} (a1 : Int32) (a2 : Int32) (H : OQ (f_X12_begins a1 a2 s) (fun r9 s9 => Q (some (.int r9)) s9)) : WpM SHM MT (d + 3) 212 [.ref 0, .int a1, .int a2] s Q := by
  refine WpM.enter me_X12_begins rfl rfl ?_
  show Y_X12_begins d Q 0 [(0, .ref 0), (1, .int a1), (2, .int a2)] [] s
  unfold f_X12_begins at H
  refine Wp.r_iload_n1 (pc := 0) o_X12_begins rfl rfl (Wp.r_if_lt (pc := 1) o_X12_begins rfl (fun c9 => ?_) (fun c9 => ?_))
  · have H := oq_t c9 H
    exact Wp.r_iconst (pc := 17) o_X12_begins rfl (Wp.r_ireturn (pc := 18) o_X12_begins rfl (⟨rfl, H⟩))
  · have H := oq_f c9 H
    refine Wp.r_iload_n1 (pc := 4) o_X12_begins rfl rfl (Wp.f_al0_gfi (pc := 5) o_X12_begins rfl rfl rfl fk_M_0_10 (Wp.r_icmp_gt (pc := 9) o_X12_begins rfl (fun c9 => ?_) (fun c9 => ?_)))
    · have H := oq_t c9 H
      exact Wp.r_iconst (pc := 17) o_X12_begins rfl (Wp.r_ireturn (pc := 18) o_X12_begins rfl (⟨rfl, H⟩))
    · have H := oq_f c9 H
      refine Wp.r_iload_n1 (pc := 12) o_X12_begins rfl rfl (Wp.r_iload_n2 (pc := 13) o_X12_begins rfl rfl (Wp.r_icmp_le (pc := 14) o_X12_begins rfl (fun c9 => ?_) (fun c9 => ?_)))
      · have H := oq_t c9 H
        exact Wp.r_aload_n0 (pc := 19) o_X12_begins rfl rfl (Wp.r_iload_n1 (pc := 20) o_X12_begins rfl rfl (Wp.r_pfi (pc := 21) o_X12_begins rfl fk_M_0_11 (Wp.r_iconst (pc := 24) o_X12_begins rfl (Wp.r_istore_n3 (pc := 25) o_X12_begins rfl (Wp.weak2 [1, 2, 0] (w_X12_begins_b26 _ _ _ _ H) rfl)))))
      · have H := oq_f c9 H
        exact Wp.r_iconst (pc := 17) o_X12_begins rfl (Wp.r_ireturn (pc := 18) o_X12_begins rfl (⟨rfl, H⟩))
noncomputable abbrev Y_X12_refuse (d : Nat) (Q : Qt) : Xt := Wp SHM (WpM SHM MT (d + 0)) (flat2 cq_X12_refuse) (some .int) Q
noncomputable def f_X12_refuse (a1 : Int32) (s : Sg) : Option (Int32 × Sg) :=
  some ((-1), pI s 0 2 a1)
set_option maxRecDepth 100000 in
theorem w_X12_refuse {d : Nat} {s : Sg} {Q : Qt} (a1 : Int32) (H : OQ (f_X12_refuse a1 s) (fun r9 s9 => Q (some (.int r9)) s9)) : WpM SHM MT (d + 1) 191 [.ref 0, .int a1] s Q := by
  refine WpM.enter me_X12_refuse rfl rfl ?_
  show Y_X12_refuse d Q 0 [(0, .ref 0), (1, .int a1)] [] s
  unfold f_X12_refuse at H
  exact Wp.r_aload_n0 (pc := 0) o_X12_refuse rfl rfl (Wp.r_iload_n1 (pc := 1) o_X12_refuse rfl rfl (Wp.r_pfi (pc := 2) o_X12_refuse rfl fk_M_0_2 (Wp.r_iconst (pc := 5) o_X12_refuse rfl (Wp.r_ireturn (pc := 6) o_X12_refuse rfl (⟨rfl, H⟩)))))
noncomputable abbrev Y_X12_plain (d : Nat) (Q : Qt) : Xt := Wp SHM (WpM SHM MT (d + 0)) (flat2 cq_X12_plain) (none) Q
noncomputable def f_X12_plain_b2 : Nat → Int32 → Int32 → Sg → Option (Unit × Sg)
  | 0, _, _, _ => none
  | n + 1, v1, v2, s =>
    if 480 ≤ v2 then
      ck (inr (v1 + 11) 2880) (
      nmx (pI s 1 ((v1 + 11).toNatClampNeg) (-1)) (fun s2 =>
      ck (inr (v1 + 13) 2880) (
      nmx (pI s2 1 ((v1 + 13).toNatClampNeg) 5) (fun s4 =>
      some ((), s4)
      )
      )
      )
      )
    else
      ck (inr (v1 + v2) 2880) (
      nmx (pI s 1 ((v1 + v2).toNatClampNeg) 0) (fun s6 =>
      (f_X12_plain_b2 n) v1 (v2 + 1) s6
      )
      )
set_option maxRecDepth 100000 in
theorem w_X12_plain_b2 {d : Nat} {Q : Qt} (n : Nat) : ∀ (v1 : Int32) (v2 : Int32) (s : Sg), OQ (f_X12_plain_b2 n v1 v2 s) (fun _ s9 => Q none s9) → Y_X12_plain d Q 2 [(0, .ref 0), (1, .int v1), (2, .int v2)] [] s := by
  induction n with
  | zero => intro v1 v2 s H; exact H.elim
  | succ n ih =>
    intro v1 v2 s H
    unfold f_X12_plain_b2 at H
    refine Wp.r_iload_n2 (pc := 2) o_X12_plain rfl rfl (Wp.r_sipush (pc := 3) o_X12_plain rfl (Wp.r_icmp_ge (pc := 6) o_X12_plain rfl (fun c9 => ?_) (fun c9 => ?_)))
    · have H := oq_t c9 H
      obtain ⟨hc1, H⟩ := oq_ck H
      refine Wp.f_al0_gfr (pc := 24) o_X12_plain rfl rfl rfl fk_M_0_0 (Wp.r_iload_n1 (pc := 28) o_X12_plain rfl rfl (Wp.r_bipush (pc := 29) o_X12_plain rfl (Wp.r_iadd (pc := 31) o_X12_plain rfl (Wp.r_iconst (pc := 32) o_X12_plain rfl (Wp.r_iastore (pc := 33) o_X12_plain rfl ak_M_1 (⟨hc1, ?_⟩))))))
      revert H
      generalize pI s 1 ((v1 + 11).toNatClampNeg) (-1) = s2
      intro H
      have H := nmx_e H
      obtain ⟨hc3, H⟩ := oq_ck H
      refine Wp.f_al0_gfr (pc := 34) o_X12_plain rfl rfl rfl fk_M_0_0 (Wp.r_iload_n1 (pc := 38) o_X12_plain rfl rfl (Wp.r_bipush (pc := 39) o_X12_plain rfl (Wp.r_iadd (pc := 41) o_X12_plain rfl (Wp.r_iconst (pc := 42) o_X12_plain rfl (Wp.r_iastore (pc := 43) o_X12_plain rfl ak_M_1 (⟨hc3, ?_⟩))))))
      revert H
      generalize pI s2 1 ((v1 + 13).toNatClampNeg) 5 = s4
      intro H
      have H := nmx_e H
      exact Wp.r_return (pc := 44) o_X12_plain rfl (H)
    · have H := oq_f c9 H
      obtain ⟨hc5, H⟩ := oq_ck H
      refine Wp.f_al0_gfr (pc := 9) o_X12_plain rfl rfl rfl fk_M_0_0 (Wp.r_iload_n1 (pc := 13) o_X12_plain rfl rfl (Wp.r_iload_n2 (pc := 14) o_X12_plain rfl rfl (Wp.r_iadd (pc := 15) o_X12_plain rfl (Wp.r_iconst (pc := 16) o_X12_plain rfl (Wp.r_iastore (pc := 17) o_X12_plain rfl ak_M_1 (⟨hc5, ?_⟩))))))
      revert H
      generalize pI s 1 ((v1 + v2).toNatClampNeg) 0 = s6
      intro H
      have H := nmx_e H
      exact Wp.f_iinc_goto (pc := 18) o_X12_plain rfl rfl rfl (Wp.weak2 [1, 2, 0] (ih _ _ _ H) rfl)
noncomputable def f_X12_plain (a1 : Int32) (s : Sg) : Option (Unit × Sg) :=
  f_X12_plain_b2 BIG a1 0 s
set_option maxRecDepth 100000 in
theorem w_X12_plain {d : Nat} {s : Sg} {Q : Qt} (a1 : Int32) (H : OQ (f_X12_plain a1 s) (fun _ s9 => Q none s9)) : WpM SHM MT (d + 1) 186 [.ref 0, .int a1] s Q := by
  refine WpM.enter me_X12_plain rfl rfl ?_
  show Y_X12_plain d Q 0 [(0, .ref 0), (1, .int a1)] [] s
  unfold f_X12_plain at H
  exact Wp.r_iconst (pc := 0) o_X12_plain rfl (Wp.r_istore_n2 (pc := 1) o_X12_plain rfl (Wp.weak2 [1, 2, 0] (w_X12_plain_b2 _ _ _ _ H) rfl))
noncomputable abbrev Y_X12_gives (d : Nat) (Q : Qt) : Xt := Wp SHM (WpM SHM MT (d + 0)) (flat2 cq_X12_gives) (some .int) Q
noncomputable def f_X12_gives (a1 : Int32) (s : Sg) : Option (Int32 × Sg) :=
  some (a1, pI s 0 2 0)
set_option maxRecDepth 100000 in
theorem w_X12_gives {d : Nat} {s : Sg} {Q : Qt} (a1 : Int32) (H : OQ (f_X12_gives a1 s) (fun r9 s9 => Q (some (.int r9)) s9)) : WpM SHM MT (d + 1) 192 [.ref 0, .int a1] s Q := by
  refine WpM.enter me_X12_gives rfl rfl ?_
  show Y_X12_gives d Q 0 [(0, .ref 0), (1, .int a1)] [] s
  unfold f_X12_gives at H
  exact Wp.f_al0_iconst (pc := 0) o_X12_gives rfl rfl rfl (Wp.r_pfi (pc := 2) o_X12_gives rfl fk_M_0_2 (Wp.r_iload_n1 (pc := 5) o_X12_gives rfl rfl (Wp.r_ireturn (pc := 6) o_X12_gives rfl (⟨rfl, H⟩))))
noncomputable abbrev Y_X12_taken (d : Nat) (Q : Qt) : Xt := Wp SHM (WpM SHM MT (d + 1)) (flat2 cq_X12_taken) (some .int) Q
noncomputable def f_X12_taken (a1 : Int32) (s : Sg) : Option (Int32 × Sg) :=
  if ((pI s 0 16 (s.1 0 18)).1 0 18) ≤ 0 then
    bd (f_X12_gives a1 (pI s 0 16 (s.1 0 18))) (fun r1 s2 =>
    some (r1, s2)
    )
  else
    bd (f_X12_refuse 9 (pI s 0 16 (s.1 0 18))) (fun r3 s4 =>
    some (r3, s4)
    )
set_option maxRecDepth 100000 in
theorem w_X12_taken {d : Nat} {s : Sg} {Q : Qt} (a1 : Int32) (H : OQ (f_X12_taken a1 s) (fun r9 s9 => Q (some (.int r9)) s9)) : WpM SHM MT (d + 2) 220 [.ref 0, .int a1] s Q := by
  refine WpM.enter me_X12_taken rfl rfl ?_
  show Y_X12_taken d Q 0 [(0, .ref 0), (1, .int a1)] [] s
  unfold f_X12_taken at H
  refine Wp.r_aload_n0 (pc := 0) o_X12_taken rfl rfl (Wp.f_al0_gfi (pc := 1) o_X12_taken rfl rfl rfl fk_M_0_18 (Wp.r_pfi (pc := 5) o_X12_taken rfl fk_M_0_16 (Wp.f_al0_gfi (pc := 8) o_X12_taken rfl rfl rfl fk_M_0_18 (Wp.r_if_le (pc := 12) o_X12_taken rfl (fun c9 => ?_) (fun c9 => ?_)))))
  · have H := oq_t c9 H
    refine Wp.r_aload_n0 (pc := 24) o_X12_taken rfl rfl (Wp.r_iload_n1 (pc := 25) o_X12_taken rfl rfl (Wp.r_cv2 (pc := 26) o_X12_taken rfl fk_M_0_0 (⟨rm8_ rfl, ?_⟩)))
    refine w_X12_gives (d := d) _ ?_
    refine oq_bd H (fun r1 s2 H => ?_)
    exact Wp.r_ireturn (pc := 29) o_X12_taken rfl (⟨rfl, H⟩)
  · have H := oq_f c9 H
    refine Wp.r_aload_n0 (pc := 15) o_X12_taken rfl rfl (Wp.r_bipush (pc := 16) o_X12_taken rfl (Wp.r_cv2 (pc := 18) o_X12_taken rfl fk_M_0_0 (⟨rm8_ rfl, ?_⟩)))
    refine w_X12_refuse (d := d) _ ?_
    refine oq_bd H (fun r3 s4 H => ?_)
    exact Wp.r_goto (pc := 21) o_X12_taken rfl (Wp.r_ireturn (pc := 29) o_X12_taken rfl (⟨rfl, H⟩))
noncomputable abbrev Y_X12_inWords_1001 (d : Nat) (Q : Qt) : Xt := Wp SHM (WpM SHM MT (d + 1)) (flat2 cq_X12_inWords) (some .int) Q
noncomputable def f_X12_inWords_1001_b115 (k_14 : Int32 → Int32 → Sg → Option (Int32 × Sg)) (v2 : Int32) (v4 : Int32) (v5 : Int32) (s : Sg) : Option (Int32 × Sg) :=
  if v5 = 0 then
    k_14 (v2 + 1) (v4 + 1) s
  else
    some (v2, s)
set_option maxRecDepth 100000 in
theorem w_X12_inWords_1001_b115 {d : Nat} {Q : Qt} (k_14 : Int32 → Int32 → Sg → Option (Int32 × Sg)) (h_14 : ∀ (v2 : Int32) (v3 : Int32) s, OQ (k_14 v2 v3 s) (fun r9 s9 => Q (some (.int r9)) s9) → Y_X12_inWords_1001 d Q 14 [(0, .ref 0), (1, .ref 1001), (2, .int v2), (3, .int v3)] [] s) (v2 : Int32) (v4 : Int32) (v5 : Int32) (s : Sg) (H : OQ (f_X12_inWords_1001_b115 k_14 v2 v4 v5 s) (fun r9 s9 => Q (some (.int r9)) s9)) : Y_X12_inWords_1001 d Q 115 [(0, .ref 0), (1, .ref 1001), (2, .int v2), (4, .int v4), (5, .int v5)] [] s := by
  unfold f_X12_inWords_1001_b115 at H
  refine Wp.r_iload (pc := 115) o_X12_inWords rfl rfl (Wp.r_if_eq (pc := 117) o_X12_inWords rfl (fun c9 => ?_) (fun c9 => ?_))
  · have H := oq_t c9 H
    exact Wp.r_iinc (pc := 122) o_X12_inWords rfl rfl (Wp.r_iload (pc := 125) o_X12_inWords rfl rfl (Wp.r_iconst (pc := 127) o_X12_inWords rfl (Wp.r_iadd (pc := 128) o_X12_inWords rfl (Wp.r_istore_n3 (pc := 129) o_X12_inWords rfl (Wp.r_goto (pc := 130) o_X12_inWords rfl (Wp.weak2 [2, 3, 1, 0] (h_14 _ _ _ H) rfl))))))
  · have H := oq_f c9 H
    exact Wp.r_iload_n2 (pc := 120) o_X12_inWords rfl rfl (Wp.r_ireturn (pc := 121) o_X12_inWords rfl (⟨rfl, H⟩))
noncomputable def f_X12_inWords_1001_b68 (k_14 : Int32 → Int32 → Sg → Option (Int32 × Sg)) : Nat → Int32 → Int32 → Int32 → Int32 → Int32 → Sg → Option (Int32 × Sg)
  | 0, _, _, _, _, _, _ => none
  | n + 1, v2, v3, v4, v5, v6, s =>
    if v4 ≤ v6 then
      f_X12_inWords_1001_b115 k_14 v2 v4 v5 s
    else
      if v5 = 0 then
        f_X12_inWords_1001_b115 k_14 v2 v4 v5 s
      else
        ck (inr v6 168) (
        bd (f_X12_byteAt (((s.1 0 13) + v6) - v3) s) (fun r1 s2 =>
        if ((strB.getD 1 []).getD v6.toNatClampNeg 0) = r1 then
          (f_X12_inWords_1001_b68 k_14 n) v2 v3 v4 1 (v6 + 1) s2
        else
          (f_X12_inWords_1001_b68 k_14 n) v2 v3 v4 0 (v6 + 1) s2
        )
        )
set_option maxRecDepth 100000 in
theorem w_X12_inWords_1001_b68 {d : Nat} {Q : Qt} (k_14 : Int32 → Int32 → Sg → Option (Int32 × Sg)) (h_14 : ∀ (v2 : Int32) (v3 : Int32) s, OQ (k_14 v2 v3 s) (fun r9 s9 => Q (some (.int r9)) s9) → Y_X12_inWords_1001 d Q 14 [(0, .ref 0), (1, .ref 1001), (2, .int v2), (3, .int v3)] [] s) (n : Nat) : ∀ (v2 : Int32) (v3 : Int32) (v4 : Int32) (v5 : Int32) (v6 : Int32) (s : Sg), OQ (f_X12_inWords_1001_b68 k_14 n v2 v3 v4 v5 v6 s) (fun r9 s9 => Q (some (.int r9)) s9) → Y_X12_inWords_1001 d Q 68 [(0, .ref 0), (1, .ref 1001), (2, .int v2), (3, .int v3), (4, .int v4), (5, .int v5), (6, .int v6)] [] s := by
  induction n with
  | zero => intro v2 v3 v4 v5 v6 s H; exact H.elim
  | succ n ih =>
    intro v2 v3 v4 v5 v6 s H
    unfold f_X12_inWords_1001_b68 at H
    refine Wp.r_iload (pc := 68) o_X12_inWords rfl rfl (Wp.r_iload (pc := 70) o_X12_inWords rfl rfl (Wp.r_icmp_ge (pc := 72) o_X12_inWords rfl (fun c9 => ?_) (fun c9 => ?_)))
    · have H := oq_t c9 H
      exact Wp.weak2 [0, 1, 2, 4, 5] (w_X12_inWords_1001_b115 k_14 h_14 _ _ _ _ H) rfl
    · have H := oq_f c9 H
      refine Wp.r_iload (pc := 75) o_X12_inWords rfl rfl (Wp.r_if_eq (pc := 77) o_X12_inWords rfl (fun c9 => ?_) (fun c9 => ?_))
      · have H := oq_t c9 H
        exact Wp.weak2 [0, 1, 2, 4, 5] (w_X12_inWords_1001_b115 k_14 h_14 _ _ _ _ H) rfl
      · have H := oq_f c9 H
        obtain ⟨c9, H⟩ := oq_ck H
        refine Wp.r_aload_n1 (pc := 80) o_X12_inWords rfl rfl (Wp.r_iload (pc := 81) o_X12_inWords rfl rfl (Wp.run 1 (show room8 [] ∧ vp_in v6 168 ∧ Y_X12_inWords_1001 d Q 86 [(0, .ref 0), (1, .ref 1001), (2, .int v2), (3, .int v3), (4, .int v4), (5, .int v5), (6, .int v6)] [.int ((strB.getD 1 []).getD v6.toNatClampNeg 0)] s from ⟨rm8_ rfl, c9, ?_⟩)))
        refine Wp.r_aload_n0 (pc := 86) o_X12_inWords rfl rfl (Wp.f_al0_gfi (pc := 87) o_X12_inWords rfl rfl rfl fk_M_0_13 (Wp.r_iload (pc := 91) o_X12_inWords rfl rfl (Wp.r_iadd (pc := 93) o_X12_inWords rfl (Wp.r_iload_n3 (pc := 94) o_X12_inWords rfl rfl (Wp.r_isub (pc := 95) o_X12_inWords rfl (Wp.r_cv2 (pc := 96) o_X12_inWords rfl fk_M_0_0 (⟨rm8_ rfl, ?_⟩)))))))
        refine w_X12_byteAt (d := d) _ ?_
        refine oq_bd H (fun r1 s2 H => ?_)
        refine Wp.r_icmp_ne (pc := 99) o_X12_inWords rfl (fun c9 => ?_) (fun c9 => ?_)
        · have H := oq_t c9 H
          exact Wp.r_iconst (pc := 102) o_X12_inWords rfl (Wp.r_goto (pc := 103) o_X12_inWords rfl (Wp.r_istore (pc := 107) o_X12_inWords rfl (Wp.f_iinc_goto (pc := 109) o_X12_inWords rfl rfl rfl (Wp.weak2 [2, 3, 4, 5, 6, 1, 0] (ih _ _ _ _ _ _ H) rfl))))
        · have H := oq_f c9 H
          exact Wp.r_iconst (pc := 106) o_X12_inWords rfl (Wp.r_istore (pc := 107) o_X12_inWords rfl (Wp.f_iinc_goto (pc := 109) o_X12_inWords rfl rfl rfl (Wp.weak2 [2, 3, 4, 5, 6, 1, 0] (ih _ _ _ _ _ _ H) rfl)))
noncomputable def f_X12_inWords_1001_b25 (k_14 : Int32 → Int32 → Sg → Option (Int32 × Sg)) : Nat → Int32 → Int32 → Int32 → Sg → Option (Int32 × Sg)
  | 0, _, _, _, _ => none
  | n + 1, v2, v3, v4, s =>
    ck (inr v4 168) (
    if ((strB.getD 1 []).getD v4.toNatClampNeg 0) = 32 then
      if (v4 - v3) = ((s.1 0 14) - (s.1 0 13)) then
        f_X12_inWords_1001_b68 k_14 BIG v2 v3 v4 1 v3 s
      else
        f_X12_inWords_1001_b68 k_14 BIG v2 v3 v4 0 v3 s
    else
      (f_X12_inWords_1001_b25 k_14 n) v2 v3 (v4 + 1) s
    )
set_option maxRecDepth 100000 in
theorem w_X12_inWords_1001_b25 {d : Nat} {Q : Qt} (k_14 : Int32 → Int32 → Sg → Option (Int32 × Sg)) (h_14 : ∀ (v2 : Int32) (v3 : Int32) s, OQ (k_14 v2 v3 s) (fun r9 s9 => Q (some (.int r9)) s9) → Y_X12_inWords_1001 d Q 14 [(0, .ref 0), (1, .ref 1001), (2, .int v2), (3, .int v3)] [] s) (n : Nat) : ∀ (v2 : Int32) (v3 : Int32) (v4 : Int32) (s : Sg), OQ (f_X12_inWords_1001_b25 k_14 n v2 v3 v4 s) (fun r9 s9 => Q (some (.int r9)) s9) → Y_X12_inWords_1001 d Q 25 [(0, .ref 0), (1, .ref 1001), (2, .int v2), (3, .int v3), (4, .int v4)] [] s := by
  induction n with
  | zero => intro v2 v3 v4 s H; exact H.elim
  | succ n ih =>
    intro v2 v3 v4 s H
    unfold f_X12_inWords_1001_b25 at H
    obtain ⟨c9, H⟩ := oq_ck H
    refine Wp.r_aload_n1 (pc := 25) o_X12_inWords rfl rfl (Wp.r_iload (pc := 26) o_X12_inWords rfl rfl (Wp.run 1 (show room8 [] ∧ vp_in v4 168 ∧ Y_X12_inWords_1001 d Q 31 [(0, .ref 0), (1, .ref 1001), (2, .int v2), (3, .int v3), (4, .int v4)] [.int ((strB.getD 1 []).getD v4.toNatClampNeg 0)] s from ⟨rm8_ rfl, c9, ?_⟩)))
    refine Wp.r_bipush (pc := 31) o_X12_inWords rfl (Wp.r_icmp_eq (pc := 33) o_X12_inWords rfl (fun c9 => ?_) (fun c9 => ?_))
    · have H := oq_t c9 H
      refine Wp.r_iload (pc := 42) o_X12_inWords rfl rfl (Wp.r_iload_n3 (pc := 44) o_X12_inWords rfl rfl (Wp.r_isub (pc := 45) o_X12_inWords rfl (Wp.f_al0_gfi (pc := 46) o_X12_inWords rfl rfl rfl fk_M_0_14 (Wp.f_al0_gfi (pc := 50) o_X12_inWords rfl rfl rfl fk_M_0_13 (Wp.r_isub (pc := 54) o_X12_inWords rfl (Wp.r_icmp_ne (pc := 55) o_X12_inWords rfl (fun c9 => ?_) (fun c9 => ?_)))))))
      · have H := oq_t c9 H
        exact Wp.r_iconst (pc := 58) o_X12_inWords rfl (Wp.r_goto (pc := 59) o_X12_inWords rfl (Wp.r_istore (pc := 63) o_X12_inWords rfl (Wp.r_iload_n3 (pc := 65) o_X12_inWords rfl rfl (Wp.r_istore (pc := 66) o_X12_inWords rfl (Wp.weak2 [2, 3, 4, 5, 6, 1, 0] (w_X12_inWords_1001_b68 k_14 h_14 _ _ _ _ _ _ _ H) rfl)))))
      · have H := oq_f c9 H
        exact Wp.r_iconst (pc := 62) o_X12_inWords rfl (Wp.r_istore (pc := 63) o_X12_inWords rfl (Wp.r_iload_n3 (pc := 65) o_X12_inWords rfl rfl (Wp.r_istore (pc := 66) o_X12_inWords rfl (Wp.weak2 [2, 3, 4, 5, 6, 1, 0] (w_X12_inWords_1001_b68 k_14 h_14 _ _ _ _ _ _ _ H) rfl))))
    · have H := oq_f c9 H
      exact Wp.f_iinc_goto (pc := 36) o_X12_inWords rfl rfl rfl (Wp.weak2 [1, 2, 3, 4, 0] (ih _ _ _ _ H) rfl)
noncomputable def f_X12_inWords_1001_b14 : Nat → Int32 → Int32 → Sg → Option (Int32 × Sg)
  | 0, _, _, _ => none
  | n + 1, v2, v3, s =>
    if 168 ≤ v3 then
      some ((-1), s)
    else
      f_X12_inWords_1001_b25 (f_X12_inWords_1001_b14 n) BIG v2 v3 v3 s
set_option maxRecDepth 100000 in
theorem w_X12_inWords_1001_b14 {d : Nat} {Q : Qt} (n : Nat) : ∀ (v2 : Int32) (v3 : Int32) (s : Sg), OQ (f_X12_inWords_1001_b14 n v2 v3 s) (fun r9 s9 => Q (some (.int r9)) s9) → Y_X12_inWords_1001 d Q 14 [(0, .ref 0), (1, .ref 1001), (2, .int v2), (3, .int v3)] [] s := by
  induction n with
  | zero => intro v2 v3 s H; exact H.elim
  | succ n ih =>
    intro v2 v3 s H
    unfold f_X12_inWords_1001_b14 at H
    refine Wp.r_iload_n3 (pc := 14) o_X12_inWords rfl rfl (Wp.r_aload_n1 (pc := 15) o_X12_inWords rfl rfl (Wp.run 1 (show room8 [.int v3] ∧ Y_X12_inWords_1001 d Q 19 [(0, .ref 0), (1, .ref 1001), (2, .int v2), (3, .int v3)] [.int 168, .int v3] s from ⟨rm8_ rfl, ?_⟩)))
    refine Wp.r_icmp_ge (pc := 19) o_X12_inWords rfl (fun c9 => ?_) (fun c9 => ?_)
    · have H := oq_t c9 H
      exact Wp.r_iconst (pc := 133) o_X12_inWords rfl (Wp.r_ireturn (pc := 134) o_X12_inWords rfl (⟨rfl, H⟩))
    · have H := oq_f c9 H
      exact Wp.r_iload_n3 (pc := 22) o_X12_inWords rfl rfl (Wp.r_istore (pc := 23) o_X12_inWords rfl (Wp.weak2 [1, 2, 3, 4, 0] (w_X12_inWords_1001_b25 (f_X12_inWords_1001_b14 n) ih _ _ _ _ _ H) rfl))
noncomputable def f_X12_inWords_1001  (s : Sg) : Option (Int32 × Sg) :=
  if (s.1 0 12) = 2 then
    f_X12_inWords_1001_b14 BIG 0 1 s
  else
    some ((-1), s)
set_option maxRecDepth 100000 in
theorem w_X12_inWords_1001 {d : Nat} {s : Sg} {Q : Qt}  (H : OQ (f_X12_inWords_1001  s) (fun r9 s9 => Q (some (.int r9)) s9)) : WpM SHM MT (d + 2) 210 [.ref 0, .ref 1001] s Q := by
  refine WpM.enter me_X12_inWords rfl rfl ?_
  show Y_X12_inWords_1001 d Q 0 [(0, .ref 0), (1, .ref 1001)] [] s
  unfold f_X12_inWords_1001 at H
  refine Wp.f_al0_gfi (pc := 0) o_X12_inWords rfl rfl rfl fk_M_0_12 (Wp.r_iconst (pc := 4) o_X12_inWords rfl (Wp.r_icmp_eq (pc := 5) o_X12_inWords rfl (fun c9 => ?_) (fun c9 => ?_)))
  · have H := oq_t c9 H
    exact Wp.r_iconst (pc := 10) o_X12_inWords rfl (Wp.r_istore_n2 (pc := 11) o_X12_inWords rfl (Wp.r_iconst (pc := 12) o_X12_inWords rfl (Wp.r_istore_n3 (pc := 13) o_X12_inWords rfl (Wp.weak2 [2, 3, 1, 0] (w_X12_inWords_1001_b14 _ _ _ _ H) rfl))))
  · have H := oq_f c9 H
    exact Wp.r_iconst (pc := 8) o_X12_inWords rfl (Wp.r_ireturn (pc := 9) o_X12_inWords rfl (⟨rfl, H⟩))
noncomputable abbrev Y_X12_fails (d : Nat) (Q : Qt) : Xt := Wp SHM (WpM SHM MT (d + 0)) (flat2 cq_X12_fails) (some .boolean) Q
noncomputable def f_X12_fails (a1 : Int32) (s : Sg) : Option (Int32 × Sg) :=
  if (s.1 0 18) = 0 then
    if (s.1 0 12) = 1 then
      nmx (pI (pI s 0 18 1) 0 17 ((pI s 0 18 1).1 0 13)) (fun s1 =>
      some (0, s1)
      )
    else
      nmx (pI (pI s 0 18 a1) 0 17 ((pI s 0 18 a1).1 0 13)) (fun s2 =>
      some (0, s2)
      )
  else
    some (0, s)
set_option maxRecDepth 100000 in
theorem w_X12_fails {d : Nat} {s : Sg} {Q : Qt} (a1 : Int32) (H : OQ (f_X12_fails a1 s) (fun r9 s9 => Q (some (.int r9)) s9)) : WpM SHM MT (d + 1) 211 [.ref 0, .int a1] s Q := by
  refine WpM.enter me_X12_fails rfl rfl ?_
  show Y_X12_fails d Q 0 [(0, .ref 0), (1, .int a1)] [] s
  unfold f_X12_fails at H
  refine Wp.f_al0_gfi (pc := 0) o_X12_fails rfl rfl rfl fk_M_0_18 (Wp.r_if_ne (pc := 4) o_X12_fails rfl (fun c9 => ?_) (fun c9 => ?_))
  · have H := oq_t c9 H
    refine Wp.r_aload_n0 (pc := 7) o_X12_fails rfl rfl (Wp.f_al0_gfi (pc := 8) o_X12_fails rfl rfl rfl fk_M_0_12 (Wp.r_iconst (pc := 12) o_X12_fails rfl (Wp.r_icmp_ne (pc := 13) o_X12_fails rfl (fun c9 => ?_) (fun c9 => ?_))))
    · have H := oq_t c9 H
      refine Wp.r_iconst (pc := 16) o_X12_fails rfl (Wp.r_goto (pc := 17) o_X12_fails rfl (Wp.r_pfi (pc := 21) o_X12_fails rfl fk_M_0_18 (Wp.r_aload_n0 (pc := 24) o_X12_fails rfl rfl (Wp.f_al0_gfi (pc := 25) o_X12_fails rfl rfl rfl fk_M_0_13 (Wp.r_pfi (pc := 29) o_X12_fails rfl fk_M_0_17 (show Y_X12_fails d Q 32 [(0, .ref 0), (1, .int a1)] [] (pI (pI s 0 18 1) 0 17 ((pI s 0 18 1).1 0 13)) from ?_))))))
      revert H
      generalize pI (pI s 0 18 1) 0 17 ((pI s 0 18 1).1 0 13) = s1
      intro H
      have H := nmx_e H
      exact Wp.r_iconst (pc := 32) o_X12_fails rfl (Wp.r_ireturn (pc := 33) o_X12_fails rfl (⟨rfl, H⟩))
    · have H := oq_f c9 H
      refine Wp.r_iload_n1 (pc := 20) o_X12_fails rfl rfl (Wp.r_pfi (pc := 21) o_X12_fails rfl fk_M_0_18 (Wp.r_aload_n0 (pc := 24) o_X12_fails rfl rfl (Wp.f_al0_gfi (pc := 25) o_X12_fails rfl rfl rfl fk_M_0_13 (Wp.r_pfi (pc := 29) o_X12_fails rfl fk_M_0_17 (show Y_X12_fails d Q 32 [(0, .ref 0), (1, .int a1)] [] (pI (pI s 0 18 a1) 0 17 ((pI s 0 18 a1).1 0 13)) from ?_)))))
      revert H
      generalize pI (pI s 0 18 a1) 0 17 ((pI s 0 18 a1).1 0 13) = s2
      intro H
      have H := nmx_e H
      exact Wp.r_iconst (pc := 32) o_X12_fails rfl (Wp.r_ireturn (pc := 33) o_X12_fails rfl (⟨rfl, H⟩))
  · have H := oq_f c9 H
    exact Wp.r_iconst (pc := 32) o_X12_fails rfl (Wp.r_ireturn (pc := 33) o_X12_fails rfl (⟨rfl, H⟩))
noncomputable abbrev Y_X12_isName_1001 (d : Nat) (Q : Qt) : Xt := Wp SHM (WpM SHM MT (d + 2)) (flat2 cq_X12_isName) (some .boolean) Q
noncomputable def f_X12_isName_1001  (s : Sg) : Option (Int32 × Sg) :=
  if (s.1 0 12) = 2 then
    if 8 < ((s.1 0 14) - (s.1 0 13)) then
      some (0, s)
    else
      bd (f_X12_inWords_1001 s) (fun r1 s2 =>
      if r1 = (-1) then
        some (1, s2)
      else
        some (0, s2)
      )
  else
    some (0, s)
set_option maxRecDepth 100000 in
theorem w_X12_isName_1001 {d : Nat} {s : Sg} {Q : Qt}  (H : OQ (f_X12_isName_1001  s) (fun r9 s9 => Q (some (.int r9)) s9)) : WpM SHM MT (d + 3) 216 [.ref 0, .ref 1001] s Q := by
  refine WpM.enter me_X12_isName rfl rfl ?_
  show Y_X12_isName_1001 d Q 0 [(0, .ref 0), (1, .ref 1001)] [] s
  unfold f_X12_isName_1001 at H
  refine Wp.f_al0_gfi (pc := 0) o_X12_isName rfl rfl rfl fk_M_0_12 (Wp.r_iconst (pc := 4) o_X12_isName rfl (Wp.r_icmp_ne (pc := 5) o_X12_isName rfl (fun c9 => ?_) (fun c9 => ?_)))
  · have H := oq_t c9 H
    refine Wp.f_al0_gfi (pc := 8) o_X12_isName rfl rfl rfl fk_M_0_14 (Wp.f_al0_gfi (pc := 12) o_X12_isName rfl rfl rfl fk_M_0_13 (Wp.r_isub (pc := 16) o_X12_isName rfl (Wp.r_bipush (pc := 17) o_X12_isName rfl (Wp.r_icmp_gt (pc := 19) o_X12_isName rfl (fun c9 => ?_) (fun c9 => ?_)))))
    · have H := oq_t c9 H
      exact Wp.r_iconst (pc := 35) o_X12_isName rfl (Wp.r_ireturn (pc := 36) o_X12_isName rfl (⟨rfl, H⟩))
    · have H := oq_f c9 H
      refine Wp.r_aload_n0 (pc := 22) o_X12_isName rfl rfl (Wp.r_aload_n1 (pc := 23) o_X12_isName rfl rfl (Wp.r_cv2 (pc := 24) o_X12_isName rfl fk_M_0_0 (⟨rm8_ rfl, ?_⟩)))
      refine w_X12_inWords_1001 (d := d)  ?_
      refine oq_bd H (fun r1 s2 H => ?_)
      refine Wp.r_iconst (pc := 27) o_X12_isName rfl (Wp.r_icmp_ne (pc := 28) o_X12_isName rfl (fun c9 => ?_) (fun c9 => ?_))
      · have H := oq_t c9 H
        exact Wp.r_iconst (pc := 31) o_X12_isName rfl (Wp.r_goto (pc := 32) o_X12_isName rfl (Wp.r_ireturn (pc := 36) o_X12_isName rfl (⟨rfl, H⟩)))
      · have H := oq_f c9 H
        exact Wp.r_iconst (pc := 35) o_X12_isName rfl (Wp.r_ireturn (pc := 36) o_X12_isName rfl (⟨rfl, H⟩))
  · have H := oq_f c9 H
    exact Wp.r_iconst (pc := 35) o_X12_isName rfl (Wp.r_ireturn (pc := 36) o_X12_isName rfl (⟨rfl, H⟩))
noncomputable abbrev Y_X12_nameHere (d : Nat) (Q : Qt) : Xt := Wp SHM (WpM SHM MT (d + 1)) (flat2 cq_X12_nameHere) (some .long) Q
noncomputable def f_X12_nameHere_b7 : Nat → Int64 → Int32 → Sg → Option (Int64 × Sg)
  | 0, _, _, _ => none
  | n + 1, v1, v3, s =>
    if (s.1 0 14) ≤ v3 then
      some (v1, s)
    else
      bd (f_X12_byteAt v3 s) (fun r1 s2 =>
      nmx ((v1 <<< ((8 : Int32).toInt64 &&& 63)) ||| r1.toInt64 : Int64) (fun x3 =>
      (f_X12_nameHere_b7 n) x3 (v3 + 1) s2
      )
      )
set_option maxRecDepth 100000 in
theorem w_X12_nameHere_b7 {d : Nat} {Q : Qt} (n : Nat) : ∀ (v1 : Int64) (v3 : Int32) (s : Sg), OQ (f_X12_nameHere_b7 n v1 v3 s) (fun r9 s9 => Q (some (.long r9)) s9) → Y_X12_nameHere d Q 7 [(0, .ref 0), (1, .long v1), (3, .int v3)] [] s := by
  induction n with
  | zero => intro v1 v3 s H; exact H.elim
  | succ n ih =>
    intro v1 v3 s H
    unfold f_X12_nameHere_b7 at H
    refine Wp.r_iload_n3 (pc := 7) o_X12_nameHere rfl rfl (Wp.f_al0_gfi (pc := 8) o_X12_nameHere rfl rfl rfl fk_M_0_14 (Wp.r_icmp_ge (pc := 12) o_X12_nameHere rfl (fun c9 => ?_) (fun c9 => ?_)))
    · have H := oq_t c9 H
      exact Wp.r_lload_n1 (pc := 33) o_X12_nameHere rfl rfl (Wp.r_lreturn (pc := 34) o_X12_nameHere rfl (H))
    · have H := oq_f c9 H
      refine Wp.r_lload_n1 (pc := 15) o_X12_nameHere rfl rfl (Wp.r_bipush (pc := 16) o_X12_nameHere rfl (Wp.r_lshl (pc := 18) o_X12_nameHere rfl (Wp.r_aload_n0 (pc := 19) o_X12_nameHere rfl rfl (Wp.r_iload_n3 (pc := 20) o_X12_nameHere rfl rfl (Wp.r_cv2 (pc := 21) o_X12_nameHere rfl fk_M_0_0 (⟨rm8_ rfl, ?_⟩))))))
      refine w_X12_byteAt (d := d) _ ?_
      refine oq_bd H (fun r1 s2 H => ?_)
      refine Wp.r_i2l (pc := 24) o_X12_nameHere rfl (Wp.r_lor (pc := 25) o_X12_nameHere rfl (Wp.r_lstore_n1 (pc := 26) o_X12_nameHere rfl (show Y_X12_nameHere d Q 27 [(1, .long ((v1 <<< ((8 : Int32).toInt64 &&& 63)) ||| r1.toInt64)), (0, .ref 0), (3, .int v3)] [] s2 from ?_)))
      revert H
      generalize ((v1 <<< ((8 : Int32).toInt64 &&& 63)) ||| r1.toInt64 : Int64) = x3
      intro H
      have H := nmx_e H
      exact Wp.f_iinc_goto (pc := 27) o_X12_nameHere rfl rfl rfl (Wp.weak2 [2, 1, 0] (ih _ _ _ H) rfl)
noncomputable def f_X12_nameHere  (s : Sg) : Option (Int64 × Sg) :=
  f_X12_nameHere_b7 BIG 0 (s.1 0 13) s
set_option maxRecDepth 100000 in
theorem w_X12_nameHere {d : Nat} {s : Sg} {Q : Qt}  (H : OQ (f_X12_nameHere  s) (fun r9 s9 => Q (some (.long r9)) s9)) : WpM SHM MT (d + 2) 217 [.ref 0] s Q := by
  refine WpM.enter me_X12_nameHere rfl rfl ?_
  show Y_X12_nameHere d Q 0 [(0, .ref 0)] [] s
  unfold f_X12_nameHere at H
  exact Wp.r_lconst (pc := 0) o_X12_nameHere rfl (Wp.r_lstore_n1 (pc := 1) o_X12_nameHere rfl (Wp.f_al0_gfi (pc := 2) o_X12_nameHere rfl rfl rfl fk_M_0_13 (Wp.r_istore_n3 (pc := 6) o_X12_nameHere rfl (Wp.weak2 [2, 1, 0] (w_X12_nameHere_b7 _ _ _ _ H) rfl))))
noncomputable abbrev Y_X12_findHere (d : Nat) (Q : Qt) : Xt := Wp SHM (WpM SHM MT (d + 2)) (flat2 cq_X12_findHere) (some .int) Q
noncomputable def f_X12_findHere_b2 : Nat → Int32 → Int32 → Int32 → Sg → Option (Int32 × Sg)
  | 0, _, _, _, _ => none
  | n + 1, v1, v2, v3, s =>
    if v2 ≤ v3 then
      some ((-1), s)
    else
      ck (inr (v1 + v3) 130) (
      bd (f_X12_nameHere s) (fun r2 s3 =>
      if (lg_cmp (s.2 2 ((v1 + v3).toNatClampNeg)) r2) = 0 then
        some (v3, s3)
      else
        (f_X12_findHere_b2 n) v1 v2 (v3 + 1) s3
      )
      )
set_option maxRecDepth 100000 in
theorem w_X12_findHere_b2 {d : Nat} {Q : Qt} (n : Nat) : ∀ (v1 : Int32) (v2 : Int32) (v3 : Int32) (s : Sg), OQ (f_X12_findHere_b2 n v1 v2 v3 s) (fun r9 s9 => Q (some (.int r9)) s9) → Y_X12_findHere d Q 2 [(0, .ref 0), (1, .int v1), (2, .int v2), (3, .int v3)] [] s := by
  induction n with
  | zero => intro v1 v2 v3 s H; exact H.elim
  | succ n ih =>
    intro v1 v2 v3 s H
    unfold f_X12_findHere_b2 at H
    refine Wp.r_iload_n3 (pc := 2) o_X12_findHere rfl rfl (Wp.r_iload_n2 (pc := 3) o_X12_findHere rfl rfl (Wp.r_icmp_ge (pc := 4) o_X12_findHere rfl (fun c9 => ?_) (fun c9 => ?_)))
    · have H := oq_t c9 H
      exact Wp.r_iconst (pc := 31) o_X12_findHere rfl (Wp.r_ireturn (pc := 32) o_X12_findHere rfl (⟨rfl, H⟩))
    · have H := oq_f c9 H
      obtain ⟨hc1, H⟩ := oq_ck H
      refine Wp.f_al0_gfr (pc := 7) o_X12_findHere rfl rfl rfl fk_M_0_1 (Wp.r_iload_n1 (pc := 11) o_X12_findHere rfl rfl (Wp.r_iload_n3 (pc := 12) o_X12_findHere rfl rfl (Wp.r_iadd (pc := 13) o_X12_findHere rfl (Wp.r_laload (pc := 14) o_X12_findHere rfl ak_M_2 (⟨hc1, ?_⟩)))))
      refine Wp.r_aload_n0 (pc := 15) o_X12_findHere rfl rfl (Wp.r_cv1 (pc := 16) o_X12_findHere rfl fk_M_0_0 (⟨rm8_ rfl, ?_⟩))
      refine w_X12_nameHere (d := d)  ?_
      refine oq_bd H (fun r2 s3 H => ?_)
      refine Wp.r_lcmp (pc := 19) o_X12_findHere rfl (Wp.r_if_ne (pc := 20) o_X12_findHere rfl (fun c9 => ?_) (fun c9 => ?_))
      · have H := oq_t c9 H
        exact Wp.r_iload_n3 (pc := 23) o_X12_findHere rfl rfl (Wp.r_ireturn (pc := 24) o_X12_findHere rfl (⟨rfl, H⟩))
      · have H := oq_f c9 H
        exact Wp.f_iinc_goto (pc := 25) o_X12_findHere rfl rfl rfl (Wp.weak2 [1, 2, 3, 0] (ih _ _ _ _ H) rfl)
noncomputable def f_X12_findHere (a1 : Int32) (a2 : Int32) (s : Sg) : Option (Int32 × Sg) :=
  f_X12_findHere_b2 BIG a1 a2 0 s
set_option maxRecDepth 100000 in
theorem w_X12_findHere {d : Nat} {s : Sg} {Q : Qt} (a1 : Int32) (a2 : Int32) (H : OQ (f_X12_findHere a1 a2 s) (fun r9 s9 => Q (some (.int r9)) s9)) : WpM SHM MT (d + 3) 218 [.ref 0, .int a1, .int a2] s Q := by
  refine WpM.enter me_X12_findHere rfl rfl ?_
  show Y_X12_findHere d Q 0 [(0, .ref 0), (1, .int a1), (2, .int a2)] [] s
  unfold f_X12_findHere at H
  exact Wp.r_iconst (pc := 0) o_X12_findHere rfl (Wp.r_istore_n3 (pc := 1) o_X12_findHere rfl (Wp.weak2 [1, 2, 3, 0] (w_X12_findHere_b2 _ _ _ _ _ H) rfl))
noncomputable abbrev Y_X12_newOne (d : Nat) (Q : Qt) : Xt := Wp SHM (WpM SHM MT (d + 3)) (flat2 cq_X12_newOne) (some .boolean) Q
noncomputable def f_X12_newOne (a1 : Int32) (a2 : Int32) (a3 : Int32) (s : Sg) : Option (Int32 × Sg) :=
  ck (inr (1920 + a1) 2880) (
  if (s.1 1 ((1920 + a1).toNatClampNeg)) = a2 then
    bd (f_X12_fails 6 s) (fun r2 s3 =>
    ck (r2 = 0 ∨ r2 = 1) (some (r2, s3))
    )
  else
    bd (f_X12_ahead s) (fun _ s5 =>
    bd (f_X12_isName_1001 s5) (fun r6 s7 =>
    if r6 = 0 then
      bd (f_X12_fails 2 s7) (fun r8 s9 =>
      ck (r8 = 0 ∨ r8 = 1) (some (r8, s9))
      )
    else
      bd (f_X12_findHere 96 (s7.1 1 1920) s7) (fun r10 s11 =>
      if r10 = (-1) then
        bd (f_X12_findHere 104 (s11.1 1 1921) s11) (fun r12 s13 =>
        if r12 = (-1) then
          bd (f_X12_findHere 112 (s13.1 1 1922) s13) (fun r14 s15 =>
          if r14 = (-1) then
            bd (f_X12_findHere 116 (s15.1 1 1923) s15) (fun r16 s17 =>
            if r16 = (-1) then
              bd (f_X12_nameHere s17) (fun r18 s19 =>
              ck (inr ((96 + a3) + (s17.1 1 ((1920 + a1).toNatClampNeg))) 130) (
              nmx (pL s19 2 (((96 + a3) + (s17.1 1 ((1920 + a1).toNatClampNeg))).toNatClampNeg) r18) (fun s21 =>
              bd (f_X12_ahead s21) (fun _ s23 =>
              some (1, s23)
              )
              )
              )
              )
            else
              bd (f_X12_fails 3 s17) (fun r24 s25 =>
              ck (r24 = 0 ∨ r24 = 1) (some (r24, s25))
              )
            )
          else
            bd (f_X12_fails 3 s15) (fun r26 s27 =>
            ck (r26 = 0 ∨ r26 = 1) (some (r26, s27))
            )
          )
        else
          bd (f_X12_fails 3 s13) (fun r28 s29 =>
          ck (r28 = 0 ∨ r28 = 1) (some (r28, s29))
          )
        )
      else
        bd (f_X12_fails 3 s11) (fun r30 s31 =>
        ck (r30 = 0 ∨ r30 = 1) (some (r30, s31))
        )
      )
    )
    )
  )
set_option maxRecDepth 100000 in
theorem w_X12_newOne {d : Nat} {s : Sg} {Q : Qt} (a1 : Int32) (a2 : Int32) (a3 : Int32) (H : OQ (f_X12_newOne a1 a2 a3 s) (fun r9 s9 => Q (some (.int r9)) s9)) : WpM SHM MT (d + 4) 221 [.ref 0, .int a1, .int a2, .int a3] s Q := by
  refine WpM.enter me_X12_newOne rfl rfl ?_
  show Y_X12_newOne d Q 0 [(0, .ref 0), (1, .int a1), (2, .int a2), (3, .int a3)] [] s
  unfold f_X12_newOne at H
  obtain ⟨hc1, H⟩ := oq_ck H
  refine Wp.f_al0_gfr (pc := 0) o_X12_newOne rfl rfl rfl fk_M_0_0 (Wp.r_sipush (pc := 4) o_X12_newOne rfl (Wp.r_iload_n1 (pc := 7) o_X12_newOne rfl rfl (Wp.r_iadd (pc := 8) o_X12_newOne rfl (Wp.r_iaload (pc := 9) o_X12_newOne rfl ak_M_1 (⟨hc1, ?_⟩)))))
  refine Wp.r_iload_n2 (pc := 10) o_X12_newOne rfl rfl (Wp.r_icmp_ne (pc := 11) o_X12_newOne rfl (fun c9 => ?_) (fun c9 => ?_))
  · have H := oq_t c9 H
    refine Wp.r_aload_n0 (pc := 14) o_X12_newOne rfl rfl (Wp.r_bipush (pc := 15) o_X12_newOne rfl (Wp.r_cv2 (pc := 17) o_X12_newOne rfl fk_M_0_0 (⟨rm8_ rfl, ?_⟩)))
    refine w_X12_fails (d := d + 2) _ ?_
    refine oq_bd H (fun r2 s3 H => ?_)
    obtain ⟨c9, H⟩ := oq_ck H
    exact Wp.r_ireturn (pc := 20) o_X12_newOne rfl (⟨b01_n c9, H⟩)
  · have H := oq_f c9 H
    refine Wp.r_aload_n0 (pc := 21) o_X12_newOne rfl rfl (Wp.r_cv1 (pc := 22) o_X12_newOne rfl fk_M_0_0 (⟨rm8_ rfl, ?_⟩))
    refine w_X12_ahead (d := d + 1)  ?_
    refine oq_bd H (fun _ s5 H => ?_)
    refine Wp.r_aload_n0 (pc := 25) o_X12_newOne rfl rfl (Wp.r_ldcs (pc := 26) o_X12_newOne rfl (Wp.r_cv2 (pc := 28) o_X12_newOne rfl fk_M_0_0 (⟨rm8_ rfl, ?_⟩)))
    refine w_X12_isName_1001 (d := d)  ?_
    refine oq_bd H (fun r6 s7 H => ?_)
    refine Wp.r_if_ne (pc := 31) o_X12_newOne rfl (fun c9 => ?_) (fun c9 => ?_)
    · have H := oq_t c9 H
      refine Wp.f_al0_iconst (pc := 34) o_X12_newOne rfl rfl rfl (Wp.r_cv2 (pc := 36) o_X12_newOne rfl fk_M_0_0 (⟨rm8_ rfl, ?_⟩))
      refine w_X12_fails (d := d + 2) _ ?_
      refine oq_bd H (fun r8 s9 H => ?_)
      obtain ⟨c9, H⟩ := oq_ck H
      exact Wp.r_ireturn (pc := 39) o_X12_newOne rfl (⟨b01_n c9, H⟩)
    · have H := oq_f c9 H
      refine Wp.r_aload_n0 (pc := 40) o_X12_newOne rfl rfl (Wp.r_bipush (pc := 41) o_X12_newOne rfl (Wp.f_al0_gfr (pc := 43) o_X12_newOne rfl rfl rfl fk_M_0_0 (Wp.r_sipush (pc := 47) o_X12_newOne rfl (Wp.r_iaload (pc := 50) o_X12_newOne rfl ak_M_1 (show (vp_in 1920 2880) ∧ Y_X12_newOne d Q 51 [(0, .ref 0), (1, .int a1), (2, .int a2), (3, .int a3)] [.int (s7.1 1 1920), .int 96, .ref 0] s7 from ⟨by unfold vp_in; decide, ?_⟩)))))
      refine Wp.r_cv3 (pc := 51) o_X12_newOne rfl fk_M_0_0 (⟨rm8_ rfl, ?_⟩)
      refine w_X12_findHere (d := d) _ _ ?_
      refine oq_bd H (fun r10 s11 H => ?_)
      refine Wp.r_iconst (pc := 54) o_X12_newOne rfl (Wp.r_icmp_ne (pc := 55) o_X12_newOne rfl (fun c9 => ?_) (fun c9 => ?_))
      · have H := oq_t c9 H
        refine Wp.r_aload_n0 (pc := 58) o_X12_newOne rfl rfl (Wp.r_bipush (pc := 59) o_X12_newOne rfl (Wp.f_al0_gfr (pc := 61) o_X12_newOne rfl rfl rfl fk_M_0_0 (Wp.r_sipush (pc := 65) o_X12_newOne rfl (Wp.r_iaload (pc := 68) o_X12_newOne rfl ak_M_1 (show (vp_in 1921 2880) ∧ Y_X12_newOne d Q 69 [(0, .ref 0), (1, .int a1), (2, .int a2), (3, .int a3)] [.int (s11.1 1 1921), .int 104, .ref 0] s11 from ⟨by unfold vp_in; decide, ?_⟩)))))
        refine Wp.r_cv3 (pc := 69) o_X12_newOne rfl fk_M_0_0 (⟨rm8_ rfl, ?_⟩)
        refine w_X12_findHere (d := d) _ _ ?_
        refine oq_bd H (fun r12 s13 H => ?_)
        refine Wp.r_iconst (pc := 72) o_X12_newOne rfl (Wp.r_icmp_ne (pc := 73) o_X12_newOne rfl (fun c9 => ?_) (fun c9 => ?_))
        · have H := oq_t c9 H
          refine Wp.r_aload_n0 (pc := 76) o_X12_newOne rfl rfl (Wp.r_bipush (pc := 77) o_X12_newOne rfl (Wp.f_al0_gfr (pc := 79) o_X12_newOne rfl rfl rfl fk_M_0_0 (Wp.r_sipush (pc := 83) o_X12_newOne rfl (Wp.r_iaload (pc := 86) o_X12_newOne rfl ak_M_1 (show (vp_in 1922 2880) ∧ Y_X12_newOne d Q 87 [(0, .ref 0), (1, .int a1), (2, .int a2), (3, .int a3)] [.int (s13.1 1 1922), .int 112, .ref 0] s13 from ⟨by unfold vp_in; decide, ?_⟩)))))
          refine Wp.r_cv3 (pc := 87) o_X12_newOne rfl fk_M_0_0 (⟨rm8_ rfl, ?_⟩)
          refine w_X12_findHere (d := d) _ _ ?_
          refine oq_bd H (fun r14 s15 H => ?_)
          refine Wp.r_iconst (pc := 90) o_X12_newOne rfl (Wp.r_icmp_ne (pc := 91) o_X12_newOne rfl (fun c9 => ?_) (fun c9 => ?_))
          · have H := oq_t c9 H
            refine Wp.r_aload_n0 (pc := 94) o_X12_newOne rfl rfl (Wp.r_bipush (pc := 95) o_X12_newOne rfl (Wp.f_al0_gfr (pc := 97) o_X12_newOne rfl rfl rfl fk_M_0_0 (Wp.r_sipush (pc := 101) o_X12_newOne rfl (Wp.r_iaload (pc := 104) o_X12_newOne rfl ak_M_1 (show (vp_in 1923 2880) ∧ Y_X12_newOne d Q 105 [(0, .ref 0), (1, .int a1), (2, .int a2), (3, .int a3)] [.int (s15.1 1 1923), .int 116, .ref 0] s15 from ⟨by unfold vp_in; decide, ?_⟩)))))
            refine Wp.r_cv3 (pc := 105) o_X12_newOne rfl fk_M_0_0 (⟨rm8_ rfl, ?_⟩)
            refine w_X12_findHere (d := d) _ _ ?_
            refine oq_bd H (fun r16 s17 H => ?_)
            refine Wp.r_iconst (pc := 108) o_X12_newOne rfl (Wp.r_icmp_eq (pc := 109) o_X12_newOne rfl (fun c9 => ?_) (fun c9 => ?_))
            · have H := oq_t c9 H
              refine Wp.f_al0_gfr (pc := 118) o_X12_newOne rfl rfl rfl fk_M_0_1 (Wp.r_bipush (pc := 122) o_X12_newOne rfl (Wp.r_iload_n3 (pc := 124) o_X12_newOne rfl rfl (Wp.r_iadd (pc := 125) o_X12_newOne rfl (Wp.f_al0_gfr (pc := 126) o_X12_newOne rfl rfl rfl fk_M_0_0 (Wp.r_sipush (pc := 130) o_X12_newOne rfl (Wp.r_iload_n1 (pc := 133) o_X12_newOne rfl rfl (Wp.r_iadd (pc := 134) o_X12_newOne rfl (Wp.r_iaload (pc := 135) o_X12_newOne rfl ak_M_1 (⟨hc1, ?_⟩)))))))))
              refine Wp.r_iadd (pc := 136) o_X12_newOne rfl (Wp.r_aload_n0 (pc := 137) o_X12_newOne rfl rfl (Wp.r_cv1 (pc := 138) o_X12_newOne rfl fk_M_0_0 (⟨rm8_ rfl, ?_⟩)))
              refine w_X12_nameHere (d := d + 1)  ?_
              refine oq_bd H (fun r18 s19 H => ?_)
              obtain ⟨hc20, H⟩ := oq_ck H
              refine Wp.r_lastore (pc := 141) o_X12_newOne rfl ak_M_2 (⟨hc20, ?_⟩)
              revert H
              generalize pL s19 2 (((96 + a3) + (s17.1 1 ((1920 + a1).toNatClampNeg))).toNatClampNeg) r18 = s21
              intro H
              have H := nmx_e H
              refine Wp.r_aload_n0 (pc := 142) o_X12_newOne rfl rfl (Wp.r_cv1 (pc := 143) o_X12_newOne rfl fk_M_0_0 (⟨rm8_ rfl, ?_⟩))
              refine w_X12_ahead (d := d + 1)  ?_
              refine oq_bd H (fun _ s23 H => ?_)
              exact Wp.r_iconst (pc := 146) o_X12_newOne rfl (Wp.r_ireturn (pc := 147) o_X12_newOne rfl (⟨rfl, H⟩))
            · have H := oq_f c9 H
              refine Wp.f_al0_iconst (pc := 112) o_X12_newOne rfl rfl rfl (Wp.r_cv2 (pc := 114) o_X12_newOne rfl fk_M_0_0 (⟨rm8_ rfl, ?_⟩))
              refine w_X12_fails (d := d + 2) _ ?_
              refine oq_bd H (fun r24 s25 H => ?_)
              obtain ⟨c9, H⟩ := oq_ck H
              exact Wp.r_ireturn (pc := 117) o_X12_newOne rfl (⟨b01_n c9, H⟩)
          · have H := oq_f c9 H
            refine Wp.f_al0_iconst (pc := 112) o_X12_newOne rfl rfl rfl (Wp.r_cv2 (pc := 114) o_X12_newOne rfl fk_M_0_0 (⟨rm8_ rfl, ?_⟩))
            refine w_X12_fails (d := d + 2) _ ?_
            refine oq_bd H (fun r26 s27 H => ?_)
            obtain ⟨c9, H⟩ := oq_ck H
            exact Wp.r_ireturn (pc := 117) o_X12_newOne rfl (⟨b01_n c9, H⟩)
        · have H := oq_f c9 H
          refine Wp.f_al0_iconst (pc := 112) o_X12_newOne rfl rfl rfl (Wp.r_cv2 (pc := 114) o_X12_newOne rfl fk_M_0_0 (⟨rm8_ rfl, ?_⟩))
          refine w_X12_fails (d := d + 2) _ ?_
          refine oq_bd H (fun r28 s29 H => ?_)
          obtain ⟨c9, H⟩ := oq_ck H
          exact Wp.r_ireturn (pc := 117) o_X12_newOne rfl (⟨b01_n c9, H⟩)
      · have H := oq_f c9 H
        refine Wp.f_al0_iconst (pc := 112) o_X12_newOne rfl rfl rfl (Wp.r_cv2 (pc := 114) o_X12_newOne rfl fk_M_0_0 (⟨rm8_ rfl, ?_⟩))
        refine w_X12_fails (d := d + 2) _ ?_
        refine oq_bd H (fun r30 s31 H => ?_)
        obtain ⟨c9, H⟩ := oq_ck H
        exact Wp.r_ireturn (pc := 117) o_X12_newOne rfl (⟨b01_n c9, H⟩)
noncomputable abbrev Y_X12_isThere (d : Nat) (Q : Qt) : Xt := Wp SHM (WpM SHM MT (d + 2)) (flat2 cq_X12_isThere) (some .boolean) Q
noncomputable def f_X12_isThere (a1 : Int32) (s : Sg) : Option (Int32 × Sg) :=
  bd (f_X12_inWords_1001 s) (fun r1 s2 =>
  if r1 = a1 then
    bd (f_X12_ahead s2) (fun _ s4 =>
    some (1, s4)
    )
  else
    some (0, s2)
  )
set_option maxRecDepth 100000 in
theorem w_X12_isThere {d : Nat} {s : Sg} {Q : Qt} (a1 : Int32) (H : OQ (f_X12_isThere a1 s) (fun r9 s9 => Q (some (.int r9)) s9)) : WpM SHM MT (d + 3) 223 [.ref 0, .int a1] s Q := by
  refine WpM.enter me_X12_isThere rfl rfl ?_
  show Y_X12_isThere d Q 0 [(0, .ref 0), (1, .int a1)] [] s
  unfold f_X12_isThere at H
  refine Wp.r_aload_n0 (pc := 0) o_X12_isThere rfl rfl (Wp.r_ldcs (pc := 1) o_X12_isThere rfl (Wp.r_cv2 (pc := 3) o_X12_isThere rfl fk_M_0_0 (⟨rm8_ rfl, ?_⟩)))
  refine w_X12_inWords_1001 (d := d)  ?_
  refine oq_bd H (fun r1 s2 H => ?_)
  refine Wp.r_iload_n1 (pc := 6) o_X12_isThere rfl rfl (Wp.r_icmp_eq (pc := 7) o_X12_isThere rfl (fun c9 => ?_) (fun c9 => ?_))
  · have H := oq_t c9 H
    refine Wp.r_aload_n0 (pc := 12) o_X12_isThere rfl rfl (Wp.r_cv1 (pc := 13) o_X12_isThere rfl fk_M_0_0 (⟨rm8_ rfl, ?_⟩))
    refine w_X12_ahead (d := d)  ?_
    refine oq_bd H (fun _ s4 H => ?_)
    exact Wp.r_iconst (pc := 16) o_X12_isThere rfl (Wp.r_ireturn (pc := 17) o_X12_isThere rfl (⟨rfl, H⟩))
  · have H := oq_f c9 H
    exact Wp.r_iconst (pc := 10) o_X12_isThere rfl (Wp.r_ireturn (pc := 11) o_X12_isThere rfl (⟨rfl, H⟩))
noncomputable abbrev Y_X12_number (d : Nat) (Q : Qt) : Xt := Wp SHM (WpM SHM MT (d + 2)) (flat2 cq_X12_number) (some .boolean) Q
noncomputable def f_X12_number (a1 : Int32) (a2 : Int32) (a3 : Int32) (s : Sg) : Option (Int32 × Sg) :=
  if (s.1 0 12) = 3 then
    if (s.1 0 15) < a2 then
      bd (f_X12_fails 4 s) (fun r1 s2 =>
      ck (r1 = 0 ∨ r1 = 1) (some (r1, s2))
      )
    else
      if (s.1 0 15) ≤ a3 then
        ck (inr a1 2880) (
        nmx (pI s 1 a1.toNatClampNeg (s.1 0 15)) (fun s4 =>
        bd (f_X12_ahead s4) (fun _ s6 =>
        some (1, s6)
        )
        )
        )
      else
        bd (f_X12_fails 4 s) (fun r7 s8 =>
        ck (r7 = 0 ∨ r7 = 1) (some (r7, s8))
        )
  else
    bd (f_X12_fails 2 s) (fun r9 s10 =>
    ck (r9 = 0 ∨ r9 = 1) (some (r9, s10))
    )
set_option maxRecDepth 100000 in
theorem w_X12_number {d : Nat} {s : Sg} {Q : Qt} (a1 : Int32) (a2 : Int32) (a3 : Int32) (H : OQ (f_X12_number a1 a2 a3 s) (fun r9 s9 => Q (some (.int r9)) s9)) : WpM SHM MT (d + 3) 215 [.ref 0, .int a1, .int a2, .int a3] s Q := by
  refine WpM.enter me_X12_number rfl rfl ?_
  show Y_X12_number d Q 0 [(0, .ref 0), (1, .int a1), (2, .int a2), (3, .int a3)] [] s
  unfold f_X12_number at H
  refine Wp.f_al0_gfi (pc := 0) o_X12_number rfl rfl rfl fk_M_0_12 (Wp.r_iconst (pc := 4) o_X12_number rfl (Wp.r_icmp_eq (pc := 5) o_X12_number rfl (fun c9 => ?_) (fun c9 => ?_)))
  · have H := oq_t c9 H
    refine Wp.f_al0_gfi (pc := 14) o_X12_number rfl rfl rfl fk_M_0_15 (Wp.r_iload_n2 (pc := 18) o_X12_number rfl rfl (Wp.r_icmp_lt (pc := 19) o_X12_number rfl (fun c9 => ?_) (fun c9 => ?_)))
    · have H := oq_t c9 H
      refine Wp.f_al0_iconst (pc := 30) o_X12_number rfl rfl rfl (Wp.r_cv2 (pc := 32) o_X12_number rfl fk_M_0_0 (⟨rm8_ rfl, ?_⟩))
      refine w_X12_fails (d := d + 1) _ ?_
      refine oq_bd H (fun r1 s2 H => ?_)
      obtain ⟨c9, H⟩ := oq_ck H
      exact Wp.r_ireturn (pc := 35) o_X12_number rfl (⟨b01_n c9, H⟩)
    · have H := oq_f c9 H
      refine Wp.f_al0_gfi (pc := 22) o_X12_number rfl rfl rfl fk_M_0_15 (Wp.r_iload_n3 (pc := 26) o_X12_number rfl rfl (Wp.r_icmp_le (pc := 27) o_X12_number rfl (fun c9 => ?_) (fun c9 => ?_)))
      · have H := oq_t c9 H
        obtain ⟨hc3, H⟩ := oq_ck H
        refine Wp.f_al0_gfr (pc := 36) o_X12_number rfl rfl rfl fk_M_0_0 (Wp.r_iload_n1 (pc := 40) o_X12_number rfl rfl (Wp.f_al0_gfi (pc := 41) o_X12_number rfl rfl rfl fk_M_0_15 (Wp.r_iastore (pc := 45) o_X12_number rfl ak_M_1 (⟨hc3, ?_⟩))))
        revert H
        generalize pI s 1 a1.toNatClampNeg (s.1 0 15) = s4
        intro H
        have H := nmx_e H
        refine Wp.r_aload_n0 (pc := 46) o_X12_number rfl rfl (Wp.r_cv1 (pc := 47) o_X12_number rfl fk_M_0_0 (⟨rm8_ rfl, ?_⟩))
        refine w_X12_ahead (d := d)  ?_
        refine oq_bd H (fun _ s6 H => ?_)
        exact Wp.r_iconst (pc := 50) o_X12_number rfl (Wp.r_ireturn (pc := 51) o_X12_number rfl (⟨rfl, H⟩))
      · have H := oq_f c9 H
        refine Wp.f_al0_iconst (pc := 30) o_X12_number rfl rfl rfl (Wp.r_cv2 (pc := 32) o_X12_number rfl fk_M_0_0 (⟨rm8_ rfl, ?_⟩))
        refine w_X12_fails (d := d + 1) _ ?_
        refine oq_bd H (fun r7 s8 H => ?_)
        obtain ⟨c9, H⟩ := oq_ck H
        exact Wp.r_ireturn (pc := 35) o_X12_number rfl (⟨b01_n c9, H⟩)
  · have H := oq_f c9 H
    refine Wp.f_al0_iconst (pc := 8) o_X12_number rfl rfl rfl (Wp.r_cv2 (pc := 10) o_X12_number rfl fk_M_0_0 (⟨rm8_ rfl, ?_⟩))
    refine w_X12_fails (d := d + 1) _ ?_
    refine oq_bd H (fun r9 s10 H => ?_)
    obtain ⟨c9, H⟩ := oq_ck H
    exact Wp.r_ireturn (pc := 13) o_X12_number rfl (⟨b01_n c9, H⟩)
noncomputable abbrev Y_X12_aHouse (d : Nat) (Q : Qt) : Xt := Wp SHM (WpM SHM MT (d + 4)) (flat2 cq_X12_aHouse) (some .boolean) Q
noncomputable def f_X12_aHouse_b144  (s : Sg) : Option (Int32 × Sg) :=
  some (1, pI s 1 1920 ((s.1 1 1920) + 1))
set_option maxRecDepth 100000 in
theorem w_X12_aHouse_b144 {d : Nat} {Q : Qt}  (s : Sg) (H : OQ (f_X12_aHouse_b144  s) (fun r9 s9 => Q (some (.int r9)) s9)) : Y_X12_aHouse d Q 144 [(0, .ref 0)] [] s := by
  unfold f_X12_aHouse_b144 at H
  refine Wp.f_al0_gfr (pc := 144) o_X12_aHouse rfl rfl rfl fk_M_0_0 (Wp.r_sipush (pc := 148) o_X12_aHouse rfl (Wp.r_dup2 (pc := 151) o_X12_aHouse rfl (Wp.r_iaload (pc := 152) o_X12_aHouse rfl ak_M_1 (show (vp_in 1920 2880) ∧ Y_X12_aHouse d Q 153 [(0, .ref 0)] [.int (s.1 1 1920), .int 1920, .ref 1] s from ⟨by unfold vp_in; decide, ?_⟩))))
  refine Wp.r_iconst (pc := 153) o_X12_aHouse rfl (Wp.r_iadd (pc := 154) o_X12_aHouse rfl (Wp.r_iastore (pc := 155) o_X12_aHouse rfl ak_M_1 (show (vp_in 1920 2880) ∧ Y_X12_aHouse d Q 156 [(0, .ref 0)] [] (pI s 1 1920 ((s.1 1 1920) + 1)) from ⟨by unfold vp_in; decide, ?_⟩)))
  exact Wp.r_iconst (pc := 156) o_X12_aHouse rfl (Wp.r_ireturn (pc := 157) o_X12_aHouse rfl (⟨rfl, H⟩))
noncomputable def f_X12_aHouse_b106 (v1 : Int32) (v3 : Int32) (s : Sg) : Option (Int32 × Sg) :=
  bd (f_X12_inWords_1001 s) (fun r10 s11 =>
  if r10 = 5 then
    if v3 = 0 then
      nmx (pI s11 1 1929 ((s11.1 1 1929) ||| ((1 : Int32) <<< (v1 &&& 31)))) (fun s12 =>
      bd (f_X12_ahead s12) (fun _ s14 =>
      f_X12_aHouse_b144 s14
      )
      )
    else
      bd (f_X12_fails 5 s11) (fun r15 s16 =>
      ck (r15 = 0 ∨ r15 = 1) (some (r15, s16))
      )
  else
    f_X12_aHouse_b144 s11
  )
set_option maxRecDepth 100000 in
theorem w_X12_aHouse_b106 {d : Nat} {Q : Qt} (v1 : Int32) (v3 : Int32) (s : Sg) (H : OQ (f_X12_aHouse_b106 v1 v3 s) (fun r9 s9 => Q (some (.int r9)) s9)) : Y_X12_aHouse d Q 106 [(0, .ref 0), (1, .int v1), (3, .int v3)] [] s := by
  unfold f_X12_aHouse_b106 at H
  refine Wp.r_aload_n0 (pc := 106) o_X12_aHouse rfl rfl (Wp.r_ldcs (pc := 107) o_X12_aHouse rfl (Wp.r_cv2 (pc := 109) o_X12_aHouse rfl fk_M_0_0 (⟨rm8_ rfl, ?_⟩)))
  refine w_X12_inWords_1001 (d := d + 2)  ?_
  refine oq_bd H (fun r10 s11 H => ?_)
  refine Wp.r_iconst (pc := 112) o_X12_aHouse rfl (Wp.r_icmp_ne (pc := 113) o_X12_aHouse rfl (fun c9 => ?_) (fun c9 => ?_))
  · have H := oq_t c9 H
    refine Wp.r_iload_n3 (pc := 116) o_X12_aHouse rfl rfl (Wp.r_if_eq (pc := 117) o_X12_aHouse rfl (fun c9 => ?_) (fun c9 => ?_))
    · have H := oq_t c9 H
      refine Wp.f_al0_gfr (pc := 126) o_X12_aHouse rfl rfl rfl fk_M_0_0 (Wp.r_sipush (pc := 130) o_X12_aHouse rfl (Wp.r_dup2 (pc := 133) o_X12_aHouse rfl (Wp.r_iaload (pc := 134) o_X12_aHouse rfl ak_M_1 (show (vp_in 1929 2880) ∧ Y_X12_aHouse d Q 135 [(0, .ref 0), (1, .int v1), (3, .int v3)] [.int (s11.1 1 1929), .int 1929, .ref 1] s11 from ⟨by unfold vp_in; decide, ?_⟩))))
      refine Wp.r_iconst (pc := 135) o_X12_aHouse rfl (Wp.r_iload_n1 (pc := 136) o_X12_aHouse rfl rfl (Wp.r_ishl (pc := 137) o_X12_aHouse rfl (Wp.r_ior (pc := 138) o_X12_aHouse rfl (Wp.r_iastore (pc := 139) o_X12_aHouse rfl ak_M_1 (show (vp_in 1929 2880) ∧ Y_X12_aHouse d Q 140 [(0, .ref 0), (1, .int v1), (3, .int v3)] [] (pI s11 1 1929 ((s11.1 1 1929) ||| ((1 : Int32) <<< (v1 &&& 31)))) from ⟨by unfold vp_in; decide, ?_⟩)))))
      revert H
      generalize pI s11 1 1929 ((s11.1 1 1929) ||| ((1 : Int32) <<< (v1 &&& 31))) = s12
      intro H
      have H := nmx_e H
      refine Wp.r_aload_n0 (pc := 140) o_X12_aHouse rfl rfl (Wp.r_cv1 (pc := 141) o_X12_aHouse rfl fk_M_0_0 (⟨rm8_ rfl, ?_⟩))
      refine w_X12_ahead (d := d + 2)  ?_
      refine oq_bd H (fun _ s14 H => ?_)
      exact Wp.weak2 [0] (w_X12_aHouse_b144 _ H) rfl
    · have H := oq_f c9 H
      refine Wp.f_al0_iconst (pc := 120) o_X12_aHouse rfl rfl rfl (Wp.r_cv2 (pc := 122) o_X12_aHouse rfl fk_M_0_0 (⟨rm8_ rfl, ?_⟩))
      refine w_X12_fails (d := d + 3) _ ?_
      refine oq_bd H (fun r15 s16 H => ?_)
      obtain ⟨c9, H⟩ := oq_ck H
      exact Wp.r_ireturn (pc := 125) o_X12_aHouse rfl (⟨b01_n c9, H⟩)
  · have H := oq_f c9 H
    exact Wp.weak2 [0] (w_X12_aHouse_b144 _ H) rfl
noncomputable def f_X12_aHouse_b81 (v1 : Int32) (v2 : Int32) (v3 : Int32) (s : Sg) : Option (Int32 × Sg) :=
  bd (f_X12_isThere 7 s) (fun r8 s9 =>
  if r8 = 0 then
    f_X12_aHouse_b106 v1 v3 s9
  else
    bd (f_X12_number (v2 + 1) 0 999 s9) (fun r17 s18 =>
    if r17 = 0 then
      some (0, s18)
    else
      f_X12_aHouse_b106 v1 v3 s18
    )
  )
set_option maxRecDepth 100000 in
theorem w_X12_aHouse_b81 {d : Nat} {Q : Qt} (v1 : Int32) (v2 : Int32) (v3 : Int32) (s : Sg) (H : OQ (f_X12_aHouse_b81 v1 v2 v3 s) (fun r9 s9 => Q (some (.int r9)) s9)) : Y_X12_aHouse d Q 81 [(0, .ref 0), (1, .int v1), (2, .int v2), (3, .int v3)] [] s := by
  unfold f_X12_aHouse_b81 at H
  refine Wp.r_aload_n0 (pc := 81) o_X12_aHouse rfl rfl (Wp.r_bipush (pc := 82) o_X12_aHouse rfl (Wp.r_cv2 (pc := 84) o_X12_aHouse rfl fk_M_0_0 (⟨rm8_ rfl, ?_⟩)))
  refine w_X12_isThere (d := d + 1) _ ?_
  refine oq_bd H (fun r8 s9 H => ?_)
  refine Wp.r_if_eq (pc := 87) o_X12_aHouse rfl (fun c9 => ?_) (fun c9 => ?_)
  · have H := oq_t c9 H
    exact Wp.weak2 [0, 1, 3] (w_X12_aHouse_b106 _ _ _ H) rfl
  · have H := oq_f c9 H
    refine Wp.r_aload_n0 (pc := 90) o_X12_aHouse rfl rfl (Wp.r_iload_n2 (pc := 91) o_X12_aHouse rfl rfl (Wp.r_iconst (pc := 92) o_X12_aHouse rfl (Wp.r_iadd (pc := 93) o_X12_aHouse rfl (Wp.r_iconst (pc := 94) o_X12_aHouse rfl (Wp.r_sipush (pc := 95) o_X12_aHouse rfl (Wp.r_cv4 (pc := 98) o_X12_aHouse rfl fk_M_0_0 (⟨rm8_ rfl, ?_⟩)))))))
    refine w_X12_number (d := d + 1) _ _ _ ?_
    refine oq_bd H (fun r17 s18 H => ?_)
    refine Wp.r_if_ne (pc := 101) o_X12_aHouse rfl (fun c9 => ?_) (fun c9 => ?_)
    · have H := oq_t c9 H
      exact Wp.r_iconst (pc := 104) o_X12_aHouse rfl (Wp.r_ireturn (pc := 105) o_X12_aHouse rfl (⟨rfl, H⟩))
    · have H := oq_f c9 H
      exact Wp.weak2 [0, 1, 3] (w_X12_aHouse_b106 _ _ _ H) rfl
noncomputable def f_X12_aHouse_b57 (v1 : Int32) (v2 : Int32) (t0 : Int32) (s : Sg) : Option (Int32 × Sg) :=
  bd (f_X12_isThere 6 s) (fun r6 s7 =>
  if r6 = 0 then
    f_X12_aHouse_b81 v1 v2 t0 s7
  else
    bd (f_X12_number v2 0 999 s7) (fun r19 s20 =>
    if r19 = 0 then
      some (0, s20)
    else
      f_X12_aHouse_b81 v1 v2 t0 s20
    )
  )
set_option maxRecDepth 100000 in
theorem w_X12_aHouse_b57 {d : Nat} {Q : Qt} (v1 : Int32) (v2 : Int32) (t0 : Int32) (s : Sg) (H : OQ (f_X12_aHouse_b57 v1 v2 t0 s) (fun r9 s9 => Q (some (.int r9)) s9)) : Y_X12_aHouse d Q 57 [(0, .ref 0), (1, .int v1), (2, .int v2)] [.int t0] s := by
  unfold f_X12_aHouse_b57 at H
  refine Wp.r_istore_n3 (pc := 57) o_X12_aHouse rfl (Wp.r_aload_n0 (pc := 58) o_X12_aHouse rfl rfl (Wp.r_bipush (pc := 59) o_X12_aHouse rfl (Wp.r_cv2 (pc := 61) o_X12_aHouse rfl fk_M_0_0 (⟨rm8_ rfl, ?_⟩))))
  refine w_X12_isThere (d := d + 1) _ ?_
  refine oq_bd H (fun r6 s7 H => ?_)
  refine Wp.r_if_eq (pc := 64) o_X12_aHouse rfl (fun c9 => ?_) (fun c9 => ?_)
  · have H := oq_t c9 H
    exact Wp.weak2 [1, 2, 3, 0] (w_X12_aHouse_b81 _ _ _ _ H) rfl
  · have H := oq_f c9 H
    refine Wp.r_aload_n0 (pc := 67) o_X12_aHouse rfl rfl (Wp.r_iload_n2 (pc := 68) o_X12_aHouse rfl rfl (Wp.r_iconst (pc := 69) o_X12_aHouse rfl (Wp.r_sipush (pc := 70) o_X12_aHouse rfl (Wp.r_cv4 (pc := 73) o_X12_aHouse rfl fk_M_0_0 (⟨rm8_ rfl, ?_⟩)))))
    refine w_X12_number (d := d + 1) _ _ _ ?_
    refine oq_bd H (fun r19 s20 H => ?_)
    refine Wp.r_if_ne (pc := 76) o_X12_aHouse rfl (fun c9 => ?_) (fun c9 => ?_)
    · have H := oq_t c9 H
      exact Wp.r_iconst (pc := 79) o_X12_aHouse rfl (Wp.r_ireturn (pc := 80) o_X12_aHouse rfl (⟨rfl, H⟩))
    · have H := oq_f c9 H
      exact Wp.weak2 [1, 2, 3, 0] (w_X12_aHouse_b81 _ _ _ _ H) rfl
noncomputable def f_X12_aHouse_b52 (v1 : Int32) (v2 : Int32) (s : Sg) : Option (Int32 × Sg) :=
  f_X12_aHouse_b57 v1 v2 1 s
set_option maxRecDepth 100000 in
theorem w_X12_aHouse_b52 {d : Nat} {Q : Qt} (v1 : Int32) (v2 : Int32) (s : Sg) (H : OQ (f_X12_aHouse_b52 v1 v2 s) (fun r9 s9 => Q (some (.int r9)) s9)) : Y_X12_aHouse d Q 52 [(0, .ref 0), (1, .int v1), (2, .int v2)] [] s := by
  unfold f_X12_aHouse_b52 at H
  exact Wp.r_iconst (pc := 52) o_X12_aHouse rfl (Wp.r_goto (pc := 53) o_X12_aHouse rfl (Wp.weak2 [0, 1, 2] (w_X12_aHouse_b57 _ _ _ _ H) rfl))
noncomputable def f_X12_aHouse  (s : Sg) : Option (Int32 × Sg) :=
  nmx (1936 + (3 * (s.1 1 1920)) : Int32) (fun x1 =>
  bd (f_X12_newOne 0 8 0 s) (fun r2 s3 =>
  if r2 = 0 then
    some (0, s3)
  else
    bd (f_X12_inWords_1001 s3) (fun r4 s5 =>
    if r4 = 6 then
      f_X12_aHouse_b52 (s.1 1 1920) x1 s5
    else
      bd (f_X12_inWords_1001 s5) (fun r21 s22 =>
      if r21 = 7 then
        f_X12_aHouse_b52 (s.1 1 1920) x1 s22
      else
        f_X12_aHouse_b57 (s.1 1 1920) x1 0 s22
      )
    )
  )
  )
set_option maxRecDepth 100000 in
theorem w_X12_aHouse {d : Nat} {s : Sg} {Q : Qt}  (H : OQ (f_X12_aHouse  s) (fun r9 s9 => Q (some (.int r9)) s9)) : WpM SHM MT (d + 5) 225 [.ref 0] s Q := by
  refine WpM.enter me_X12_aHouse rfl rfl ?_
  show Y_X12_aHouse d Q 0 [(0, .ref 0)] [] s
  unfold f_X12_aHouse at H
  refine Wp.f_al0_gfr (pc := 0) o_X12_aHouse rfl rfl rfl fk_M_0_0 (Wp.r_sipush (pc := 4) o_X12_aHouse rfl (Wp.r_iaload (pc := 7) o_X12_aHouse rfl ak_M_1 (show (vp_in 1920 2880) ∧ Y_X12_aHouse d Q 8 [(0, .ref 0)] [.int (s.1 1 1920)] s from ⟨by unfold vp_in; decide, ?_⟩)))
  refine Wp.r_istore_n1 (pc := 8) o_X12_aHouse rfl (Wp.r_sipush (pc := 9) o_X12_aHouse rfl (Wp.r_iconst (pc := 12) o_X12_aHouse rfl (Wp.r_iload_n1 (pc := 13) o_X12_aHouse rfl rfl (Wp.r_imul (pc := 14) o_X12_aHouse rfl (Wp.r_iadd (pc := 15) o_X12_aHouse rfl (Wp.r_istore_n2 (pc := 16) o_X12_aHouse rfl (show Y_X12_aHouse d Q 17 [(2, .int (1936 + (3 * (s.1 1 1920)))), (1, .int (s.1 1 1920)), (0, .ref 0)] [] s from ?_)))))))
  revert H
  generalize (1936 + (3 * (s.1 1 1920)) : Int32) = x1
  intro H
  have H := nmx_e H
  refine Wp.f_al0_iconst (pc := 17) o_X12_aHouse rfl rfl rfl (Wp.r_bipush (pc := 19) o_X12_aHouse rfl (Wp.r_iconst (pc := 21) o_X12_aHouse rfl (Wp.r_cv4 (pc := 22) o_X12_aHouse rfl fk_M_0_0 (⟨rm8_ rfl, ?_⟩))))
  refine w_X12_newOne (d := d) _ _ _ ?_
  refine oq_bd H (fun r2 s3 H => ?_)
  refine Wp.r_if_ne (pc := 25) o_X12_aHouse rfl (fun c9 => ?_) (fun c9 => ?_)
  · have H := oq_t c9 H
    exact Wp.r_iconst (pc := 28) o_X12_aHouse rfl (Wp.r_ireturn (pc := 29) o_X12_aHouse rfl (⟨rfl, H⟩))
  · have H := oq_f c9 H
    refine Wp.r_aload_n0 (pc := 30) o_X12_aHouse rfl rfl (Wp.r_ldcs (pc := 31) o_X12_aHouse rfl (Wp.r_cv2 (pc := 33) o_X12_aHouse rfl fk_M_0_0 (⟨rm8_ rfl, ?_⟩)))
    refine w_X12_inWords_1001 (d := d + 2)  ?_
    refine oq_bd H (fun r4 s5 H => ?_)
    refine Wp.r_bipush (pc := 36) o_X12_aHouse rfl (Wp.r_icmp_eq (pc := 38) o_X12_aHouse rfl (fun c9 => ?_) (fun c9 => ?_))
    · have H := oq_t c9 H
      exact Wp.weak2 [2, 1, 0] (w_X12_aHouse_b52 _ _ _ H) rfl
    · have H := oq_f c9 H
      refine Wp.r_aload_n0 (pc := 41) o_X12_aHouse rfl rfl (Wp.r_ldcs (pc := 42) o_X12_aHouse rfl (Wp.r_cv2 (pc := 44) o_X12_aHouse rfl fk_M_0_0 (⟨rm8_ rfl, ?_⟩)))
      refine w_X12_inWords_1001 (d := d + 2)  ?_
      refine oq_bd H (fun r21 s22 H => ?_)
      refine Wp.r_bipush (pc := 47) o_X12_aHouse rfl (Wp.r_icmp_ne (pc := 49) o_X12_aHouse rfl (fun c9 => ?_) (fun c9 => ?_))
      · have H := oq_t c9 H
        exact Wp.weak2 [2, 1, 0] (w_X12_aHouse_b52 _ _ _ H) rfl
      · have H := oq_f c9 H
        exact Wp.r_iconst (pc := 56) o_X12_aHouse rfl (Wp.weak2 [2, 1, 0] (w_X12_aHouse_b57 _ _ _ _ H) rfl)
noncomputable abbrev Y_X12_isSign (d : Nat) (Q : Qt) : Xt := Wp SHM (WpM SHM MT (d + 0)) (flat2 cq_X12_isSign) (some .boolean) Q
noncomputable def f_X12_isSign (a1 : Int32) (s : Sg) : Option (Int32 × Sg) :=
  if (s.1 0 12) = 4 then
    if (s.1 0 15) = a1 then
      some (1, s)
    else
      some (0, s)
  else
    some (0, s)
set_option maxRecDepth 100000 in
theorem w_X12_isSign {d : Nat} {s : Sg} {Q : Qt} (a1 : Int32) (H : OQ (f_X12_isSign a1 s) (fun r9 s9 => Q (some (.int r9)) s9)) : WpM SHM MT (d + 1) 209 [.ref 0, .int a1] s Q := by
  refine WpM.enter me_X12_isSign rfl rfl ?_
  show Y_X12_isSign d Q 0 [(0, .ref 0), (1, .int a1)] [] s
  unfold f_X12_isSign at H
  refine Wp.f_al0_gfi (pc := 0) o_X12_isSign rfl rfl rfl fk_M_0_12 (Wp.r_iconst (pc := 4) o_X12_isSign rfl (Wp.r_icmp_ne (pc := 5) o_X12_isSign rfl (fun c9 => ?_) (fun c9 => ?_)))
  · have H := oq_t c9 H
    refine Wp.f_al0_gfi (pc := 8) o_X12_isSign rfl rfl rfl fk_M_0_15 (Wp.r_iload_n1 (pc := 12) o_X12_isSign rfl rfl (Wp.r_icmp_ne (pc := 13) o_X12_isSign rfl (fun c9 => ?_) (fun c9 => ?_)))
    · have H := oq_t c9 H
      exact Wp.r_iconst (pc := 16) o_X12_isSign rfl (Wp.r_goto (pc := 17) o_X12_isSign rfl (Wp.r_ireturn (pc := 21) o_X12_isSign rfl (⟨rfl, H⟩)))
    · have H := oq_f c9 H
      exact Wp.r_iconst (pc := 20) o_X12_isSign rfl (Wp.r_ireturn (pc := 21) o_X12_isSign rfl (⟨rfl, H⟩))
  · have H := oq_f c9 H
    exact Wp.r_iconst (pc := 20) o_X12_isSign rfl (Wp.r_ireturn (pc := 21) o_X12_isSign rfl (⟨rfl, H⟩))
noncomputable abbrev Y_X12_wantSign (d : Nat) (Q : Qt) : Xt := Wp SHM (WpM SHM MT (d + 2)) (flat2 cq_X12_wantSign) (some .boolean) Q
noncomputable def f_X12_wantSign (a1 : Int32) (s : Sg) : Option (Int32 × Sg) :=
  bd (f_X12_isSign a1 s) (fun r1 s2 =>
  if r1 = 0 then
    bd (f_X12_fails 2 s2) (fun r3 s4 =>
    ck (r3 = 0 ∨ r3 = 1) (some (r3, s4))
    )
  else
    bd (f_X12_ahead s2) (fun _ s6 =>
    some (1, s6)
    )
  )
set_option maxRecDepth 100000 in
theorem w_X12_wantSign {d : Nat} {s : Sg} {Q : Qt} (a1 : Int32) (H : OQ (f_X12_wantSign a1 s) (fun r9 s9 => Q (some (.int r9)) s9)) : WpM SHM MT (d + 3) 213 [.ref 0, .int a1] s Q := by
  refine WpM.enter me_X12_wantSign rfl rfl ?_
  show Y_X12_wantSign d Q 0 [(0, .ref 0), (1, .int a1)] [] s
  unfold f_X12_wantSign at H
  refine Wp.r_aload_n0 (pc := 0) o_X12_wantSign rfl rfl (Wp.r_iload_n1 (pc := 1) o_X12_wantSign rfl rfl (Wp.r_cv2 (pc := 2) o_X12_wantSign rfl fk_M_0_0 (⟨rm8_ rfl, ?_⟩)))
  refine w_X12_isSign (d := d + 1) _ ?_
  refine oq_bd H (fun r1 s2 H => ?_)
  refine Wp.r_if_ne (pc := 5) o_X12_wantSign rfl (fun c9 => ?_) (fun c9 => ?_)
  · have H := oq_t c9 H
    refine Wp.f_al0_iconst (pc := 8) o_X12_wantSign rfl rfl rfl (Wp.r_cv2 (pc := 10) o_X12_wantSign rfl fk_M_0_0 (⟨rm8_ rfl, ?_⟩))
    refine w_X12_fails (d := d + 1) _ ?_
    refine oq_bd H (fun r3 s4 H => ?_)
    obtain ⟨c9, H⟩ := oq_ck H
    exact Wp.r_ireturn (pc := 13) o_X12_wantSign rfl (⟨b01_n c9, H⟩)
  · have H := oq_f c9 H
    refine Wp.r_aload_n0 (pc := 14) o_X12_wantSign rfl rfl (Wp.r_cv1 (pc := 15) o_X12_wantSign rfl fk_M_0_0 (⟨rm8_ rfl, ?_⟩))
    refine w_X12_ahead (d := d)  ?_
    refine oq_bd H (fun _ s6 H => ?_)
    exact Wp.r_iconst (pc := 18) o_X12_wantSign rfl (Wp.r_ireturn (pc := 19) o_X12_wantSign rfl (⟨rfl, H⟩))
noncomputable abbrev Y_X12_wantWord_1001 (d : Nat) (Q : Qt) : Xt := Wp SHM (WpM SHM MT (d + 2)) (flat2 cq_X12_wantWord) (some .boolean) Q
noncomputable def f_X12_wantWord_1001 (a2 : Int32) (s : Sg) : Option (Int32 × Sg) :=
  bd (f_X12_inWords_1001 s) (fun r1 s2 =>
  if r1 = a2 then
    bd (f_X12_ahead s2) (fun _ s4 =>
    some (1, s4)
    )
  else
    bd (f_X12_fails 2 s2) (fun r5 s6 =>
    ck (r5 = 0 ∨ r5 = 1) (some (r5, s6))
    )
  )
set_option maxRecDepth 100000 in
theorem w_X12_wantWord_1001 {d : Nat} {s : Sg} {Q : Qt} (a2 : Int32) (H : OQ (f_X12_wantWord_1001 a2 s) (fun r9 s9 => Q (some (.int r9)) s9)) : WpM SHM MT (d + 3) 214 [.ref 0, .ref 1001, .int a2] s Q := by
  refine WpM.enter me_X12_wantWord rfl rfl ?_
  show Y_X12_wantWord_1001 d Q 0 [(0, .ref 0), (1, .ref 1001), (2, .int a2)] [] s
  unfold f_X12_wantWord_1001 at H
  refine Wp.r_aload_n0 (pc := 0) o_X12_wantWord rfl rfl (Wp.r_aload_n1 (pc := 1) o_X12_wantWord rfl rfl (Wp.r_cv2 (pc := 2) o_X12_wantWord rfl fk_M_0_0 (⟨rm8_ rfl, ?_⟩)))
  refine w_X12_inWords_1001 (d := d)  ?_
  refine oq_bd H (fun r1 s2 H => ?_)
  refine Wp.r_iload_n2 (pc := 5) o_X12_wantWord rfl rfl (Wp.r_icmp_eq (pc := 6) o_X12_wantWord rfl (fun c9 => ?_) (fun c9 => ?_))
  · have H := oq_t c9 H
    refine Wp.r_aload_n0 (pc := 15) o_X12_wantWord rfl rfl (Wp.r_cv1 (pc := 16) o_X12_wantWord rfl fk_M_0_0 (⟨rm8_ rfl, ?_⟩))
    refine w_X12_ahead (d := d)  ?_
    refine oq_bd H (fun _ s4 H => ?_)
    exact Wp.r_iconst (pc := 19) o_X12_wantWord rfl (Wp.r_ireturn (pc := 20) o_X12_wantWord rfl (⟨rfl, H⟩))
  · have H := oq_f c9 H
    refine Wp.f_al0_iconst (pc := 9) o_X12_wantWord rfl rfl rfl (Wp.r_cv2 (pc := 11) o_X12_wantWord rfl fk_M_0_0 (⟨rm8_ rfl, ?_⟩))
    refine w_X12_fails (d := d + 1) _ ?_
    refine oq_bd H (fun r5 s6 H => ?_)
    obtain ⟨c9, H⟩ := oq_ck H
    exact Wp.r_ireturn (pc := 14) o_X12_wantWord rfl (⟨b01_n c9, H⟩)
noncomputable abbrev Y_X12_houseHere (d : Nat) (Q : Qt) : Xt := Wp SHM (WpM SHM MT (d + 3)) (flat2 cq_X12_houseHere) (some .int) Q
noncomputable def f_X12_houseHere  (s : Sg) : Option (Int32 × Sg) :=
  bd (f_X12_isName_1001 s) (fun r1 s2 =>
  if r1 = 0 then
    some ((-1), s2)
  else
    bd (f_X12_findHere 96 (s2.1 1 1920) s2) (fun r3 s4 =>
    some (r3, s4)
    )
  )
set_option maxRecDepth 100000 in
theorem w_X12_houseHere {d : Nat} {s : Sg} {Q : Qt}  (H : OQ (f_X12_houseHere  s) (fun r9 s9 => Q (some (.int r9)) s9)) : WpM SHM MT (d + 4) 224 [.ref 0] s Q := by
  refine WpM.enter me_X12_houseHere rfl rfl ?_
  show Y_X12_houseHere d Q 0 [(0, .ref 0)] [] s
  unfold f_X12_houseHere at H
  refine Wp.r_aload_n0 (pc := 0) o_X12_houseHere rfl rfl (Wp.r_ldcs (pc := 1) o_X12_houseHere rfl (Wp.r_cv2 (pc := 3) o_X12_houseHere rfl fk_M_0_0 (⟨rm8_ rfl, ?_⟩)))
  refine w_X12_isName_1001 (d := d)  ?_
  refine oq_bd H (fun r1 s2 H => ?_)
  refine Wp.r_if_eq (pc := 6) o_X12_houseHere rfl (fun c9 => ?_) (fun c9 => ?_)
  · have H := oq_t c9 H
    exact Wp.r_iconst (pc := 26) o_X12_houseHere rfl (Wp.r_ireturn (pc := 27) o_X12_houseHere rfl (⟨rfl, H⟩))
  · have H := oq_f c9 H
    refine Wp.r_aload_n0 (pc := 9) o_X12_houseHere rfl rfl (Wp.r_bipush (pc := 10) o_X12_houseHere rfl (Wp.f_al0_gfr (pc := 12) o_X12_houseHere rfl rfl rfl fk_M_0_0 (Wp.r_sipush (pc := 16) o_X12_houseHere rfl (Wp.r_iaload (pc := 19) o_X12_houseHere rfl ak_M_1 (show (vp_in 1920 2880) ∧ Y_X12_houseHere d Q 20 [(0, .ref 0)] [.int (s2.1 1 1920), .int 96, .ref 0] s2 from ⟨by unfold vp_in; decide, ?_⟩)))))
    refine Wp.r_cv3 (pc := 20) o_X12_houseHere rfl fk_M_0_0 (⟨rm8_ rfl, ?_⟩)
    refine w_X12_findHere (d := d) _ _ ?_
    refine oq_bd H (fun r3 s4 H => ?_)
    exact Wp.r_goto (pc := 23) o_X12_houseHere rfl (Wp.r_ireturn (pc := 27) o_X12_houseHere rfl (⟨rfl, H⟩))
noncomputable abbrev Y_X12_oldOne (d : Nat) (Q : Qt) : Xt := Wp SHM (WpM SHM MT (d + 3)) (flat2 cq_X12_oldOne) (some .boolean) Q
noncomputable def f_X12_oldOne (a1 : Int32) (a2 : Int32) (a3 : Int32) (s : Sg) : Option (Int32 × Sg) :=
  bd (f_X12_isName_1001 s) (fun r1 s2 =>
  if r1 = 0 then
    bd (f_X12_fails 2 s2) (fun r3 s4 =>
    ck (r3 = 0 ∨ r3 = 1) (some (r3, s4))
    )
  else
    bd (f_X12_findHere a1 a2 s2) (fun r5 s6 =>
    ck (inr a3 2880) (
    if ((pI s6 1 a3.toNatClampNeg r5).1 1 a3.toNatClampNeg) = (-1) then
      bd (f_X12_fails 3 (pI s6 1 a3.toNatClampNeg r5)) (fun r8 s9 =>
      ck (r8 = 0 ∨ r8 = 1) (some (r8, s9))
      )
    else
      bd (f_X12_ahead (pI s6 1 a3.toNatClampNeg r5)) (fun _ s11 =>
      some (1, s11)
      )
    )
    )
  )
set_option maxRecDepth 100000 in
theorem w_X12_oldOne {d : Nat} {s : Sg} {Q : Qt} (a1 : Int32) (a2 : Int32) (a3 : Int32) (H : OQ (f_X12_oldOne a1 a2 a3 s) (fun r9 s9 => Q (some (.int r9)) s9)) : WpM SHM MT (d + 4) 222 [.ref 0, .int a1, .int a2, .int a3] s Q := by
  refine WpM.enter me_X12_oldOne rfl rfl ?_
  show Y_X12_oldOne d Q 0 [(0, .ref 0), (1, .int a1), (2, .int a2), (3, .int a3)] [] s
  unfold f_X12_oldOne at H
  refine Wp.r_aload_n0 (pc := 0) o_X12_oldOne rfl rfl (Wp.r_ldcs (pc := 1) o_X12_oldOne rfl (Wp.r_cv2 (pc := 3) o_X12_oldOne rfl fk_M_0_0 (⟨rm8_ rfl, ?_⟩)))
  refine w_X12_isName_1001 (d := d)  ?_
  refine oq_bd H (fun r1 s2 H => ?_)
  refine Wp.r_if_ne (pc := 6) o_X12_oldOne rfl (fun c9 => ?_) (fun c9 => ?_)
  · have H := oq_t c9 H
    refine Wp.f_al0_iconst (pc := 9) o_X12_oldOne rfl rfl rfl (Wp.r_cv2 (pc := 11) o_X12_oldOne rfl fk_M_0_0 (⟨rm8_ rfl, ?_⟩))
    refine w_X12_fails (d := d + 2) _ ?_
    refine oq_bd H (fun r3 s4 H => ?_)
    obtain ⟨c9, H⟩ := oq_ck H
    exact Wp.r_ireturn (pc := 14) o_X12_oldOne rfl (⟨b01_n c9, H⟩)
  · have H := oq_f c9 H
    refine Wp.f_al0_gfr (pc := 15) o_X12_oldOne rfl rfl rfl fk_M_0_0 (Wp.r_iload_n3 (pc := 19) o_X12_oldOne rfl rfl (Wp.r_aload_n0 (pc := 20) o_X12_oldOne rfl rfl (Wp.r_iload_n1 (pc := 21) o_X12_oldOne rfl rfl (Wp.r_iload_n2 (pc := 22) o_X12_oldOne rfl rfl (Wp.r_cv3 (pc := 23) o_X12_oldOne rfl fk_M_0_0 (⟨rm8_ rfl, ?_⟩))))))
    refine w_X12_findHere (d := d) _ _ ?_
    refine oq_bd H (fun r5 s6 H => ?_)
    obtain ⟨hc7, H⟩ := oq_ck H
    refine Wp.r_iastore (pc := 26) o_X12_oldOne rfl ak_M_1 (⟨hc7, ?_⟩)
    refine Wp.f_al0_gfr (pc := 27) o_X12_oldOne rfl rfl rfl fk_M_0_0 (Wp.r_iload_n3 (pc := 31) o_X12_oldOne rfl rfl (Wp.r_iaload (pc := 32) o_X12_oldOne rfl ak_M_1 (⟨hc7, ?_⟩)))
    refine Wp.r_iconst (pc := 33) o_X12_oldOne rfl (Wp.r_icmp_ne (pc := 34) o_X12_oldOne rfl (fun c9 => ?_) (fun c9 => ?_))
    · have H := oq_t c9 H
      refine Wp.f_al0_iconst (pc := 37) o_X12_oldOne rfl rfl rfl (Wp.r_cv2 (pc := 39) o_X12_oldOne rfl fk_M_0_0 (⟨rm8_ rfl, ?_⟩))
      refine w_X12_fails (d := d + 2) _ ?_
      refine oq_bd H (fun r8 s9 H => ?_)
      obtain ⟨c9, H⟩ := oq_ck H
      exact Wp.r_ireturn (pc := 42) o_X12_oldOne rfl (⟨b01_n c9, H⟩)
    · have H := oq_f c9 H
      refine Wp.r_aload_n0 (pc := 43) o_X12_oldOne rfl rfl (Wp.r_cv1 (pc := 44) o_X12_oldOne rfl fk_M_0_0 (⟨rm8_ rfl, ?_⟩))
      refine w_X12_ahead (d := d + 1)  ?_
      refine oq_bd H (fun _ s11 H => ?_)
      exact Wp.r_iconst (pc := 47) o_X12_oldOne rfl (Wp.r_ireturn (pc := 48) o_X12_oldOne rfl (⟨rfl, H⟩))
noncomputable abbrev Y_X12_twoHouses (d : Nat) (Q : Qt) : Xt := Wp SHM (WpM SHM MT (d + 4)) (flat2 cq_X12_twoHouses) (some .boolean) Q
noncomputable def f_X12_twoHouses_b65 (k_3 : Int32 → Int32 → Int32 → Int32 → Sg → Option (Int32 × Sg)) (v1 : Int32) (v2 : Int32) (v3 : Int32) (v4 : Int32) (s : Sg) : Option (Int32 × Sg) :=
  bd (f_X12_oldOne 96 (s.1 1 1920) (v1 + v4) s) (fun r3 s4 =>
  if r3 = 0 then
    some (0, s4)
  else
    if v4 = 0 then
      bd (f_X12_wantWord_1001 v2 s4) (fun r5 s6 =>
      if r5 = 0 then
        some (0, s6)
      else
        k_3 v1 v2 v3 (v4 + 1) s6
      )
    else
      k_3 v1 v2 v3 (v4 + 1) s4
  )
set_option maxRecDepth 100000 in
theorem w_X12_twoHouses_b65 {d : Nat} {Q : Qt} (k_3 : Int32 → Int32 → Int32 → Int32 → Sg → Option (Int32 × Sg)) (h_3 : ∀ (v1 : Int32) (v2 : Int32) (v3 : Int32) (v4 : Int32) s, OQ (k_3 v1 v2 v3 v4 s) (fun r9 s9 => Q (some (.int r9)) s9) → Y_X12_twoHouses d Q 3 [(0, .ref 0), (1, .int v1), (2, .int v2), (3, .int v3), (4, .int v4)] [] s) (v1 : Int32) (v2 : Int32) (v3 : Int32) (v4 : Int32) (s : Sg) (H : OQ (f_X12_twoHouses_b65 k_3 v1 v2 v3 v4 s) (fun r9 s9 => Q (some (.int r9)) s9)) : Y_X12_twoHouses d Q 65 [(0, .ref 0), (1, .int v1), (2, .int v2), (3, .int v3), (4, .int v4)] [] s := by
  unfold f_X12_twoHouses_b65 at H
  refine Wp.r_aload_n0 (pc := 65) o_X12_twoHouses rfl rfl (Wp.r_bipush (pc := 66) o_X12_twoHouses rfl (Wp.f_al0_gfr (pc := 68) o_X12_twoHouses rfl rfl rfl fk_M_0_0 (Wp.r_sipush (pc := 72) o_X12_twoHouses rfl (Wp.r_iaload (pc := 75) o_X12_twoHouses rfl ak_M_1 (show (vp_in 1920 2880) ∧ Y_X12_twoHouses d Q 76 [(0, .ref 0), (1, .int v1), (2, .int v2), (3, .int v3), (4, .int v4)] [.int (s.1 1 1920), .int 96, .ref 0] s from ⟨by unfold vp_in; decide, ?_⟩)))))
  refine Wp.r_iload_n1 (pc := 76) o_X12_twoHouses rfl rfl (Wp.r_iload (pc := 77) o_X12_twoHouses rfl rfl (Wp.r_iadd (pc := 79) o_X12_twoHouses rfl (Wp.r_cv4 (pc := 80) o_X12_twoHouses rfl fk_M_0_0 (⟨rm8_ rfl, ?_⟩))))
  refine w_X12_oldOne (d := d) _ _ _ ?_
  refine oq_bd H (fun r3 s4 H => ?_)
  refine Wp.r_if_ne (pc := 83) o_X12_twoHouses rfl (fun c9 => ?_) (fun c9 => ?_)
  · have H := oq_t c9 H
    exact Wp.r_iconst (pc := 86) o_X12_twoHouses rfl (Wp.r_ireturn (pc := 87) o_X12_twoHouses rfl (⟨rfl, H⟩))
  · have H := oq_f c9 H
    refine Wp.r_iload (pc := 88) o_X12_twoHouses rfl rfl (Wp.r_if_ne (pc := 90) o_X12_twoHouses rfl (fun c9 => ?_) (fun c9 => ?_))
    · have H := oq_t c9 H
      refine Wp.r_aload_n0 (pc := 93) o_X12_twoHouses rfl rfl (Wp.r_ldcs (pc := 94) o_X12_twoHouses rfl (Wp.r_iload_n2 (pc := 96) o_X12_twoHouses rfl rfl (Wp.r_cv3 (pc := 97) o_X12_twoHouses rfl fk_M_0_0 (⟨rm8_ rfl, ?_⟩))))
      refine w_X12_wantWord_1001 (d := d + 1) _ ?_
      refine oq_bd H (fun r5 s6 H => ?_)
      refine Wp.r_if_ne (pc := 100) o_X12_twoHouses rfl (fun c9 => ?_) (fun c9 => ?_)
      · have H := oq_t c9 H
        exact Wp.r_iconst (pc := 103) o_X12_twoHouses rfl (Wp.r_ireturn (pc := 104) o_X12_twoHouses rfl (⟨rfl, H⟩))
      · have H := oq_f c9 H
        exact Wp.f_iinc_goto (pc := 105) o_X12_twoHouses rfl rfl rfl (Wp.weak2 [1, 2, 3, 4, 0] (h_3 _ _ _ _ _ H) rfl)
    · have H := oq_f c9 H
      exact Wp.f_iinc_goto (pc := 105) o_X12_twoHouses rfl rfl rfl (Wp.weak2 [1, 2, 3, 4, 0] (h_3 _ _ _ _ _ H) rfl)
noncomputable def f_X12_twoHouses_b42 (k_3 : Int32 → Int32 → Int32 → Int32 → Sg → Option (Int32 × Sg)) (v1 : Int32) (v2 : Int32) (v3 : Int32) (v4 : Int32) (v5 : Int32) (s : Sg) : Option (Int32 × Sg) :=
  if v4 = 1 then
    ck (inr v1 2880) (
    if v5 = (s.1 1 v1.toNatClampNeg) then
      bd (f_X12_fails 5 s) (fun r8 s9 =>
      ck (r8 = 0 ∨ r8 = 1) (some (r8, s9))
      )
    else
      f_X12_twoHouses_b65 k_3 v1 v2 v3 v4 s
    )
  else
    f_X12_twoHouses_b65 k_3 v1 v2 v3 v4 s
set_option maxRecDepth 100000 in
theorem w_X12_twoHouses_b42 {d : Nat} {Q : Qt} (k_3 : Int32 → Int32 → Int32 → Int32 → Sg → Option (Int32 × Sg)) (h_3 : ∀ (v1 : Int32) (v2 : Int32) (v3 : Int32) (v4 : Int32) s, OQ (k_3 v1 v2 v3 v4 s) (fun r9 s9 => Q (some (.int r9)) s9) → Y_X12_twoHouses d Q 3 [(0, .ref 0), (1, .int v1), (2, .int v2), (3, .int v3), (4, .int v4)] [] s) (v1 : Int32) (v2 : Int32) (v3 : Int32) (v4 : Int32) (v5 : Int32) (s : Sg) (H : OQ (f_X12_twoHouses_b42 k_3 v1 v2 v3 v4 v5 s) (fun r9 s9 => Q (some (.int r9)) s9)) : Y_X12_twoHouses d Q 42 [(0, .ref 0), (1, .int v1), (2, .int v2), (3, .int v3), (4, .int v4), (5, .int v5)] [] s := by
  unfold f_X12_twoHouses_b42 at H
  refine Wp.r_iload (pc := 42) o_X12_twoHouses rfl rfl (Wp.r_iconst (pc := 44) o_X12_twoHouses rfl (Wp.r_icmp_ne (pc := 45) o_X12_twoHouses rfl (fun c9 => ?_) (fun c9 => ?_)))
  · have H := oq_t c9 H
    obtain ⟨hc7, H⟩ := oq_ck H
    refine Wp.r_iload (pc := 48) o_X12_twoHouses rfl rfl (Wp.f_al0_gfr (pc := 50) o_X12_twoHouses rfl rfl rfl fk_M_0_0 (Wp.r_iload_n1 (pc := 54) o_X12_twoHouses rfl rfl (Wp.r_iaload (pc := 55) o_X12_twoHouses rfl ak_M_1 (⟨hc7, ?_⟩))))
    refine Wp.r_icmp_ne (pc := 56) o_X12_twoHouses rfl (fun c9 => ?_) (fun c9 => ?_)
    · have H := oq_t c9 H
      refine Wp.f_al0_iconst (pc := 59) o_X12_twoHouses rfl rfl rfl (Wp.r_cv2 (pc := 61) o_X12_twoHouses rfl fk_M_0_0 (⟨rm8_ rfl, ?_⟩))
      refine w_X12_fails (d := d + 3) _ ?_
      refine oq_bd H (fun r8 s9 H => ?_)
      obtain ⟨c9, H⟩ := oq_ck H
      exact Wp.r_ireturn (pc := 64) o_X12_twoHouses rfl (⟨b01_n c9, H⟩)
    · have H := oq_f c9 H
      exact Wp.weak2 [0, 1, 2, 3, 4] (w_X12_twoHouses_b65 k_3 h_3 _ _ _ _ _ H) rfl
  · have H := oq_f c9 H
    exact Wp.weak2 [0, 1, 2, 3, 4] (w_X12_twoHouses_b65 k_3 h_3 _ _ _ _ _ H) rfl
noncomputable def f_X12_twoHouses_b3 : Nat → Int32 → Int32 → Int32 → Int32 → Sg → Option (Int32 × Sg)
  | 0, _, _, _, _, _ => none
  | n + 1, v1, v2, v3, v4, s =>
    if 2 ≤ v4 then
      some (1, s)
    else
      bd (f_X12_houseHere s) (fun r1 s2 =>
      if r1 = (-1) then
        f_X12_twoHouses_b65 (f_X12_twoHouses_b3 n) v1 v2 v3 v4 s2
      else
        if v3 = 0 then
          f_X12_twoHouses_b42 (f_X12_twoHouses_b3 n) v1 v2 v3 v4 r1 s2
        else
          if (((s2.1 1 1929) >>> (r1 &&& 31)) &&& 1) = 1 then
            bd (f_X12_fails 5 s2) (fun r10 s11 =>
            ck (r10 = 0 ∨ r10 = 1) (some (r10, s11))
            )
          else
            f_X12_twoHouses_b42 (f_X12_twoHouses_b3 n) v1 v2 v3 v4 r1 s2
      )
set_option maxRecDepth 100000 in
theorem w_X12_twoHouses_b3 {d : Nat} {Q : Qt} (n : Nat) : ∀ (v1 : Int32) (v2 : Int32) (v3 : Int32) (v4 : Int32) (s : Sg), OQ (f_X12_twoHouses_b3 n v1 v2 v3 v4 s) (fun r9 s9 => Q (some (.int r9)) s9) → Y_X12_twoHouses d Q 3 [(0, .ref 0), (1, .int v1), (2, .int v2), (3, .int v3), (4, .int v4)] [] s := by
  induction n with
  | zero => intro v1 v2 v3 v4 s H; exact H.elim
  | succ n ih =>
    intro v1 v2 v3 v4 s H
    unfold f_X12_twoHouses_b3 at H
    refine Wp.r_iload (pc := 3) o_X12_twoHouses rfl rfl (Wp.r_iconst (pc := 5) o_X12_twoHouses rfl (Wp.r_icmp_ge (pc := 6) o_X12_twoHouses rfl (fun c9 => ?_) (fun c9 => ?_)))
    · have H := oq_t c9 H
      exact Wp.r_iconst (pc := 111) o_X12_twoHouses rfl (Wp.r_ireturn (pc := 112) o_X12_twoHouses rfl (⟨rfl, H⟩))
    · have H := oq_f c9 H
      refine Wp.r_aload_n0 (pc := 9) o_X12_twoHouses rfl rfl (Wp.r_cv1 (pc := 10) o_X12_twoHouses rfl fk_M_0_0 (⟨rm8_ rfl, ?_⟩))
      refine w_X12_houseHere (d := d)  ?_
      refine oq_bd H (fun r1 s2 H => ?_)
      refine Wp.r_istore (pc := 13) o_X12_twoHouses rfl (Wp.r_iload (pc := 15) o_X12_twoHouses rfl rfl (Wp.r_iconst (pc := 17) o_X12_twoHouses rfl (Wp.r_icmp_eq (pc := 18) o_X12_twoHouses rfl (fun c9 => ?_) (fun c9 => ?_))))
      · have H := oq_t c9 H
        exact Wp.weak2 [1, 2, 3, 4, 5] (w_X12_twoHouses_b65 (f_X12_twoHouses_b3 n) ih _ _ _ _ _ H) rfl
      · have H := oq_f c9 H
        refine Wp.r_iload_n3 (pc := 21) o_X12_twoHouses rfl rfl (Wp.r_if_eq (pc := 22) o_X12_twoHouses rfl (fun c9 => ?_) (fun c9 => ?_))
        · have H := oq_t c9 H
          exact Wp.weak2 [1, 2, 3, 4, 5, 0] (w_X12_twoHouses_b42 (f_X12_twoHouses_b3 n) ih _ _ _ _ _ _ H) rfl
        · have H := oq_f c9 H
          refine Wp.f_al0_gfr (pc := 25) o_X12_twoHouses rfl rfl rfl fk_M_0_0 (Wp.r_sipush (pc := 29) o_X12_twoHouses rfl (Wp.r_iaload (pc := 32) o_X12_twoHouses rfl ak_M_1 (show (vp_in 1929 2880) ∧ Y_X12_twoHouses d Q 33 [(5, .int r1), (0, .ref 0), (1, .int v1), (2, .int v2), (3, .int v3), (4, .int v4)] [.int (s2.1 1 1929)] s2 from ⟨by unfold vp_in; decide, ?_⟩)))
          refine Wp.r_iload (pc := 33) o_X12_twoHouses rfl rfl (Wp.r_ishr (pc := 35) o_X12_twoHouses rfl (Wp.r_iconst (pc := 36) o_X12_twoHouses rfl (Wp.r_iand (pc := 37) o_X12_twoHouses rfl (Wp.r_iconst (pc := 38) o_X12_twoHouses rfl (Wp.r_icmp_eq (pc := 39) o_X12_twoHouses rfl (fun c9 => ?_) (fun c9 => ?_))))))
          · have H := oq_t c9 H
            refine Wp.f_al0_iconst (pc := 59) o_X12_twoHouses rfl rfl rfl (Wp.r_cv2 (pc := 61) o_X12_twoHouses rfl fk_M_0_0 (⟨rm8_ rfl, ?_⟩))
            refine w_X12_fails (d := d + 3) _ ?_
            refine oq_bd H (fun r10 s11 H => ?_)
            obtain ⟨c9, H⟩ := oq_ck H
            exact Wp.r_ireturn (pc := 64) o_X12_twoHouses rfl (⟨b01_n c9, H⟩)
          · have H := oq_f c9 H
            exact Wp.weak2 [1, 2, 3, 4, 5, 0] (w_X12_twoHouses_b42 (f_X12_twoHouses_b3 n) ih _ _ _ _ _ _ H) rfl
noncomputable def f_X12_twoHouses (a1 : Int32) (a2 : Int32) (a3 : Int32) (s : Sg) : Option (Int32 × Sg) :=
  f_X12_twoHouses_b3 BIG a1 a2 a3 0 s
set_option maxRecDepth 100000 in
theorem w_X12_twoHouses {d : Nat} {s : Sg} {Q : Qt} (a1 : Int32) (a2 : Int32) (a3 : Int32) (H : OQ (f_X12_twoHouses a1 a2 a3 s) (fun r9 s9 => Q (some (.int r9)) s9)) : WpM SHM MT (d + 5) 226 [.ref 0, .int a1, .int a2, .int a3] s Q := by
  refine WpM.enter me_X12_twoHouses rfl rfl ?_
  show Y_X12_twoHouses d Q 0 [(0, .ref 0), (1, .int a1), (2, .int a2), (3, .int a3)] [] s
  unfold f_X12_twoHouses at H
  exact Wp.r_iconst (pc := 0) o_X12_twoHouses rfl (Wp.r_istore (pc := 1) o_X12_twoHouses rfl (Wp.weak2 [1, 2, 3, 4, 0] (w_X12_twoHouses_b3 _ _ _ _ _ _ H) rfl))
noncomputable abbrev Y_X12_aQuarrel (d : Nat) (Q : Qt) : Xt := Wp SHM (WpM SHM MT (d + 5)) (flat2 cq_X12_aQuarrel) (some .boolean) Q
noncomputable def f_X12_aQuarrel  (s : Sg) : Option (Int32 × Sg) :=
  nmx (1960 + (5 * (s.1 1 1921)) : Int32) (fun x1 =>
  bd (f_X12_newOne 1 8 8 s) (fun r2 s3 =>
  if r2 = 0 then
    some (0, s3)
  else
    bd (f_X12_wantWord_1001 8 s3) (fun r4 s5 =>
    if r4 = 0 then
      some (0, s5)
    else
      bd (f_X12_twoHouses x1 9 0 s5) (fun r6 s7 =>
      if r6 = 0 then
        some (0, s7)
      else
        bd (f_X12_wantWord_1001 10 s7) (fun r8 s9 =>
        if r8 = 0 then
          some (0, s9)
        else
          bd (f_X12_number (x1 + 2) 1 99 s9) (fun r10 s11 =>
          if r10 = 0 then
            some (0, s11)
          else
            nmx (pI s11 1 1921 ((s11.1 1 1921) + 1)) (fun s12 =>
            some (1, s12)
            )
          )
        )
      )
    )
  )
  )
set_option maxRecDepth 100000 in
theorem w_X12_aQuarrel {d : Nat} {s : Sg} {Q : Qt}  (H : OQ (f_X12_aQuarrel  s) (fun r9 s9 => Q (some (.int r9)) s9)) : WpM SHM MT (d + 6) 227 [.ref 0] s Q := by
  refine WpM.enter me_X12_aQuarrel rfl rfl ?_
  show Y_X12_aQuarrel d Q 0 [(0, .ref 0)] [] s
  unfold f_X12_aQuarrel at H
  refine Wp.r_sipush (pc := 0) o_X12_aQuarrel rfl (Wp.r_iconst (pc := 3) o_X12_aQuarrel rfl (Wp.f_al0_gfr (pc := 4) o_X12_aQuarrel rfl rfl rfl fk_M_0_0 (Wp.r_sipush (pc := 8) o_X12_aQuarrel rfl (Wp.r_iaload (pc := 11) o_X12_aQuarrel rfl ak_M_1 (show (vp_in 1921 2880) ∧ Y_X12_aQuarrel d Q 12 [(0, .ref 0)] [.int (s.1 1 1921), .int 5, .int 1960] s from ⟨by unfold vp_in; decide, ?_⟩)))))
  refine Wp.r_imul (pc := 12) o_X12_aQuarrel rfl (Wp.r_iadd (pc := 13) o_X12_aQuarrel rfl (Wp.r_istore_n1 (pc := 14) o_X12_aQuarrel rfl (show Y_X12_aQuarrel d Q 15 [(1, .int (1960 + (5 * (s.1 1 1921)))), (0, .ref 0)] [] s from ?_)))
  revert H
  generalize (1960 + (5 * (s.1 1 1921)) : Int32) = x1
  intro H
  have H := nmx_e H
  refine Wp.f_al0_iconst (pc := 15) o_X12_aQuarrel rfl rfl rfl (Wp.r_bipush (pc := 17) o_X12_aQuarrel rfl (Wp.r_bipush (pc := 19) o_X12_aQuarrel rfl (Wp.r_cv4 (pc := 21) o_X12_aQuarrel rfl fk_M_0_0 (⟨rm8_ rfl, ?_⟩))))
  refine w_X12_newOne (d := d + 1) _ _ _ ?_
  refine oq_bd H (fun r2 s3 H => ?_)
  refine Wp.r_if_eq (pc := 24) o_X12_aQuarrel rfl (fun c9 => ?_) (fun c9 => ?_)
  · have H := oq_t c9 H
    exact Wp.r_iconst (pc := 49) o_X12_aQuarrel rfl (Wp.r_ireturn (pc := 50) o_X12_aQuarrel rfl (⟨rfl, H⟩))
  · have H := oq_f c9 H
    refine Wp.r_aload_n0 (pc := 27) o_X12_aQuarrel rfl rfl (Wp.r_ldcs (pc := 28) o_X12_aQuarrel rfl (Wp.r_bipush (pc := 30) o_X12_aQuarrel rfl (Wp.r_cv3 (pc := 32) o_X12_aQuarrel rfl fk_M_0_0 (⟨rm8_ rfl, ?_⟩))))
    refine w_X12_wantWord_1001 (d := d + 2) _ ?_
    refine oq_bd H (fun r4 s5 H => ?_)
    refine Wp.r_if_eq (pc := 35) o_X12_aQuarrel rfl (fun c9 => ?_) (fun c9 => ?_)
    · have H := oq_t c9 H
      exact Wp.r_iconst (pc := 49) o_X12_aQuarrel rfl (Wp.r_ireturn (pc := 50) o_X12_aQuarrel rfl (⟨rfl, H⟩))
    · have H := oq_f c9 H
      refine Wp.r_aload_n0 (pc := 38) o_X12_aQuarrel rfl rfl (Wp.r_iload_n1 (pc := 39) o_X12_aQuarrel rfl rfl (Wp.r_bipush (pc := 40) o_X12_aQuarrel rfl (Wp.r_iconst (pc := 42) o_X12_aQuarrel rfl (Wp.r_cv4 (pc := 43) o_X12_aQuarrel rfl fk_M_0_0 (⟨rm8_ rfl, ?_⟩)))))
      refine w_X12_twoHouses (d := d) _ _ _ ?_
      refine oq_bd H (fun r6 s7 H => ?_)
      refine Wp.r_if_ne (pc := 46) o_X12_aQuarrel rfl (fun c9 => ?_) (fun c9 => ?_)
      · have H := oq_t c9 H
        exact Wp.r_iconst (pc := 49) o_X12_aQuarrel rfl (Wp.r_ireturn (pc := 50) o_X12_aQuarrel rfl (⟨rfl, H⟩))
      · have H := oq_f c9 H
        refine Wp.r_aload_n0 (pc := 51) o_X12_aQuarrel rfl rfl (Wp.r_ldcs (pc := 52) o_X12_aQuarrel rfl (Wp.r_bipush (pc := 54) o_X12_aQuarrel rfl (Wp.r_cv3 (pc := 56) o_X12_aQuarrel rfl fk_M_0_0 (⟨rm8_ rfl, ?_⟩))))
        refine w_X12_wantWord_1001 (d := d + 2) _ ?_
        refine oq_bd H (fun r8 s9 H => ?_)
        refine Wp.r_if_eq (pc := 59) o_X12_aQuarrel rfl (fun c9 => ?_) (fun c9 => ?_)
        · have H := oq_t c9 H
          exact Wp.r_iconst (pc := 75) o_X12_aQuarrel rfl (Wp.r_ireturn (pc := 76) o_X12_aQuarrel rfl (⟨rfl, H⟩))
        · have H := oq_f c9 H
          refine Wp.r_aload_n0 (pc := 62) o_X12_aQuarrel rfl rfl (Wp.r_iload_n1 (pc := 63) o_X12_aQuarrel rfl rfl (Wp.r_iconst (pc := 64) o_X12_aQuarrel rfl (Wp.r_iadd (pc := 65) o_X12_aQuarrel rfl (Wp.r_iconst (pc := 66) o_X12_aQuarrel rfl (Wp.r_bipush (pc := 67) o_X12_aQuarrel rfl (Wp.r_cv4 (pc := 69) o_X12_aQuarrel rfl fk_M_0_0 (⟨rm8_ rfl, ?_⟩)))))))
          refine w_X12_number (d := d + 2) _ _ _ ?_
          refine oq_bd H (fun r10 s11 H => ?_)
          refine Wp.r_if_ne (pc := 72) o_X12_aQuarrel rfl (fun c9 => ?_) (fun c9 => ?_)
          · have H := oq_t c9 H
            exact Wp.r_iconst (pc := 75) o_X12_aQuarrel rfl (Wp.r_ireturn (pc := 76) o_X12_aQuarrel rfl (⟨rfl, H⟩))
          · have H := oq_f c9 H
            refine Wp.f_al0_gfr (pc := 77) o_X12_aQuarrel rfl rfl rfl fk_M_0_0 (Wp.r_sipush (pc := 81) o_X12_aQuarrel rfl (Wp.r_dup2 (pc := 84) o_X12_aQuarrel rfl (Wp.r_iaload (pc := 85) o_X12_aQuarrel rfl ak_M_1 (show (vp_in 1921 2880) ∧ Y_X12_aQuarrel d Q 86 [(1, .int x1), (0, .ref 0)] [.int (s11.1 1 1921), .int 1921, .ref 1] s11 from ⟨by unfold vp_in; decide, ?_⟩))))
            refine Wp.r_iconst (pc := 86) o_X12_aQuarrel rfl (Wp.r_iadd (pc := 87) o_X12_aQuarrel rfl (Wp.r_iastore (pc := 88) o_X12_aQuarrel rfl ak_M_1 (show (vp_in 1921 2880) ∧ Y_X12_aQuarrel d Q 89 [(1, .int x1), (0, .ref 0)] [] (pI s11 1 1921 ((s11.1 1 1921) + 1)) from ⟨by unfold vp_in; decide, ?_⟩)))
            revert H
            generalize pI s11 1 1921 ((s11.1 1 1921) + 1) = s12
            intro H
            have H := nmx_e H
            exact Wp.r_iconst (pc := 89) o_X12_aQuarrel rfl (Wp.r_ireturn (pc := 90) o_X12_aQuarrel rfl (⟨rfl, H⟩))
noncomputable abbrev Y_X12_aCat (d : Nat) (Q : Qt) : Xt := Wp SHM (WpM SHM MT (d + 5)) (flat2 cq_X12_aCat) (some .boolean) Q
noncomputable def f_X12_aCat  (s : Sg) : Option (Int32 × Sg) :=
  nmx (2000 + (3 * (s.1 1 1922)) : Int32) (fun x1 =>
  bd (f_X12_newOne 2 4 16 s) (fun r2 s3 =>
  if r2 = 0 then
    some (0, s3)
  else
    bd (f_X12_wantWord_1001 11 s3) (fun r4 s5 =>
    if r4 = 0 then
      some (0, s5)
    else
      bd (f_X12_twoHouses x1 12 1 s5) (fun r6 s7 =>
      if r6 = 0 then
        some (0, s7)
      else
        bd (f_X12_wantWord_1001 13 s7) (fun r8 s9 =>
        if r8 = 0 then
          some (0, s9)
        else
          bd (f_X12_number (x1 + 2) 1 99 s9) (fun r10 s11 =>
          if r10 = 0 then
            some (0, s11)
          else
            nmx (pI s11 1 1922 ((s11.1 1 1922) + 1)) (fun s12 =>
            some (1, s12)
            )
          )
        )
      )
    )
  )
  )
set_option maxRecDepth 100000 in
theorem w_X12_aCat {d : Nat} {s : Sg} {Q : Qt}  (H : OQ (f_X12_aCat  s) (fun r9 s9 => Q (some (.int r9)) s9)) : WpM SHM MT (d + 6) 228 [.ref 0] s Q := by
  refine WpM.enter me_X12_aCat rfl rfl ?_
  show Y_X12_aCat d Q 0 [(0, .ref 0)] [] s
  unfold f_X12_aCat at H
  refine Wp.r_sipush (pc := 0) o_X12_aCat rfl (Wp.r_iconst (pc := 3) o_X12_aCat rfl (Wp.f_al0_gfr (pc := 4) o_X12_aCat rfl rfl rfl fk_M_0_0 (Wp.r_sipush (pc := 8) o_X12_aCat rfl (Wp.r_iaload (pc := 11) o_X12_aCat rfl ak_M_1 (show (vp_in 1922 2880) ∧ Y_X12_aCat d Q 12 [(0, .ref 0)] [.int (s.1 1 1922), .int 3, .int 2000] s from ⟨by unfold vp_in; decide, ?_⟩)))))
  refine Wp.r_imul (pc := 12) o_X12_aCat rfl (Wp.r_iadd (pc := 13) o_X12_aCat rfl (Wp.r_istore_n1 (pc := 14) o_X12_aCat rfl (show Y_X12_aCat d Q 15 [(1, .int (2000 + (3 * (s.1 1 1922)))), (0, .ref 0)] [] s from ?_)))
  revert H
  generalize (2000 + (3 * (s.1 1 1922)) : Int32) = x1
  intro H
  have H := nmx_e H
  refine Wp.f_al0_iconst (pc := 15) o_X12_aCat rfl rfl rfl (Wp.r_iconst (pc := 17) o_X12_aCat rfl (Wp.r_bipush (pc := 18) o_X12_aCat rfl (Wp.r_cv4 (pc := 20) o_X12_aCat rfl fk_M_0_0 (⟨rm8_ rfl, ?_⟩))))
  refine w_X12_newOne (d := d + 1) _ _ _ ?_
  refine oq_bd H (fun r2 s3 H => ?_)
  refine Wp.r_if_eq (pc := 23) o_X12_aCat rfl (fun c9 => ?_) (fun c9 => ?_)
  · have H := oq_t c9 H
    exact Wp.r_iconst (pc := 48) o_X12_aCat rfl (Wp.r_ireturn (pc := 49) o_X12_aCat rfl (⟨rfl, H⟩))
  · have H := oq_f c9 H
    refine Wp.r_aload_n0 (pc := 26) o_X12_aCat rfl rfl (Wp.r_ldcs (pc := 27) o_X12_aCat rfl (Wp.r_bipush (pc := 29) o_X12_aCat rfl (Wp.r_cv3 (pc := 31) o_X12_aCat rfl fk_M_0_0 (⟨rm8_ rfl, ?_⟩))))
    refine w_X12_wantWord_1001 (d := d + 2) _ ?_
    refine oq_bd H (fun r4 s5 H => ?_)
    refine Wp.r_if_eq (pc := 34) o_X12_aCat rfl (fun c9 => ?_) (fun c9 => ?_)
    · have H := oq_t c9 H
      exact Wp.r_iconst (pc := 48) o_X12_aCat rfl (Wp.r_ireturn (pc := 49) o_X12_aCat rfl (⟨rfl, H⟩))
    · have H := oq_f c9 H
      refine Wp.r_aload_n0 (pc := 37) o_X12_aCat rfl rfl (Wp.r_iload_n1 (pc := 38) o_X12_aCat rfl rfl (Wp.r_bipush (pc := 39) o_X12_aCat rfl (Wp.r_iconst (pc := 41) o_X12_aCat rfl (Wp.r_cv4 (pc := 42) o_X12_aCat rfl fk_M_0_0 (⟨rm8_ rfl, ?_⟩)))))
      refine w_X12_twoHouses (d := d) _ _ _ ?_
      refine oq_bd H (fun r6 s7 H => ?_)
      refine Wp.r_if_ne (pc := 45) o_X12_aCat rfl (fun c9 => ?_) (fun c9 => ?_)
      · have H := oq_t c9 H
        exact Wp.r_iconst (pc := 48) o_X12_aCat rfl (Wp.r_ireturn (pc := 49) o_X12_aCat rfl (⟨rfl, H⟩))
      · have H := oq_f c9 H
        refine Wp.r_aload_n0 (pc := 50) o_X12_aCat rfl rfl (Wp.r_ldcs (pc := 51) o_X12_aCat rfl (Wp.r_bipush (pc := 53) o_X12_aCat rfl (Wp.r_cv3 (pc := 55) o_X12_aCat rfl fk_M_0_0 (⟨rm8_ rfl, ?_⟩))))
        refine w_X12_wantWord_1001 (d := d + 2) _ ?_
        refine oq_bd H (fun r8 s9 H => ?_)
        refine Wp.r_if_eq (pc := 58) o_X12_aCat rfl (fun c9 => ?_) (fun c9 => ?_)
        · have H := oq_t c9 H
          exact Wp.r_iconst (pc := 74) o_X12_aCat rfl (Wp.r_ireturn (pc := 75) o_X12_aCat rfl (⟨rfl, H⟩))
        · have H := oq_f c9 H
          refine Wp.r_aload_n0 (pc := 61) o_X12_aCat rfl rfl (Wp.r_iload_n1 (pc := 62) o_X12_aCat rfl rfl (Wp.r_iconst (pc := 63) o_X12_aCat rfl (Wp.r_iadd (pc := 64) o_X12_aCat rfl (Wp.r_iconst (pc := 65) o_X12_aCat rfl (Wp.r_bipush (pc := 66) o_X12_aCat rfl (Wp.r_cv4 (pc := 68) o_X12_aCat rfl fk_M_0_0 (⟨rm8_ rfl, ?_⟩)))))))
          refine w_X12_number (d := d + 2) _ _ _ ?_
          refine oq_bd H (fun r10 s11 H => ?_)
          refine Wp.r_if_ne (pc := 71) o_X12_aCat rfl (fun c9 => ?_) (fun c9 => ?_)
          · have H := oq_t c9 H
            exact Wp.r_iconst (pc := 74) o_X12_aCat rfl (Wp.r_ireturn (pc := 75) o_X12_aCat rfl (⟨rfl, H⟩))
          · have H := oq_f c9 H
            refine Wp.f_al0_gfr (pc := 76) o_X12_aCat rfl rfl rfl fk_M_0_0 (Wp.r_sipush (pc := 80) o_X12_aCat rfl (Wp.r_dup2 (pc := 83) o_X12_aCat rfl (Wp.r_iaload (pc := 84) o_X12_aCat rfl ak_M_1 (show (vp_in 1922 2880) ∧ Y_X12_aCat d Q 85 [(1, .int x1), (0, .ref 0)] [.int (s11.1 1 1922), .int 1922, .ref 1] s11 from ⟨by unfold vp_in; decide, ?_⟩))))
            refine Wp.r_iconst (pc := 85) o_X12_aCat rfl (Wp.r_iadd (pc := 86) o_X12_aCat rfl (Wp.r_iastore (pc := 87) o_X12_aCat rfl ak_M_1 (show (vp_in 1922 2880) ∧ Y_X12_aCat d Q 88 [(1, .int x1), (0, .ref 0)] [] (pI s11 1 1922 ((s11.1 1 1922) + 1)) from ⟨by unfold vp_in; decide, ?_⟩)))
            revert H
            generalize pI s11 1 1922 ((s11.1 1 1922) + 1) = s12
            intro H
            have H := nmx_e H
            exact Wp.r_iconst (pc := 88) o_X12_aCat rfl (Wp.r_ireturn (pc := 89) o_X12_aCat rfl (⟨rfl, H⟩))
noncomputable abbrev Y_X12_aGrocer (d : Nat) (Q : Qt) : Xt := Wp SHM (WpM SHM MT (d + 4)) (flat2 cq_X12_aGrocer) (some .boolean) Q
noncomputable def f_X12_aGrocer_b101  (s : Sg) : Option (Int32 × Sg) :=
  some (1, pI s 1 1923 ((s.1 1 1923) + 1))
set_option maxRecDepth 100000 in
theorem w_X12_aGrocer_b101 {d : Nat} {Q : Qt}  (s : Sg) (H : OQ (f_X12_aGrocer_b101  s) (fun r9 s9 => Q (some (.int r9)) s9)) : Y_X12_aGrocer d Q 101 [(0, .ref 0)] [] s := by
  unfold f_X12_aGrocer_b101 at H
  refine Wp.f_al0_gfr (pc := 101) o_X12_aGrocer rfl rfl rfl fk_M_0_0 (Wp.r_sipush (pc := 105) o_X12_aGrocer rfl (Wp.r_dup2 (pc := 108) o_X12_aGrocer rfl (Wp.r_iaload (pc := 109) o_X12_aGrocer rfl ak_M_1 (show (vp_in 1923 2880) ∧ Y_X12_aGrocer d Q 110 [(0, .ref 0)] [.int (s.1 1 1923), .int 1923, .ref 1] s from ⟨by unfold vp_in; decide, ?_⟩))))
  refine Wp.r_iconst (pc := 110) o_X12_aGrocer rfl (Wp.r_iadd (pc := 111) o_X12_aGrocer rfl (Wp.r_iastore (pc := 112) o_X12_aGrocer rfl ak_M_1 (show (vp_in 1923 2880) ∧ Y_X12_aGrocer d Q 113 [(0, .ref 0)] [] (pI s 1 1923 ((s.1 1 1923) + 1)) from ⟨by unfold vp_in; decide, ?_⟩)))
  exact Wp.r_iconst (pc := 113) o_X12_aGrocer rfl (Wp.r_ireturn (pc := 114) o_X12_aGrocer rfl (⟨rfl, H⟩))
noncomputable def f_X12_aGrocer  (s : Sg) : Option (Int32 × Sg) :=
  nmx (2012 + (3 * (s.1 1 1923)) : Int32) (fun x1 =>
  bd (f_X12_newOne 3 4 20 s) (fun r2 s3 =>
  if r2 = 0 then
    some (0, s3)
  else
    bd (f_X12_wantWord_1001 14 s3) (fun r4 s5 =>
    if r4 = 0 then
      some (0, s5)
    else
      bd (f_X12_number x1 0 999 s5) (fun r6 s7 =>
      if r6 = 0 then
        some (0, s7)
      else
        bd (f_X12_wantWord_1001 15 s7) (fun r8 s9 =>
        if r8 = 0 then
          some (0, s9)
        else
          bd (f_X12_number (x1 + 1) 1 99 s9) (fun r10 s11 =>
          if r10 = 0 then
            some (0, s11)
          else
            bd (f_X12_isThere 16 s11) (fun r12 s13 =>
            if r12 = 0 then
              f_X12_aGrocer_b101 s13
            else
              bd (f_X12_number (x1 + 2) 0 16 s13) (fun r14 s15 =>
              if r14 = 0 then
                some (0, s15)
              else
                f_X12_aGrocer_b101 s15
              )
            )
          )
        )
      )
    )
  )
  )
set_option maxRecDepth 100000 in
theorem w_X12_aGrocer {d : Nat} {s : Sg} {Q : Qt}  (H : OQ (f_X12_aGrocer  s) (fun r9 s9 => Q (some (.int r9)) s9)) : WpM SHM MT (d + 5) 229 [.ref 0] s Q := by
  refine WpM.enter me_X12_aGrocer rfl rfl ?_
  show Y_X12_aGrocer d Q 0 [(0, .ref 0)] [] s
  unfold f_X12_aGrocer at H
  refine Wp.r_sipush (pc := 0) o_X12_aGrocer rfl (Wp.r_iconst (pc := 3) o_X12_aGrocer rfl (Wp.f_al0_gfr (pc := 4) o_X12_aGrocer rfl rfl rfl fk_M_0_0 (Wp.r_sipush (pc := 8) o_X12_aGrocer rfl (Wp.r_iaload (pc := 11) o_X12_aGrocer rfl ak_M_1 (show (vp_in 1923 2880) ∧ Y_X12_aGrocer d Q 12 [(0, .ref 0)] [.int (s.1 1 1923), .int 3, .int 2012] s from ⟨by unfold vp_in; decide, ?_⟩)))))
  refine Wp.r_imul (pc := 12) o_X12_aGrocer rfl (Wp.r_iadd (pc := 13) o_X12_aGrocer rfl (Wp.r_istore_n1 (pc := 14) o_X12_aGrocer rfl (show Y_X12_aGrocer d Q 15 [(1, .int (2012 + (3 * (s.1 1 1923)))), (0, .ref 0)] [] s from ?_)))
  revert H
  generalize (2012 + (3 * (s.1 1 1923)) : Int32) = x1
  intro H
  have H := nmx_e H
  refine Wp.f_al0_iconst (pc := 15) o_X12_aGrocer rfl rfl rfl (Wp.r_iconst (pc := 17) o_X12_aGrocer rfl (Wp.r_bipush (pc := 18) o_X12_aGrocer rfl (Wp.r_cv4 (pc := 20) o_X12_aGrocer rfl fk_M_0_0 (⟨rm8_ rfl, ?_⟩))))
  refine w_X12_newOne (d := d) _ _ _ ?_
  refine oq_bd H (fun r2 s3 H => ?_)
  refine Wp.r_if_ne (pc := 23) o_X12_aGrocer rfl (fun c9 => ?_) (fun c9 => ?_)
  · have H := oq_t c9 H
    exact Wp.r_iconst (pc := 26) o_X12_aGrocer rfl (Wp.r_ireturn (pc := 27) o_X12_aGrocer rfl (⟨rfl, H⟩))
  · have H := oq_f c9 H
    refine Wp.r_aload_n0 (pc := 28) o_X12_aGrocer rfl rfl (Wp.r_ldcs (pc := 29) o_X12_aGrocer rfl (Wp.r_bipush (pc := 31) o_X12_aGrocer rfl (Wp.r_cv3 (pc := 33) o_X12_aGrocer rfl fk_M_0_0 (⟨rm8_ rfl, ?_⟩))))
    refine w_X12_wantWord_1001 (d := d + 1) _ ?_
    refine oq_bd H (fun r4 s5 H => ?_)
    refine Wp.r_if_eq (pc := 36) o_X12_aGrocer rfl (fun c9 => ?_) (fun c9 => ?_)
    · have H := oq_t c9 H
      exact Wp.r_iconst (pc := 75) o_X12_aGrocer rfl (Wp.r_ireturn (pc := 76) o_X12_aGrocer rfl (⟨rfl, H⟩))
    · have H := oq_f c9 H
      refine Wp.r_aload_n0 (pc := 39) o_X12_aGrocer rfl rfl (Wp.r_iload_n1 (pc := 40) o_X12_aGrocer rfl rfl (Wp.r_iconst (pc := 41) o_X12_aGrocer rfl (Wp.r_sipush (pc := 42) o_X12_aGrocer rfl (Wp.r_cv4 (pc := 45) o_X12_aGrocer rfl fk_M_0_0 (⟨rm8_ rfl, ?_⟩)))))
      refine w_X12_number (d := d + 1) _ _ _ ?_
      refine oq_bd H (fun r6 s7 H => ?_)
      refine Wp.r_if_eq (pc := 48) o_X12_aGrocer rfl (fun c9 => ?_) (fun c9 => ?_)
      · have H := oq_t c9 H
        exact Wp.r_iconst (pc := 75) o_X12_aGrocer rfl (Wp.r_ireturn (pc := 76) o_X12_aGrocer rfl (⟨rfl, H⟩))
      · have H := oq_f c9 H
        refine Wp.r_aload_n0 (pc := 51) o_X12_aGrocer rfl rfl (Wp.r_ldcs (pc := 52) o_X12_aGrocer rfl (Wp.r_bipush (pc := 54) o_X12_aGrocer rfl (Wp.r_cv3 (pc := 56) o_X12_aGrocer rfl fk_M_0_0 (⟨rm8_ rfl, ?_⟩))))
        refine w_X12_wantWord_1001 (d := d + 1) _ ?_
        refine oq_bd H (fun r8 s9 H => ?_)
        refine Wp.r_if_eq (pc := 59) o_X12_aGrocer rfl (fun c9 => ?_) (fun c9 => ?_)
        · have H := oq_t c9 H
          exact Wp.r_iconst (pc := 75) o_X12_aGrocer rfl (Wp.r_ireturn (pc := 76) o_X12_aGrocer rfl (⟨rfl, H⟩))
        · have H := oq_f c9 H
          refine Wp.r_aload_n0 (pc := 62) o_X12_aGrocer rfl rfl (Wp.r_iload_n1 (pc := 63) o_X12_aGrocer rfl rfl (Wp.r_iconst (pc := 64) o_X12_aGrocer rfl (Wp.r_iadd (pc := 65) o_X12_aGrocer rfl (Wp.r_iconst (pc := 66) o_X12_aGrocer rfl (Wp.r_bipush (pc := 67) o_X12_aGrocer rfl (Wp.r_cv4 (pc := 69) o_X12_aGrocer rfl fk_M_0_0 (⟨rm8_ rfl, ?_⟩)))))))
          refine w_X12_number (d := d + 1) _ _ _ ?_
          refine oq_bd H (fun r10 s11 H => ?_)
          refine Wp.r_if_ne (pc := 72) o_X12_aGrocer rfl (fun c9 => ?_) (fun c9 => ?_)
          · have H := oq_t c9 H
            exact Wp.r_iconst (pc := 75) o_X12_aGrocer rfl (Wp.r_ireturn (pc := 76) o_X12_aGrocer rfl (⟨rfl, H⟩))
          · have H := oq_f c9 H
            refine Wp.r_aload_n0 (pc := 77) o_X12_aGrocer rfl rfl (Wp.r_bipush (pc := 78) o_X12_aGrocer rfl (Wp.r_cv2 (pc := 80) o_X12_aGrocer rfl fk_M_0_0 (⟨rm8_ rfl, ?_⟩)))
            refine w_X12_isThere (d := d + 1) _ ?_
            refine oq_bd H (fun r12 s13 H => ?_)
            refine Wp.r_if_eq (pc := 83) o_X12_aGrocer rfl (fun c9 => ?_) (fun c9 => ?_)
            · have H := oq_t c9 H
              exact Wp.weak2 [1] (w_X12_aGrocer_b101 _ H) rfl
            · have H := oq_f c9 H
              refine Wp.r_aload_n0 (pc := 86) o_X12_aGrocer rfl rfl (Wp.r_iload_n1 (pc := 87) o_X12_aGrocer rfl rfl (Wp.r_iconst (pc := 88) o_X12_aGrocer rfl (Wp.r_iadd (pc := 89) o_X12_aGrocer rfl (Wp.r_iconst (pc := 90) o_X12_aGrocer rfl (Wp.r_bipush (pc := 91) o_X12_aGrocer rfl (Wp.r_cv4 (pc := 93) o_X12_aGrocer rfl fk_M_0_0 (⟨rm8_ rfl, ?_⟩)))))))
              refine w_X12_number (d := d + 1) _ _ _ ?_
              refine oq_bd H (fun r14 s15 H => ?_)
              refine Wp.r_if_ne (pc := 96) o_X12_aGrocer rfl (fun c9 => ?_) (fun c9 => ?_)
              · have H := oq_t c9 H
                exact Wp.r_iconst (pc := 99) o_X12_aGrocer rfl (Wp.r_ireturn (pc := 100) o_X12_aGrocer rfl (⟨rfl, H⟩))
              · have H := oq_f c9 H
                exact Wp.weak2 [1] (w_X12_aGrocer_b101 _ H) rfl
noncomputable abbrev Y_X12_once (d : Nat) (Q : Qt) : Xt := Wp SHM (WpM SHM MT (d + 3)) (flat2 cq_X12_once) (some .boolean) Q
noncomputable def f_X12_once (a1 : Int32) (s : Sg) : Option (Int32 × Sg) :=
  bd (f_X12_ahead s) (fun _ s2 =>
  bd (f_X12_inWords_1001 s2) (fun r3 s4 =>
  if r3 = a1 then
    if (((s4.1 0 20) >>> ((a1 - 17) &&& 31)) &&& 1) = 1 then
      bd (f_X12_fails 5 s4) (fun r5 s6 =>
      ck (r5 = 0 ∨ r5 = 1) (some (r5, s6))
      )
    else
      nmx (pI s4 0 20 ((s4.1 0 20) ||| ((1 : Int32) <<< ((a1 - 17) &&& 31)))) (fun s7 =>
      bd (f_X12_ahead s7) (fun _ s9 =>
      if a1 = 17 then
        bd (f_X12_number 1933 0 99 s9) (fun r10 s11 =>
        ck (r10 = 0 ∨ r10 = 1) (some (r10, s11))
        )
      else
        some (1, pI s9 1 1934 1)
      )
      )
  else
    bd (f_X12_fails 2 s4) (fun r12 s13 =>
    ck (r12 = 0 ∨ r12 = 1) (some (r12, s13))
    )
  )
  )
set_option maxRecDepth 100000 in
theorem w_X12_once {d : Nat} {s : Sg} {Q : Qt} (a1 : Int32) (H : OQ (f_X12_once a1 s) (fun r9 s9 => Q (some (.int r9)) s9)) : WpM SHM MT (d + 4) 230 [.ref 0, .int a1] s Q := by
  refine WpM.enter me_X12_once rfl rfl ?_
  show Y_X12_once d Q 0 [(0, .ref 0), (1, .int a1)] [] s
  unfold f_X12_once at H
  refine Wp.r_aload_n0 (pc := 0) o_X12_once rfl rfl (Wp.r_cv1 (pc := 1) o_X12_once rfl fk_M_0_0 (⟨rm8_ rfl, ?_⟩))
  refine w_X12_ahead (d := d + 1)  ?_
  refine oq_bd H (fun _ s2 H => ?_)
  refine Wp.r_aload_n0 (pc := 4) o_X12_once rfl rfl (Wp.r_ldcs (pc := 5) o_X12_once rfl (Wp.r_cv2 (pc := 7) o_X12_once rfl fk_M_0_0 (⟨rm8_ rfl, ?_⟩)))
  refine w_X12_inWords_1001 (d := d + 1)  ?_
  refine oq_bd H (fun r3 s4 H => ?_)
  refine Wp.r_iload_n1 (pc := 10) o_X12_once rfl rfl (Wp.r_icmp_eq (pc := 11) o_X12_once rfl (fun c9 => ?_) (fun c9 => ?_))
  · have H := oq_t c9 H
    refine Wp.f_al0_gfi (pc := 20) o_X12_once rfl rfl rfl fk_M_0_20 (Wp.r_iload_n1 (pc := 24) o_X12_once rfl rfl (Wp.r_bipush (pc := 25) o_X12_once rfl (Wp.r_isub (pc := 27) o_X12_once rfl (Wp.r_ishr (pc := 28) o_X12_once rfl (Wp.r_iconst (pc := 29) o_X12_once rfl (Wp.r_iand (pc := 30) o_X12_once rfl (Wp.r_iconst (pc := 31) o_X12_once rfl (Wp.r_icmp_ne (pc := 32) o_X12_once rfl (fun c9 => ?_) (fun c9 => ?_)))))))))
    · have H := oq_t c9 H
      refine Wp.f_al0_iconst (pc := 35) o_X12_once rfl rfl rfl (Wp.r_cv2 (pc := 37) o_X12_once rfl fk_M_0_0 (⟨rm8_ rfl, ?_⟩))
      refine w_X12_fails (d := d + 2) _ ?_
      refine oq_bd H (fun r5 s6 H => ?_)
      obtain ⟨c9, H⟩ := oq_ck H
      exact Wp.r_ireturn (pc := 40) o_X12_once rfl (⟨b01_n c9, H⟩)
    · have H := oq_f c9 H
      refine Wp.r_aload_n0 (pc := 41) o_X12_once rfl rfl (Wp.r_dup_r (pc := 42) o_X12_once rfl (Wp.r_gfi (pc := 43) o_X12_once rfl fk_M_0_20 (Wp.r_iconst (pc := 46) o_X12_once rfl (Wp.r_iload_n1 (pc := 47) o_X12_once rfl rfl (Wp.r_bipush (pc := 48) o_X12_once rfl (Wp.r_isub (pc := 50) o_X12_once rfl (Wp.r_ishl (pc := 51) o_X12_once rfl (Wp.r_ior (pc := 52) o_X12_once rfl (Wp.r_pfi (pc := 53) o_X12_once rfl fk_M_0_20 (show Y_X12_once d Q 56 [(0, .ref 0), (1, .int a1)] [] (pI s4 0 20 ((s4.1 0 20) ||| ((1 : Int32) <<< ((a1 - 17) &&& 31)))) from ?_))))))))))
      revert H
      generalize pI s4 0 20 ((s4.1 0 20) ||| ((1 : Int32) <<< ((a1 - 17) &&& 31))) = s7
      intro H
      have H := nmx_e H
      refine Wp.r_aload_n0 (pc := 56) o_X12_once rfl rfl (Wp.r_cv1 (pc := 57) o_X12_once rfl fk_M_0_0 (⟨rm8_ rfl, ?_⟩))
      refine w_X12_ahead (d := d + 1)  ?_
      refine oq_bd H (fun _ s9 H => ?_)
      refine Wp.r_iload_n1 (pc := 60) o_X12_once rfl rfl (Wp.r_bipush (pc := 61) o_X12_once rfl (Wp.r_icmp_ne (pc := 63) o_X12_once rfl (fun c9 => ?_) (fun c9 => ?_)))
      · have H := oq_t c9 H
        refine Wp.r_aload_n0 (pc := 66) o_X12_once rfl rfl (Wp.r_sipush (pc := 67) o_X12_once rfl (Wp.r_iconst (pc := 70) o_X12_once rfl (Wp.r_bipush (pc := 71) o_X12_once rfl (Wp.r_cv4 (pc := 73) o_X12_once rfl fk_M_0_0 (⟨rm8_ rfl, ?_⟩)))))
        refine w_X12_number (d := d) _ _ _ ?_
        refine oq_bd H (fun r10 s11 H => ?_)
        obtain ⟨c9, H⟩ := oq_ck H
        exact Wp.r_ireturn (pc := 76) o_X12_once rfl (⟨b01_n c9, H⟩)
      · have H := oq_f c9 H
        refine Wp.f_al0_gfr (pc := 77) o_X12_once rfl rfl rfl fk_M_0_0 (Wp.r_sipush (pc := 81) o_X12_once rfl (Wp.r_iconst (pc := 84) o_X12_once rfl (Wp.r_iastore (pc := 85) o_X12_once rfl ak_M_1 (show (vp_in 1934 2880) ∧ Y_X12_once d Q 86 [(0, .ref 0), (1, .int a1)] [] (pI s9 1 1934 1) from ⟨by unfold vp_in; decide, ?_⟩))))
        exact Wp.r_iconst (pc := 86) o_X12_once rfl (Wp.r_ireturn (pc := 87) o_X12_once rfl (⟨rfl, H⟩))
  · have H := oq_f c9 H
    refine Wp.f_al0_iconst (pc := 14) o_X12_once rfl rfl rfl (Wp.r_cv2 (pc := 16) o_X12_once rfl fk_M_0_0 (⟨rm8_ rfl, ?_⟩))
    refine w_X12_fails (d := d + 2) _ ?_
    refine oq_bd H (fun r12 s13 H => ?_)
    obtain ⟨c9, H⟩ := oq_ck H
    exact Wp.r_ireturn (pc := 19) o_X12_once rfl (⟨b01_n c9, H⟩)
noncomputable abbrev Y_X12_streetPart (d : Nat) (Q : Qt) : Xt := Wp SHM (WpM SHM MT (d + 6)) (flat2 cq_X12_streetPart) (some .boolean) Q
noncomputable def f_X12_streetPart_b102 (v1 : Int32) (s : Sg) : Option (Int32 × Sg) :=
  if v1 = 0 then
    some (0, s)
  else
    bd (f_X12_wantSign 59 s) (fun r5 s6 =>
    if r5 = 0 then
      some (0, s6)
    else
      some (1, s6)
    )
set_option maxRecDepth 100000 in
theorem w_X12_streetPart_b102 {d : Nat} {Q : Qt} (v1 : Int32) (s : Sg) (H : OQ (f_X12_streetPart_b102 v1 s) (fun r9 s9 => Q (some (.int r9)) s9)) : Y_X12_streetPart d Q 102 [(0, .ref 0), (1, .int v1)] [] s := by
  unfold f_X12_streetPart_b102 at H
  refine Wp.r_iload_n1 (pc := 102) o_X12_streetPart rfl rfl (Wp.r_if_eq (pc := 103) o_X12_streetPart rfl (fun c9 => ?_) (fun c9 => ?_))
  · have H := oq_t c9 H
    exact Wp.r_iconst (pc := 119) o_X12_streetPart rfl (Wp.r_ireturn (pc := 120) o_X12_streetPart rfl (⟨rfl, H⟩))
  · have H := oq_f c9 H
    refine Wp.r_aload_n0 (pc := 106) o_X12_streetPart rfl rfl (Wp.r_bipush (pc := 107) o_X12_streetPart rfl (Wp.r_cv2 (pc := 109) o_X12_streetPart rfl fk_M_0_0 (⟨rm8_ rfl, ?_⟩)))
    refine w_X12_wantSign (d := d + 3) _ ?_
    refine oq_bd H (fun r5 s6 H => ?_)
    refine Wp.r_if_eq (pc := 112) o_X12_streetPart rfl (fun c9 => ?_) (fun c9 => ?_)
    · have H := oq_t c9 H
      exact Wp.r_iconst (pc := 119) o_X12_streetPart rfl (Wp.r_ireturn (pc := 120) o_X12_streetPart rfl (⟨rfl, H⟩))
    · have H := oq_f c9 H
      exact Wp.r_iconst (pc := 115) o_X12_streetPart rfl (Wp.r_goto (pc := 116) o_X12_streetPart rfl (Wp.r_ireturn (pc := 120) o_X12_streetPart rfl (⟨rfl, H⟩)))
noncomputable def f_X12_streetPart  (s : Sg) : Option (Int32 × Sg) :=
  bd (f_X12_inWords_1001 s) (fun r1 s2 =>
  if r1 = 0 then
    bd (f_X12_aHouse s2) (fun r3 s4 =>
    f_X12_streetPart_b102 r3 s4
    )
  else
  if r1 = 1 then
    bd (f_X12_aQuarrel s2) (fun r7 s8 =>
    f_X12_streetPart_b102 r7 s8
    )
  else
  if r1 = 2 then
    bd (f_X12_aCat s2) (fun r9 s10 =>
    f_X12_streetPart_b102 r9 s10
    )
  else
  if r1 = 3 then
    bd (f_X12_aGrocer s2) (fun r11 s12 =>
    f_X12_streetPart_b102 r11 s12
    )
  else
  if r1 = 4 then
    bd (f_X12_once 17 s2) (fun r13 s14 =>
    f_X12_streetPart_b102 r13 s14
    )
  else
  if r1 = 5 then
    bd (f_X12_once 18 s2) (fun r15 s16 =>
    f_X12_streetPart_b102 r15 s16
    )
  else
    bd (f_X12_fails 2 s2) (fun r17 s18 =>
    ck (r17 = 0 ∨ r17 = 1) (some (r17, s18))
    )
  )
set_option maxRecDepth 100000 in
theorem w_X12_streetPart {d : Nat} {s : Sg} {Q : Qt}  (H : OQ (f_X12_streetPart  s) (fun r9 s9 => Q (some (.int r9)) s9)) : WpM SHM MT (d + 7) 231 [.ref 0] s Q := by
  refine WpM.enter me_X12_streetPart rfl rfl ?_
  show Y_X12_streetPart d Q 0 [(0, .ref 0)] [] s
  unfold f_X12_streetPart at H
  refine Wp.r_aload_n0 (pc := 0) o_X12_streetPart rfl rfl (Wp.r_ldcs (pc := 1) o_X12_streetPart rfl (Wp.r_cv2 (pc := 3) o_X12_streetPart rfl fk_M_0_0 (⟨rm8_ rfl, ?_⟩)))
  refine w_X12_inWords_1001 (d := d + 4)  ?_
  refine oq_bd H (fun r1 s2 H => ?_)
  refine Wp.tsw2 (l := [(0, 44), (1, 52), (2, 60), (3, 68), (4, 76), (5, 86)]) o_X12_streetPart rfl (by decide +kernel) ?_
  show sw [(0, 44), (1, 52), (2, 60), (3, 68), (4, 76), (5, 86)] 96 r1 (fun t9 => Y_X12_streetPart d Q t9 [(0, .ref 0)] [] s2)
  refine sw_c (fun e9 => ?_) (fun c9_0 => (sw_c (fun e9 => ?_) (fun c9_1 => (sw_c (fun e9 => ?_) (fun c9_2 => (sw_c (fun e9 => ?_) (fun c9_3 => (sw_c (fun e9 => ?_) (fun c9_4 => (sw_c (fun e9 => ?_) (fun c9_5 => ?_)))))))))))
  · have H := oq_t e9 H
    refine Wp.r_aload_n0 (pc := 44) o_X12_streetPart rfl rfl (Wp.r_cv1 (pc := 45) o_X12_streetPart rfl fk_M_0_0 (⟨rm8_ rfl, ?_⟩))
    refine w_X12_aHouse (d := d + 1)  ?_
    refine oq_bd H (fun r3 s4 H => ?_)
    exact Wp.r_istore_n1 (pc := 48) o_X12_streetPart rfl (Wp.r_goto (pc := 49) o_X12_streetPart rfl (Wp.weak2 [1, 0] (w_X12_streetPart_b102 _ _ H) rfl))
  · have H := oq_f c9_0 H; have H := oq_t e9 H
    refine Wp.r_aload_n0 (pc := 52) o_X12_streetPart rfl rfl (Wp.r_cv1 (pc := 53) o_X12_streetPart rfl fk_M_0_0 (⟨rm8_ rfl, ?_⟩))
    refine w_X12_aQuarrel (d := d)  ?_
    refine oq_bd H (fun r7 s8 H => ?_)
    exact Wp.r_istore_n1 (pc := 56) o_X12_streetPart rfl (Wp.r_goto (pc := 57) o_X12_streetPart rfl (Wp.weak2 [1, 0] (w_X12_streetPart_b102 _ _ H) rfl))
  · have H := oq_f c9_0 H; have H := oq_f c9_1 H; have H := oq_t e9 H
    refine Wp.r_aload_n0 (pc := 60) o_X12_streetPart rfl rfl (Wp.r_cv1 (pc := 61) o_X12_streetPart rfl fk_M_0_0 (⟨rm8_ rfl, ?_⟩))
    refine w_X12_aCat (d := d)  ?_
    refine oq_bd H (fun r9 s10 H => ?_)
    exact Wp.r_istore_n1 (pc := 64) o_X12_streetPart rfl (Wp.r_goto (pc := 65) o_X12_streetPart rfl (Wp.weak2 [1, 0] (w_X12_streetPart_b102 _ _ H) rfl))
  · have H := oq_f c9_0 H; have H := oq_f c9_1 H; have H := oq_f c9_2 H; have H := oq_t e9 H
    refine Wp.r_aload_n0 (pc := 68) o_X12_streetPart rfl rfl (Wp.r_cv1 (pc := 69) o_X12_streetPart rfl fk_M_0_0 (⟨rm8_ rfl, ?_⟩))
    refine w_X12_aGrocer (d := d + 1)  ?_
    refine oq_bd H (fun r11 s12 H => ?_)
    exact Wp.r_istore_n1 (pc := 72) o_X12_streetPart rfl (Wp.r_goto (pc := 73) o_X12_streetPart rfl (Wp.weak2 [1, 0] (w_X12_streetPart_b102 _ _ H) rfl))
  · have H := oq_f c9_0 H; have H := oq_f c9_1 H; have H := oq_f c9_2 H; have H := oq_f c9_3 H; have H := oq_t e9 H
    refine Wp.r_aload_n0 (pc := 76) o_X12_streetPart rfl rfl (Wp.r_bipush (pc := 77) o_X12_streetPart rfl (Wp.r_cv2 (pc := 79) o_X12_streetPart rfl fk_M_0_0 (⟨rm8_ rfl, ?_⟩)))
    refine w_X12_once (d := d + 2) _ ?_
    refine oq_bd H (fun r13 s14 H => ?_)
    exact Wp.r_istore_n1 (pc := 82) o_X12_streetPart rfl (Wp.r_goto (pc := 83) o_X12_streetPart rfl (Wp.weak2 [1, 0] (w_X12_streetPart_b102 _ _ H) rfl))
  · have H := oq_f c9_0 H; have H := oq_f c9_1 H; have H := oq_f c9_2 H; have H := oq_f c9_3 H; have H := oq_f c9_4 H; have H := oq_t e9 H
    refine Wp.r_aload_n0 (pc := 86) o_X12_streetPart rfl rfl (Wp.r_bipush (pc := 87) o_X12_streetPart rfl (Wp.r_cv2 (pc := 89) o_X12_streetPart rfl fk_M_0_0 (⟨rm8_ rfl, ?_⟩)))
    refine w_X12_once (d := d + 2) _ ?_
    refine oq_bd H (fun r15 s16 H => ?_)
    exact Wp.r_istore_n1 (pc := 92) o_X12_streetPart rfl (Wp.r_goto (pc := 93) o_X12_streetPart rfl (Wp.weak2 [1, 0] (w_X12_streetPart_b102 _ _ H) rfl))
  · have H := oq_f c9_0 H; have H := oq_f c9_1 H; have H := oq_f c9_2 H; have H := oq_f c9_3 H; have H := oq_f c9_4 H; have H := oq_f c9_5 H
    refine Wp.f_al0_iconst (pc := 96) o_X12_streetPart rfl rfl rfl (Wp.r_cv2 (pc := 98) o_X12_streetPart rfl fk_M_0_0 (⟨rm8_ rfl, ?_⟩))
    refine w_X12_fails (d := d + 5) _ ?_
    refine oq_bd H (fun r17 s18 H => ?_)
    obtain ⟨c9, H⟩ := oq_ck H
    exact Wp.r_ireturn (pc := 101) o_X12_streetPart rfl (⟨b01_n c9, H⟩)
noncomputable abbrev Y_X12_street (d : Nat) (Q : Qt) : Xt := Wp SHM (WpM SHM MT (d + 7)) (flat2 cq_X12_street) (some .int) Q
noncomputable def f_X12_street_b90 : Nat → Int32 → Sg → Option (Int32 × Sg)
  | 0, _, _ => none
  | n + 1, v3, s =>
    if 24 ≤ v3 then
      bd (f_X12_taken (s.1 1 1) s) (fun r7 s8 =>
      some (r7, s8)
      )
    else
      ck (inr (96 + v3) 130) (
      ck (inr v3 130) (
      nmx (pL s 2 v3.toNatClampNeg (s.2 2 ((96 + v3).toNatClampNeg))) (fun s11 =>
      (f_X12_street_b90 n) (v3 + 1) s11
      )
      )
      )
set_option maxRecDepth 100000 in
theorem w_X12_street_b90 {d : Nat} {Q : Qt} (n : Nat) : ∀ (v3 : Int32) (s : Sg), OQ (f_X12_street_b90 n v3 s) (fun r9 s9 => Q (some (.int r9)) s9) → Y_X12_street d Q 90 [(0, .ref 0), (3, .int v3)] [] s := by
  induction n with
  | zero => intro v3 s H; exact H.elim
  | succ n ih =>
    intro v3 s H
    unfold f_X12_street_b90 at H
    refine Wp.r_iload_n3 (pc := 90) o_X12_street rfl rfl (Wp.r_bipush (pc := 91) o_X12_street rfl (Wp.r_icmp_ge (pc := 93) o_X12_street rfl (fun c9 => ?_) (fun c9 => ?_)))
    · have H := oq_t c9 H
      refine Wp.r_aload_n0 (pc := 117) o_X12_street rfl rfl (Wp.f_al0_gfr (pc := 118) o_X12_street rfl rfl rfl fk_M_0_0 (Wp.r_iconst (pc := 122) o_X12_street rfl (Wp.r_iaload (pc := 123) o_X12_street rfl ak_M_1 (show (vp_in 1 2880) ∧ Y_X12_street d Q 124 [(0, .ref 0), (3, .int v3)] [.int (s.1 1 1), .ref 0] s from ⟨by unfold vp_in; decide, ?_⟩))))
      refine Wp.r_cv2 (pc := 124) o_X12_street rfl fk_M_0_0 (⟨rm8_ rfl, ?_⟩)
      refine w_X12_taken (d := d + 5) _ ?_
      refine oq_bd H (fun r7 s8 H => ?_)
      exact Wp.r_ireturn (pc := 127) o_X12_street rfl (⟨rfl, H⟩)
    · have H := oq_f c9 H
      obtain ⟨hc9, H⟩ := oq_ck H
      refine Wp.f_al0_gfr (pc := 96) o_X12_street rfl rfl rfl fk_M_0_1 (Wp.r_iload_n3 (pc := 100) o_X12_street rfl rfl (Wp.f_al0_gfr (pc := 101) o_X12_street rfl rfl rfl fk_M_0_1 (Wp.r_bipush (pc := 105) o_X12_street rfl (Wp.r_iload_n3 (pc := 107) o_X12_street rfl rfl (Wp.r_iadd (pc := 108) o_X12_street rfl (Wp.r_laload (pc := 109) o_X12_street rfl ak_M_2 (⟨hc9, ?_⟩)))))))
      obtain ⟨hc10, H⟩ := oq_ck H
      refine Wp.r_lastore (pc := 110) o_X12_street rfl ak_M_2 (⟨hc10, ?_⟩)
      revert H
      generalize pL s 2 v3.toNatClampNeg (s.2 2 ((96 + v3).toNatClampNeg)) = s11
      intro H
      have H := nmx_e H
      exact Wp.f_iinc_goto (pc := 111) o_X12_street rfl rfl rfl (Wp.weak2 [1, 0] (ih _ _ H) rfl)
noncomputable def f_X12_street_b59 : Nat → Int32 → Sg → Option (Int32 × Sg)
  | 0, _, _ => none
  | n + 1, v3, s =>
    if 480 ≤ v3 then
      f_X12_street_b90 BIG 0 s
    else
      ck (inr (1920 + v3) 2880) (
      ck (inr v3 2880) (
      nmx (pI s 1 v3.toNatClampNeg (s.1 1 ((1920 + v3).toNatClampNeg))) (fun s14 =>
      (f_X12_street_b59 n) (v3 + 1) s14
      )
      )
      )
set_option maxRecDepth 100000 in
theorem w_X12_street_b59 {d : Nat} {Q : Qt} (n : Nat) : ∀ (v3 : Int32) (s : Sg), OQ (f_X12_street_b59 n v3 s) (fun r9 s9 => Q (some (.int r9)) s9) → Y_X12_street d Q 59 [(0, .ref 0), (3, .int v3)] [] s := by
  induction n with
  | zero => intro v3 s H; exact H.elim
  | succ n ih =>
    intro v3 s H
    unfold f_X12_street_b59 at H
    refine Wp.r_iload_n3 (pc := 59) o_X12_street rfl rfl (Wp.r_sipush (pc := 60) o_X12_street rfl (Wp.r_icmp_ge (pc := 63) o_X12_street rfl (fun c9 => ?_) (fun c9 => ?_)))
    · have H := oq_t c9 H
      exact Wp.r_iconst (pc := 88) o_X12_street rfl (Wp.r_istore_n3 (pc := 89) o_X12_street rfl (Wp.weak2 [1, 0] (w_X12_street_b90 _ _ _ H) rfl))
    · have H := oq_f c9 H
      obtain ⟨hc12, H⟩ := oq_ck H
      refine Wp.f_al0_gfr (pc := 66) o_X12_street rfl rfl rfl fk_M_0_0 (Wp.r_iload_n3 (pc := 70) o_X12_street rfl rfl (Wp.f_al0_gfr (pc := 71) o_X12_street rfl rfl rfl fk_M_0_0 (Wp.r_sipush (pc := 75) o_X12_street rfl (Wp.r_iload_n3 (pc := 78) o_X12_street rfl rfl (Wp.r_iadd (pc := 79) o_X12_street rfl (Wp.r_iaload (pc := 80) o_X12_street rfl ak_M_1 (⟨hc12, ?_⟩)))))))
      obtain ⟨hc13, H⟩ := oq_ck H
      refine Wp.r_iastore (pc := 81) o_X12_street rfl ak_M_1 (⟨hc13, ?_⟩)
      revert H
      generalize pI s 1 v3.toNatClampNeg (s.1 1 ((1920 + v3).toNatClampNeg)) = s14
      intro H
      have H := nmx_e H
      exact Wp.f_iinc_goto (pc := 82) o_X12_street rfl rfl rfl (Wp.weak2 [1, 0] (ih _ _ H) rfl)
noncomputable def f_X12_street_b50  (s : Sg) : Option (Int32 × Sg) :=
  if (s.1 0 18) = 0 then
    f_X12_street_b59 BIG 0 s
  else
    bd (f_X12_taken (s.1 1 1) s) (fun r15 s16 =>
    some (r15, s16)
    )
set_option maxRecDepth 100000 in
theorem w_X12_street_b50 {d : Nat} {Q : Qt}  (s : Sg) (H : OQ (f_X12_street_b50  s) (fun r9 s9 => Q (some (.int r9)) s9)) : Y_X12_street d Q 50 [(0, .ref 0)] [] s := by
  unfold f_X12_street_b50 at H
  refine Wp.f_al0_gfi (pc := 50) o_X12_street rfl rfl rfl fk_M_0_18 (Wp.r_if_ne (pc := 54) o_X12_street rfl (fun c9 => ?_) (fun c9 => ?_))
  · have H := oq_t c9 H
    exact Wp.r_iconst (pc := 57) o_X12_street rfl (Wp.r_istore_n3 (pc := 58) o_X12_street rfl (Wp.weak2 [1, 0] (w_X12_street_b59 _ _ _ H) rfl))
  · have H := oq_f c9 H
    refine Wp.r_aload_n0 (pc := 117) o_X12_street rfl rfl (Wp.f_al0_gfr (pc := 118) o_X12_street rfl rfl rfl fk_M_0_0 (Wp.r_iconst (pc := 122) o_X12_street rfl (Wp.r_iaload (pc := 123) o_X12_street rfl ak_M_1 (show (vp_in 1 2880) ∧ Y_X12_street d Q 124 [(0, .ref 0)] [.int (s.1 1 1), .ref 0] s from ⟨by unfold vp_in; decide, ?_⟩))))
    refine Wp.r_cv2 (pc := 124) o_X12_street rfl fk_M_0_0 (⟨rm8_ rfl, ?_⟩)
    refine w_X12_taken (d := d + 5) _ ?_
    refine oq_bd H (fun r15 s16 H => ?_)
    exact Wp.r_ireturn (pc := 127) o_X12_street rfl (⟨rfl, H⟩)
noncomputable def f_X12_street_b31 : Nat → Int32 → Sg → Option (Int32 × Sg)
  | 0, _, _ => none
  | n + 1, v2, s =>
    if v2 = 0 then
      f_X12_street_b50 s
    else
      if (s.1 0 12) = 0 then
        f_X12_street_b50 s
      else
        bd (f_X12_streetPart s) (fun r17 s18 =>
        (f_X12_street_b31 n) r17 s18
        )
set_option maxRecDepth 100000 in
theorem w_X12_street_b31 {d : Nat} {Q : Qt} (n : Nat) : ∀ (v2 : Int32) (s : Sg), OQ (f_X12_street_b31 n v2 s) (fun r9 s9 => Q (some (.int r9)) s9) → Y_X12_street d Q 31 [(0, .ref 0), (2, .int v2)] [] s := by
  induction n with
  | zero => intro v2 s H; exact H.elim
  | succ n ih =>
    intro v2 s H
    unfold f_X12_street_b31 at H
    refine Wp.r_iload_n2 (pc := 31) o_X12_street rfl rfl (Wp.r_if_eq (pc := 32) o_X12_street rfl (fun c9 => ?_) (fun c9 => ?_))
    · have H := oq_t c9 H
      exact Wp.weak2 [0] (w_X12_street_b50 _ H) rfl
    · have H := oq_f c9 H
      refine Wp.f_al0_gfi (pc := 35) o_X12_street rfl rfl rfl fk_M_0_12 (Wp.r_if_eq (pc := 39) o_X12_street rfl (fun c9 => ?_) (fun c9 => ?_))
      · have H := oq_t c9 H
        exact Wp.weak2 [0] (w_X12_street_b50 _ H) rfl
      · have H := oq_f c9 H
        refine Wp.r_aload_n0 (pc := 42) o_X12_street rfl rfl (Wp.r_cv1 (pc := 43) o_X12_street rfl fk_M_0_0 (⟨rm8_ rfl, ?_⟩))
        refine w_X12_streetPart (d := d)  ?_
        refine oq_bd H (fun r17 s18 H => ?_)
        exact Wp.r_istore_n2 (pc := 46) o_X12_street rfl (Wp.r_goto (pc := 47) o_X12_street rfl (Wp.weak2 [1, 0] (ih _ _ H) rfl))
noncomputable def f_X12_street (a1 : Int32) (s : Sg) : Option (Int32 × Sg) :=
  bd (f_X12_begins a1 900 s) (fun r1 s2 =>
  if r1 = 0 then
    bd (f_X12_refuse 1 s2) (fun r3 s4 =>
    some (r3, s4)
    )
  else
    bd (f_X12_plain 1920 s2) (fun _ s6 =>
    f_X12_street_b31 BIG 1 (pI s6 0 20 0)
    )
  )
set_option maxRecDepth 100000 in
theorem w_X12_street {d : Nat} {s : Sg} {Q : Qt} (a1 : Int32) (H : OQ (f_X12_street a1 s) (fun r9 s9 => Q (some (.int r9)) s9)) : WpM SHM MT (d + 8) 232 [.ref 0, .int a1] s Q := by
  refine WpM.enter me_X12_street rfl rfl ?_
  show Y_X12_street d Q 0 [(0, .ref 0), (1, .int a1)] [] s
  unfold f_X12_street at H
  refine Wp.r_aload_n0 (pc := 0) o_X12_street rfl rfl (Wp.r_iload_n1 (pc := 1) o_X12_street rfl rfl (Wp.r_sipush (pc := 2) o_X12_street rfl (Wp.r_cv3 (pc := 5) o_X12_street rfl fk_M_0_0 (⟨rm8_ rfl, ?_⟩))))
  refine w_X12_begins (d := d + 4) _ _ ?_
  refine oq_bd H (fun r1 s2 H => ?_)
  refine Wp.r_if_ne (pc := 8) o_X12_street rfl (fun c9 => ?_) (fun c9 => ?_)
  · have H := oq_t c9 H
    refine Wp.f_al0_iconst (pc := 11) o_X12_street rfl rfl rfl (Wp.r_cv2 (pc := 13) o_X12_street rfl fk_M_0_0 (⟨rm8_ rfl, ?_⟩))
    refine w_X12_refuse (d := d + 6) _ ?_
    refine oq_bd H (fun r3 s4 H => ?_)
    exact Wp.r_ireturn (pc := 16) o_X12_street rfl (⟨rfl, H⟩)
  · have H := oq_f c9 H
    refine Wp.r_aload_n0 (pc := 17) o_X12_street rfl rfl (Wp.r_sipush (pc := 18) o_X12_street rfl (Wp.r_cv2 (pc := 21) o_X12_street rfl fk_M_0_0 (⟨rm8_ rfl, ?_⟩)))
    refine w_X12_plain (d := d + 6) _ ?_
    refine oq_bd H (fun _ s6 H => ?_)
    exact Wp.f_al0_iconst (pc := 24) o_X12_street rfl rfl rfl (Wp.r_pfi (pc := 26) o_X12_street rfl fk_M_0_20 (Wp.r_iconst (pc := 29) o_X12_street rfl (Wp.r_istore_n2 (pc := 30) o_X12_street rfl (Wp.weak2 [1, 0] (w_X12_street_b31 _ _ _ H) rfl))))
noncomputable abbrev Y_X12_isGone (d : Nat) (Q : Qt) : Xt := Wp SHM (WpM SHM MT (d + 0)) (flat2 cq_X12_isGone) (some .boolean) Q
noncomputable def f_X12_isGone (a1 : Int32) (s : Sg) : Option (Int32 × Sg) :=
  if (((s.1 1 9) >>> (a1 &&& 31)) &&& 1) = 1 then
    some (1, s)
  else
    some (0, s)
set_option maxRecDepth 100000 in
theorem w_X12_isGone {d : Nat} {s : Sg} {Q : Qt} (a1 : Int32) (H : OQ (f_X12_isGone a1 s) (fun r9 s9 => Q (some (.int r9)) s9)) : WpM SHM MT (d + 1) 242 [.ref 0, .int a1] s Q := by
  refine WpM.enter me_X12_isGone rfl rfl ?_
  show Y_X12_isGone d Q 0 [(0, .ref 0), (1, .int a1)] [] s
  unfold f_X12_isGone at H
  refine Wp.f_al0_gfr (pc := 0) o_X12_isGone rfl rfl rfl fk_M_0_0 (Wp.r_bipush (pc := 4) o_X12_isGone rfl (Wp.r_iaload (pc := 6) o_X12_isGone rfl ak_M_1 (show (vp_in 9 2880) ∧ Y_X12_isGone d Q 7 [(0, .ref 0), (1, .int a1)] [.int (s.1 1 9)] s from ⟨by unfold vp_in; decide, ?_⟩)))
  refine Wp.r_iload_n1 (pc := 7) o_X12_isGone rfl rfl (Wp.r_ishr (pc := 8) o_X12_isGone rfl (Wp.r_iconst (pc := 9) o_X12_isGone rfl (Wp.r_iand (pc := 10) o_X12_isGone rfl (Wp.r_iconst (pc := 11) o_X12_isGone rfl (Wp.r_icmp_ne (pc := 12) o_X12_isGone rfl (fun c9 => ?_) (fun c9 => ?_))))))
  · have H := oq_t c9 H
    exact Wp.r_iconst (pc := 15) o_X12_isGone rfl (Wp.r_goto (pc := 16) o_X12_isGone rfl (Wp.r_ireturn (pc := 20) o_X12_isGone rfl (⟨rfl, H⟩)))
  · have H := oq_f c9 H
    exact Wp.r_iconst (pc := 19) o_X12_isGone rfl (Wp.r_ireturn (pc := 20) o_X12_isGone rfl (⟨rfl, H⟩))
noncomputable abbrev Y_X12_stepTo (d : Nat) (Q : Qt) : Xt := Wp SHM (WpM SHM MT (d + 4)) (flat2 cq_X12_stepTo) (some .boolean) Q
noncomputable def f_X12_stepTo_b24 (v1 : Int32) (t0 : Int32) (s : Sg) : Option (Int32 × Sg) :=
  if t0 = (-1) then
    bd (f_X12_oldOne 0 (s.1 1 0) v1 s) (fun r3 s4 =>
    ck (r3 = 0 ∨ r3 = 1) (some (r3, s4))
    )
  else
    bd (f_X12_isGone t0 s) (fun r5 s6 =>
    if r5 = 0 then
      bd (f_X12_oldOne 0 (s6.1 1 0) v1 s6) (fun r7 s8 =>
      ck (r7 = 0 ∨ r7 = 1) (some (r7, s8))
      )
    else
      bd (f_X12_fails 5 s6) (fun r9 s10 =>
      ck (r9 = 0 ∨ r9 = 1) (some (r9, s10))
      )
    )
set_option maxRecDepth 100000 in
theorem w_X12_stepTo_b24 {d : Nat} {Q : Qt} (v1 : Int32) (t0 : Int32) (s : Sg) (H : OQ (f_X12_stepTo_b24 v1 t0 s) (fun r9 s9 => Q (some (.int r9)) s9)) : Y_X12_stepTo d Q 24 [(0, .ref 0), (1, .int v1)] [.int t0] s := by
  unfold f_X12_stepTo_b24 at H
  refine Wp.r_istore_n2 (pc := 24) o_X12_stepTo rfl (Wp.r_iload_n2 (pc := 25) o_X12_stepTo rfl rfl (Wp.r_iconst (pc := 26) o_X12_stepTo rfl (Wp.r_icmp_eq (pc := 27) o_X12_stepTo rfl (fun c9 => ?_) (fun c9 => ?_))))
  · have H := oq_t c9 H
    refine Wp.f_al0_iconst (pc := 46) o_X12_stepTo rfl rfl rfl (Wp.f_al0_gfr (pc := 48) o_X12_stepTo rfl rfl rfl fk_M_0_0 (Wp.r_iconst (pc := 52) o_X12_stepTo rfl (Wp.r_iaload (pc := 53) o_X12_stepTo rfl ak_M_1 (show (vp_in 0 2880) ∧ Y_X12_stepTo d Q 54 [(2, .int t0), (0, .ref 0), (1, .int v1)] [.int (s.1 1 0), .int 0, .ref 0] s from ⟨by unfold vp_in; decide, ?_⟩))))
    refine Wp.r_iload_n1 (pc := 54) o_X12_stepTo rfl rfl (Wp.r_cv4 (pc := 55) o_X12_stepTo rfl fk_M_0_0 (⟨rm8_ rfl, ?_⟩))
    refine w_X12_oldOne (d := d) _ _ _ ?_
    refine oq_bd H (fun r3 s4 H => ?_)
    obtain ⟨c9, H⟩ := oq_ck H
    exact Wp.r_ireturn (pc := 58) o_X12_stepTo rfl (⟨b01_n c9, H⟩)
  · have H := oq_f c9 H
    refine Wp.r_aload_n0 (pc := 30) o_X12_stepTo rfl rfl (Wp.r_iload_n2 (pc := 31) o_X12_stepTo rfl rfl (Wp.r_cv2 (pc := 32) o_X12_stepTo rfl fk_M_0_0 (⟨rm8_ rfl, ?_⟩)))
    refine w_X12_isGone (d := d + 3) _ ?_
    refine oq_bd H (fun r5 s6 H => ?_)
    refine Wp.r_if_eq (pc := 35) o_X12_stepTo rfl (fun c9 => ?_) (fun c9 => ?_)
    · have H := oq_t c9 H
      refine Wp.f_al0_iconst (pc := 46) o_X12_stepTo rfl rfl rfl (Wp.f_al0_gfr (pc := 48) o_X12_stepTo rfl rfl rfl fk_M_0_0 (Wp.r_iconst (pc := 52) o_X12_stepTo rfl (Wp.r_iaload (pc := 53) o_X12_stepTo rfl ak_M_1 (show (vp_in 0 2880) ∧ Y_X12_stepTo d Q 54 [(2, .int t0), (0, .ref 0), (1, .int v1)] [.int (s6.1 1 0), .int 0, .ref 0] s6 from ⟨by unfold vp_in; decide, ?_⟩))))
      refine Wp.r_iload_n1 (pc := 54) o_X12_stepTo rfl rfl (Wp.r_cv4 (pc := 55) o_X12_stepTo rfl fk_M_0_0 (⟨rm8_ rfl, ?_⟩))
      refine w_X12_oldOne (d := d) _ _ _ ?_
      refine oq_bd H (fun r7 s8 H => ?_)
      obtain ⟨c9, H⟩ := oq_ck H
      exact Wp.r_ireturn (pc := 58) o_X12_stepTo rfl (⟨b01_n c9, H⟩)
    · have H := oq_f c9 H
      refine Wp.f_al0_iconst (pc := 38) o_X12_stepTo rfl rfl rfl (Wp.r_cv2 (pc := 40) o_X12_stepTo rfl fk_M_0_0 (⟨rm8_ rfl, ?_⟩))
      refine w_X12_fails (d := d + 3) _ ?_
      refine oq_bd H (fun r9 s10 H => ?_)
      obtain ⟨c9, H⟩ := oq_ck H
      exact Wp.r_goto (pc := 43) o_X12_stepTo rfl (Wp.r_ireturn (pc := 58) o_X12_stepTo rfl (⟨b01_n c9, H⟩))
noncomputable def f_X12_stepTo (a1 : Int32) (s : Sg) : Option (Int32 × Sg) :=
  bd (f_X12_isName_1001 s) (fun r1 s2 =>
  if r1 = 0 then
    f_X12_stepTo_b24 a1 (-1) s2
  else
    bd (f_X12_findHere 0 (s2.1 1 0) s2) (fun r11 s12 =>
    f_X12_stepTo_b24 a1 r11 s12
    )
  )
set_option maxRecDepth 100000 in
theorem w_X12_stepTo {d : Nat} {s : Sg} {Q : Qt} (a1 : Int32) (H : OQ (f_X12_stepTo a1 s) (fun r9 s9 => Q (some (.int r9)) s9)) : WpM SHM MT (d + 5) 233 [.ref 0, .int a1] s Q := by
  refine WpM.enter me_X12_stepTo rfl rfl ?_
  show Y_X12_stepTo d Q 0 [(0, .ref 0), (1, .int a1)] [] s
  unfold f_X12_stepTo at H
  refine Wp.r_aload_n0 (pc := 0) o_X12_stepTo rfl rfl (Wp.r_ldcs (pc := 1) o_X12_stepTo rfl (Wp.r_cv2 (pc := 3) o_X12_stepTo rfl fk_M_0_0 (⟨rm8_ rfl, ?_⟩)))
  refine w_X12_isName_1001 (d := d + 1)  ?_
  refine oq_bd H (fun r1 s2 H => ?_)
  refine Wp.r_if_eq (pc := 6) o_X12_stepTo rfl (fun c9 => ?_) (fun c9 => ?_)
  · have H := oq_t c9 H
    exact Wp.r_iconst (pc := 23) o_X12_stepTo rfl (Wp.weak2 [0, 1] (w_X12_stepTo_b24 _ _ _ H) rfl)
  · have H := oq_f c9 H
    refine Wp.f_al0_iconst (pc := 9) o_X12_stepTo rfl rfl rfl (Wp.f_al0_gfr (pc := 11) o_X12_stepTo rfl rfl rfl fk_M_0_0 (Wp.r_iconst (pc := 15) o_X12_stepTo rfl (Wp.r_iaload (pc := 16) o_X12_stepTo rfl ak_M_1 (show (vp_in 0 2880) ∧ Y_X12_stepTo d Q 17 [(0, .ref 0), (1, .int a1)] [.int (s2.1 1 0), .int 0, .ref 0] s2 from ⟨by unfold vp_in; decide, ?_⟩))))
    refine Wp.r_cv3 (pc := 17) o_X12_stepTo rfl fk_M_0_0 (⟨rm8_ rfl, ?_⟩)
    refine w_X12_findHere (d := d + 1) _ _ ?_
    refine oq_bd H (fun r11 s12 H => ?_)
    exact Wp.r_goto (pc := 20) o_X12_stepTo rfl (Wp.weak2 [0, 1] (w_X12_stepTo_b24 _ _ _ H) rfl)
noncomputable abbrev Y_X12_test (d : Nat) (Q : Qt) : Xt := Wp SHM (WpM SHM MT (d + 5)) (flat2 cq_X12_test) (some .boolean) Q
noncomputable def f_X12_test_b101 (v1 : Int32) (s : Sg) : Option (Int32 × Sg) :=
  ck (inr (v1 + 5) 2880) (
  nmx (pI s 1 ((v1 + 5).toNatClampNeg) (s.1 0 15)) (fun s18 =>
  bd (f_X12_ahead s18) (fun _ s20 =>
  bd (f_X12_number (v1 + 2) 0 9999 s20) (fun r21 s22 =>
  ck (r21 = 0 ∨ r21 = 1) (some (r21, s22))
  )
  )
  )
  )
set_option maxRecDepth 100000 in
theorem w_X12_test_b101 {d : Nat} {Q : Qt} (v1 : Int32) (s : Sg) (H : OQ (f_X12_test_b101 v1 s) (fun r9 s9 => Q (some (.int r9)) s9)) : Y_X12_test d Q 101 [(0, .ref 0), (1, .int v1)] [] s := by
  unfold f_X12_test_b101 at H
  obtain ⟨hc17, H⟩ := oq_ck H
  refine Wp.f_al0_gfr (pc := 101) o_X12_test rfl rfl rfl fk_M_0_0 (Wp.r_iload_n1 (pc := 105) o_X12_test rfl rfl (Wp.r_iconst (pc := 106) o_X12_test rfl (Wp.r_iadd (pc := 107) o_X12_test rfl (Wp.f_al0_gfi (pc := 108) o_X12_test rfl rfl rfl fk_M_0_15 (Wp.r_iastore (pc := 112) o_X12_test rfl ak_M_1 (⟨hc17, ?_⟩))))))
  revert H
  generalize pI s 1 ((v1 + 5).toNatClampNeg) (s.1 0 15) = s18
  intro H
  have H := nmx_e H
  refine Wp.r_aload_n0 (pc := 113) o_X12_test rfl rfl (Wp.r_cv1 (pc := 114) o_X12_test rfl fk_M_0_0 (⟨rm8_ rfl, ?_⟩))
  refine w_X12_ahead (d := d + 3)  ?_
  refine oq_bd H (fun _ s20 H => ?_)
  refine Wp.r_aload_n0 (pc := 117) o_X12_test rfl rfl (Wp.r_iload_n1 (pc := 118) o_X12_test rfl rfl (Wp.r_iconst (pc := 119) o_X12_test rfl (Wp.r_iadd (pc := 120) o_X12_test rfl (Wp.r_iconst (pc := 121) o_X12_test rfl (Wp.r_sipush (pc := 122) o_X12_test rfl (Wp.r_cv4 (pc := 125) o_X12_test rfl fk_M_0_0 (⟨rm8_ rfl, ?_⟩)))))))
  refine w_X12_number (d := d + 2) _ _ _ ?_
  refine oq_bd H (fun r21 s22 H => ?_)
  obtain ⟨c9, H⟩ := oq_ck H
  exact Wp.r_ireturn (pc := 128) o_X12_test rfl (⟨b01_n c9, H⟩)
noncomputable def f_X12_test (a1 : Int32) (s : Sg) : Option (Int32 × Sg) :=
  bd (f_X12_inWords_1001 s) (fun r1 s2 =>
  if 28 ≤ r1 then
    ck (inr a1 2880) (
    nmx (pI s2 1 a1.toNatClampNeg (2400 + r1)) (fun s4 =>
    bd (f_X12_ahead s4) (fun _ s6 =>
    if r1 = 30 then
      bd (f_X12_stepTo (a1 + 1) s6) (fun r7 s8 =>
      if r7 = 0 then
        some (0, s8)
      else
        bd (f_X12_isSign 60 s8) (fun r9 s10 =>
        if r9 = 0 then
          bd (f_X12_isSign 62 s10) (fun r11 s12 =>
          if r11 = 0 then
            bd (f_X12_isSign 61 s12) (fun r13 s14 =>
            if r13 = 0 then
              bd (f_X12_fails 2 s14) (fun r15 s16 =>
              ck (r15 = 0 ∨ r15 = 1) (some (r15, s16))
              )
            else
              f_X12_test_b101 a1 s14
            )
          else
            f_X12_test_b101 a1 s12
          )
        else
          f_X12_test_b101 a1 s10
        )
      )
    else
      bd (f_X12_oldOne 8 (s6.1 1 1) (a1 + 1) s6) (fun r23 s24 =>
      ck (r23 = 0 ∨ r23 = 1) (some (r23, s24))
      )
    )
    )
    )
  else
    bd (f_X12_fails 2 s2) (fun r25 s26 =>
    ck (r25 = 0 ∨ r25 = 1) (some (r25, s26))
    )
  )
set_option maxRecDepth 100000 in
theorem w_X12_test {d : Nat} {s : Sg} {Q : Qt} (a1 : Int32) (H : OQ (f_X12_test a1 s) (fun r9 s9 => Q (some (.int r9)) s9)) : WpM SHM MT (d + 6) 234 [.ref 0, .int a1] s Q := by
  refine WpM.enter me_X12_test rfl rfl ?_
  show Y_X12_test d Q 0 [(0, .ref 0), (1, .int a1)] [] s
  unfold f_X12_test at H
  refine Wp.r_aload_n0 (pc := 0) o_X12_test rfl rfl (Wp.r_ldcs (pc := 1) o_X12_test rfl (Wp.r_cv2 (pc := 3) o_X12_test rfl fk_M_0_0 (⟨rm8_ rfl, ?_⟩)))
  refine w_X12_inWords_1001 (d := d + 3)  ?_
  refine oq_bd H (fun r1 s2 H => ?_)
  refine Wp.r_istore_n2 (pc := 6) o_X12_test rfl (Wp.r_iload_n2 (pc := 7) o_X12_test rfl rfl (Wp.r_bipush (pc := 8) o_X12_test rfl (Wp.r_icmp_ge (pc := 10) o_X12_test rfl (fun c9 => ?_) (fun c9 => ?_))))
  · have H := oq_t c9 H
    obtain ⟨hc3, H⟩ := oq_ck H
    refine Wp.f_al0_gfr (pc := 19) o_X12_test rfl rfl rfl fk_M_0_0 (Wp.r_iload_n1 (pc := 23) o_X12_test rfl rfl (Wp.r_sipush (pc := 24) o_X12_test rfl (Wp.r_iload_n2 (pc := 27) o_X12_test rfl rfl (Wp.r_iadd (pc := 28) o_X12_test rfl (Wp.r_iastore (pc := 29) o_X12_test rfl ak_M_1 (⟨hc3, ?_⟩))))))
    revert H
    generalize pI s2 1 a1.toNatClampNeg (2400 + r1) = s4
    intro H
    have H := nmx_e H
    refine Wp.r_aload_n0 (pc := 30) o_X12_test rfl rfl (Wp.r_cv1 (pc := 31) o_X12_test rfl fk_M_0_0 (⟨rm8_ rfl, ?_⟩))
    refine w_X12_ahead (d := d + 3)  ?_
    refine oq_bd H (fun _ s6 H => ?_)
    refine Wp.r_iload_n2 (pc := 34) o_X12_test rfl rfl (Wp.r_bipush (pc := 35) o_X12_test rfl (Wp.r_icmp_eq (pc := 37) o_X12_test rfl (fun c9 => ?_) (fun c9 => ?_)))
    · have H := oq_t c9 H
      refine Wp.r_aload_n0 (pc := 56) o_X12_test rfl rfl (Wp.r_iload_n1 (pc := 57) o_X12_test rfl rfl (Wp.r_iconst (pc := 58) o_X12_test rfl (Wp.r_iadd (pc := 59) o_X12_test rfl (Wp.r_cv2 (pc := 60) o_X12_test rfl fk_M_0_0 (⟨rm8_ rfl, ?_⟩)))))
      refine w_X12_stepTo (d := d) _ ?_
      refine oq_bd H (fun r7 s8 H => ?_)
      refine Wp.r_if_ne (pc := 63) o_X12_test rfl (fun c9 => ?_) (fun c9 => ?_)
      · have H := oq_t c9 H
        exact Wp.r_iconst (pc := 66) o_X12_test rfl (Wp.r_ireturn (pc := 67) o_X12_test rfl (⟨rfl, H⟩))
      · have H := oq_f c9 H
        refine Wp.r_aload_n0 (pc := 68) o_X12_test rfl rfl (Wp.r_bipush (pc := 69) o_X12_test rfl (Wp.r_cv2 (pc := 71) o_X12_test rfl fk_M_0_0 (⟨rm8_ rfl, ?_⟩)))
        refine w_X12_isSign (d := d + 4) _ ?_
        refine oq_bd H (fun r9 s10 H => ?_)
        refine Wp.r_if_ne (pc := 74) o_X12_test rfl (fun c9 => ?_) (fun c9 => ?_)
        · have H := oq_t c9 H
          refine Wp.r_aload_n0 (pc := 77) o_X12_test rfl rfl (Wp.r_bipush (pc := 78) o_X12_test rfl (Wp.r_cv2 (pc := 80) o_X12_test rfl fk_M_0_0 (⟨rm8_ rfl, ?_⟩)))
          refine w_X12_isSign (d := d + 4) _ ?_
          refine oq_bd H (fun r11 s12 H => ?_)
          refine Wp.r_if_ne (pc := 83) o_X12_test rfl (fun c9 => ?_) (fun c9 => ?_)
          · have H := oq_t c9 H
            refine Wp.r_aload_n0 (pc := 86) o_X12_test rfl rfl (Wp.r_bipush (pc := 87) o_X12_test rfl (Wp.r_cv2 (pc := 89) o_X12_test rfl fk_M_0_0 (⟨rm8_ rfl, ?_⟩)))
            refine w_X12_isSign (d := d + 4) _ ?_
            refine oq_bd H (fun r13 s14 H => ?_)
            refine Wp.r_if_ne (pc := 92) o_X12_test rfl (fun c9 => ?_) (fun c9 => ?_)
            · have H := oq_t c9 H
              refine Wp.f_al0_iconst (pc := 95) o_X12_test rfl rfl rfl (Wp.r_cv2 (pc := 97) o_X12_test rfl fk_M_0_0 (⟨rm8_ rfl, ?_⟩))
              refine w_X12_fails (d := d + 4) _ ?_
              refine oq_bd H (fun r15 s16 H => ?_)
              obtain ⟨c9, H⟩ := oq_ck H
              exact Wp.r_ireturn (pc := 100) o_X12_test rfl (⟨b01_n c9, H⟩)
            · have H := oq_f c9 H
              exact Wp.weak2 [1, 2] (w_X12_test_b101 _ _ H) rfl
          · have H := oq_f c9 H
            exact Wp.weak2 [1, 2] (w_X12_test_b101 _ _ H) rfl
        · have H := oq_f c9 H
          exact Wp.weak2 [1, 2] (w_X12_test_b101 _ _ H) rfl
    · have H := oq_f c9 H
      refine Wp.r_aload_n0 (pc := 40) o_X12_test rfl rfl (Wp.r_bipush (pc := 41) o_X12_test rfl (Wp.f_al0_gfr (pc := 43) o_X12_test rfl rfl rfl fk_M_0_0 (Wp.r_iconst (pc := 47) o_X12_test rfl (Wp.r_iaload (pc := 48) o_X12_test rfl ak_M_1 (show (vp_in 1 2880) ∧ Y_X12_test d Q 49 [(2, .int r1), (0, .ref 0), (1, .int a1)] [.int (s6.1 1 1), .int 8, .ref 0] s6 from ⟨by unfold vp_in; decide, ?_⟩)))))
      refine Wp.r_iload_n1 (pc := 49) o_X12_test rfl rfl (Wp.r_iconst (pc := 50) o_X12_test rfl (Wp.r_iadd (pc := 51) o_X12_test rfl (Wp.r_cv4 (pc := 52) o_X12_test rfl fk_M_0_0 (⟨rm8_ rfl, ?_⟩))))
      refine w_X12_oldOne (d := d + 1) _ _ _ ?_
      refine oq_bd H (fun r23 s24 H => ?_)
      obtain ⟨c9, H⟩ := oq_ck H
      exact Wp.r_ireturn (pc := 55) o_X12_test rfl (⟨b01_n c9, H⟩)
  · have H := oq_f c9 H
    refine Wp.f_al0_iconst (pc := 13) o_X12_test rfl rfl rfl (Wp.r_cv2 (pc := 15) o_X12_test rfl fk_M_0_0 (⟨rm8_ rfl, ?_⟩))
    refine w_X12_fails (d := d + 4) _ ?_
    refine oq_bd H (fun r25 s26 H => ?_)
    obtain ⟨c9, H⟩ := oq_ck H
    exact Wp.r_ireturn (pc := 18) o_X12_test rfl (⟨b01_n c9, H⟩)
