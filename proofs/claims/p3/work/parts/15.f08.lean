noncomputable abbrev Y_X12_isSetOf (d : Nat) (Q : Qt) : Xt := Wp SHM (WpM SHM MT (d + 0)) (flat2 cq_X12_isSetOf) (some .boolean) Q
noncomputable def f_X12_isSetOf (a1 : Int32) (s : Sg) : Option (Int32 × Sg) :=
  if a1 < 0 then
    some (0, s)
  else
    if ((1 : Int32) <<< ((s.1 1 1) &&& 31)) ≤ a1 then
      some (0, s)
    else
      some (1, s)
set_option maxRecDepth 100000 in
theorem w_X12_isSetOf {d : Nat} {s : Sg} {Q : Qt} (a1 : Int32) (H : OQ (f_X12_isSetOf a1 s) (fun r9 s9 => Q (some (.int r9)) s9)) : WpM SHM MT (d + 1) 305 [.ref 0, .int a1] s Q := by
  refine WpM.enter me_X12_isSetOf rfl rfl ?_
  show Y_X12_isSetOf d Q 0 [(0, .ref 0), (1, .int a1)] [] s
  unfold f_X12_isSetOf at H
  refine Wp.r_iload_n1 (pc := 0) o_X12_isSetOf rfl rfl (Wp.r_if_lt (pc := 1) o_X12_isSetOf rfl (fun c9 => ?_) (fun c9 => ?_))
  · have H := oq_t c9 H
    exact Wp.r_iconst (pc := 20) o_X12_isSetOf rfl (Wp.r_ireturn (pc := 21) o_X12_isSetOf rfl (⟨rfl, H⟩))
  · have H := oq_f c9 H
    refine Wp.r_iload_n1 (pc := 4) o_X12_isSetOf rfl rfl (Wp.r_iconst (pc := 5) o_X12_isSetOf rfl (Wp.f_al0_gfr (pc := 6) o_X12_isSetOf rfl rfl rfl fk_M_0_0 (Wp.r_iconst (pc := 10) o_X12_isSetOf rfl (Wp.r_iaload (pc := 11) o_X12_isSetOf rfl ak_M_1 (show (vp_in 1 2880) ∧ Y_X12_isSetOf d Q 12 [(0, .ref 0), (1, .int a1)] [.int (s.1 1 1), .int 1, .int a1] s from ⟨by unfold vp_in; decide, ?_⟩)))))
    refine Wp.r_ishl (pc := 12) o_X12_isSetOf rfl (Wp.r_icmp_ge (pc := 13) o_X12_isSetOf rfl (fun c9 => ?_) (fun c9 => ?_))
    · have H := oq_t c9 H
      exact Wp.r_iconst (pc := 20) o_X12_isSetOf rfl (Wp.r_ireturn (pc := 21) o_X12_isSetOf rfl (⟨rfl, H⟩))
    · have H := oq_f c9 H
      exact Wp.r_iconst (pc := 16) o_X12_isSetOf rfl (Wp.r_goto (pc := 17) o_X12_isSetOf rfl (Wp.r_ireturn (pc := 21) o_X12_isSetOf rfl (⟨rfl, H⟩)))
noncomputable abbrev Y_X12_lack (d : Nat) (Q : Qt) : Xt := Wp SHM (WpM SHM MT (d + 7)) (flat2 cq_X12_lack) (some .int) Q
noncomputable def f_X12_lack_b34 : Nat → Int32 → Int32 → Int32 → Sg → Option (Int32 × Sg)
  | 0, _, _, _, _ => none
  | n + 1, v1, v2, v3, s =>
    if (s.1 1 0) ≤ v3 then
      bd (f_X12_gives v2 s) (fun r7 s8 =>
      some (r7, s8)
      )
    else
      bd (f_X12_isGone v3 s) (fun r9 s10 =>
      if r9 = 0 then
        bd (f_X12_lackOn v1 v3 s10) (fun r11 s12 =>
        (f_X12_lack_b34 n) v1 (v2 + r11) (v3 + 1) s12
        )
      else
        (f_X12_lack_b34 n) v1 (v2 + 0) (v3 + 1) s10
      )
set_option maxRecDepth 100000 in
theorem w_X12_lack_b34 {d : Nat} {Q : Qt} (n : Nat) : ∀ (v1 : Int32) (v2 : Int32) (v3 : Int32) (s : Sg), OQ (f_X12_lack_b34 n v1 v2 v3 s) (fun r9 s9 => Q (some (.int r9)) s9) → Y_X12_lack d Q 34 [(0, .ref 0), (1, .int v1), (2, .int v2), (3, .int v3)] [] s := by
  induction n with
  | zero => intro v1 v2 v3 s H; exact H.elim
  | succ n ih =>
    intro v1 v2 v3 s H
    unfold f_X12_lack_b34 at H
    refine Wp.r_iload_n3 (pc := 34) o_X12_lack rfl rfl (Wp.f_al0_gfr (pc := 35) o_X12_lack rfl rfl rfl fk_M_0_0 (Wp.r_iconst (pc := 39) o_X12_lack rfl (Wp.r_iaload (pc := 40) o_X12_lack rfl ak_M_1 (show (vp_in 0 2880) ∧ Y_X12_lack d Q 41 [(0, .ref 0), (1, .int v1), (2, .int v2), (3, .int v3)] [.int (s.1 1 0), .int v3] s from ⟨by unfold vp_in; decide, ?_⟩))))
    refine Wp.r_icmp_ge (pc := 41) o_X12_lack rfl (fun c9 => ?_) (fun c9 => ?_)
    · have H := oq_t c9 H
      refine Wp.r_aload_n0 (pc := 71) o_X12_lack rfl rfl (Wp.r_iload_n2 (pc := 72) o_X12_lack rfl rfl (Wp.r_cv2 (pc := 73) o_X12_lack rfl fk_M_0_0 (⟨rm8_ rfl, ?_⟩)))
      refine w_X12_gives (d := d + 6) _ ?_
      refine oq_bd H (fun r7 s8 H => ?_)
      exact Wp.r_ireturn (pc := 76) o_X12_lack rfl (⟨rfl, H⟩)
    · have H := oq_f c9 H
      refine Wp.r_iload_n2 (pc := 44) o_X12_lack rfl rfl (Wp.r_aload_n0 (pc := 45) o_X12_lack rfl rfl (Wp.r_iload_n3 (pc := 46) o_X12_lack rfl rfl (Wp.r_cv2 (pc := 47) o_X12_lack rfl fk_M_0_0 (⟨rm8_ rfl, ?_⟩))))
      refine w_X12_isGone (d := d + 6) _ ?_
      refine oq_bd H (fun r9 s10 H => ?_)
      refine Wp.r_if_eq (pc := 50) o_X12_lack rfl (fun c9 => ?_) (fun c9 => ?_)
      · have H := oq_t c9 H
        refine Wp.r_aload_n0 (pc := 57) o_X12_lack rfl rfl (Wp.r_iload_n1 (pc := 58) o_X12_lack rfl rfl (Wp.r_iload_n3 (pc := 59) o_X12_lack rfl rfl (Wp.r_cv3 (pc := 60) o_X12_lack rfl fk_M_0_0 (⟨rm8_ rfl, ?_⟩))))
        refine w_X12_lackOn (d := d + 2) _ _ ?_
        refine oq_bd H (fun r11 s12 H => ?_)
        exact Wp.r_iadd (pc := 63) o_X12_lack rfl (Wp.r_istore_n2 (pc := 64) o_X12_lack rfl (Wp.f_iinc_goto (pc := 65) o_X12_lack rfl rfl rfl (Wp.weak2 [2, 3, 1, 0] (ih _ _ _ _ H) rfl)))
      · have H := oq_f c9 H
        exact Wp.r_iconst (pc := 53) o_X12_lack rfl (Wp.r_goto (pc := 54) o_X12_lack rfl (Wp.r_iadd (pc := 63) o_X12_lack rfl (Wp.r_istore_n2 (pc := 64) o_X12_lack rfl (Wp.f_iinc_goto (pc := 65) o_X12_lack rfl rfl rfl (Wp.weak2 [2, 3, 1, 0] (ih _ _ _ _ H) rfl)))))
noncomputable def f_X12_lack (a1 : Int32) (s : Sg) : Option (Int32 × Sg) :=
  bd (f_X12_isSetOf a1 s) (fun r1 s2 =>
  if r1 = 0 then
    bd (f_X12_refuse 1 s2) (fun r3 s4 =>
    some (r3, s4)
    )
  else
    bd (f_X12_setOf 3 s2) (fun r5 s6 =>
    if (a1 &&& r5) = 0 then
      f_X12_lack_b34 BIG a1 0 0 s6
    else
      bd (f_X12_gives (-1) s6) (fun r13 s14 =>
      some (r13, s14)
      )
    )
  )
set_option maxRecDepth 100000 in
theorem w_X12_lack {d : Nat} {s : Sg} {Q : Qt} (a1 : Int32) (H : OQ (f_X12_lack a1 s) (fun r9 s9 => Q (some (.int r9)) s9)) : WpM SHM MT (d + 8) 307 [.ref 0, .int a1] s Q := by
  refine WpM.enter me_X12_lack rfl rfl ?_
  show Y_X12_lack d Q 0 [(0, .ref 0), (1, .int a1)] [] s
  unfold f_X12_lack at H
  refine Wp.r_aload_n0 (pc := 0) o_X12_lack rfl rfl (Wp.r_iload_n1 (pc := 1) o_X12_lack rfl rfl (Wp.r_cv2 (pc := 2) o_X12_lack rfl fk_M_0_0 (⟨rm8_ rfl, ?_⟩)))
  refine w_X12_isSetOf (d := d + 6) _ ?_
  refine oq_bd H (fun r1 s2 H => ?_)
  refine Wp.r_if_ne (pc := 5) o_X12_lack rfl (fun c9 => ?_) (fun c9 => ?_)
  · have H := oq_t c9 H
    refine Wp.f_al0_iconst (pc := 8) o_X12_lack rfl rfl rfl (Wp.r_cv2 (pc := 10) o_X12_lack rfl fk_M_0_0 (⟨rm8_ rfl, ?_⟩))
    refine w_X12_refuse (d := d + 6) _ ?_
    refine oq_bd H (fun r3 s4 H => ?_)
    exact Wp.r_ireturn (pc := 13) o_X12_lack rfl (⟨rfl, H⟩)
  · have H := oq_f c9 H
    refine Wp.r_iload_n1 (pc := 14) o_X12_lack rfl rfl (Wp.f_al0_iconst (pc := 15) o_X12_lack rfl rfl rfl (Wp.r_cv2 (pc := 17) o_X12_lack rfl fk_M_0_0 (⟨rm8_ rfl, ?_⟩)))
    refine w_X12_setOf (d := d) _ ?_
    refine oq_bd H (fun r5 s6 H => ?_)
    refine Wp.r_iand (pc := 20) o_X12_lack rfl (Wp.r_if_eq (pc := 21) o_X12_lack rfl (fun c9 => ?_) (fun c9 => ?_))
    · have H := oq_t c9 H
      exact Wp.r_iconst (pc := 30) o_X12_lack rfl (Wp.r_istore_n2 (pc := 31) o_X12_lack rfl (Wp.r_iconst (pc := 32) o_X12_lack rfl (Wp.r_istore_n3 (pc := 33) o_X12_lack rfl (Wp.weak2 [2, 3, 1, 0] (w_X12_lack_b34 _ _ _ _ _ H) rfl))))
    · have H := oq_f c9 H
      refine Wp.f_al0_iconst (pc := 24) o_X12_lack rfl rfl rfl (Wp.r_cv2 (pc := 26) o_X12_lack rfl fk_M_0_0 (⟨rm8_ rfl, ?_⟩))
      refine w_X12_gives (d := d + 6) _ ?_
      refine oq_bd H (fun r13 s14 H => ?_)
      exact Wp.r_ireturn (pc := 29) o_X12_lack rfl (⟨rfl, H⟩)
noncomputable abbrev Y_X12_lackAt (d : Nat) (Q : Qt) : Xt := Wp SHM (WpM SHM MT (d + 5)) (flat2 cq_X12_lackAt) (some .int) Q
noncomputable def f_X12_lackAt_b17 (v1 : Int32) (v2 : Int32) (t0 : Int32) (s : Sg) : Option (Int32 × Sg) :=
  if t0 ≤ 0 then
    bd (f_X12_lackOn v1 v2 s) (fun r3 s4 =>
    bd (f_X12_gives r3 s4) (fun r5 s6 =>
    some (r5, s6)
    )
    )
  else
    bd (f_X12_refuse t0 s) (fun r7 s8 =>
    some (r7, s8)
    )
set_option maxRecDepth 100000 in
theorem w_X12_lackAt_b17 {d : Nat} {Q : Qt} (v1 : Int32) (v2 : Int32) (t0 : Int32) (s : Sg) (H : OQ (f_X12_lackAt_b17 v1 v2 t0 s) (fun r9 s9 => Q (some (.int r9)) s9)) : Y_X12_lackAt d Q 17 [(0, .ref 0), (1, .int v1), (2, .int v2)] [.int t0] s := by
  unfold f_X12_lackAt_b17 at H
  refine Wp.r_istore_n3 (pc := 17) o_X12_lackAt rfl (Wp.r_iload_n3 (pc := 18) o_X12_lackAt rfl rfl (Wp.r_if_le (pc := 19) o_X12_lackAt rfl (fun c9 => ?_) (fun c9 => ?_)))
  · have H := oq_t c9 H
    refine Wp.r_aload_n0 (pc := 30) o_X12_lackAt rfl rfl (Wp.r_aload_n0 (pc := 31) o_X12_lackAt rfl rfl (Wp.r_iload_n1 (pc := 32) o_X12_lackAt rfl rfl (Wp.r_iload_n2 (pc := 33) o_X12_lackAt rfl rfl (Wp.r_cv3 (pc := 34) o_X12_lackAt rfl fk_M_0_0 (⟨rm8_ rfl, ?_⟩)))))
    refine w_X12_lackOn (d := d) _ _ ?_
    refine oq_bd H (fun r3 s4 H => ?_)
    refine Wp.r_cv2 (pc := 37) o_X12_lackAt rfl fk_M_0_0 (⟨rm8_ rfl, ?_⟩)
    refine w_X12_gives (d := d + 4) _ ?_
    refine oq_bd H (fun r5 s6 H => ?_)
    exact Wp.r_ireturn (pc := 40) o_X12_lackAt rfl (⟨rfl, H⟩)
  · have H := oq_f c9 H
    refine Wp.r_aload_n0 (pc := 22) o_X12_lackAt rfl rfl (Wp.r_iload_n3 (pc := 23) o_X12_lackAt rfl rfl (Wp.r_cv2 (pc := 24) o_X12_lackAt rfl fk_M_0_0 (⟨rm8_ rfl, ?_⟩)))
    refine w_X12_refuse (d := d + 4) _ ?_
    refine oq_bd H (fun r7 s8 H => ?_)
    exact Wp.r_goto (pc := 27) o_X12_lackAt rfl (Wp.r_ireturn (pc := 40) o_X12_lackAt rfl (⟨rfl, H⟩))
noncomputable def f_X12_lackAt (a1 : Int32) (a2 : Int32) (s : Sg) : Option (Int32 × Sg) :=
  bd (f_X12_isSetOf a1 s) (fun r1 s2 =>
  if r1 = 0 then
    f_X12_lackAt_b17 a1 a2 1 s2
  else
    bd (f_X12_wrongStep a2 s2) (fun r9 s10 =>
    f_X12_lackAt_b17 a1 a2 r9 s10
    )
  )
set_option maxRecDepth 100000 in
theorem w_X12_lackAt {d : Nat} {s : Sg} {Q : Qt} (a1 : Int32) (a2 : Int32) (H : OQ (f_X12_lackAt a1 a2 s) (fun r9 s9 => Q (some (.int r9)) s9)) : WpM SHM MT (d + 6) 309 [.ref 0, .int a1, .int a2] s Q := by
  refine WpM.enter me_X12_lackAt rfl rfl ?_
  show Y_X12_lackAt d Q 0 [(0, .ref 0), (1, .int a1), (2, .int a2)] [] s
  unfold f_X12_lackAt at H
  refine Wp.r_aload_n0 (pc := 0) o_X12_lackAt rfl rfl (Wp.r_iload_n1 (pc := 1) o_X12_lackAt rfl rfl (Wp.r_cv2 (pc := 2) o_X12_lackAt rfl fk_M_0_0 (⟨rm8_ rfl, ?_⟩)))
  refine w_X12_isSetOf (d := d + 4) _ ?_
  refine oq_bd H (fun r1 s2 H => ?_)
  refine Wp.r_if_ne (pc := 5) o_X12_lackAt rfl (fun c9 => ?_) (fun c9 => ?_)
  · have H := oq_t c9 H
    exact Wp.r_iconst (pc := 8) o_X12_lackAt rfl (Wp.r_goto (pc := 9) o_X12_lackAt rfl (Wp.weak2 [0, 1, 2] (w_X12_lackAt_b17 _ _ _ _ H) rfl))
  · have H := oq_f c9 H
    refine Wp.r_aload_n0 (pc := 12) o_X12_lackAt rfl rfl (Wp.r_iload_n2 (pc := 13) o_X12_lackAt rfl rfl (Wp.r_cv2 (pc := 14) o_X12_lackAt rfl fk_M_0_0 (⟨rm8_ rfl, ?_⟩)))
    refine w_X12_wrongStep (d := d + 3) _ ?_
    refine oq_bd H (fun r9 s10 H => ?_)
    exact Wp.weak2 [0, 1, 2] (w_X12_lackAt_b17 _ _ _ _ H) rfl
noncomputable abbrev Y_X12_freed (d : Nat) (Q : Qt) : Xt := Wp SHM (WpM SHM MT (d + 7)) (flat2 cq_X12_freed) (some .int) Q
noncomputable def f_X12_freed (a1 : Int32) (s : Sg) : Option (Int32 × Sg) :=
  bd (f_X12_isQuarrel a1 s) (fun r1 s2 =>
  if r1 = 0 then
    bd (f_X12_refuse 1 s2) (fun r3 s4 =>
    some (r3, s4)
    )
  else
    bd (f_X12_setOf 0 s2) (fun r5 s6 =>
    bd (f_X12_setOf 0 (pI s6 0 24 a1)) (fun r7 s8 =>
    bd (f_X12_gives ((r7 &&& (r5 ^^^ (-1))) &&& (((1 : Int32) <<< (a1 &&& 31)) ^^^ (-1))) (pI s8 0 24 (-1))) (fun r9 s10 =>
    some (r9, s10)
    )
    )
    )
  )
set_option maxRecDepth 100000 in
theorem w_X12_freed {d : Nat} {s : Sg} {Q : Qt} (a1 : Int32) (H : OQ (f_X12_freed a1 s) (fun r9 s9 => Q (some (.int r9)) s9)) : WpM SHM MT (d + 8) 310 [.ref 0, .int a1] s Q := by
  refine WpM.enter me_X12_freed rfl rfl ?_
  show Y_X12_freed d Q 0 [(0, .ref 0), (1, .int a1)] [] s
  unfold f_X12_freed at H
  refine Wp.r_aload_n0 (pc := 0) o_X12_freed rfl rfl (Wp.r_iload_n1 (pc := 1) o_X12_freed rfl rfl (Wp.r_cv2 (pc := 2) o_X12_freed rfl fk_M_0_0 (⟨rm8_ rfl, ?_⟩)))
  refine w_X12_isQuarrel (d := d + 6) _ ?_
  refine oq_bd H (fun r1 s2 H => ?_)
  refine Wp.r_if_ne (pc := 5) o_X12_freed rfl (fun c9 => ?_) (fun c9 => ?_)
  · have H := oq_t c9 H
    refine Wp.f_al0_iconst (pc := 8) o_X12_freed rfl rfl rfl (Wp.r_cv2 (pc := 10) o_X12_freed rfl fk_M_0_0 (⟨rm8_ rfl, ?_⟩))
    refine w_X12_refuse (d := d + 6) _ ?_
    refine oq_bd H (fun r3 s4 H => ?_)
    exact Wp.r_ireturn (pc := 13) o_X12_freed rfl (⟨rfl, H⟩)
  · have H := oq_f c9 H
    refine Wp.f_al0_iconst (pc := 14) o_X12_freed rfl rfl rfl (Wp.r_cv2 (pc := 16) o_X12_freed rfl fk_M_0_0 (⟨rm8_ rfl, ?_⟩))
    refine w_X12_setOf (d := d) _ ?_
    refine oq_bd H (fun r5 s6 H => ?_)
    refine Wp.r_istore_n2 (pc := 19) o_X12_freed rfl (Wp.r_aload_n0 (pc := 20) o_X12_freed rfl rfl (Wp.r_iload_n1 (pc := 21) o_X12_freed rfl rfl (Wp.r_pfi (pc := 22) o_X12_freed rfl fk_M_0_24 (Wp.f_al0_iconst (pc := 25) o_X12_freed rfl rfl rfl (Wp.r_cv2 (pc := 27) o_X12_freed rfl fk_M_0_0 (⟨rm8_ rfl, ?_⟩))))))
    refine w_X12_setOf (d := d) _ ?_
    refine oq_bd H (fun r7 s8 H => ?_)
    refine Wp.r_istore_n3 (pc := 30) o_X12_freed rfl (Wp.f_al0_iconst (pc := 31) o_X12_freed rfl rfl rfl (Wp.r_pfi (pc := 33) o_X12_freed rfl fk_M_0_24 (Wp.r_aload_n0 (pc := 36) o_X12_freed rfl rfl (Wp.r_iload_n3 (pc := 37) o_X12_freed rfl rfl (Wp.r_iload_n2 (pc := 38) o_X12_freed rfl rfl (Wp.r_iconst (pc := 39) o_X12_freed rfl (Wp.r_ixor (pc := 40) o_X12_freed rfl (Wp.r_iand (pc := 41) o_X12_freed rfl (Wp.r_iconst (pc := 42) o_X12_freed rfl (Wp.r_iload_n1 (pc := 43) o_X12_freed rfl rfl (Wp.r_ishl (pc := 44) o_X12_freed rfl (Wp.r_iconst (pc := 45) o_X12_freed rfl (Wp.r_ixor (pc := 46) o_X12_freed rfl (Wp.r_iand (pc := 47) o_X12_freed rfl (Wp.r_cv2 (pc := 48) o_X12_freed rfl fk_M_0_0 (⟨rm8_ rfl, ?_⟩))))))))))))))))
    refine w_X12_gives (d := d + 6) _ ?_
    refine oq_bd H (fun r9 s10 H => ?_)
    exact Wp.r_ireturn (pc := 51) o_X12_freed rfl (⟨rfl, H⟩)
noncomputable abbrev Y_X12_cost (d : Nat) (Q : Qt) : Xt := Wp SHM (WpM SHM MT (d + 2)) (flat2 cq_X12_cost) (some .int) Q
noncomputable def f_X12_cost (a1 : Int32) (s : Sg) : Option (Int32 × Sg) :=
  bd (f_X12_isFrom a1.toInt64 0 9999 s) (fun r1 s2 =>
  if r1 = 0 then
    bd (f_X12_refuse 1 s2) (fun r3 s4 =>
    some (r3, s4)
    )
  else
    bd (f_X12_costOf a1 s2) (fun r5 s6 =>
    bd (f_X12_orNone r5 s6) (fun r7 s8 =>
    some (r7, s8)
    )
    )
  )
set_option maxRecDepth 100000 in
theorem w_X12_cost {d : Nat} {s : Sg} {Q : Qt} (a1 : Int32) (H : OQ (f_X12_cost a1 s) (fun r9 s9 => Q (some (.int r9)) s9)) : WpM SHM MT (d + 3) 312 [.ref 0, .int a1] s Q := by
  refine WpM.enter me_X12_cost rfl rfl ?_
  show Y_X12_cost d Q 0 [(0, .ref 0), (1, .int a1)] [] s
  unfold f_X12_cost at H
  refine Wp.r_iload_n1 (pc := 0) o_X12_cost rfl rfl (Wp.r_i2l (pc := 1) o_X12_cost rfl (Wp.r_lconst (pc := 2) o_X12_cost rfl (Wp.r_ldc2_w (pc := 3) o_X12_cost rfl (Wp.r_cs3 (pc := 6) o_X12_cost rfl (⟨rm8_ rfl, ?_⟩)))))
  refine w_X12_isFrom (d := d + 1) _ _ _ ?_
  refine oq_bd H (fun r1 s2 H => ?_)
  refine Wp.r_if_eq (pc := 9) o_X12_cost rfl (fun c9 => ?_) (fun c9 => ?_)
  · have H := oq_t c9 H
    refine Wp.f_al0_iconst (pc := 24) o_X12_cost rfl rfl rfl (Wp.r_cv2 (pc := 26) o_X12_cost rfl fk_M_0_0 (⟨rm8_ rfl, ?_⟩))
    refine w_X12_refuse (d := d + 1) _ ?_
    refine oq_bd H (fun r3 s4 H => ?_)
    exact Wp.r_ireturn (pc := 29) o_X12_cost rfl (⟨rfl, H⟩)
  · have H := oq_f c9 H
    refine Wp.r_aload_n0 (pc := 12) o_X12_cost rfl rfl (Wp.r_aload_n0 (pc := 13) o_X12_cost rfl rfl (Wp.r_iload_n1 (pc := 14) o_X12_cost rfl rfl (Wp.r_cv2 (pc := 15) o_X12_cost rfl fk_M_0_0 (⟨rm8_ rfl, ?_⟩))))
    refine w_X12_costOf (d := d + 1) _ ?_
    refine oq_bd H (fun r5 s6 H => ?_)
    refine Wp.r_cv2 (pc := 18) o_X12_cost rfl fk_M_0_0 (⟨rm8_ rfl, ?_⟩)
    refine w_X12_orNone (d := d) _ ?_
    refine oq_bd H (fun r7 s8 H => ?_)
    exact Wp.r_goto (pc := 21) o_X12_cost rfl (Wp.r_ireturn (pc := 29) o_X12_cost rfl (⟨rfl, H⟩))
noncomputable abbrev Y_X12_dearest (d : Nat) (Q : Qt) : Xt := Wp SHM (WpM SHM MT (d + 1)) (flat2 cq_X12_dearest) (some .int) Q
noncomputable def f_X12_dearest (a1 : Int32) (s : Sg) : Option (Int32 × Sg) :=
  bd (f_X12_isFrom a1.toInt64 1 9999 s) (fun r1 s2 =>
  if r1 = 0 then
    bd (f_X12_refuse 1 s2) (fun r3 s4 =>
    some (r3, s4)
    )
  else
    bd (f_X12_costOf a1 s2) (fun r5 s6 =>
    if r5 = (-1) then
      bd (f_X12_refuse 6 s6) (fun r7 s8 =>
      some (r7, s8)
      )
    else
      bd (f_X12_gives (s6.1 0 27) s6) (fun r9 s10 =>
      some (r9, s10)
      )
    )
  )
set_option maxRecDepth 100000 in
theorem w_X12_dearest {d : Nat} {s : Sg} {Q : Qt} (a1 : Int32) (H : OQ (f_X12_dearest a1 s) (fun r9 s9 => Q (some (.int r9)) s9)) : WpM SHM MT (d + 2) 313 [.ref 0, .int a1] s Q := by
  refine WpM.enter me_X12_dearest rfl rfl ?_
  show Y_X12_dearest d Q 0 [(0, .ref 0), (1, .int a1)] [] s
  unfold f_X12_dearest at H
  refine Wp.r_iload_n1 (pc := 0) o_X12_dearest rfl rfl (Wp.r_i2l (pc := 1) o_X12_dearest rfl (Wp.r_lconst (pc := 2) o_X12_dearest rfl (Wp.r_ldc2_w (pc := 3) o_X12_dearest rfl (Wp.r_cs3 (pc := 6) o_X12_dearest rfl (⟨rm8_ rfl, ?_⟩)))))
  refine w_X12_isFrom (d := d) _ _ _ ?_
  refine oq_bd H (fun r1 s2 H => ?_)
  refine Wp.r_if_ne (pc := 9) o_X12_dearest rfl (fun c9 => ?_) (fun c9 => ?_)
  · have H := oq_t c9 H
    refine Wp.f_al0_iconst (pc := 12) o_X12_dearest rfl rfl rfl (Wp.r_cv2 (pc := 14) o_X12_dearest rfl fk_M_0_0 (⟨rm8_ rfl, ?_⟩))
    refine w_X12_refuse (d := d) _ ?_
    refine oq_bd H (fun r3 s4 H => ?_)
    exact Wp.r_ireturn (pc := 17) o_X12_dearest rfl (⟨rfl, H⟩)
  · have H := oq_f c9 H
    refine Wp.r_aload_n0 (pc := 18) o_X12_dearest rfl rfl (Wp.r_iload_n1 (pc := 19) o_X12_dearest rfl rfl (Wp.r_cv2 (pc := 20) o_X12_dearest rfl fk_M_0_0 (⟨rm8_ rfl, ?_⟩)))
    refine w_X12_costOf (d := d) _ ?_
    refine oq_bd H (fun r5 s6 H => ?_)
    refine Wp.r_iconst (pc := 23) o_X12_dearest rfl (Wp.r_icmp_ne (pc := 24) o_X12_dearest rfl (fun c9 => ?_) (fun c9 => ?_))
    · have H := oq_t c9 H
      refine Wp.r_aload_n0 (pc := 27) o_X12_dearest rfl rfl (Wp.r_bipush (pc := 28) o_X12_dearest rfl (Wp.r_cv2 (pc := 30) o_X12_dearest rfl fk_M_0_0 (⟨rm8_ rfl, ?_⟩)))
      refine w_X12_refuse (d := d) _ ?_
      refine oq_bd H (fun r7 s8 H => ?_)
      exact Wp.r_goto (pc := 33) o_X12_dearest rfl (Wp.r_ireturn (pc := 44) o_X12_dearest rfl (⟨rfl, H⟩))
    · have H := oq_f c9 H
      refine Wp.r_aload_n0 (pc := 36) o_X12_dearest rfl rfl (Wp.f_al0_gfi (pc := 37) o_X12_dearest rfl rfl rfl fk_M_0_27 (Wp.r_cv2 (pc := 41) o_X12_dearest rfl fk_M_0_0 (⟨rm8_ rfl, ?_⟩)))
      refine w_X12_gives (d := d) _ ?_
      refine oq_bd H (fun r9 s10 H => ?_)
      exact Wp.r_ireturn (pc := 44) o_X12_dearest rfl (⟨rfl, H⟩)
noncomputable abbrev Y_X12_quiet (d : Nat) (Q : Qt) : Xt := Wp SHM (WpM SHM MT (d + 2)) (flat2 cq_X12_quiet) (some .int) Q
noncomputable def f_X12_quiet_b33 (v1 : Int32) (v2 : Int32) (v3 : Int32) (t0 : Int32) (s : Sg) : Option (Int32 × Sg) :=
  if t0 ≤ 0 then
    bd (f_X12_houseRow v1 s) (fun r3 s4 =>
    ck (inr r3 2880) (
    bd (f_X12_gives (if 0 < ((v2 + (v3 * (s.1 1 13))) - (s4.1 1 r3.toNatClampNeg)) then ((v2 + (v3 * (s.1 1 13))) - (s4.1 1 r3.toNatClampNeg)) else 0) s4) (fun r6 s7 =>
    some (r6, s7)
    )
    )
    )
  else
    bd (f_X12_refuse t0 s) (fun r8 s9 =>
    some (r8, s9)
    )
set_option maxRecDepth 100000 in
theorem w_X12_quiet_b33 {d : Nat} {Q : Qt} (v1 : Int32) (v2 : Int32) (v3 : Int32) (t0 : Int32) (s : Sg) (H : OQ (f_X12_quiet_b33 v1 v2 v3 t0 s) (fun r9 s9 => Q (some (.int r9)) s9)) : Y_X12_quiet d Q 33 [(0, .ref 0), (1, .int v1), (2, .int v2), (3, .int v3)] [.int t0] s := by
  unfold f_X12_quiet_b33 at H
  refine Wp.r_istore (pc := 33) o_X12_quiet rfl (Wp.r_iload (pc := 35) o_X12_quiet rfl rfl (Wp.r_if_le (pc := 37) o_X12_quiet rfl (fun c9 => ?_) (fun c9 => ?_)))
  · have H := oq_t c9 H
    refine Wp.f_al0_iconst (pc := 49) o_X12_quiet rfl rfl rfl (Wp.r_iload_n2 (pc := 51) o_X12_quiet rfl rfl (Wp.r_iload_n3 (pc := 52) o_X12_quiet rfl rfl (Wp.f_al0_gfr (pc := 53) o_X12_quiet rfl rfl rfl fk_M_0_0 (Wp.r_bipush (pc := 57) o_X12_quiet rfl (Wp.r_iaload (pc := 59) o_X12_quiet rfl ak_M_1 (show (vp_in 13 2880) ∧ Y_X12_quiet d Q 60 [(4, .int t0), (0, .ref 0), (1, .int v1), (2, .int v2), (3, .int v3)] [.int (s.1 1 13), .int v3, .int v2, .int 0, .ref 0] s from ⟨by unfold vp_in; decide, ?_⟩))))))
    refine Wp.r_imul (pc := 60) o_X12_quiet rfl (Wp.r_iadd (pc := 61) o_X12_quiet rfl (Wp.f_al0_gfr (pc := 62) o_X12_quiet rfl rfl rfl fk_M_0_0 (Wp.r_iload_n1 (pc := 66) o_X12_quiet rfl rfl (Wp.r_cs1 (pc := 67) o_X12_quiet rfl (⟨rm8_ rfl, ?_⟩)))))
    refine w_X12_houseRow (d := d + 1) _ ?_
    refine oq_bd H (fun r3 s4 H => ?_)
    obtain ⟨hc5, H⟩ := oq_ck H
    refine Wp.r_iaload (pc := 70) o_X12_quiet rfl ak_M_1 (⟨hc5, ?_⟩)
    refine Wp.r_isub (pc := 71) o_X12_quiet rfl (Wp.r_max (pc := 72) o_X12_quiet rfl (⟨rm8_ rfl, ?_⟩))
    refine Wp.r_cv2 (pc := 75) o_X12_quiet rfl fk_M_0_0 (⟨rm8_ rfl, ?_⟩)
    refine w_X12_gives (d := d + 1) _ ?_
    refine oq_bd H (fun r6 s7 H => ?_)
    exact Wp.r_ireturn (pc := 78) o_X12_quiet rfl (⟨rfl, H⟩)
  · have H := oq_f c9 H
    refine Wp.r_aload_n0 (pc := 40) o_X12_quiet rfl rfl (Wp.r_iload (pc := 41) o_X12_quiet rfl rfl (Wp.r_cv2 (pc := 43) o_X12_quiet rfl fk_M_0_0 (⟨rm8_ rfl, ?_⟩)))
    refine w_X12_refuse (d := d + 1) _ ?_
    refine oq_bd H (fun r8 s9 H => ?_)
    exact Wp.r_goto (pc := 46) o_X12_quiet rfl (Wp.r_ireturn (pc := 78) o_X12_quiet rfl (⟨rfl, H⟩))
noncomputable def f_X12_quiet_b24 (v1 : Int32) (v2 : Int32) (v3 : Int32) (s : Sg) : Option (Int32 × Sg) :=
  f_X12_quiet_b33 v1 v2 v3 1 s
set_option maxRecDepth 100000 in
theorem w_X12_quiet_b24 {d : Nat} {Q : Qt} (v1 : Int32) (v2 : Int32) (v3 : Int32) (s : Sg) (H : OQ (f_X12_quiet_b24 v1 v2 v3 s) (fun r9 s9 => Q (some (.int r9)) s9)) : Y_X12_quiet d Q 24 [(0, .ref 0), (1, .int v1), (2, .int v2), (3, .int v3)] [] s := by
  unfold f_X12_quiet_b24 at H
  exact Wp.r_iconst (pc := 24) o_X12_quiet rfl (Wp.r_goto (pc := 25) o_X12_quiet rfl (Wp.weak2 [0, 1, 2, 3] (w_X12_quiet_b33 _ _ _ _ _ H) rfl))
noncomputable def f_X12_quiet (a1 : Int32) (a2 : Int32) (a3 : Int32) (s : Sg) : Option (Int32 × Sg) :=
  bd (f_X12_isFrom a2.toInt64 0 999 s) (fun r1 s2 =>
  if r1 = 0 then
    f_X12_quiet_b24 a1 a2 a3 s2
  else
    bd (f_X12_isFrom a3.toInt64 0 9 s2) (fun r10 s11 =>
    if r10 = 0 then
      f_X12_quiet_b24 a1 a2 a3 s11
    else
      bd (f_X12_wrongStep a1 s11) (fun r12 s13 =>
      f_X12_quiet_b33 a1 a2 a3 r12 s13
      )
    )
  )
set_option maxRecDepth 100000 in
theorem w_X12_quiet {d : Nat} {s : Sg} {Q : Qt} (a1 : Int32) (a2 : Int32) (a3 : Int32) (H : OQ (f_X12_quiet a1 a2 a3 s) (fun r9 s9 => Q (some (.int r9)) s9)) : WpM SHM MT (d + 3) 314 [.ref 0, .int a1, .int a2, .int a3] s Q := by
  refine WpM.enter me_X12_quiet rfl rfl ?_
  show Y_X12_quiet d Q 0 [(0, .ref 0), (1, .int a1), (2, .int a2), (3, .int a3)] [] s
  unfold f_X12_quiet at H
  refine Wp.r_iload_n2 (pc := 0) o_X12_quiet rfl rfl (Wp.r_i2l (pc := 1) o_X12_quiet rfl (Wp.r_lconst (pc := 2) o_X12_quiet rfl (Wp.r_ldc2_w (pc := 3) o_X12_quiet rfl (Wp.r_cs3 (pc := 6) o_X12_quiet rfl (⟨rm8_ rfl, ?_⟩)))))
  refine w_X12_isFrom (d := d + 1) _ _ _ ?_
  refine oq_bd H (fun r1 s2 H => ?_)
  refine Wp.r_if_eq (pc := 9) o_X12_quiet rfl (fun c9 => ?_) (fun c9 => ?_)
  · have H := oq_t c9 H
    exact Wp.weak2 [0, 1, 2, 3] (w_X12_quiet_b24 _ _ _ _ H) rfl
  · have H := oq_f c9 H
    refine Wp.r_iload_n3 (pc := 12) o_X12_quiet rfl rfl (Wp.r_i2l (pc := 13) o_X12_quiet rfl (Wp.r_lconst (pc := 14) o_X12_quiet rfl (Wp.r_ldc2_w (pc := 15) o_X12_quiet rfl (Wp.r_cs3 (pc := 18) o_X12_quiet rfl (⟨rm8_ rfl, ?_⟩)))))
    refine w_X12_isFrom (d := d + 1) _ _ _ ?_
    refine oq_bd H (fun r10 s11 H => ?_)
    refine Wp.r_if_ne (pc := 21) o_X12_quiet rfl (fun c9 => ?_) (fun c9 => ?_)
    · have H := oq_t c9 H
      exact Wp.weak2 [0, 1, 2, 3] (w_X12_quiet_b24 _ _ _ _ H) rfl
    · have H := oq_f c9 H
      refine Wp.r_aload_n0 (pc := 28) o_X12_quiet rfl rfl (Wp.r_iload_n1 (pc := 29) o_X12_quiet rfl rfl (Wp.r_cv2 (pc := 30) o_X12_quiet rfl fk_M_0_0 (⟨rm8_ rfl, ?_⟩)))
      refine w_X12_wrongStep (d := d) _ ?_
      refine oq_bd H (fun r12 s13 H => ?_)
      exact Wp.weak2 [0, 1, 2, 3] (w_X12_quiet_b33 _ _ _ _ _ H) rfl
noncomputable abbrev Y_X12_explains (d : Nat) (Q : Qt) : Xt := Wp SHM (WpM SHM MT (d + 0)) (flat2 cq_X12_explains) (some .boolean) Q
noncomputable def f_X12_explains_b77 (k_41 : Int32 → Int32 → Sg → Option (Int32 × Sg)) : Nat → Int32 → Int32 → Int32 → Int32 → Sg → Option (Int32 × Sg)
  | 0, _, _, _, _, _ => none
  | n + 1, v2, v4, v5, v6, s =>
    if (v4 + 1) < v6 then
      if v5 ≤ 0 then
        k_41 v2 (v4 + 1) s
      else
        some (0, s)
    else
      if (s.1 1 0) ≤ v6 then
        if v5 ≤ 0 then
          k_41 v2 (v4 + 1) s
        else
          some (0, s)
      else
        ck (inr v6 8) (
        nmx (if (s.1 9 v6.toNatClampNeg) < v5 then (s.1 9 v6.toNatClampNeg) else v5 : Int32) (fun x5 =>
        nmx (pI s 9 v6.toNatClampNeg ((s.1 9 v6.toNatClampNeg) - x5)) (fun s6 =>
        (f_X12_explains_b77 k_41 n) v2 v4 (v5 - x5) (v6 + 1) s6
        )
        )
        )
set_option maxRecDepth 100000 in
theorem w_X12_explains_b77 {d : Nat} {Q : Qt} (k_41 : Int32 → Int32 → Sg → Option (Int32 × Sg)) (h_41 : ∀ (v2 : Int32) (v4 : Int32) s, OQ (k_41 v2 v4 s) (fun r9 s9 => Q (some (.int r9)) s9) → Y_X12_explains d Q 41 [(0, .ref 0), (2, .int v2), (4, .int v4)] [] s) (n : Nat) : ∀ (v2 : Int32) (v4 : Int32) (v5 : Int32) (v6 : Int32) (s : Sg), OQ (f_X12_explains_b77 k_41 n v2 v4 v5 v6 s) (fun r9 s9 => Q (some (.int r9)) s9) → Y_X12_explains d Q 77 [(0, .ref 0), (2, .int v2), (4, .int v4), (5, .int v5), (6, .int v6)] [] s := by
  induction n with
  | zero => intro v2 v4 v5 v6 s H; exact H.elim
  | succ n ih =>
    intro v2 v4 v5 v6 s H
    unfold f_X12_explains_b77 at H
    refine Wp.r_iload (pc := 77) o_X12_explains rfl rfl (Wp.r_iload (pc := 79) o_X12_explains rfl rfl (Wp.r_iconst (pc := 81) o_X12_explains rfl (Wp.r_iadd (pc := 82) o_X12_explains rfl (Wp.r_icmp_gt (pc := 83) o_X12_explains rfl (fun c9 => ?_) (fun c9 => ?_)))))
    · have H := oq_t c9 H
      refine Wp.r_iload (pc := 136) o_X12_explains rfl rfl (Wp.r_if_le (pc := 138) o_X12_explains rfl (fun c9 => ?_) (fun c9 => ?_))
      · have H := oq_t c9 H
        exact Wp.f_iinc_goto (pc := 143) o_X12_explains rfl rfl rfl (Wp.weak2 [1, 2, 0] (h_41 _ _ _ H) rfl)
      · have H := oq_f c9 H
        exact Wp.r_iconst (pc := 141) o_X12_explains rfl (Wp.r_ireturn (pc := 142) o_X12_explains rfl (⟨rfl, H⟩))
    · have H := oq_f c9 H
      refine Wp.r_iload (pc := 86) o_X12_explains rfl rfl (Wp.f_al0_gfr (pc := 88) o_X12_explains rfl rfl rfl fk_M_0_0 (Wp.r_iconst (pc := 92) o_X12_explains rfl (Wp.r_iaload (pc := 93) o_X12_explains rfl ak_M_1 (show (vp_in 0 2880) ∧ Y_X12_explains d Q 94 [(0, .ref 0), (2, .int v2), (4, .int v4), (5, .int v5), (6, .int v6)] [.int (s.1 1 0), .int v6] s from ⟨by unfold vp_in; decide, ?_⟩))))
      refine Wp.r_icmp_ge (pc := 94) o_X12_explains rfl (fun c9 => ?_) (fun c9 => ?_)
      · have H := oq_t c9 H
        refine Wp.r_iload (pc := 136) o_X12_explains rfl rfl (Wp.r_if_le (pc := 138) o_X12_explains rfl (fun c9 => ?_) (fun c9 => ?_))
        · have H := oq_t c9 H
          exact Wp.f_iinc_goto (pc := 143) o_X12_explains rfl rfl rfl (Wp.weak2 [1, 2, 0] (h_41 _ _ _ H) rfl)
        · have H := oq_f c9 H
          exact Wp.r_iconst (pc := 141) o_X12_explains rfl (Wp.r_ireturn (pc := 142) o_X12_explains rfl (⟨rfl, H⟩))
      · have H := oq_f c9 H
        obtain ⟨hc4, H⟩ := oq_ck H
        refine Wp.r_iload (pc := 97) o_X12_explains rfl rfl (Wp.f_al0_gfr (pc := 99) o_X12_explains rfl rfl rfl fk_M_0_28 (Wp.r_iload (pc := 103) o_X12_explains rfl rfl (Wp.r_iaload (pc := 105) o_X12_explains rfl ak_M_9 (⟨hc4, ?_⟩))))
        refine Wp.r_min (pc := 106) o_X12_explains rfl (⟨rm8_ rfl, ?_⟩)
        refine Wp.r_istore (pc := 109) o_X12_explains rfl (show Y_X12_explains d Q 111 [(7, .int (if (s.1 9 v6.toNatClampNeg) < v5 then (s.1 9 v6.toNatClampNeg) else v5)), (0, .ref 0), (2, .int v2), (4, .int v4), (5, .int v5), (6, .int v6)] [] s from ?_)
        revert H
        generalize (if (s.1 9 v6.toNatClampNeg) < v5 then (s.1 9 v6.toNatClampNeg) else v5 : Int32) = x5
        intro H
        have H := nmx_e H
        refine Wp.f_al0_gfr (pc := 111) o_X12_explains rfl rfl rfl fk_M_0_28 (Wp.r_iload (pc := 115) o_X12_explains rfl rfl (Wp.r_dup2 (pc := 117) o_X12_explains rfl (Wp.r_iaload (pc := 118) o_X12_explains rfl ak_M_9 (⟨hc4, ?_⟩))))
        refine Wp.r_iload (pc := 119) o_X12_explains rfl rfl (Wp.r_isub (pc := 121) o_X12_explains rfl (Wp.r_iastore (pc := 122) o_X12_explains rfl ak_M_9 (⟨hc4, ?_⟩)))
        revert H
        generalize pI s 9 v6.toNatClampNeg ((s.1 9 v6.toNatClampNeg) - x5) = s6
        intro H
        have H := nmx_e H
        exact Wp.r_iload (pc := 123) o_X12_explains rfl rfl (Wp.r_iload (pc := 125) o_X12_explains rfl rfl (Wp.r_isub (pc := 127) o_X12_explains rfl (Wp.r_istore (pc := 128) o_X12_explains rfl (Wp.f_iinc_goto (pc := 130) o_X12_explains rfl rfl rfl (Wp.weak2 [3, 4, 5, 1, 0] (ih _ _ _ _ _ H) rfl)))))
noncomputable def f_X12_explains_b41 : Nat → Int32 → Int32 → Sg → Option (Int32 × Sg)
  | 0, _, _, _ => none
  | n + 1, v2, v4, s =>
    if (s.1 1 0) ≤ v4 then
      some (1, s)
    else
      ck (inr ((60 * v2) + v4) 240) (
      nmx ((s.2 5 (((60 * v2) + v4).toNatClampNeg)).toInt32 : Int32) (fun x2 =>
      nmx (if 0 < (v4 - 1) then (v4 - 1) else 0 : Int32) (fun x3 =>
      f_X12_explains_b77 (f_X12_explains_b41 n) BIG v2 v4 x2 x3 s
      )
      )
      )
set_option maxRecDepth 100000 in
theorem w_X12_explains_b41 {d : Nat} {Q : Qt} (n : Nat) : ∀ (v2 : Int32) (v4 : Int32) (s : Sg), OQ (f_X12_explains_b41 n v2 v4 s) (fun r9 s9 => Q (some (.int r9)) s9) → Y_X12_explains d Q 41 [(0, .ref 0), (2, .int v2), (4, .int v4)] [] s := by
  induction n with
  | zero => intro v2 v4 s H; exact H.elim
  | succ n ih =>
    intro v2 v4 s H
    unfold f_X12_explains_b41 at H
    refine Wp.r_iload (pc := 41) o_X12_explains rfl rfl (Wp.f_al0_gfr (pc := 43) o_X12_explains rfl rfl rfl fk_M_0_0 (Wp.r_iconst (pc := 47) o_X12_explains rfl (Wp.r_iaload (pc := 48) o_X12_explains rfl ak_M_1 (show (vp_in 0 2880) ∧ Y_X12_explains d Q 49 [(0, .ref 0), (2, .int v2), (4, .int v4)] [.int (s.1 1 0), .int v4] s from ⟨by unfold vp_in; decide, ?_⟩))))
    refine Wp.r_icmp_ge (pc := 49) o_X12_explains rfl (fun c9 => ?_) (fun c9 => ?_)
    · have H := oq_t c9 H
      exact Wp.r_iconst (pc := 149) o_X12_explains rfl (Wp.r_ireturn (pc := 150) o_X12_explains rfl (⟨rfl, H⟩))
    · have H := oq_f c9 H
      obtain ⟨hc1, H⟩ := oq_ck H
      refine Wp.f_al0_gfr (pc := 52) o_X12_explains rfl rfl rfl fk_M_0_7 (Wp.r_bipush (pc := 56) o_X12_explains rfl (Wp.r_iload_n2 (pc := 58) o_X12_explains rfl rfl (Wp.r_imul (pc := 59) o_X12_explains rfl (Wp.r_iload (pc := 60) o_X12_explains rfl rfl (Wp.r_iadd (pc := 62) o_X12_explains rfl (Wp.r_laload (pc := 63) o_X12_explains rfl ak_M_5 (⟨hc1, ?_⟩)))))))
      refine Wp.r_l2i (pc := 64) o_X12_explains rfl (Wp.r_istore (pc := 65) o_X12_explains rfl (show Y_X12_explains d Q 67 [(5, .int ((s.2 5 (((60 * v2) + v4).toNatClampNeg)).toInt32)), (0, .ref 0), (2, .int v2), (4, .int v4)] [] s from ?_))
      revert H
      generalize ((s.2 5 (((60 * v2) + v4).toNatClampNeg)).toInt32 : Int32) = x2
      intro H
      have H := nmx_e H
      refine Wp.r_iconst (pc := 67) o_X12_explains rfl (Wp.r_iload (pc := 68) o_X12_explains rfl rfl (Wp.r_iconst (pc := 70) o_X12_explains rfl (Wp.r_isub (pc := 71) o_X12_explains rfl (Wp.r_max (pc := 72) o_X12_explains rfl (⟨rm8_ rfl, ?_⟩)))))
      refine Wp.r_istore (pc := 75) o_X12_explains rfl (show Y_X12_explains d Q 77 [(6, .int (if 0 < (v4 - 1) then (v4 - 1) else 0)), (5, .int x2), (0, .ref 0), (2, .int v2), (4, .int v4)] [] s from ?_)
      revert H
      generalize (if 0 < (v4 - 1) then (v4 - 1) else 0 : Int32) = x3
      intro H
      have H := nmx_e H
      exact Wp.weak2 [2, 3, 4, 1, 0] (w_X12_explains_b77 (f_X12_explains_b41 n) ih _ _ _ _ _ _ H) rfl
noncomputable def f_X12_explains_b3 : Nat → Int32 → Int32 → Int32 → Int32 → Sg → Option (Int32 × Sg)
  | 0, _, _, _, _, _ => none
  | n + 1, v1, v2, v3, v4, s =>
    if 8 ≤ v4 then
      f_X12_explains_b41 BIG v2 0 s
    else
      if ((v1 >>> (v4 &&& 31)) &&& 1) = 1 then
        ck (inr v4 8) (
        (f_X12_explains_b3 n) v1 v2 v3 (v4 + 1) (pI s 9 v4.toNatClampNeg v3)
        )
      else
        ck (inr v4 8) (
        (f_X12_explains_b3 n) v1 v2 v3 (v4 + 1) (pI s 9 v4.toNatClampNeg 0)
        )
set_option maxRecDepth 100000 in
theorem w_X12_explains_b3 {d : Nat} {Q : Qt} (n : Nat) : ∀ (v1 : Int32) (v2 : Int32) (v3 : Int32) (v4 : Int32) (s : Sg), OQ (f_X12_explains_b3 n v1 v2 v3 v4 s) (fun r9 s9 => Q (some (.int r9)) s9) → Y_X12_explains d Q 3 [(0, .ref 0), (1, .int v1), (2, .int v2), (3, .int v3), (4, .int v4)] [] s := by
  induction n with
  | zero => intro v1 v2 v3 v4 s H; exact H.elim
  | succ n ih =>
    intro v1 v2 v3 v4 s H
    unfold f_X12_explains_b3 at H
    refine Wp.r_iload (pc := 3) o_X12_explains rfl rfl (Wp.r_bipush (pc := 5) o_X12_explains rfl (Wp.r_icmp_ge (pc := 7) o_X12_explains rfl (fun c9 => ?_) (fun c9 => ?_)))
    · have H := oq_t c9 H
      exact Wp.r_iconst (pc := 38) o_X12_explains rfl (Wp.r_istore (pc := 39) o_X12_explains rfl (Wp.weak2 [1, 3, 0] (w_X12_explains_b41 _ _ _ _ H) rfl))
    · have H := oq_f c9 H
      refine Wp.f_al0_gfr (pc := 10) o_X12_explains rfl rfl rfl fk_M_0_28 (Wp.r_iload (pc := 14) o_X12_explains rfl rfl (Wp.r_iload_n1 (pc := 16) o_X12_explains rfl rfl (Wp.r_iload (pc := 17) o_X12_explains rfl rfl (Wp.r_ishr (pc := 19) o_X12_explains rfl (Wp.r_iconst (pc := 20) o_X12_explains rfl (Wp.r_iand (pc := 21) o_X12_explains rfl (Wp.r_iconst (pc := 22) o_X12_explains rfl (Wp.r_icmp_ne (pc := 23) o_X12_explains rfl (fun c9 => ?_) (fun c9 => ?_)))))))))
      · have H := oq_t c9 H
        obtain ⟨hc7, H⟩ := oq_ck H
        refine Wp.r_iload_n3 (pc := 26) o_X12_explains rfl rfl (Wp.r_goto (pc := 27) o_X12_explains rfl (Wp.r_iastore (pc := 31) o_X12_explains rfl ak_M_9 (⟨hc7, ?_⟩)))
        exact Wp.f_iinc_goto (pc := 32) o_X12_explains rfl rfl rfl (Wp.weak2 [1, 2, 3, 4, 0] (ih _ _ _ _ _ H) rfl)
      · have H := oq_f c9 H
        obtain ⟨hc8, H⟩ := oq_ck H
        refine Wp.r_iconst (pc := 30) o_X12_explains rfl (Wp.r_iastore (pc := 31) o_X12_explains rfl ak_M_9 (⟨hc8, ?_⟩))
        exact Wp.f_iinc_goto (pc := 32) o_X12_explains rfl rfl rfl (Wp.weak2 [1, 2, 3, 4, 0] (ih _ _ _ _ _ H) rfl)
noncomputable def f_X12_explains (a1 : Int32) (a2 : Int32) (a3 : Int32) (s : Sg) : Option (Int32 × Sg) :=
  f_X12_explains_b3 BIG a1 a2 a3 0 s
set_option maxRecDepth 100000 in
theorem w_X12_explains {d : Nat} {s : Sg} {Q : Qt} (a1 : Int32) (a2 : Int32) (a3 : Int32) (H : OQ (f_X12_explains a1 a2 a3 s) (fun r9 s9 => Q (some (.int r9)) s9)) : WpM SHM MT (d + 1) 315 [.ref 0, .int a1, .int a2, .int a3] s Q := by
  refine WpM.enter me_X12_explains rfl rfl ?_
  show Y_X12_explains d Q 0 [(0, .ref 0), (1, .int a1), (2, .int a2), (3, .int a3)] [] s
  unfold f_X12_explains at H
  exact Wp.r_iconst (pc := 0) o_X12_explains rfl (Wp.r_istore (pc := 1) o_X12_explains rfl (Wp.weak2 [1, 2, 3, 4, 0] (w_X12_explains_b3 _ _ _ _ _ _ H) rfl))
noncomputable abbrev Y_X12_who (d : Nat) (Q : Qt) : Xt := Wp SHM (WpM SHM MT (d + 2)) (flat2 cq_X12_who) (some .int) Q
noncomputable def f_X12_who_b154 (k_124 : Int32 → Int32 → Int32 → Int32 → Sg → Option (Int32 × Sg)) (v1 : Int32) (v2 : Int32) (v3 : Int32) (v4 : Int32) (s : Sg) : Option (Int32 × Sg) :=
  bd (f_X12_explains v4 v1 v2 s) (fun r14 s15 =>
  if r14 = 0 then
    k_124 v1 v2 v3 (v4 + 1) s15
  else
    k_124 v1 v2 v4 (v4 + 1) s15
  )
set_option maxRecDepth 100000 in
theorem w_X12_who_b154 {d : Nat} {Q : Qt} (k_124 : Int32 → Int32 → Int32 → Int32 → Sg → Option (Int32 × Sg)) (h_124 : ∀ (v1 : Int32) (v2 : Int32) (v3 : Int32) (v4 : Int32) s, OQ (k_124 v1 v2 v3 v4 s) (fun r9 s9 => Q (some (.int r9)) s9) → Y_X12_who d Q 124 [(0, .ref 0), (1, .int v1), (2, .int v2), (3, .int v3), (4, .int v4)] [] s) (v1 : Int32) (v2 : Int32) (v3 : Int32) (v4 : Int32) (s : Sg) (H : OQ (f_X12_who_b154 k_124 v1 v2 v3 v4 s) (fun r9 s9 => Q (some (.int r9)) s9)) : Y_X12_who d Q 154 [(0, .ref 0), (1, .int v1), (2, .int v2), (3, .int v3), (4, .int v4)] [] s := by
  unfold f_X12_who_b154 at H
  refine Wp.r_aload_n0 (pc := 154) o_X12_who rfl rfl (Wp.r_iload (pc := 155) o_X12_who rfl rfl (Wp.r_iload_n1 (pc := 157) o_X12_who rfl rfl (Wp.r_iload_n2 (pc := 158) o_X12_who rfl rfl (Wp.r_cv4 (pc := 159) o_X12_who rfl fk_M_0_0 (⟨rm8_ rfl, ?_⟩)))))
  refine w_X12_explains (d := d + 1) _ _ _ ?_
  refine oq_bd H (fun r14 s15 H => ?_)
  refine Wp.r_if_eq (pc := 162) o_X12_who rfl (fun c9 => ?_) (fun c9 => ?_)
  · have H := oq_t c9 H
    exact Wp.f_iinc_goto (pc := 168) o_X12_who rfl rfl rfl (Wp.weak2 [1, 2, 3, 4, 0] (h_124 _ _ _ _ _ H) rfl)
  · have H := oq_f c9 H
    exact Wp.r_iload (pc := 165) o_X12_who rfl rfl (Wp.r_istore_n3 (pc := 167) o_X12_who rfl (Wp.f_iinc_goto (pc := 168) o_X12_who rfl rfl rfl (Wp.weak2 [2, 3, 4, 1, 0] (h_124 _ _ _ _ _ H) rfl)))
noncomputable def f_X12_who_b124 : Nat → Int32 → Int32 → Int32 → Int32 → Sg → Option (Int32 × Sg)
  | 0, _, _, _, _, _ => none
  | n + 1, v1, v2, v3, v4, s =>
    if ((1 : Int32) <<< ((s.1 1 0) &&& 31)) ≤ v4 then
      bd (f_X12_orNone v3 s) (fun r12 s13 =>
      some (r12, s13)
      )
    else
      if v3 = (-1) then
        f_X12_who_b154 (f_X12_who_b124 n) v1 v2 v3 v4 s
      else
        bd (f_X12_bits v4 s) (fun r16 s17 =>
        bd (f_X12_bits v3 s17) (fun r18 s19 =>
        if r18 ≤ r16 then
          (f_X12_who_b124 n) v1 v2 v3 (v4 + 1) s19
        else
          f_X12_who_b154 (f_X12_who_b124 n) v1 v2 v3 v4 s19
        )
        )
set_option maxRecDepth 100000 in
theorem w_X12_who_b124 {d : Nat} {Q : Qt} (n : Nat) : ∀ (v1 : Int32) (v2 : Int32) (v3 : Int32) (v4 : Int32) (s : Sg), OQ (f_X12_who_b124 n v1 v2 v3 v4 s) (fun r9 s9 => Q (some (.int r9)) s9) → Y_X12_who d Q 124 [(0, .ref 0), (1, .int v1), (2, .int v2), (3, .int v3), (4, .int v4)] [] s := by
  induction n with
  | zero => intro v1 v2 v3 v4 s H; exact H.elim
  | succ n ih =>
    intro v1 v2 v3 v4 s H
    unfold f_X12_who_b124 at H
    refine Wp.r_iload (pc := 124) o_X12_who rfl rfl (Wp.r_iconst (pc := 126) o_X12_who rfl (Wp.f_al0_gfr (pc := 127) o_X12_who rfl rfl rfl fk_M_0_0 (Wp.r_iconst (pc := 131) o_X12_who rfl (Wp.r_iaload (pc := 132) o_X12_who rfl ak_M_1 (show (vp_in 0 2880) ∧ Y_X12_who d Q 133 [(0, .ref 0), (1, .int v1), (2, .int v2), (3, .int v3), (4, .int v4)] [.int (s.1 1 0), .int 1, .int v4] s from ⟨by unfold vp_in; decide, ?_⟩)))))
    refine Wp.r_ishl (pc := 133) o_X12_who rfl (Wp.r_icmp_ge (pc := 134) o_X12_who rfl (fun c9 => ?_) (fun c9 => ?_))
    · have H := oq_t c9 H
      refine Wp.r_aload_n0 (pc := 174) o_X12_who rfl rfl (Wp.r_iload_n3 (pc := 175) o_X12_who rfl rfl (Wp.r_cv2 (pc := 176) o_X12_who rfl fk_M_0_0 (⟨rm8_ rfl, ?_⟩)))
      refine w_X12_orNone (d := d) _ ?_
      refine oq_bd H (fun r12 s13 H => ?_)
      exact Wp.r_ireturn (pc := 179) o_X12_who rfl (⟨rfl, H⟩)
    · have H := oq_f c9 H
      refine Wp.r_iload_n3 (pc := 137) o_X12_who rfl rfl (Wp.r_iconst (pc := 138) o_X12_who rfl (Wp.r_icmp_eq (pc := 139) o_X12_who rfl (fun c9 => ?_) (fun c9 => ?_)))
      · have H := oq_t c9 H
        exact Wp.weak2 [0, 1, 2, 3, 4] (w_X12_who_b154 (f_X12_who_b124 n) ih _ _ _ _ _ H) rfl
      · have H := oq_f c9 H
        refine Wp.r_iload (pc := 142) o_X12_who rfl rfl (Wp.r_cs1 (pc := 144) o_X12_who rfl (⟨rm8_ rfl, ?_⟩))
        refine w_X12_bits (d := d + 1) _ ?_
        refine oq_bd H (fun r16 s17 H => ?_)
        refine Wp.r_iload_n3 (pc := 147) o_X12_who rfl rfl (Wp.r_cs1 (pc := 148) o_X12_who rfl (⟨rm8_ rfl, ?_⟩))
        refine w_X12_bits (d := d + 1) _ ?_
        refine oq_bd H (fun r18 s19 H => ?_)
        refine Wp.r_icmp_ge (pc := 151) o_X12_who rfl (fun c9 => ?_) (fun c9 => ?_)
        · have H := oq_t c9 H
          exact Wp.f_iinc_goto (pc := 168) o_X12_who rfl rfl rfl (Wp.weak2 [1, 2, 3, 4, 0] (ih _ _ _ _ _ H) rfl)
        · have H := oq_f c9 H
          exact Wp.weak2 [0, 1, 2, 3, 4] (w_X12_who_b154 (f_X12_who_b124 n) ih _ _ _ _ _ H) rfl
noncomputable def f_X12_who_b64 : Nat → Int32 → Int32 → Int32 → Sg → Option (Int32 × Sg)
  | 0, _, _, _, _ => none
  | n + 1, v1, v2, v3, s =>
    if (s.1 1 0) ≤ v3 then
      f_X12_who_b124 BIG v1 v2 (-1) 0 s
    else
      ck (inr ((60 * v1) + v3) 240) (
      bd (f_X12_isGone v3 s) (fun r21 s22 =>
      if r21 = 0 then
        bd (f_X12_isFrom (s.2 5 (((60 * v1) + v3).toNatClampNeg)) 0 9999 s22) (fun r23 s24 =>
        if r23 = 0 then
          bd (f_X12_refuse 5 s24) (fun r25 s26 =>
          some (r25, s26)
          )
        else
          (f_X12_who_b64 n) v1 v2 (v3 + 1) s24
        )
      else
        bd (f_X12_isFrom (s.2 5 (((60 * v1) + v3).toNatClampNeg)) 0 0 s22) (fun r27 s28 =>
        if r27 = 0 then
          bd (f_X12_refuse 5 s28) (fun r29 s30 =>
          some (r29, s30)
          )
        else
          (f_X12_who_b64 n) v1 v2 (v3 + 1) s28
        )
      )
      )
set_option maxRecDepth 100000 in
theorem w_X12_who_b64 {d : Nat} {Q : Qt} (n : Nat) : ∀ (v1 : Int32) (v2 : Int32) (v3 : Int32) (s : Sg), OQ (f_X12_who_b64 n v1 v2 v3 s) (fun r9 s9 => Q (some (.int r9)) s9) → Y_X12_who d Q 64 [(0, .ref 0), (1, .int v1), (2, .int v2), (3, .int v3)] [] s := by
  induction n with
  | zero => intro v1 v2 v3 s H; exact H.elim
  | succ n ih =>
    intro v1 v2 v3 s H
    unfold f_X12_who_b64 at H
    refine Wp.r_iload_n3 (pc := 64) o_X12_who rfl rfl (Wp.f_al0_gfr (pc := 65) o_X12_who rfl rfl rfl fk_M_0_0 (Wp.r_iconst (pc := 69) o_X12_who rfl (Wp.r_iaload (pc := 70) o_X12_who rfl ak_M_1 (show (vp_in 0 2880) ∧ Y_X12_who d Q 71 [(0, .ref 0), (1, .int v1), (2, .int v2), (3, .int v3)] [.int (s.1 1 0), .int v3] s from ⟨by unfold vp_in; decide, ?_⟩))))
    refine Wp.r_icmp_ge (pc := 71) o_X12_who rfl (fun c9 => ?_) (fun c9 => ?_)
    · have H := oq_t c9 H
      exact Wp.r_iconst (pc := 119) o_X12_who rfl (Wp.r_istore_n3 (pc := 120) o_X12_who rfl (Wp.r_iconst (pc := 121) o_X12_who rfl (Wp.r_istore (pc := 122) o_X12_who rfl (Wp.weak2 [2, 3, 4, 1, 0] (w_X12_who_b124 _ _ _ _ _ _ H) rfl))))
    · have H := oq_f c9 H
      obtain ⟨hc20, H⟩ := oq_ck H
      refine Wp.f_al0_gfr (pc := 74) o_X12_who rfl rfl rfl fk_M_0_7 (Wp.r_bipush (pc := 78) o_X12_who rfl (Wp.r_iload_n1 (pc := 80) o_X12_who rfl rfl (Wp.r_imul (pc := 81) o_X12_who rfl (Wp.r_iload_n3 (pc := 82) o_X12_who rfl rfl (Wp.r_iadd (pc := 83) o_X12_who rfl (Wp.r_laload (pc := 84) o_X12_who rfl ak_M_5 (⟨hc20, ?_⟩)))))))
      refine Wp.r_lconst (pc := 85) o_X12_who rfl (Wp.r_aload_n0 (pc := 86) o_X12_who rfl rfl (Wp.r_iload_n3 (pc := 87) o_X12_who rfl rfl (Wp.r_cv2 (pc := 88) o_X12_who rfl fk_M_0_0 (⟨rm8_ rfl, ?_⟩))))
      refine w_X12_isGone (d := d + 1) _ ?_
      refine oq_bd H (fun r21 s22 H => ?_)
      refine Wp.r_if_eq (pc := 91) o_X12_who rfl (fun c9 => ?_) (fun c9 => ?_)
      · have H := oq_t c9 H
        refine Wp.r_ldc2_w (pc := 98) o_X12_who rfl (Wp.r_cs3 (pc := 101) o_X12_who rfl (⟨rm8_ rfl, ?_⟩))
        refine w_X12_isFrom (d := d + 1) _ _ _ ?_
        refine oq_bd H (fun r23 s24 H => ?_)
        refine Wp.r_if_ne (pc := 104) o_X12_who rfl (fun c9 => ?_) (fun c9 => ?_)
        · have H := oq_t c9 H
          refine Wp.f_al0_iconst (pc := 107) o_X12_who rfl rfl rfl (Wp.r_cv2 (pc := 109) o_X12_who rfl fk_M_0_0 (⟨rm8_ rfl, ?_⟩))
          refine w_X12_refuse (d := d + 1) _ ?_
          refine oq_bd H (fun r25 s26 H => ?_)
          exact Wp.r_ireturn (pc := 112) o_X12_who rfl (⟨rfl, H⟩)
        · have H := oq_f c9 H
          exact Wp.f_iinc_goto (pc := 113) o_X12_who rfl rfl rfl (Wp.weak2 [1, 2, 3, 0] (ih _ _ _ _ H) rfl)
      · have H := oq_f c9 H
        refine Wp.r_lconst (pc := 94) o_X12_who rfl (Wp.r_goto (pc := 95) o_X12_who rfl (Wp.r_cs3 (pc := 101) o_X12_who rfl (⟨rm8_ rfl, ?_⟩)))
        refine w_X12_isFrom (d := d + 1) _ _ _ ?_
        refine oq_bd H (fun r27 s28 H => ?_)
        refine Wp.r_if_ne (pc := 104) o_X12_who rfl (fun c9 => ?_) (fun c9 => ?_)
        · have H := oq_t c9 H
          refine Wp.f_al0_iconst (pc := 107) o_X12_who rfl rfl rfl (Wp.r_cv2 (pc := 109) o_X12_who rfl fk_M_0_0 (⟨rm8_ rfl, ?_⟩))
          refine w_X12_refuse (d := d + 1) _ ?_
          refine oq_bd H (fun r29 s30 H => ?_)
          exact Wp.r_ireturn (pc := 112) o_X12_who rfl (⟨rfl, H⟩)
        · have H := oq_f c9 H
          exact Wp.f_iinc_goto (pc := 113) o_X12_who rfl rfl rfl (Wp.weak2 [1, 2, 3, 0] (ih _ _ _ _ H) rfl)
noncomputable def f_X12_who (a1 : Int32) (a2 : Int32) (s : Sg) : Option (Int32 × Sg) :=
  bd (f_X12_isTray a1 s) (fun r1 s2 =>
  if r1 = 0 then
    bd (f_X12_refuse 1 s2) (fun r3 s4 =>
    some (r3, s4)
    )
  else
    bd (f_X12_isFrom a2.toInt64 1 999 s2) (fun r5 s6 =>
    if r5 = 0 then
      bd (f_X12_refuse 1 s6) (fun r7 s8 =>
      some (r7, s8)
      )
    else
      ck (inr a1 4) (
      if (s6.1 4 a1.toNatClampNeg) = (-1) then
        bd (f_X12_refuse 2 s6) (fun r10 s11 =>
        some (r10, s11)
        )
      else
        if (s6.1 1 0) ≤ (s6.1 4 a1.toNatClampNeg) then
          f_X12_who_b64 BIG a1 a2 0 s6
        else
          bd (f_X12_refuse 3 s6) (fun r31 s32 =>
          some (r31, s32)
          )
      )
    )
  )
set_option maxRecDepth 100000 in
theorem w_X12_who {d : Nat} {s : Sg} {Q : Qt} (a1 : Int32) (a2 : Int32) (H : OQ (f_X12_who a1 a2 s) (fun r9 s9 => Q (some (.int r9)) s9)) : WpM SHM MT (d + 3) 316 [.ref 0, .int a1, .int a2] s Q := by
  refine WpM.enter me_X12_who rfl rfl ?_
  show Y_X12_who d Q 0 [(0, .ref 0), (1, .int a1), (2, .int a2)] [] s
  unfold f_X12_who at H
  refine Wp.r_iload_n1 (pc := 0) o_X12_who rfl rfl (Wp.r_cs1 (pc := 1) o_X12_who rfl (⟨rm8_ rfl, ?_⟩))
  refine w_X12_isTray (d := d + 1) _ ?_
  refine oq_bd H (fun r1 s2 H => ?_)
  refine Wp.r_if_eq (pc := 4) o_X12_who rfl (fun c9 => ?_) (fun c9 => ?_)
  · have H := oq_t c9 H
    refine Wp.f_al0_iconst (pc := 19) o_X12_who rfl rfl rfl (Wp.r_cv2 (pc := 21) o_X12_who rfl fk_M_0_0 (⟨rm8_ rfl, ?_⟩))
    refine w_X12_refuse (d := d + 1) _ ?_
    refine oq_bd H (fun r3 s4 H => ?_)
    exact Wp.r_ireturn (pc := 24) o_X12_who rfl (⟨rfl, H⟩)
  · have H := oq_f c9 H
    refine Wp.r_iload_n2 (pc := 7) o_X12_who rfl rfl (Wp.r_i2l (pc := 8) o_X12_who rfl (Wp.r_lconst (pc := 9) o_X12_who rfl (Wp.r_ldc2_w (pc := 10) o_X12_who rfl (Wp.r_cs3 (pc := 13) o_X12_who rfl (⟨rm8_ rfl, ?_⟩)))))
    refine w_X12_isFrom (d := d + 1) _ _ _ ?_
    refine oq_bd H (fun r5 s6 H => ?_)
    refine Wp.r_if_ne (pc := 16) o_X12_who rfl (fun c9 => ?_) (fun c9 => ?_)
    · have H := oq_t c9 H
      refine Wp.f_al0_iconst (pc := 19) o_X12_who rfl rfl rfl (Wp.r_cv2 (pc := 21) o_X12_who rfl fk_M_0_0 (⟨rm8_ rfl, ?_⟩))
      refine w_X12_refuse (d := d + 1) _ ?_
      refine oq_bd H (fun r7 s8 H => ?_)
      exact Wp.r_ireturn (pc := 24) o_X12_who rfl (⟨rfl, H⟩)
    · have H := oq_f c9 H
      obtain ⟨hc9, H⟩ := oq_ck H
      refine Wp.f_al0_gfr (pc := 25) o_X12_who rfl rfl rfl fk_M_0_6 (Wp.r_iload_n1 (pc := 29) o_X12_who rfl rfl (Wp.r_iaload (pc := 30) o_X12_who rfl ak_M_4 (⟨hc9, ?_⟩)))
      refine Wp.r_iconst (pc := 31) o_X12_who rfl (Wp.r_icmp_ne (pc := 32) o_X12_who rfl (fun c9 => ?_) (fun c9 => ?_))
      · have H := oq_t c9 H
        refine Wp.f_al0_iconst (pc := 35) o_X12_who rfl rfl rfl (Wp.r_cv2 (pc := 37) o_X12_who rfl fk_M_0_0 (⟨rm8_ rfl, ?_⟩))
        refine w_X12_refuse (d := d + 1) _ ?_
        refine oq_bd H (fun r10 s11 H => ?_)
        exact Wp.r_ireturn (pc := 40) o_X12_who rfl (⟨rfl, H⟩)
      · have H := oq_f c9 H
        refine Wp.f_al0_gfr (pc := 41) o_X12_who rfl rfl rfl fk_M_0_6 (Wp.r_iload_n1 (pc := 45) o_X12_who rfl rfl (Wp.r_iaload (pc := 46) o_X12_who rfl ak_M_4 (⟨hc9, ?_⟩)))
        refine Wp.f_al0_gfr (pc := 47) o_X12_who rfl rfl rfl fk_M_0_0 (Wp.r_iconst (pc := 51) o_X12_who rfl (Wp.r_iaload (pc := 52) o_X12_who rfl ak_M_1 (show (vp_in 0 2880) ∧ Y_X12_who d Q 53 [(0, .ref 0), (1, .int a1), (2, .int a2)] [.int (s6.1 1 0), .int (s6.1 4 a1.toNatClampNeg)] s6 from ⟨by unfold vp_in; decide, ?_⟩)))
        refine Wp.r_icmp_ge (pc := 53) o_X12_who rfl (fun c9 => ?_) (fun c9 => ?_)
        · have H := oq_t c9 H
          exact Wp.r_iconst (pc := 62) o_X12_who rfl (Wp.r_istore_n3 (pc := 63) o_X12_who rfl (Wp.weak2 [1, 2, 3, 0] (w_X12_who_b64 _ _ _ _ _ H) rfl))
        · have H := oq_f c9 H
          refine Wp.f_al0_iconst (pc := 56) o_X12_who rfl rfl rfl (Wp.r_cv2 (pc := 58) o_X12_who rfl fk_M_0_0 (⟨rm8_ rfl, ?_⟩))
          refine w_X12_refuse (d := d + 1) _ ?_
          refine oq_bd H (fun r31 s32 H => ?_)
          exact Wp.r_ireturn (pc := 61) o_X12_who rfl (⟨rfl, H⟩)
noncomputable abbrev Y_X12_waysOf (d : Nat) (Q : Qt) : Xt := Wp SHM (WpM SHM MT (d + 0)) (flat2 cq_X12_waysOf) (some .long) Q
noncomputable def f_X12_waysOf_b5 : Nat → Int64 → Int32 → Int64 → Int32 → Sg → Option (Int64 × Sg)
  | 0, _, _, _, _, _ => none
  | n + 1, v0, v2, v3, v5, s =>
    if v2 ≤ v5 then
      some (v3, s)
    else
      ck (¬ (v5.toInt64 + 1) = 0) (
      nmx ((v3 * (v0 - v5.toInt64)) / (v5.toInt64 + 1) : Int64) (fun x2 =>
      (f_X12_waysOf_b5 n) v0 v2 x2 (v5 + 1) s
      )
      )
set_option maxRecDepth 100000 in
theorem w_X12_waysOf_b5 {d : Nat} {Q : Qt} (n : Nat) : ∀ (v0 : Int64) (v2 : Int32) (v3 : Int64) (v5 : Int32) (s : Sg), OQ (f_X12_waysOf_b5 n v0 v2 v3 v5 s) (fun r9 s9 => Q (some (.long r9)) s9) → Y_X12_waysOf d Q 5 [(0, .long v0), (2, .int v2), (3, .long v3), (5, .int v5)] [] s := by
  induction n with
  | zero => intro v0 v2 v3 v5 s H; exact H.elim
  | succ n ih =>
    intro v0 v2 v3 v5 s H
    unfold f_X12_waysOf_b5 at H
    refine Wp.r_iload (pc := 5) o_X12_waysOf rfl rfl (Wp.r_iload_n2 (pc := 7) o_X12_waysOf rfl rfl (Wp.r_icmp_ge (pc := 8) o_X12_waysOf rfl (fun c9 => ?_) (fun c9 => ?_)))
    · have H := oq_t c9 H
      exact Wp.r_lload_n3 (pc := 31) o_X12_waysOf rfl rfl (Wp.r_lreturn (pc := 32) o_X12_waysOf rfl (H))
    · have H := oq_f c9 H
      obtain ⟨hc1, H⟩ := oq_ck H
      refine Wp.r_lload_n3 (pc := 11) o_X12_waysOf rfl rfl (Wp.r_lload_n0 (pc := 12) o_X12_waysOf rfl rfl (Wp.r_iload (pc := 13) o_X12_waysOf rfl rfl (Wp.r_i2l (pc := 15) o_X12_waysOf rfl (Wp.r_lsub (pc := 16) o_X12_waysOf rfl (Wp.r_lmul (pc := 17) o_X12_waysOf rfl (Wp.r_iload (pc := 18) o_X12_waysOf rfl rfl (Wp.r_i2l (pc := 20) o_X12_waysOf rfl (Wp.r_lconst (pc := 21) o_X12_waysOf rfl (Wp.r_ladd (pc := 22) o_X12_waysOf rfl (Wp.r_ldiv (pc := 23) o_X12_waysOf rfl (⟨hc1, ?_⟩)))))))))))
      refine Wp.r_lstore_n3 (pc := 24) o_X12_waysOf rfl (show Y_X12_waysOf d Q 25 [(3, .long ((v3 * (v0 - v5.toInt64)) / (v5.toInt64 + 1))), (0, .long v0), (2, .int v2), (5, .int v5)] [] s from ?_)
      revert H
      generalize ((v3 * (v0 - v5.toInt64)) / (v5.toInt64 + 1) : Int64) = x2
      intro H
      have H := nmx_e H
      exact Wp.f_iinc_goto (pc := 25) o_X12_waysOf rfl rfl rfl (Wp.weak2 [2, 3, 1, 0] (ih _ _ _ _ _ H) rfl)
noncomputable def f_X12_waysOf (a0 : Int64) (a1 : Int32) (s : Sg) : Option (Int64 × Sg) :=
  f_X12_waysOf_b5 BIG a0 a1 1 0 s
set_option maxRecDepth 100000 in
theorem w_X12_waysOf {d : Nat} {s : Sg} {Q : Qt} (a0 : Int64) (a1 : Int32) (H : OQ (f_X12_waysOf a0 a1 s) (fun r9 s9 => Q (some (.long r9)) s9)) : WpM SHM MT (d + 1) 317 [.long a0, .int a1] s Q := by
  refine WpM.enter me_X12_waysOf rfl rfl ?_
  show Y_X12_waysOf d Q 0 [(0, .long a0), (2, .int a1)] [] s
  unfold f_X12_waysOf at H
  exact Wp.r_lconst (pc := 0) o_X12_waysOf rfl (Wp.r_lstore_n3 (pc := 1) o_X12_waysOf rfl (Wp.r_iconst (pc := 2) o_X12_waysOf rfl (Wp.r_istore (pc := 3) o_X12_waysOf rfl (Wp.weak2 [2, 3, 1, 0] (w_X12_waysOf_b5 _ _ _ _ _ _ H) rfl))))
noncomputable abbrev Y_X12_tellsBy (d : Nat) (Q : Qt) : Xt := Wp SHM (WpM SHM MT (d + 1)) (flat2 cq_X12_tellsBy) (some .boolean) Q
noncomputable def f_X12_tellsBy_b6 : Nat → Int64 → Int64 → Int64 → Int64 → Sg → Option (Int32 × Sg)
  | 0, _, _, _, _, _ => none
  | n + 1, v1, v3, v5, v7, s =>
    if (lg_cmp v7 0) = 0 then
      ck (¬ v5 = 0) (
      nmx (pL (pL s 0 3 (v1 / v5)) 0 4 (v3 / v5)) (fun s2 =>
      bd (f_X12_is 0 s2) (fun r3 s4 =>
      ck (r3 = 0 ∨ r3 = 1) (some (r3, s4))
      )
      )
      )
    else
      ck (¬ v7 = 0) (
      (f_X12_tellsBy_b6 n) v1 v3 v7 (v5 - v5 / v7 * v7) s
      )
set_option maxRecDepth 100000 in
theorem w_X12_tellsBy_b6 {d : Nat} {Q : Qt} (n : Nat) : ∀ (v1 : Int64) (v3 : Int64) (v5 : Int64) (v7 : Int64) (s : Sg), OQ (f_X12_tellsBy_b6 n v1 v3 v5 v7 s) (fun r9 s9 => Q (some (.int r9)) s9) → Y_X12_tellsBy d Q 6 [(0, .ref 0), (1, .long v1), (3, .long v3), (5, .long v5), (7, .long v7)] [] s := by
  induction n with
  | zero => intro v1 v3 v5 v7 s H; exact H.elim
  | succ n ih =>
    intro v1 v3 v5 v7 s H
    unfold f_X12_tellsBy_b6 at H
    refine Wp.r_lload (pc := 6) o_X12_tellsBy rfl rfl (Wp.r_lconst (pc := 8) o_X12_tellsBy rfl (Wp.r_lcmp (pc := 9) o_X12_tellsBy rfl (Wp.r_if_eq (pc := 10) o_X12_tellsBy rfl (fun c9 => ?_) (fun c9 => ?_))))
    · have H := oq_t c9 H
      obtain ⟨hc1, H⟩ := oq_ck H
      refine Wp.r_aload_n0 (pc := 31) o_X12_tellsBy rfl rfl (Wp.r_lload_n1 (pc := 32) o_X12_tellsBy rfl rfl (Wp.r_lload (pc := 33) o_X12_tellsBy rfl rfl (Wp.r_ldiv (pc := 35) o_X12_tellsBy rfl (⟨hc1, ?_⟩))))
      refine Wp.r_pfl (pc := 36) o_X12_tellsBy rfl fk_M_0_3 (Wp.r_aload_n0 (pc := 39) o_X12_tellsBy rfl rfl (Wp.r_lload_n3 (pc := 40) o_X12_tellsBy rfl rfl (Wp.r_lload (pc := 41) o_X12_tellsBy rfl rfl (Wp.r_ldiv (pc := 43) o_X12_tellsBy rfl (⟨hc1, ?_⟩)))))
      refine Wp.r_pfl (pc := 44) o_X12_tellsBy rfl fk_M_0_4 (show Y_X12_tellsBy d Q 47 [(0, .ref 0), (1, .long v1), (3, .long v3), (5, .long v5), (7, .long v7)] [] (pL (pL s 0 3 (v1 / v5)) 0 4 (v3 / v5)) from ?_)
      revert H
      generalize pL (pL s 0 3 (v1 / v5)) 0 4 (v3 / v5) = s2
      intro H
      have H := nmx_e H
      refine Wp.f_al0_iconst (pc := 47) o_X12_tellsBy rfl rfl rfl (Wp.r_cv2 (pc := 49) o_X12_tellsBy rfl fk_M_0_0 (⟨rm8_ rfl, ?_⟩))
      refine w_X12_is (d := d) _ ?_
      refine oq_bd H (fun r3 s4 H => ?_)
      obtain ⟨c9, H⟩ := oq_ck H
      exact Wp.r_ireturn (pc := 52) o_X12_tellsBy rfl (⟨b01_n c9, H⟩)
    · have H := oq_f c9 H
      obtain ⟨hc5, H⟩ := oq_ck H
      refine Wp.r_lload (pc := 13) o_X12_tellsBy rfl rfl (Wp.r_lload (pc := 15) o_X12_tellsBy rfl rfl (Wp.r_lrem (pc := 17) o_X12_tellsBy rfl (⟨hc5, ?_⟩)))
      exact Wp.r_lstore (pc := 18) o_X12_tellsBy rfl (Wp.r_lload (pc := 20) o_X12_tellsBy rfl rfl (Wp.r_lstore (pc := 22) o_X12_tellsBy rfl (Wp.r_lload (pc := 24) o_X12_tellsBy rfl rfl (Wp.r_lstore (pc := 26) o_X12_tellsBy rfl (Wp.r_goto (pc := 28) o_X12_tellsBy rfl (Wp.weak2 [3, 4, 5, 1, 0] (ih _ _ _ _ _ H) rfl))))))
noncomputable def f_X12_tellsBy (a1 : Int64) (a2 : Int64) (s : Sg) : Option (Int32 × Sg) :=
  f_X12_tellsBy_b6 BIG a1 a2 a1 a2 s
set_option maxRecDepth 100000 in
theorem w_X12_tellsBy {d : Nat} {s : Sg} {Q : Qt} (a1 : Int64) (a2 : Int64) (H : OQ (f_X12_tellsBy a1 a2 s) (fun r9 s9 => Q (some (.int r9)) s9)) : WpM SHM MT (d + 2) 194 [.ref 0, .long a1, .long a2] s Q := by
  refine WpM.enter me_X12_tellsBy rfl rfl ?_
  show Y_X12_tellsBy d Q 0 [(0, .ref 0), (1, .long a1), (3, .long a2)] [] s
  unfold f_X12_tellsBy at H
  exact Wp.r_lload_n1 (pc := 0) o_X12_tellsBy rfl rfl (Wp.r_lstore (pc := 1) o_X12_tellsBy rfl (Wp.r_lload_n3 (pc := 3) o_X12_tellsBy rfl rfl (Wp.r_lstore (pc := 4) o_X12_tellsBy rfl (Wp.weak2 [2, 3, 4, 1, 0] (w_X12_tellsBy_b6 _ _ _ _ _ _ H) rfl))))
noncomputable abbrev Y_X12_found (d : Nat) (Q : Qt) : Xt := Wp SHM (WpM SHM MT (d + 2)) (flat2 cq_X12_found) (some .boolean) Q
noncomputable def f_X12_found_b21 (v1 : Int32) (v2 : Int32) (t0 : Int32) (s : Sg) : Option (Int32 × Sg) :=
  if t0 ≤ 0 then
    bd (f_X12_grainsOn v1 s) (fun r3 s4 =>
    if r3 < v2 then
      bd (f_X12_is 7 s4) (fun r5 s6 =>
      ck (r5 = 0 ∨ r5 = 1) (some (r5, s6))
      )
    else
      bd (f_X12_grainsOn v1 s4) (fun r7 s8 =>
      if r7 ≤ 9999 then
        bd (f_X12_grainsOn v1 s8) (fun r9 s10 =>
        bd (f_X12_waysOf r9.toInt64 v2 s10) (fun r11 s12 =>
        bd (f_X12_houseRow v1 s12) (fun r13 s14 =>
        ck (inr r13 2880) (
        if v2 ≤ (s14.1 1 r13.toNatClampNeg) then
          bd (f_X12_houseRow v1 s14) (fun r16 s17 =>
          ck (inr r16 2880) (
          bd (f_X12_waysOf ((s17.1 1 r16.toNatClampNeg).toInt64) v2 s17) (fun r19 s20 =>
          bd (f_X12_tellsBy (r11 - r19) r11 s20) (fun r21 s22 =>
          ck (r21 = 0 ∨ r21 = 1) (some (r21, s22))
          )
          )
          )
          )
        else
          bd (f_X12_tellsBy (r11 - 0) r11 s14) (fun r23 s24 =>
          ck (r23 = 0 ∨ r23 = 1) (some (r23, s24))
          )
        )
        )
        )
        )
      else
        bd (f_X12_is 7 s8) (fun r25 s26 =>
        ck (r25 = 0 ∨ r25 = 1) (some (r25, s26))
        )
      )
    )
  else
    bd (f_X12_is t0 s) (fun r27 s28 =>
    ck (r27 = 0 ∨ r27 = 1) (some (r27, s28))
    )
set_option maxRecDepth 100000 in
theorem w_X12_found_b21 {d : Nat} {Q : Qt} (v1 : Int32) (v2 : Int32) (t0 : Int32) (s : Sg) (H : OQ (f_X12_found_b21 v1 v2 t0 s) (fun r9 s9 => Q (some (.int r9)) s9)) : Y_X12_found d Q 21 [(0, .ref 0), (1, .int v1), (2, .int v2)] [.int t0] s := by
  unfold f_X12_found_b21 at H
  refine Wp.r_istore_n3 (pc := 21) o_X12_found rfl (Wp.r_iload_n3 (pc := 22) o_X12_found rfl rfl (Wp.r_if_le (pc := 23) o_X12_found rfl (fun c9 => ?_) (fun c9 => ?_)))
  · have H := oq_t c9 H
    refine Wp.r_aload_n0 (pc := 32) o_X12_found rfl rfl (Wp.r_iload_n1 (pc := 33) o_X12_found rfl rfl (Wp.r_cv2 (pc := 34) o_X12_found rfl fk_M_0_0 (⟨rm8_ rfl, ?_⟩)))
    refine w_X12_grainsOn (d := d) _ ?_
    refine oq_bd H (fun r3 s4 H => ?_)
    refine Wp.r_iload_n2 (pc := 37) o_X12_found rfl rfl (Wp.r_icmp_lt (pc := 38) o_X12_found rfl (fun c9 => ?_) (fun c9 => ?_))
    · have H := oq_t c9 H
      refine Wp.r_aload_n0 (pc := 52) o_X12_found rfl rfl (Wp.r_bipush (pc := 53) o_X12_found rfl (Wp.r_cv2 (pc := 55) o_X12_found rfl fk_M_0_0 (⟨rm8_ rfl, ?_⟩)))
      refine w_X12_is (d := d + 1) _ ?_
      refine oq_bd H (fun r5 s6 H => ?_)
      obtain ⟨c9, H⟩ := oq_ck H
      exact Wp.r_ireturn (pc := 58) o_X12_found rfl (⟨b01_n c9, H⟩)
    · have H := oq_f c9 H
      refine Wp.r_aload_n0 (pc := 41) o_X12_found rfl rfl (Wp.r_iload_n1 (pc := 42) o_X12_found rfl rfl (Wp.r_cv2 (pc := 43) o_X12_found rfl fk_M_0_0 (⟨rm8_ rfl, ?_⟩)))
      refine w_X12_grainsOn (d := d) _ ?_
      refine oq_bd H (fun r7 s8 H => ?_)
      refine Wp.r_sipush (pc := 46) o_X12_found rfl (Wp.r_icmp_le (pc := 49) o_X12_found rfl (fun c9 => ?_) (fun c9 => ?_))
      · have H := oq_t c9 H
        refine Wp.r_aload_n0 (pc := 59) o_X12_found rfl rfl (Wp.r_iload_n1 (pc := 60) o_X12_found rfl rfl (Wp.r_cv2 (pc := 61) o_X12_found rfl fk_M_0_0 (⟨rm8_ rfl, ?_⟩)))
        refine w_X12_grainsOn (d := d) _ ?_
        refine oq_bd H (fun r9 s10 H => ?_)
        refine Wp.r_i2l (pc := 64) o_X12_found rfl (Wp.r_iload_n2 (pc := 65) o_X12_found rfl rfl (Wp.r_cs2 (pc := 66) o_X12_found rfl (⟨rm8_ rfl, ?_⟩)))
        refine w_X12_waysOf (d := d + 1) _ _ ?_
        refine oq_bd H (fun r11 s12 H => ?_)
        refine Wp.r_lstore (pc := 69) o_X12_found rfl (Wp.r_aload_n0 (pc := 71) o_X12_found rfl rfl (Wp.r_lload (pc := 72) o_X12_found rfl rfl (Wp.f_al0_gfr (pc := 74) o_X12_found rfl rfl rfl fk_M_0_0 (Wp.r_iload_n1 (pc := 78) o_X12_found rfl rfl (Wp.r_cs1 (pc := 79) o_X12_found rfl (⟨rm8_ rfl, ?_⟩))))))
        refine w_X12_houseRow (d := d + 1) _ ?_
        refine oq_bd H (fun r13 s14 H => ?_)
        obtain ⟨hc15, H⟩ := oq_ck H
        refine Wp.r_iaload (pc := 82) o_X12_found rfl ak_M_1 (⟨hc15, ?_⟩)
        refine Wp.r_iload_n2 (pc := 83) o_X12_found rfl rfl (Wp.r_icmp_ge (pc := 84) o_X12_found rfl (fun c9 => ?_) (fun c9 => ?_))
        · have H := oq_t c9 H
          refine Wp.f_al0_gfr (pc := 91) o_X12_found rfl rfl rfl fk_M_0_0 (Wp.r_iload_n1 (pc := 95) o_X12_found rfl rfl (Wp.r_cs1 (pc := 96) o_X12_found rfl (⟨rm8_ rfl, ?_⟩)))
          refine w_X12_houseRow (d := d + 1) _ ?_
          refine oq_bd H (fun r16 s17 H => ?_)
          obtain ⟨hc18, H⟩ := oq_ck H
          refine Wp.r_iaload (pc := 99) o_X12_found rfl ak_M_1 (⟨hc18, ?_⟩)
          refine Wp.r_i2l (pc := 100) o_X12_found rfl (Wp.r_iload_n2 (pc := 101) o_X12_found rfl rfl (Wp.r_cs2 (pc := 102) o_X12_found rfl (⟨rm8_ rfl, ?_⟩)))
          refine w_X12_waysOf (d := d + 1) _ _ ?_
          refine oq_bd H (fun r19 s20 H => ?_)
          refine Wp.r_lsub (pc := 105) o_X12_found rfl (Wp.r_lload (pc := 106) o_X12_found rfl rfl (Wp.r_cv3 (pc := 108) o_X12_found rfl fk_M_0_0 (⟨rm8_ rfl, ?_⟩)))
          refine w_X12_tellsBy (d := d) _ _ ?_
          refine oq_bd H (fun r21 s22 H => ?_)
          obtain ⟨c9, H⟩ := oq_ck H
          exact Wp.r_ireturn (pc := 111) o_X12_found rfl (⟨b01_n c9, H⟩)
        · have H := oq_f c9 H
          refine Wp.r_lconst (pc := 87) o_X12_found rfl (Wp.r_goto (pc := 88) o_X12_found rfl (Wp.r_lsub (pc := 105) o_X12_found rfl (Wp.r_lload (pc := 106) o_X12_found rfl rfl (Wp.r_cv3 (pc := 108) o_X12_found rfl fk_M_0_0 (⟨rm8_ rfl, ?_⟩)))))
          refine w_X12_tellsBy (d := d) _ _ ?_
          refine oq_bd H (fun r23 s24 H => ?_)
          obtain ⟨c9, H⟩ := oq_ck H
          exact Wp.r_ireturn (pc := 111) o_X12_found rfl (⟨b01_n c9, H⟩)
      · have H := oq_f c9 H
        refine Wp.r_aload_n0 (pc := 52) o_X12_found rfl rfl (Wp.r_bipush (pc := 53) o_X12_found rfl (Wp.r_cv2 (pc := 55) o_X12_found rfl fk_M_0_0 (⟨rm8_ rfl, ?_⟩)))
        refine w_X12_is (d := d + 1) _ ?_
        refine oq_bd H (fun r25 s26 H => ?_)
        obtain ⟨c9, H⟩ := oq_ck H
        exact Wp.r_ireturn (pc := 58) o_X12_found rfl (⟨b01_n c9, H⟩)
  · have H := oq_f c9 H
    refine Wp.r_aload_n0 (pc := 26) o_X12_found rfl rfl (Wp.r_iload_n3 (pc := 27) o_X12_found rfl rfl (Wp.r_cv2 (pc := 28) o_X12_found rfl fk_M_0_0 (⟨rm8_ rfl, ?_⟩)))
    refine w_X12_is (d := d + 1) _ ?_
    refine oq_bd H (fun r27 s28 H => ?_)
    obtain ⟨c9, H⟩ := oq_ck H
    exact Wp.r_ireturn (pc := 31) o_X12_found rfl (⟨b01_n c9, H⟩)
noncomputable def f_X12_found (a1 : Int32) (a2 : Int32) (s : Sg) : Option (Int32 × Sg) :=
  bd (f_X12_isFrom a2.toInt64 1 4 s) (fun r1 s2 =>
  if r1 = 0 then
    f_X12_found_b21 a1 a2 1 s2
  else
    bd (f_X12_wrongStep a1 s2) (fun r29 s30 =>
    f_X12_found_b21 a1 a2 r29 s30
    )
  )
set_option maxRecDepth 100000 in
theorem w_X12_found {d : Nat} {s : Sg} {Q : Qt} (a1 : Int32) (a2 : Int32) (H : OQ (f_X12_found a1 a2 s) (fun r9 s9 => Q (some (.int r9)) s9)) : WpM SHM MT (d + 3) 318 [.ref 0, .int a1, .int a2] s Q := by
  refine WpM.enter me_X12_found rfl rfl ?_
  show Y_X12_found d Q 0 [(0, .ref 0), (1, .int a1), (2, .int a2)] [] s
  unfold f_X12_found at H
  refine Wp.r_iload_n2 (pc := 0) o_X12_found rfl rfl (Wp.r_i2l (pc := 1) o_X12_found rfl (Wp.r_lconst (pc := 2) o_X12_found rfl (Wp.r_ldc2_w (pc := 3) o_X12_found rfl (Wp.r_cs3 (pc := 6) o_X12_found rfl (⟨rm8_ rfl, ?_⟩)))))
  refine w_X12_isFrom (d := d + 1) _ _ _ ?_
  refine oq_bd H (fun r1 s2 H => ?_)
  refine Wp.r_if_ne (pc := 9) o_X12_found rfl (fun c9 => ?_) (fun c9 => ?_)
  · have H := oq_t c9 H
    exact Wp.r_iconst (pc := 12) o_X12_found rfl (Wp.r_goto (pc := 13) o_X12_found rfl (Wp.weak2 [0, 1, 2] (w_X12_found_b21 _ _ _ _ H) rfl))
  · have H := oq_f c9 H
    refine Wp.r_aload_n0 (pc := 16) o_X12_found rfl rfl (Wp.r_iload_n1 (pc := 17) o_X12_found rfl rfl (Wp.r_cv2 (pc := 18) o_X12_found rfl fk_M_0_0 (⟨rm8_ rfl, ?_⟩)))
    refine w_X12_wrongStep (d := d) _ ?_
    refine oq_bd H (fun r29 s30 H => ?_)
    exact Wp.weak2 [0, 1, 2] (w_X12_found_b21 _ _ _ _ H) rfl
noncomputable abbrev Y_X12_draw (d : Nat) (Q : Qt) : Xt := Wp SHM (WpM SHM MT (d + 0)) (flat2 cq_X12_draw) (some .int) Q
noncomputable def f_X12_draw  (s : Sg) : Option (Int32 × Sg) :=
  nmx (pI s 0 29 ((((s.1 0 29) * 2791) + 11003) - (((s.1 0 29) * 2791) + 11003) / 65536 * 65536)) (fun s1 =>
  some (((s1.1 0 29) / 8) - ((s1.1 0 29) / 8) / 16 * 16, s1)
  )
set_option maxRecDepth 100000 in
theorem w_X12_draw {d : Nat} {s : Sg} {Q : Qt}  (H : OQ (f_X12_draw  s) (fun r9 s9 => Q (some (.int r9)) s9)) : WpM SHM MT (d + 1) 319 [.ref 0] s Q := by
  refine WpM.enter me_X12_draw rfl rfl ?_
  show Y_X12_draw d Q 0 [(0, .ref 0)] [] s
  unfold f_X12_draw at H
  refine Wp.r_aload_n0 (pc := 0) o_X12_draw rfl rfl (Wp.f_al0_gfi (pc := 1) o_X12_draw rfl rfl rfl fk_M_0_29 (Wp.r_sipush (pc := 5) o_X12_draw rfl (Wp.r_imul (pc := 8) o_X12_draw rfl (Wp.r_sipush (pc := 9) o_X12_draw rfl (Wp.r_iadd (pc := 12) o_X12_draw rfl (Wp.r_ldc_w (pc := 13) o_X12_draw rfl (Wp.r_irem (pc := 16) o_X12_draw rfl (show (¬ (65536 : Int32) = 0) ∧ Y_X12_draw d Q 17 [(0, .ref 0)] [.int ((((s.1 0 29) * 2791) + 11003) - (((s.1 0 29) * 2791) + 11003) / 65536 * 65536), .ref 0] s from ⟨by decide, ?_⟩))))))))
  refine Wp.r_pfi (pc := 17) o_X12_draw rfl fk_M_0_29 (show Y_X12_draw d Q 20 [(0, .ref 0)] [] (pI s 0 29 ((((s.1 0 29) * 2791) + 11003) - (((s.1 0 29) * 2791) + 11003) / 65536 * 65536)) from ?_)
  revert H
  generalize pI s 0 29 ((((s.1 0 29) * 2791) + 11003) - (((s.1 0 29) * 2791) + 11003) / 65536 * 65536) = s1
  intro H
  have H := nmx_e H
  refine Wp.f_al0_gfi (pc := 20) o_X12_draw rfl rfl rfl fk_M_0_29 (Wp.r_bipush (pc := 24) o_X12_draw rfl (Wp.r_idiv (pc := 26) o_X12_draw rfl (show (¬ (8 : Int32) = 0) ∧ Y_X12_draw d Q 27 [(0, .ref 0)] [.int ((s1.1 0 29) / 8)] s1 from ⟨by decide, ?_⟩)))
  refine Wp.r_bipush (pc := 27) o_X12_draw rfl (Wp.r_irem (pc := 29) o_X12_draw rfl (show (¬ (16 : Int32) = 0) ∧ Y_X12_draw d Q 30 [(0, .ref 0)] [.int (((s1.1 0 29) / 8) - ((s1.1 0 29) / 8) / 16 * 16)] s1 from ⟨by decide, ?_⟩))
  exact Wp.r_ireturn (pc := 30) o_X12_draw rfl (⟨rfl, H⟩)
noncomputable abbrev Y_X12_does (d : Nat) (Q : Qt) : Xt := Wp SHM (WpM SHM MT (d + 7)) (flat2 cq_X12_does) (some .boolean) Q
noncomputable def f_X12_does (a1 : Int32) (s : Sg) : Option (Int32 × Sg) :=
  ck (inr (a1 + 1) 2880) (
  nmx (s.1 1 ((a1 + 1).toNatClampNeg) : Int32) (fun x2 =>
  ck (inr (a1 + 2) 2880) (
  nmx (s.1 1 ((a1 + 2).toNatClampNeg) : Int32) (fun x4 =>
  ck (inr a1 2880) (
  if (s.1 1 a1.toNatClampNeg) = 4 then
    bd (f_X12_draw s) (fun r6 s7 =>
    if r6 < x2 then
      bd (f_X12_rains s7) (fun r8 s9 =>
      some (1, pI s9 11 1 ((s9.1 11 1) + 1))
      )
    else
      some (1, s7)
    )
  else
  if (s.1 1 a1.toNatClampNeg) = 5 then
    some (1, s)
  else
  if (s.1 1 a1.toNatClampNeg) = 6 then
    some (1, s)
  else
  if (s.1 1 a1.toNatClampNeg) = 7 then
    some (1, s)
  else
  if (s.1 1 a1.toNatClampNeg) = 8 then
    some (1, s)
  else
  if (s.1 1 a1.toNatClampNeg) = 9 then
    some (1, s)
  else
  if (s.1 1 a1.toNatClampNeg) = 10 then
    some (1, s)
  else
  if (s.1 1 a1.toNatClampNeg) = 11 then
    some (1, s)
  else
  if (s.1 1 a1.toNatClampNeg) = 12 then
    some (1, s)
  else
  if (s.1 1 a1.toNatClampNeg) = 13 then
    some (1, s)
  else
  if (s.1 1 a1.toNatClampNeg) = 14 then
    some (1, s)
  else
  if (s.1 1 a1.toNatClampNeg) = 15 then
    some (1, s)
  else
  if (s.1 1 a1.toNatClampNeg) = 16 then
    some (1, s)
  else
  if (s.1 1 a1.toNatClampNeg) = 17 then
    some (1, s)
  else
  if (s.1 1 a1.toNatClampNeg) = 18 then
    some (1, s)
  else
  if (s.1 1 a1.toNatClampNeg) = 19 then
    bd (f_X12_hasRoom x2 x4 s) (fun r10 s11 =>
    if r10 = 0 then
      some (0, s11)
    else
      bd (f_X12_strews x2 x4 s11) (fun _ s13 =>
      some (1, s13)
      )
    )
  else
  if (s.1 1 a1.toNatClampNeg) = 20 then
    bd (f_X12_hasRoom x2 x4 s) (fun r14 s15 =>
    if r14 = 0 then
      some (0, s15)
    else
      ck (inr (a1 + 3) 2880) (
      ck (inr (92 + (3 * (s15.1 1 ((a1 + 3).toNatClampNeg)))) 2880) (
      if x4 ≤ (s15.1 1 ((92 + (3 * (s15.1 1 ((a1 + 3).toNatClampNeg)))).toNatClampNeg)) then
        bd (f_X12_buys (s15.1 1 ((a1 + 3).toNatClampNeg)) x4 x2 s15) (fun r18 s19 =>
        some (1, s19)
        )
      else
        some (0, s15)
      )
      )
    )
  else
  if (s.1 1 a1.toNatClampNeg) = 21 then
    bd (f_X12_sweeps x2 s) (fun r20 s21 =>
    if r20 < 0 then
      some (0, s21)
    else
      some (1, s21)
    )
  else
  if (s.1 1 a1.toNatClampNeg) = 22 then
    bd (f_X12_snows x2 s) (fun _ s23 =>
    some (1, s23)
    )
  else
  if (s.1 1 a1.toNatClampNeg) = 23 then
    if (s.1 1 4) = 999 then
      some (0, s)
    else
      bd (f_X12_nightGoes s) (fun _ s25 =>
      nmx (pI s25 11 2 ((s25.1 11 2) + (s25.1 0 25))) (fun s26 =>
      nmx (pI s26 11 3 ((s26.1 11 3) + (s26.1 0 26))) (fun s27 =>
      some (1, s27)
      )
      )
      )
  else
    some (1, s)
  )
  )
  )
  )
  )
set_option maxRecDepth 100000 in
theorem w_X12_does {d : Nat} {s : Sg} {Q : Qt} (a1 : Int32) (H : OQ (f_X12_does a1 s) (fun r9 s9 => Q (some (.int r9)) s9)) : WpM SHM MT (d + 8) 320 [.ref 0, .int a1] s Q := by
  refine WpM.enter me_X12_does rfl rfl ?_
  show Y_X12_does d Q 0 [(0, .ref 0), (1, .int a1)] [] s
  unfold f_X12_does at H
  obtain ⟨hc1, H⟩ := oq_ck H
  refine Wp.f_al0_gfr (pc := 0) o_X12_does rfl rfl rfl fk_M_0_0 (Wp.r_iload_n1 (pc := 4) o_X12_does rfl rfl (Wp.r_iconst (pc := 5) o_X12_does rfl (Wp.r_iadd (pc := 6) o_X12_does rfl (Wp.r_iaload (pc := 7) o_X12_does rfl ak_M_1 (⟨hc1, ?_⟩)))))
  refine Wp.r_istore_n2 (pc := 8) o_X12_does rfl (show Y_X12_does d Q 9 [(2, .int (s.1 1 ((a1 + 1).toNatClampNeg))), (0, .ref 0), (1, .int a1)] [] s from ?_)
  revert H
  generalize (s.1 1 ((a1 + 1).toNatClampNeg) : Int32) = x2
  intro H
  have H := nmx_e H
  obtain ⟨hc3, H⟩ := oq_ck H
  refine Wp.f_al0_gfr (pc := 9) o_X12_does rfl rfl rfl fk_M_0_0 (Wp.r_iload_n1 (pc := 13) o_X12_does rfl rfl (Wp.r_iconst (pc := 14) o_X12_does rfl (Wp.r_iadd (pc := 15) o_X12_does rfl (Wp.r_iaload (pc := 16) o_X12_does rfl ak_M_1 (⟨hc3, ?_⟩)))))
  refine Wp.r_istore_n3 (pc := 17) o_X12_does rfl (show Y_X12_does d Q 18 [(3, .int (s.1 1 ((a1 + 2).toNatClampNeg))), (2, .int x2), (0, .ref 0), (1, .int a1)] [] s from ?_)
  revert H
  generalize (s.1 1 ((a1 + 2).toNatClampNeg) : Int32) = x4
  intro H
  have H := nmx_e H
  obtain ⟨hc5, H⟩ := oq_ck H
  refine Wp.f_al0_gfr (pc := 18) o_X12_does rfl rfl rfl fk_M_0_0 (Wp.r_iload_n1 (pc := 22) o_X12_does rfl rfl (Wp.r_iaload (pc := 23) o_X12_does rfl ak_M_1 (⟨hc5, ?_⟩)))
  refine Wp.tsw2 (l := [(4, 203), (5, 283), (6, 283), (7, 283), (8, 283), (9, 283), (10, 283), (11, 283), (12, 283), (13, 283), (14, 283), (15, 283), (16, 283), (17, 283), (18, 283), (19, 120), (20, 139), (21, 189), (22, 230), (23, 237)]) o_X12_does rfl (by decide +kernel) ?_
  show sw [(4, 203), (5, 283), (6, 283), (7, 283), (8, 283), (9, 283), (10, 283), (11, 283), (12, 283), (13, 283), (14, 283), (15, 283), (16, 283), (17, 283), (18, 283), (19, 120), (20, 139), (21, 189), (22, 230), (23, 237)] 283 (s.1 1 a1.toNatClampNeg) (fun t9 => Y_X12_does d Q t9 [(3, .int x4), (2, .int x2), (0, .ref 0), (1, .int a1)] [] s)
  refine sw_c (fun e9 => ?_) (fun c9_0 => (sw_c (fun e9 => ?_) (fun c9_1 => (sw_c (fun e9 => ?_) (fun c9_2 => (sw_c (fun e9 => ?_) (fun c9_3 => (sw_c (fun e9 => ?_) (fun c9_4 => (sw_c (fun e9 => ?_) (fun c9_5 => (sw_c (fun e9 => ?_) (fun c9_6 => (sw_c (fun e9 => ?_) (fun c9_7 => (sw_c (fun e9 => ?_) (fun c9_8 => (sw_c (fun e9 => ?_) (fun c9_9 => (sw_c (fun e9 => ?_) (fun c9_10 => (sw_c (fun e9 => ?_) (fun c9_11 => (sw_c (fun e9 => ?_) (fun c9_12 => (sw_c (fun e9 => ?_) (fun c9_13 => (sw_c (fun e9 => ?_) (fun c9_14 => (sw_c (fun e9 => ?_) (fun c9_15 => (sw_c (fun e9 => ?_) (fun c9_16 => (sw_c (fun e9 => ?_) (fun c9_17 => (sw_c (fun e9 => ?_) (fun c9_18 => (sw_c (fun e9 => ?_) (fun c9_19 => ?_)))))))))))))))))))))))))))))))))))))))
  · have H := oq_t e9 H
    refine Wp.r_aload_n0 (pc := 203) o_X12_does rfl rfl (Wp.r_cv1 (pc := 204) o_X12_does rfl fk_M_0_0 (⟨rm8_ rfl, ?_⟩))
    refine w_X12_draw (d := d + 6)  ?_
    refine oq_bd H (fun r6 s7 H => ?_)
    refine Wp.r_iload_n2 (pc := 207) o_X12_does rfl rfl (Wp.r_icmp_lt (pc := 208) o_X12_does rfl (fun c9 => ?_) (fun c9 => ?_))
    · have H := oq_t c9 H
      refine Wp.r_aload_n0 (pc := 213) o_X12_does rfl rfl (Wp.r_cv1 (pc := 214) o_X12_does rfl fk_M_0_0 (⟨rm8_ rfl, ?_⟩))
      refine w_X12_rains (d := d + 5)  ?_
      refine oq_bd H (fun r8 s9 H => ?_)
      refine Wp.r_pop_i (pc := 217) o_X12_does rfl (Wp.f_al0_gfr (pc := 218) o_X12_does rfl rfl rfl fk_M_0_32 (Wp.r_iconst (pc := 222) o_X12_does rfl (Wp.r_dup2 (pc := 223) o_X12_does rfl (Wp.r_iaload (pc := 224) o_X12_does rfl ak_M_11 (show (vp_in 1 5) ∧ Y_X12_does d Q 225 [(3, .int x4), (2, .int x2), (0, .ref 0), (1, .int a1)] [.int (s9.1 11 1), .int 1, .ref 11] s9 from ⟨by unfold vp_in; decide, ?_⟩)))))
      refine Wp.r_iconst (pc := 225) o_X12_does rfl (Wp.r_iadd (pc := 226) o_X12_does rfl (Wp.r_iastore (pc := 227) o_X12_does rfl ak_M_11 (show (vp_in 1 5) ∧ Y_X12_does d Q 228 [(3, .int x4), (2, .int x2), (0, .ref 0), (1, .int a1)] [] (pI s9 11 1 ((s9.1 11 1) + 1)) from ⟨by unfold vp_in; decide, ?_⟩)))
      exact Wp.r_iconst (pc := 228) o_X12_does rfl (Wp.r_ireturn (pc := 229) o_X12_does rfl (⟨rfl, H⟩))
    · have H := oq_f c9 H
      exact Wp.r_iconst (pc := 211) o_X12_does rfl (Wp.r_ireturn (pc := 212) o_X12_does rfl (⟨rfl, H⟩))
  · have H := oq_f c9_0 H; have H := oq_t e9 H
    exact Wp.r_iconst (pc := 283) o_X12_does rfl (Wp.r_ireturn (pc := 284) o_X12_does rfl (⟨rfl, H⟩))
  · have H := oq_f c9_0 H; have H := oq_f c9_1 H; have H := oq_t e9 H
    exact Wp.r_iconst (pc := 283) o_X12_does rfl (Wp.r_ireturn (pc := 284) o_X12_does rfl (⟨rfl, H⟩))
  · have H := oq_f c9_0 H; have H := oq_f c9_1 H; have H := oq_f c9_2 H; have H := oq_t e9 H
    exact Wp.r_iconst (pc := 283) o_X12_does rfl (Wp.r_ireturn (pc := 284) o_X12_does rfl (⟨rfl, H⟩))
  · have H := oq_f c9_0 H; have H := oq_f c9_1 H; have H := oq_f c9_2 H; have H := oq_f c9_3 H; have H := oq_t e9 H
    exact Wp.r_iconst (pc := 283) o_X12_does rfl (Wp.r_ireturn (pc := 284) o_X12_does rfl (⟨rfl, H⟩))
  · have H := oq_f c9_0 H; have H := oq_f c9_1 H; have H := oq_f c9_2 H; have H := oq_f c9_3 H; have H := oq_f c9_4 H; have H := oq_t e9 H
    exact Wp.r_iconst (pc := 283) o_X12_does rfl (Wp.r_ireturn (pc := 284) o_X12_does rfl (⟨rfl, H⟩))
  · have H := oq_f c9_0 H; have H := oq_f c9_1 H; have H := oq_f c9_2 H; have H := oq_f c9_3 H; have H := oq_f c9_4 H; have H := oq_f c9_5 H; have H := oq_t e9 H
    exact Wp.r_iconst (pc := 283) o_X12_does rfl (Wp.r_ireturn (pc := 284) o_X12_does rfl (⟨rfl, H⟩))
  · have H := oq_f c9_0 H; have H := oq_f c9_1 H; have H := oq_f c9_2 H; have H := oq_f c9_3 H; have H := oq_f c9_4 H; have H := oq_f c9_5 H; have H := oq_f c9_6 H; have H := oq_t e9 H
    exact Wp.r_iconst (pc := 283) o_X12_does rfl (Wp.r_ireturn (pc := 284) o_X12_does rfl (⟨rfl, H⟩))
  · have H := oq_f c9_0 H; have H := oq_f c9_1 H; have H := oq_f c9_2 H; have H := oq_f c9_3 H; have H := oq_f c9_4 H; have H := oq_f c9_5 H; have H := oq_f c9_6 H; have H := oq_f c9_7 H; have H := oq_t e9 H
    exact Wp.r_iconst (pc := 283) o_X12_does rfl (Wp.r_ireturn (pc := 284) o_X12_does rfl (⟨rfl, H⟩))
  · have H := oq_f c9_0 H; have H := oq_f c9_1 H; have H := oq_f c9_2 H; have H := oq_f c9_3 H; have H := oq_f c9_4 H; have H := oq_f c9_5 H; have H := oq_f c9_6 H; have H := oq_f c9_7 H; have H := oq_f c9_8 H; have H := oq_t e9 H
    exact Wp.r_iconst (pc := 283) o_X12_does rfl (Wp.r_ireturn (pc := 284) o_X12_does rfl (⟨rfl, H⟩))
  · have H := oq_f c9_0 H; have H := oq_f c9_1 H; have H := oq_f c9_2 H; have H := oq_f c9_3 H; have H := oq_f c9_4 H; have H := oq_f c9_5 H; have H := oq_f c9_6 H; have H := oq_f c9_7 H; have H := oq_f c9_8 H; have H := oq_f c9_9 H; have H := oq_t e9 H
    exact Wp.r_iconst (pc := 283) o_X12_does rfl (Wp.r_ireturn (pc := 284) o_X12_does rfl (⟨rfl, H⟩))
  · have H := oq_f c9_0 H; have H := oq_f c9_1 H; have H := oq_f c9_2 H; have H := oq_f c9_3 H; have H := oq_f c9_4 H; have H := oq_f c9_5 H; have H := oq_f c9_6 H; have H := oq_f c9_7 H; have H := oq_f c9_8 H; have H := oq_f c9_9 H; have H := oq_f c9_10 H; have H := oq_t e9 H
    exact Wp.r_iconst (pc := 283) o_X12_does rfl (Wp.r_ireturn (pc := 284) o_X12_does rfl (⟨rfl, H⟩))
  · have H := oq_f c9_0 H; have H := oq_f c9_1 H; have H := oq_f c9_2 H; have H := oq_f c9_3 H; have H := oq_f c9_4 H; have H := oq_f c9_5 H; have H := oq_f c9_6 H; have H := oq_f c9_7 H; have H := oq_f c9_8 H; have H := oq_f c9_9 H; have H := oq_f c9_10 H; have H := oq_f c9_11 H; have H := oq_t e9 H
    exact Wp.r_iconst (pc := 283) o_X12_does rfl (Wp.r_ireturn (pc := 284) o_X12_does rfl (⟨rfl, H⟩))
  · have H := oq_f c9_0 H; have H := oq_f c9_1 H; have H := oq_f c9_2 H; have H := oq_f c9_3 H; have H := oq_f c9_4 H; have H := oq_f c9_5 H; have H := oq_f c9_6 H; have H := oq_f c9_7 H; have H := oq_f c9_8 H; have H := oq_f c9_9 H; have H := oq_f c9_10 H; have H := oq_f c9_11 H; have H := oq_f c9_12 H; have H := oq_t e9 H
    exact Wp.r_iconst (pc := 283) o_X12_does rfl (Wp.r_ireturn (pc := 284) o_X12_does rfl (⟨rfl, H⟩))
  · have H := oq_f c9_0 H; have H := oq_f c9_1 H; have H := oq_f c9_2 H; have H := oq_f c9_3 H; have H := oq_f c9_4 H; have H := oq_f c9_5 H; have H := oq_f c9_6 H; have H := oq_f c9_7 H; have H := oq_f c9_8 H; have H := oq_f c9_9 H; have H := oq_f c9_10 H; have H := oq_f c9_11 H; have H := oq_f c9_12 H; have H := oq_f c9_13 H; have H := oq_t e9 H
    exact Wp.r_iconst (pc := 283) o_X12_does rfl (Wp.r_ireturn (pc := 284) o_X12_does rfl (⟨rfl, H⟩))
  · have H := oq_f c9_0 H; have H := oq_f c9_1 H; have H := oq_f c9_2 H; have H := oq_f c9_3 H; have H := oq_f c9_4 H; have H := oq_f c9_5 H; have H := oq_f c9_6 H; have H := oq_f c9_7 H; have H := oq_f c9_8 H; have H := oq_f c9_9 H; have H := oq_f c9_10 H; have H := oq_f c9_11 H; have H := oq_f c9_12 H; have H := oq_f c9_13 H; have H := oq_f c9_14 H; have H := oq_t e9 H
    refine Wp.r_aload_n0 (pc := 120) o_X12_does rfl rfl (Wp.r_iload_n2 (pc := 121) o_X12_does rfl rfl (Wp.r_iload_n3 (pc := 122) o_X12_does rfl rfl (Wp.r_cv3 (pc := 123) o_X12_does rfl fk_M_0_0 (⟨rm8_ rfl, ?_⟩))))
    refine w_X12_hasRoom (d := d + 4) _ _ ?_
    refine oq_bd H (fun r10 s11 H => ?_)
    refine Wp.r_if_ne (pc := 126) o_X12_does rfl (fun c9 => ?_) (fun c9 => ?_)
    · have H := oq_t c9 H
      exact Wp.r_iconst (pc := 129) o_X12_does rfl (Wp.r_ireturn (pc := 130) o_X12_does rfl (⟨rfl, H⟩))
    · have H := oq_f c9 H
      refine Wp.r_aload_n0 (pc := 131) o_X12_does rfl rfl (Wp.r_iload_n2 (pc := 132) o_X12_does rfl rfl (Wp.r_iload_n3 (pc := 133) o_X12_does rfl rfl (Wp.r_cv3 (pc := 134) o_X12_does rfl fk_M_0_0 (⟨rm8_ rfl, ?_⟩))))
      refine w_X12_strews (d := d + 5) _ _ ?_
      refine oq_bd H (fun _ s13 H => ?_)
      exact Wp.r_iconst (pc := 137) o_X12_does rfl (Wp.r_ireturn (pc := 138) o_X12_does rfl (⟨rfl, H⟩))
  · have H := oq_f c9_0 H; have H := oq_f c9_1 H; have H := oq_f c9_2 H; have H := oq_f c9_3 H; have H := oq_f c9_4 H; have H := oq_f c9_5 H; have H := oq_f c9_6 H; have H := oq_f c9_7 H; have H := oq_f c9_8 H; have H := oq_f c9_9 H; have H := oq_f c9_10 H; have H := oq_f c9_11 H; have H := oq_f c9_12 H; have H := oq_f c9_13 H; have H := oq_f c9_14 H; have H := oq_f c9_15 H; have H := oq_t e9 H
    refine Wp.r_aload_n0 (pc := 139) o_X12_does rfl rfl (Wp.r_iload_n2 (pc := 140) o_X12_does rfl rfl (Wp.r_iload_n3 (pc := 141) o_X12_does rfl rfl (Wp.r_cv3 (pc := 142) o_X12_does rfl fk_M_0_0 (⟨rm8_ rfl, ?_⟩))))
    refine w_X12_hasRoom (d := d + 4) _ _ ?_
    refine oq_bd H (fun r14 s15 H => ?_)
    refine Wp.r_if_eq (pc := 145) o_X12_does rfl (fun c9 => ?_) (fun c9 => ?_)
    · have H := oq_t c9 H
      exact Wp.r_iconst (pc := 170) o_X12_does rfl (Wp.r_ireturn (pc := 171) o_X12_does rfl (⟨rfl, H⟩))
    · have H := oq_f c9 H
      obtain ⟨hc16, H⟩ := oq_ck H
      refine Wp.f_al0_gfr (pc := 148) o_X12_does rfl rfl rfl fk_M_0_0 (Wp.r_bipush (pc := 152) o_X12_does rfl (Wp.r_iconst (pc := 154) o_X12_does rfl (Wp.f_al0_gfr (pc := 155) o_X12_does rfl rfl rfl fk_M_0_0 (Wp.r_iload_n1 (pc := 159) o_X12_does rfl rfl (Wp.r_iconst (pc := 160) o_X12_does rfl (Wp.r_iadd (pc := 161) o_X12_does rfl (Wp.r_iaload (pc := 162) o_X12_does rfl ak_M_1 (⟨hc16, ?_⟩))))))))
      obtain ⟨hc17, H⟩ := oq_ck H
      refine Wp.r_imul (pc := 163) o_X12_does rfl (Wp.r_iadd (pc := 164) o_X12_does rfl (Wp.r_iaload (pc := 165) o_X12_does rfl ak_M_1 (⟨hc17, ?_⟩)))
      refine Wp.r_iload_n3 (pc := 166) o_X12_does rfl rfl (Wp.r_icmp_ge (pc := 167) o_X12_does rfl (fun c9 => ?_) (fun c9 => ?_))
      · have H := oq_t c9 H
        refine Wp.r_aload_n0 (pc := 172) o_X12_does rfl rfl (Wp.f_al0_gfr (pc := 173) o_X12_does rfl rfl rfl fk_M_0_0 (Wp.r_iload_n1 (pc := 177) o_X12_does rfl rfl (Wp.r_iconst (pc := 178) o_X12_does rfl (Wp.r_iadd (pc := 179) o_X12_does rfl (Wp.r_iaload (pc := 180) o_X12_does rfl ak_M_1 (⟨hc16, ?_⟩))))))
        refine Wp.r_iload_n3 (pc := 181) o_X12_does rfl rfl (Wp.r_iload_n2 (pc := 182) o_X12_does rfl rfl (Wp.r_cv4 (pc := 183) o_X12_does rfl fk_M_0_0 (⟨rm8_ rfl, ?_⟩)))
        refine w_X12_buys (d := d + 4) _ _ _ ?_
        refine oq_bd H (fun r18 s19 H => ?_)
        exact Wp.r_pop_i (pc := 186) o_X12_does rfl (Wp.r_iconst (pc := 187) o_X12_does rfl (Wp.r_ireturn (pc := 188) o_X12_does rfl (⟨rfl, H⟩)))
      · have H := oq_f c9 H
        exact Wp.r_iconst (pc := 170) o_X12_does rfl (Wp.r_ireturn (pc := 171) o_X12_does rfl (⟨rfl, H⟩))
  · have H := oq_f c9_0 H; have H := oq_f c9_1 H; have H := oq_f c9_2 H; have H := oq_f c9_3 H; have H := oq_f c9_4 H; have H := oq_f c9_5 H; have H := oq_f c9_6 H; have H := oq_f c9_7 H; have H := oq_f c9_8 H; have H := oq_f c9_9 H; have H := oq_f c9_10 H; have H := oq_f c9_11 H; have H := oq_f c9_12 H; have H := oq_f c9_13 H; have H := oq_f c9_14 H; have H := oq_f c9_15 H; have H := oq_f c9_16 H; have H := oq_t e9 H
    refine Wp.r_aload_n0 (pc := 189) o_X12_does rfl rfl (Wp.r_iload_n2 (pc := 190) o_X12_does rfl rfl (Wp.r_cv2 (pc := 191) o_X12_does rfl fk_M_0_0 (⟨rm8_ rfl, ?_⟩)))
    refine w_X12_sweeps (d := d + 4) _ ?_
    refine oq_bd H (fun r20 s21 H => ?_)
    refine Wp.r_if_lt (pc := 194) o_X12_does rfl (fun c9 => ?_) (fun c9 => ?_)
    · have H := oq_t c9 H
      exact Wp.r_iconst (pc := 201) o_X12_does rfl (Wp.r_ireturn (pc := 202) o_X12_does rfl (⟨rfl, H⟩))
    · have H := oq_f c9 H
      exact Wp.r_iconst (pc := 197) o_X12_does rfl (Wp.r_goto (pc := 198) o_X12_does rfl (Wp.r_ireturn (pc := 202) o_X12_does rfl (⟨rfl, H⟩)))
  · have H := oq_f c9_0 H; have H := oq_f c9_1 H; have H := oq_f c9_2 H; have H := oq_f c9_3 H; have H := oq_f c9_4 H; have H := oq_f c9_5 H; have H := oq_f c9_6 H; have H := oq_f c9_7 H; have H := oq_f c9_8 H; have H := oq_f c9_9 H; have H := oq_f c9_10 H; have H := oq_f c9_11 H; have H := oq_f c9_12 H; have H := oq_f c9_13 H; have H := oq_f c9_14 H; have H := oq_f c9_15 H; have H := oq_f c9_16 H; have H := oq_f c9_17 H; have H := oq_t e9 H
    refine Wp.r_aload_n0 (pc := 230) o_X12_does rfl rfl (Wp.r_iload_n2 (pc := 231) o_X12_does rfl rfl (Wp.r_cv2 (pc := 232) o_X12_does rfl fk_M_0_0 (⟨rm8_ rfl, ?_⟩)))
    refine w_X12_snows (d := d + 5) _ ?_
    refine oq_bd H (fun _ s23 H => ?_)
    exact Wp.r_iconst (pc := 235) o_X12_does rfl (Wp.r_ireturn (pc := 236) o_X12_does rfl (⟨rfl, H⟩))
  · have H := oq_f c9_0 H; have H := oq_f c9_1 H; have H := oq_f c9_2 H; have H := oq_f c9_3 H; have H := oq_f c9_4 H; have H := oq_f c9_5 H; have H := oq_f c9_6 H; have H := oq_f c9_7 H; have H := oq_f c9_8 H; have H := oq_f c9_9 H; have H := oq_f c9_10 H; have H := oq_f c9_11 H; have H := oq_f c9_12 H; have H := oq_f c9_13 H; have H := oq_f c9_14 H; have H := oq_f c9_15 H; have H := oq_f c9_16 H; have H := oq_f c9_17 H; have H := oq_f c9_18 H; have H := oq_t e9 H
    refine Wp.f_al0_gfr (pc := 237) o_X12_does rfl rfl rfl fk_M_0_0 (Wp.r_iconst (pc := 241) o_X12_does rfl (Wp.r_iaload (pc := 242) o_X12_does rfl ak_M_1 (show (vp_in 4 2880) ∧ Y_X12_does d Q 243 [(3, .int x4), (2, .int x2), (0, .ref 0), (1, .int a1)] [.int (s.1 1 4)] s from ⟨by unfold vp_in; decide, ?_⟩)))
    refine Wp.r_sipush (pc := 243) o_X12_does rfl (Wp.r_icmp_ne (pc := 246) o_X12_does rfl (fun c9 => ?_) (fun c9 => ?_))
    · have H := oq_t c9 H
      exact Wp.r_iconst (pc := 249) o_X12_does rfl (Wp.r_ireturn (pc := 250) o_X12_does rfl (⟨rfl, H⟩))
    · have H := oq_f c9 H
      refine Wp.r_aload_n0 (pc := 251) o_X12_does rfl rfl (Wp.r_cv1 (pc := 252) o_X12_does rfl fk_M_0_0 (⟨rm8_ rfl, ?_⟩))
      refine w_X12_nightGoes (d := d)  ?_
      refine oq_bd H (fun _ s25 H => ?_)
      refine Wp.f_al0_gfr (pc := 255) o_X12_does rfl rfl rfl fk_M_0_32 (Wp.r_iconst (pc := 259) o_X12_does rfl (Wp.r_dup2 (pc := 260) o_X12_does rfl (Wp.r_iaload (pc := 261) o_X12_does rfl ak_M_11 (show (vp_in 2 5) ∧ Y_X12_does d Q 262 [(3, .int x4), (2, .int x2), (0, .ref 0), (1, .int a1)] [.int (s25.1 11 2), .int 2, .ref 11] s25 from ⟨by unfold vp_in; decide, ?_⟩))))
      refine Wp.f_al0_gfi (pc := 262) o_X12_does rfl rfl rfl fk_M_0_25 (Wp.r_iadd (pc := 266) o_X12_does rfl (Wp.r_iastore (pc := 267) o_X12_does rfl ak_M_11 (show (vp_in 2 5) ∧ Y_X12_does d Q 268 [(3, .int x4), (2, .int x2), (0, .ref 0), (1, .int a1)] [] (pI s25 11 2 ((s25.1 11 2) + (s25.1 0 25))) from ⟨by unfold vp_in; decide, ?_⟩)))
      revert H
      generalize pI s25 11 2 ((s25.1 11 2) + (s25.1 0 25)) = s26
      intro H
      have H := nmx_e H
      refine Wp.f_al0_gfr (pc := 268) o_X12_does rfl rfl rfl fk_M_0_32 (Wp.r_iconst (pc := 272) o_X12_does rfl (Wp.r_dup2 (pc := 273) o_X12_does rfl (Wp.r_iaload (pc := 274) o_X12_does rfl ak_M_11 (show (vp_in 3 5) ∧ Y_X12_does d Q 275 [(3, .int x4), (2, .int x2), (0, .ref 0), (1, .int a1)] [.int (s26.1 11 3), .int 3, .ref 11] s26 from ⟨by unfold vp_in; decide, ?_⟩))))
      refine Wp.f_al0_gfi (pc := 275) o_X12_does rfl rfl rfl fk_M_0_26 (Wp.r_iadd (pc := 279) o_X12_does rfl (Wp.r_iastore (pc := 280) o_X12_does rfl ak_M_11 (show (vp_in 3 5) ∧ Y_X12_does d Q 281 [(3, .int x4), (2, .int x2), (0, .ref 0), (1, .int a1)] [] (pI s26 11 3 ((s26.1 11 3) + (s26.1 0 26))) from ⟨by unfold vp_in; decide, ?_⟩)))
      revert H
      generalize pI s26 11 3 ((s26.1 11 3) + (s26.1 0 26)) = s27
      intro H
      have H := nmx_e H
      exact Wp.r_iconst (pc := 281) o_X12_does rfl (Wp.r_ireturn (pc := 282) o_X12_does rfl (⟨rfl, H⟩))
  · have H := oq_f c9_0 H; have H := oq_f c9_1 H; have H := oq_f c9_2 H; have H := oq_f c9_3 H; have H := oq_f c9_4 H; have H := oq_f c9_5 H; have H := oq_f c9_6 H; have H := oq_f c9_7 H; have H := oq_f c9_8 H; have H := oq_f c9_9 H; have H := oq_f c9_10 H; have H := oq_f c9_11 H; have H := oq_f c9_12 H; have H := oq_f c9_13 H; have H := oq_f c9_14 H; have H := oq_f c9_15 H; have H := oq_f c9_16 H; have H := oq_f c9_17 H; have H := oq_f c9_18 H; have H := oq_f c9_19 H
    exact Wp.r_iconst (pc := 283) o_X12_does rfl (Wp.r_ireturn (pc := 284) o_X12_does rfl (⟨rfl, H⟩))
noncomputable abbrev Y_X12_behindEnds (d : Nat) (Q : Qt) : Xt := Wp SHM (WpM SHM MT (d + 0)) (flat2 cq_X12_behindEnds) (some .int) Q
noncomputable def f_X12_behindEnds_b95 (k_2 : Int32 → Sg → Option (Int32 × Sg)) (v2 : Int32) (v3 : Int32) (v4 : Int32) (t0 : Int32) (t1 : Int32) (t2 : Int32) (s : Sg) : Option (Int32 × Sg) :=
  ck (inr t2 80) (
  nmx (pI s 10 t2.toNatClampNeg (t1 - t0)) (fun s8 =>
  if v4 = 0 then
    k_2 (v2 + 1) s8
  else
    k_2 (v3 + 1) s8
  )
  )
set_option maxRecDepth 100000 in
theorem w_X12_behindEnds_b95 {d : Nat} {Q : Qt} (k_2 : Int32 → Sg → Option (Int32 × Sg)) (h_2 : ∀ (v2 : Int32) s, OQ (k_2 v2 s) (fun r9 s9 => Q (some (.int r9)) s9) → Y_X12_behindEnds d Q 2 [(0, .ref 0), (2, .int v2)] [] s) (v2 : Int32) (v3 : Int32) (v4 : Int32) (t0 : Int32) (t1 : Int32) (t2 : Int32) (s : Sg) (H : OQ (f_X12_behindEnds_b95 k_2 v2 v3 v4 t0 t1 t2 s) (fun r9 s9 => Q (some (.int r9)) s9)) : Y_X12_behindEnds d Q 95 [(0, .ref 0), (2, .int v2), (3, .int v3), (4, .int v4)] [.int t0, .int t1, .int t2, .ref 10] s := by
  unfold f_X12_behindEnds_b95 at H
  obtain ⟨hc7, H⟩ := oq_ck H
  refine Wp.r_isub (pc := 95) o_X12_behindEnds rfl (Wp.r_iastore (pc := 96) o_X12_behindEnds rfl ak_M_10 (⟨hc7, ?_⟩))
  revert H
  generalize pI s 10 t2.toNatClampNeg (t1 - t0) = s8
  intro H
  have H := nmx_e H
  refine Wp.r_iload (pc := 97) o_X12_behindEnds rfl rfl (Wp.r_if_eq (pc := 99) o_X12_behindEnds rfl (fun c9 => ?_) (fun c9 => ?_))
  · have H := oq_t c9 H
    exact Wp.r_iload_n2 (pc := 108) o_X12_behindEnds rfl rfl (Wp.r_iconst (pc := 109) o_X12_behindEnds rfl (Wp.r_iadd (pc := 110) o_X12_behindEnds rfl (Wp.r_istore_n2 (pc := 111) o_X12_behindEnds rfl (Wp.r_goto (pc := 112) o_X12_behindEnds rfl (Wp.weak2 [1, 0] (h_2 _ _ H) rfl)))))
  · have H := oq_f c9 H
    exact Wp.r_iload_n3 (pc := 102) o_X12_behindEnds rfl rfl (Wp.r_iconst (pc := 103) o_X12_behindEnds rfl (Wp.r_iadd (pc := 104) o_X12_behindEnds rfl (Wp.r_goto (pc := 105) o_X12_behindEnds rfl (Wp.r_istore_n2 (pc := 111) o_X12_behindEnds rfl (Wp.r_goto (pc := 112) o_X12_behindEnds rfl (Wp.weak2 [1, 0] (h_2 _ _ H) rfl))))))
noncomputable def f_X12_behindEnds_b76 (k_2 : Int32 → Sg → Option (Int32 × Sg)) (v2 : Int32) (v3 : Int32) (t0 : Int32) (s : Sg) : Option (Int32 × Sg) :=
  ck (inr v3 80) (
  if t0 = 0 then
    f_X12_behindEnds_b95 k_2 v2 v3 t0 0 (s.1 10 v3.toNatClampNeg) v3 s
  else
    f_X12_behindEnds_b95 k_2 v2 v3 t0 1 (s.1 10 v3.toNatClampNeg) v3 s
  )
set_option maxRecDepth 100000 in
theorem w_X12_behindEnds_b76 {d : Nat} {Q : Qt} (k_2 : Int32 → Sg → Option (Int32 × Sg)) (h_2 : ∀ (v2 : Int32) s, OQ (k_2 v2 s) (fun r9 s9 => Q (some (.int r9)) s9) → Y_X12_behindEnds d Q 2 [(0, .ref 0), (2, .int v2)] [] s) (v2 : Int32) (v3 : Int32) (t0 : Int32) (s : Sg) (H : OQ (f_X12_behindEnds_b76 k_2 v2 v3 t0 s) (fun r9 s9 => Q (some (.int r9)) s9)) : Y_X12_behindEnds d Q 76 [(0, .ref 0), (2, .int v2), (3, .int v3)] [.int t0] s := by
  unfold f_X12_behindEnds_b76 at H
  obtain ⟨hc6, H⟩ := oq_ck H
  refine Wp.r_istore (pc := 76) o_X12_behindEnds rfl (Wp.f_al0_gfr (pc := 78) o_X12_behindEnds rfl rfl rfl fk_M_0_31 (Wp.r_iload_n3 (pc := 82) o_X12_behindEnds rfl rfl (Wp.r_dup2 (pc := 83) o_X12_behindEnds rfl (Wp.r_iaload (pc := 84) o_X12_behindEnds rfl ak_M_10 (⟨hc6, ?_⟩)))))
  refine Wp.r_iload (pc := 85) o_X12_behindEnds rfl rfl (Wp.r_if_eq (pc := 87) o_X12_behindEnds rfl (fun c9 => ?_) (fun c9 => ?_))
  · have H := oq_t c9 H
    exact Wp.r_iconst (pc := 94) o_X12_behindEnds rfl (Wp.weak2 [1, 2, 3, 0] (w_X12_behindEnds_b95 k_2 h_2 _ _ _ _ _ _ _ H) rfl)
  · have H := oq_f c9 H
    exact Wp.r_iconst (pc := 90) o_X12_behindEnds rfl (Wp.r_goto (pc := 91) o_X12_behindEnds rfl (Wp.weak2 [1, 2, 3, 0] (w_X12_behindEnds_b95 k_2 h_2 _ _ _ _ _ _ _ H) rfl))
noncomputable def f_X12_behindEnds_b75 (k_2 : Int32 → Sg → Option (Int32 × Sg)) (v2 : Int32) (v3 : Int32) (s : Sg) : Option (Int32 × Sg) :=
  f_X12_behindEnds_b76 k_2 v2 v3 0 s
set_option maxRecDepth 100000 in
theorem w_X12_behindEnds_b75 {d : Nat} {Q : Qt} (k_2 : Int32 → Sg → Option (Int32 × Sg)) (h_2 : ∀ (v2 : Int32) s, OQ (k_2 v2 s) (fun r9 s9 => Q (some (.int r9)) s9) → Y_X12_behindEnds d Q 2 [(0, .ref 0), (2, .int v2)] [] s) (v2 : Int32) (v3 : Int32) (s : Sg) (H : OQ (f_X12_behindEnds_b75 k_2 v2 v3 s) (fun r9 s9 => Q (some (.int r9)) s9)) : Y_X12_behindEnds d Q 75 [(0, .ref 0), (2, .int v2), (3, .int v3)] [] s := by
  unfold f_X12_behindEnds_b75 at H
  exact Wp.r_iconst (pc := 75) o_X12_behindEnds rfl (Wp.weak2 [0, 1, 2] (w_X12_behindEnds_b76 k_2 h_2 _ _ _ _ H) rfl)
noncomputable def f_X12_behindEnds_b2 : Nat → Int32 → Sg → Option (Int32 × Sg)
  | 0, _, _ => none
  | n + 1, v2, s =>
    if (s.1 1 11) ≤ v2 then
      some (v2, s)
    else
      ck (inr (110 + (6 * v2)) 2880) (
      if (s.1 1 ((110 + (6 * v2)).toNatClampNeg)) = 26 then
        ck (inr ((110 + (6 * v2)) + 4) 2880) (
        nmx (s.1 1 (((110 + (6 * v2)) + 4).toNatClampNeg) : Int32) (fun x3 =>
        ck (inr (110 + (6 * x3)) 2880) (
        if (s.1 1 ((110 + (6 * x3)).toNatClampNeg)) = 25 then
          ck (inr x3 80) (
          if (s.1 10 x3.toNatClampNeg) ≤ 0 then
            f_X12_behindEnds_b75 (f_X12_behindEnds_b2 n) v2 x3 s
          else
            f_X12_behindEnds_b76 (f_X12_behindEnds_b2 n) v2 x3 1 s
          )
        else
          f_X12_behindEnds_b75 (f_X12_behindEnds_b2 n) v2 x3 s
        )
        )
        )
      else
        some (v2, s)
      )
set_option maxRecDepth 100000 in
theorem w_X12_behindEnds_b2 {d : Nat} {Q : Qt} (n : Nat) : ∀ (v2 : Int32) (s : Sg), OQ (f_X12_behindEnds_b2 n v2 s) (fun r9 s9 => Q (some (.int r9)) s9) → Y_X12_behindEnds d Q 2 [(0, .ref 0), (2, .int v2)] [] s := by
  induction n with
  | zero => intro v2 s H; exact H.elim
  | succ n ih =>
    intro v2 s H
    unfold f_X12_behindEnds_b2 at H
    refine Wp.r_iload_n2 (pc := 2) o_X12_behindEnds rfl rfl (Wp.f_al0_gfr (pc := 3) o_X12_behindEnds rfl rfl rfl fk_M_0_0 (Wp.r_bipush (pc := 7) o_X12_behindEnds rfl (Wp.r_iaload (pc := 9) o_X12_behindEnds rfl ak_M_1 (show (vp_in 11 2880) ∧ Y_X12_behindEnds d Q 10 [(0, .ref 0), (2, .int v2)] [.int (s.1 1 11), .int v2] s from ⟨by unfold vp_in; decide, ?_⟩))))
    refine Wp.r_icmp_ge (pc := 10) o_X12_behindEnds rfl (fun c9 => ?_) (fun c9 => ?_)
    · have H := oq_t c9 H
      exact Wp.r_iload_n2 (pc := 115) o_X12_behindEnds rfl rfl (Wp.r_ireturn (pc := 116) o_X12_behindEnds rfl (⟨rfl, H⟩))
    · have H := oq_f c9 H
      obtain ⟨hc1, H⟩ := oq_ck H
      refine Wp.f_al0_gfr (pc := 13) o_X12_behindEnds rfl rfl rfl fk_M_0_0 (Wp.r_bipush (pc := 17) o_X12_behindEnds rfl (Wp.r_bipush (pc := 19) o_X12_behindEnds rfl (Wp.r_iload_n2 (pc := 21) o_X12_behindEnds rfl rfl (Wp.r_imul (pc := 22) o_X12_behindEnds rfl (Wp.r_iadd (pc := 23) o_X12_behindEnds rfl (Wp.r_iaload (pc := 24) o_X12_behindEnds rfl ak_M_1 (⟨hc1, ?_⟩)))))))
      refine Wp.r_bipush (pc := 25) o_X12_behindEnds rfl (Wp.r_icmp_ne (pc := 27) o_X12_behindEnds rfl (fun c9 => ?_) (fun c9 => ?_))
      · have H := oq_t c9 H
        obtain ⟨hc2, H⟩ := oq_ck H
        refine Wp.f_al0_gfr (pc := 30) o_X12_behindEnds rfl rfl rfl fk_M_0_0 (Wp.r_bipush (pc := 34) o_X12_behindEnds rfl (Wp.r_bipush (pc := 36) o_X12_behindEnds rfl (Wp.r_iload_n2 (pc := 38) o_X12_behindEnds rfl rfl (Wp.r_imul (pc := 39) o_X12_behindEnds rfl (Wp.r_iadd (pc := 40) o_X12_behindEnds rfl (Wp.r_iconst (pc := 41) o_X12_behindEnds rfl (Wp.r_iadd (pc := 42) o_X12_behindEnds rfl (Wp.r_iaload (pc := 43) o_X12_behindEnds rfl ak_M_1 (⟨hc2, ?_⟩)))))))))
        refine Wp.r_istore_n3 (pc := 44) o_X12_behindEnds rfl (show Y_X12_behindEnds d Q 45 [(3, .int (s.1 1 (((110 + (6 * v2)) + 4).toNatClampNeg))), (0, .ref 0), (2, .int v2)] [] s from ?_)
        revert H
        generalize (s.1 1 (((110 + (6 * v2)) + 4).toNatClampNeg) : Int32) = x3
        intro H
        have H := nmx_e H
        obtain ⟨hc4, H⟩ := oq_ck H
        refine Wp.f_al0_gfr (pc := 45) o_X12_behindEnds rfl rfl rfl fk_M_0_0 (Wp.r_bipush (pc := 49) o_X12_behindEnds rfl (Wp.r_bipush (pc := 51) o_X12_behindEnds rfl (Wp.r_iload_n3 (pc := 53) o_X12_behindEnds rfl rfl (Wp.r_imul (pc := 54) o_X12_behindEnds rfl (Wp.r_iadd (pc := 55) o_X12_behindEnds rfl (Wp.r_iaload (pc := 56) o_X12_behindEnds rfl ak_M_1 (⟨hc4, ?_⟩)))))))
        refine Wp.r_bipush (pc := 57) o_X12_behindEnds rfl (Wp.r_icmp_ne (pc := 59) o_X12_behindEnds rfl (fun c9 => ?_) (fun c9 => ?_))
        · have H := oq_t c9 H
          obtain ⟨hc5, H⟩ := oq_ck H
          refine Wp.f_al0_gfr (pc := 62) o_X12_behindEnds rfl rfl rfl fk_M_0_31 (Wp.r_iload_n3 (pc := 66) o_X12_behindEnds rfl rfl (Wp.r_iaload (pc := 67) o_X12_behindEnds rfl ak_M_10 (⟨hc5, ?_⟩)))
          refine Wp.r_if_le (pc := 68) o_X12_behindEnds rfl (fun c9 => ?_) (fun c9 => ?_)
          · have H := oq_t c9 H
            exact Wp.weak2 [1, 2, 0] (w_X12_behindEnds_b75 (f_X12_behindEnds_b2 n) ih _ _ _ H) rfl
          · have H := oq_f c9 H
            exact Wp.r_iconst (pc := 71) o_X12_behindEnds rfl (Wp.r_goto (pc := 72) o_X12_behindEnds rfl (Wp.weak2 [1, 2, 0] (w_X12_behindEnds_b76 (f_X12_behindEnds_b2 n) ih _ _ _ _ H) rfl))
        · have H := oq_f c9 H
          exact Wp.weak2 [1, 2, 0] (w_X12_behindEnds_b75 (f_X12_behindEnds_b2 n) ih _ _ _ H) rfl
      · have H := oq_f c9 H
        exact Wp.r_iload_n2 (pc := 115) o_X12_behindEnds rfl rfl (Wp.r_ireturn (pc := 116) o_X12_behindEnds rfl (⟨rfl, H⟩))
noncomputable def f_X12_behindEnds (a1 : Int32) (s : Sg) : Option (Int32 × Sg) :=
  f_X12_behindEnds_b2 BIG a1 s
set_option maxRecDepth 100000 in
theorem w_X12_behindEnds {d : Nat} {s : Sg} {Q : Qt} (a1 : Int32) (H : OQ (f_X12_behindEnds a1 s) (fun r9 s9 => Q (some (.int r9)) s9)) : WpM SHM MT (d + 1) 322 [.ref 0, .int a1] s Q := by
  refine WpM.enter me_X12_behindEnds rfl rfl ?_
  show Y_X12_behindEnds d Q 0 [(0, .ref 0), (1, .int a1)] [] s
  unfold f_X12_behindEnds at H
  exact Wp.r_iload_n1 (pc := 0) o_X12_behindEnds rfl rfl (Wp.r_istore_n2 (pc := 1) o_X12_behindEnds rfl (Wp.weak2 [1, 0] (w_X12_behindEnds_b2 _ _ _ H) rfl))
noncomputable abbrev Y_X12_holds (d : Nat) (Q : Qt) : Xt := Wp SHM (WpM SHM MT (d + 5)) (flat2 cq_X12_holds) (some .boolean) Q
noncomputable def f_X12_holds (a1 : Int32) (s : Sg) : Option (Int32 × Sg) :=
  ck (inr a1 2880) (
  nmx ((s.1 1 a1.toNatClampNeg) - 2400 : Int32) (fun x2 =>
  ck (inr (a1 + 1) 2880) (
  nmx (s.1 1 ((a1 + 1).toNatClampNeg) : Int32) (fun x4 =>
  if x2 = 28 then
    bd (f_X12_quarrelRow x4 s) (fun r5 s6 =>
    ck (inr (r5 + 3) 2880) (
    if (s6.1 1 ((r5 + 3).toNatClampNeg)) = 1 then
      some (1, s6)
    else
      some (0, s6)
    )
    )
  else
    if x2 = 29 then
      bd (f_X12_isSome x4 0 s) (fun r8 s9 =>
      if r8 = 0 then
        some (0, s9)
      else
        bd (f_X12_isSome x4 1 s9) (fun r10 s11 =>
        if r10 = 0 then
          some (0, s11)
        else
          some (1, s11)
        )
      )
    else
      bd (f_X12_grainsOn x4 s) (fun r12 s13 =>
      ck (inr (a1 + 5) 2880) (
      if (s13.1 1 ((a1 + 5).toNatClampNeg)) = 60 then
        ck (inr (a1 + 2) 2880) (
        if (s13.1 1 ((a1 + 2).toNatClampNeg)) ≤ r12 then
          some (0, s13)
        else
          some (1, s13)
        )
      else
        if (s13.1 1 ((a1 + 5).toNatClampNeg)) = 62 then
          ck (inr (a1 + 2) 2880) (
          if r12 ≤ (s13.1 1 ((a1 + 2).toNatClampNeg)) then
            some (0, s13)
          else
            some (1, s13)
          )
        else
          ck (inr (a1 + 2) 2880) (
          if r12 = (s13.1 1 ((a1 + 2).toNatClampNeg)) then
            some (1, s13)
          else
            some (0, s13)
          )
      )
      )
  )
  )
  )
  )
set_option maxRecDepth 100000 in
theorem w_X12_holds {d : Nat} {s : Sg} {Q : Qt} (a1 : Int32) (H : OQ (f_X12_holds a1 s) (fun r9 s9 => Q (some (.int r9)) s9)) : WpM SHM MT (d + 6) 321 [.ref 0, .int a1] s Q := by
  refine WpM.enter me_X12_holds rfl rfl ?_
  show Y_X12_holds d Q 0 [(0, .ref 0), (1, .int a1)] [] s
  unfold f_X12_holds at H
  obtain ⟨hc1, H⟩ := oq_ck H
  refine Wp.f_al0_gfr (pc := 0) o_X12_holds rfl rfl rfl fk_M_0_0 (Wp.r_iload_n1 (pc := 4) o_X12_holds rfl rfl (Wp.r_iaload (pc := 5) o_X12_holds rfl ak_M_1 (⟨hc1, ?_⟩)))
  refine Wp.r_sipush (pc := 6) o_X12_holds rfl (Wp.r_isub (pc := 9) o_X12_holds rfl (Wp.r_istore_n2 (pc := 10) o_X12_holds rfl (show Y_X12_holds d Q 11 [(2, .int ((s.1 1 a1.toNatClampNeg) - 2400)), (0, .ref 0), (1, .int a1)] [] s from ?_)))
  revert H
  generalize ((s.1 1 a1.toNatClampNeg) - 2400 : Int32) = x2
  intro H
  have H := nmx_e H
  obtain ⟨hc3, H⟩ := oq_ck H
  refine Wp.f_al0_gfr (pc := 11) o_X12_holds rfl rfl rfl fk_M_0_0 (Wp.r_iload_n1 (pc := 15) o_X12_holds rfl rfl (Wp.r_iconst (pc := 16) o_X12_holds rfl (Wp.r_iadd (pc := 17) o_X12_holds rfl (Wp.r_iaload (pc := 18) o_X12_holds rfl ak_M_1 (⟨hc3, ?_⟩)))))
  refine Wp.r_istore_n3 (pc := 19) o_X12_holds rfl (show Y_X12_holds d Q 20 [(3, .int (s.1 1 ((a1 + 1).toNatClampNeg))), (2, .int x2), (0, .ref 0), (1, .int a1)] [] s from ?_)
  revert H
  generalize (s.1 1 ((a1 + 1).toNatClampNeg) : Int32) = x4
  intro H
  have H := nmx_e H
  refine Wp.r_iload_n2 (pc := 20) o_X12_holds rfl rfl (Wp.r_bipush (pc := 21) o_X12_holds rfl (Wp.r_icmp_ne (pc := 23) o_X12_holds rfl (fun c9 => ?_) (fun c9 => ?_)))
  · have H := oq_t c9 H
    refine Wp.f_al0_gfr (pc := 26) o_X12_holds rfl rfl rfl fk_M_0_0 (Wp.r_iload_n3 (pc := 30) o_X12_holds rfl rfl (Wp.r_cs1 (pc := 31) o_X12_holds rfl (⟨rm8_ rfl, ?_⟩)))
    refine w_X12_quarrelRow (d := d + 4) _ ?_
    refine oq_bd H (fun r5 s6 H => ?_)
    obtain ⟨hc7, H⟩ := oq_ck H
    refine Wp.r_iconst (pc := 34) o_X12_holds rfl (Wp.r_iadd (pc := 35) o_X12_holds rfl (Wp.r_iaload (pc := 36) o_X12_holds rfl ak_M_1 (⟨hc7, ?_⟩)))
    refine Wp.r_iconst (pc := 37) o_X12_holds rfl (Wp.r_icmp_ne (pc := 38) o_X12_holds rfl (fun c9 => ?_) (fun c9 => ?_))
    · have H := oq_t c9 H
      exact Wp.r_iconst (pc := 41) o_X12_holds rfl (Wp.r_goto (pc := 42) o_X12_holds rfl (Wp.r_ireturn (pc := 46) o_X12_holds rfl (⟨rfl, H⟩)))
    · have H := oq_f c9 H
      exact Wp.r_iconst (pc := 45) o_X12_holds rfl (Wp.r_ireturn (pc := 46) o_X12_holds rfl (⟨rfl, H⟩))
  · have H := oq_f c9 H
    refine Wp.r_iload_n2 (pc := 47) o_X12_holds rfl rfl (Wp.r_bipush (pc := 48) o_X12_holds rfl (Wp.r_icmp_ne (pc := 50) o_X12_holds rfl (fun c9 => ?_) (fun c9 => ?_)))
    · have H := oq_t c9 H
      refine Wp.r_aload_n0 (pc := 53) o_X12_holds rfl rfl (Wp.r_iload_n3 (pc := 54) o_X12_holds rfl rfl (Wp.r_iconst (pc := 55) o_X12_holds rfl (Wp.r_cv3 (pc := 56) o_X12_holds rfl fk_M_0_0 (⟨rm8_ rfl, ?_⟩))))
      refine w_X12_isSome (d := d) _ _ ?_
      refine oq_bd H (fun r8 s9 H => ?_)
      refine Wp.r_if_eq (pc := 59) o_X12_holds rfl (fun c9 => ?_) (fun c9 => ?_)
      · have H := oq_t c9 H
        exact Wp.r_iconst (pc := 75) o_X12_holds rfl (Wp.r_ireturn (pc := 76) o_X12_holds rfl (⟨rfl, H⟩))
      · have H := oq_f c9 H
        refine Wp.r_aload_n0 (pc := 62) o_X12_holds rfl rfl (Wp.r_iload_n3 (pc := 63) o_X12_holds rfl rfl (Wp.r_iconst (pc := 64) o_X12_holds rfl (Wp.r_cv3 (pc := 65) o_X12_holds rfl fk_M_0_0 (⟨rm8_ rfl, ?_⟩))))
        refine w_X12_isSome (d := d) _ _ ?_
        refine oq_bd H (fun r10 s11 H => ?_)
        refine Wp.r_if_eq (pc := 68) o_X12_holds rfl (fun c9 => ?_) (fun c9 => ?_)
        · have H := oq_t c9 H
          exact Wp.r_iconst (pc := 75) o_X12_holds rfl (Wp.r_ireturn (pc := 76) o_X12_holds rfl (⟨rfl, H⟩))
        · have H := oq_f c9 H
          exact Wp.r_iconst (pc := 71) o_X12_holds rfl (Wp.r_goto (pc := 72) o_X12_holds rfl (Wp.r_ireturn (pc := 76) o_X12_holds rfl (⟨rfl, H⟩)))
    · have H := oq_f c9 H
      refine Wp.r_aload_n0 (pc := 77) o_X12_holds rfl rfl (Wp.r_iload_n3 (pc := 78) o_X12_holds rfl rfl (Wp.r_cv2 (pc := 79) o_X12_holds rfl fk_M_0_0 (⟨rm8_ rfl, ?_⟩)))
      refine w_X12_grainsOn (d := d + 3) _ ?_
      refine oq_bd H (fun r12 s13 H => ?_)
      obtain ⟨hc14, H⟩ := oq_ck H
      refine Wp.r_istore (pc := 82) o_X12_holds rfl (Wp.f_al0_gfr (pc := 84) o_X12_holds rfl rfl rfl fk_M_0_0 (Wp.r_iload_n1 (pc := 88) o_X12_holds rfl rfl (Wp.r_iconst (pc := 89) o_X12_holds rfl (Wp.r_iadd (pc := 90) o_X12_holds rfl (Wp.r_iaload (pc := 91) o_X12_holds rfl ak_M_1 (⟨hc14, ?_⟩))))))
      refine Wp.r_bipush (pc := 92) o_X12_holds rfl (Wp.r_icmp_ne (pc := 94) o_X12_holds rfl (fun c9 => ?_) (fun c9 => ?_))
      · have H := oq_t c9 H
        obtain ⟨hc15, H⟩ := oq_ck H
        refine Wp.r_iload (pc := 97) o_X12_holds rfl rfl (Wp.f_al0_gfr (pc := 99) o_X12_holds rfl rfl rfl fk_M_0_0 (Wp.r_iload_n1 (pc := 103) o_X12_holds rfl rfl (Wp.r_iconst (pc := 104) o_X12_holds rfl (Wp.r_iadd (pc := 105) o_X12_holds rfl (Wp.r_iaload (pc := 106) o_X12_holds rfl ak_M_1 (⟨hc15, ?_⟩))))))
        refine Wp.r_icmp_ge (pc := 107) o_X12_holds rfl (fun c9 => ?_) (fun c9 => ?_)
        · have H := oq_t c9 H
          exact Wp.r_iconst (pc := 114) o_X12_holds rfl (Wp.r_goto (pc := 115) o_X12_holds rfl (Wp.r_ireturn (pc := 170) o_X12_holds rfl (⟨rfl, H⟩)))
        · have H := oq_f c9 H
          exact Wp.r_iconst (pc := 110) o_X12_holds rfl (Wp.r_goto (pc := 111) o_X12_holds rfl (Wp.r_ireturn (pc := 170) o_X12_holds rfl (⟨rfl, H⟩)))
      · have H := oq_f c9 H
        refine Wp.f_al0_gfr (pc := 118) o_X12_holds rfl rfl rfl fk_M_0_0 (Wp.r_iload_n1 (pc := 122) o_X12_holds rfl rfl (Wp.r_iconst (pc := 123) o_X12_holds rfl (Wp.r_iadd (pc := 124) o_X12_holds rfl (Wp.r_iaload (pc := 125) o_X12_holds rfl ak_M_1 (⟨hc14, ?_⟩)))))
        refine Wp.r_bipush (pc := 126) o_X12_holds rfl (Wp.r_icmp_ne (pc := 128) o_X12_holds rfl (fun c9 => ?_) (fun c9 => ?_))
        · have H := oq_t c9 H
          obtain ⟨hc16, H⟩ := oq_ck H
          refine Wp.r_iload (pc := 131) o_X12_holds rfl rfl (Wp.f_al0_gfr (pc := 133) o_X12_holds rfl rfl rfl fk_M_0_0 (Wp.r_iload_n1 (pc := 137) o_X12_holds rfl rfl (Wp.r_iconst (pc := 138) o_X12_holds rfl (Wp.r_iadd (pc := 139) o_X12_holds rfl (Wp.r_iaload (pc := 140) o_X12_holds rfl ak_M_1 (⟨hc16, ?_⟩))))))
          refine Wp.r_icmp_le (pc := 141) o_X12_holds rfl (fun c9 => ?_) (fun c9 => ?_)
          · have H := oq_t c9 H
            exact Wp.r_iconst (pc := 148) o_X12_holds rfl (Wp.r_goto (pc := 149) o_X12_holds rfl (Wp.r_ireturn (pc := 170) o_X12_holds rfl (⟨rfl, H⟩)))
          · have H := oq_f c9 H
            exact Wp.r_iconst (pc := 144) o_X12_holds rfl (Wp.r_goto (pc := 145) o_X12_holds rfl (Wp.r_ireturn (pc := 170) o_X12_holds rfl (⟨rfl, H⟩)))
        · have H := oq_f c9 H
          obtain ⟨hc17, H⟩ := oq_ck H
          refine Wp.r_iload (pc := 152) o_X12_holds rfl rfl (Wp.f_al0_gfr (pc := 154) o_X12_holds rfl rfl rfl fk_M_0_0 (Wp.r_iload_n1 (pc := 158) o_X12_holds rfl rfl (Wp.r_iconst (pc := 159) o_X12_holds rfl (Wp.r_iadd (pc := 160) o_X12_holds rfl (Wp.r_iaload (pc := 161) o_X12_holds rfl ak_M_1 (⟨hc17, ?_⟩))))))
          refine Wp.r_icmp_ne (pc := 162) o_X12_holds rfl (fun c9 => ?_) (fun c9 => ?_)
          · have H := oq_t c9 H
            exact Wp.r_iconst (pc := 165) o_X12_holds rfl (Wp.r_goto (pc := 166) o_X12_holds rfl (Wp.r_ireturn (pc := 170) o_X12_holds rfl (⟨rfl, H⟩)))
          · have H := oq_f c9 H
            exact Wp.r_iconst (pc := 169) o_X12_holds rfl (Wp.r_ireturn (pc := 170) o_X12_holds rfl (⟨rfl, H⟩))
noncomputable abbrev Y_X12_lives (d : Nat) (Q : Qt) : Xt := Wp SHM (WpM SHM MT (d + 8)) (flat2 cq_X12_lives) (none) Q
noncomputable def f_X12_lives_b140 (k_32 : Int32 → Sg → Option (Unit × Sg)) (v2 : Int32) (v3 : Int32) (s : Sg) : Option (Unit × Sg) :=
  ck (inr v3 2880) (
  if (s.1 1 v3.toNatClampNeg) < 2400 then
    bd (f_X12_behindEnds (v2 + 1) s) (fun r11 s12 =>
    k_32 r11 s12
    )
  else
    bd (f_X12_holds v3 s) (fun r13 s14 =>
    if r13 = 0 then
      ck (inr (v3 + 4) 2880) (
      bd (f_X12_behindEnds ((s14.1 1 ((v3 + 4).toNatClampNeg)) + 1) s14) (fun r16 s17 =>
      k_32 r16 s17
      )
      )
    else
      bd (f_X12_behindEnds (v2 + 1) s14) (fun r18 s19 =>
      k_32 r18 s19
      )
    )
  )
set_option maxRecDepth 100000 in
theorem w_X12_lives_b140 {d : Nat} {Q : Qt} (k_32 : Int32 → Sg → Option (Unit × Sg)) (h_32 : ∀ (v2 : Int32) s, OQ (k_32 v2 s) (fun _ s9 => Q none s9) → Y_X12_lives d Q 32 [(0, .ref 0), (2, .int v2)] [] s) (v2 : Int32) (v3 : Int32) (s : Sg) (H : OQ (f_X12_lives_b140 k_32 v2 v3 s) (fun _ s9 => Q none s9)) : Y_X12_lives d Q 140 [(0, .ref 0), (2, .int v2), (3, .int v3)] [] s := by
  unfold f_X12_lives_b140 at H
  obtain ⟨hc10, H⟩ := oq_ck H
  refine Wp.r_aload_n0 (pc := 140) o_X12_lives rfl rfl (Wp.f_al0_gfr (pc := 141) o_X12_lives rfl rfl rfl fk_M_0_0 (Wp.r_iload_n3 (pc := 145) o_X12_lives rfl rfl (Wp.r_iaload (pc := 146) o_X12_lives rfl ak_M_1 (⟨hc10, ?_⟩))))
  refine Wp.r_sipush (pc := 147) o_X12_lives rfl (Wp.r_icmp_lt (pc := 150) o_X12_lives rfl (fun c9 => ?_) (fun c9 => ?_))
  · have H := oq_t c9 H
    refine Wp.r_iload_n2 (pc := 174) o_X12_lives rfl rfl (Wp.r_iconst (pc := 175) o_X12_lives rfl (Wp.r_iadd (pc := 176) o_X12_lives rfl (Wp.r_cv2 (pc := 177) o_X12_lives rfl fk_M_0_0 (⟨rm8_ rfl, ?_⟩))))
    refine w_X12_behindEnds (d := d + 7) _ ?_
    refine oq_bd H (fun r11 s12 H => ?_)
    exact Wp.r_istore_n2 (pc := 180) o_X12_lives rfl (Wp.r_goto (pc := 181) o_X12_lives rfl (Wp.weak2 [1, 0] (h_32 _ _ H) rfl))
  · have H := oq_f c9 H
    refine Wp.r_aload_n0 (pc := 153) o_X12_lives rfl rfl (Wp.r_iload_n3 (pc := 154) o_X12_lives rfl rfl (Wp.r_cv2 (pc := 155) o_X12_lives rfl fk_M_0_0 (⟨rm8_ rfl, ?_⟩)))
    refine w_X12_holds (d := d + 2) _ ?_
    refine oq_bd H (fun r13 s14 H => ?_)
    refine Wp.r_if_ne (pc := 158) o_X12_lives rfl (fun c9 => ?_) (fun c9 => ?_)
    · have H := oq_t c9 H
      obtain ⟨hc15, H⟩ := oq_ck H
      refine Wp.f_al0_gfr (pc := 161) o_X12_lives rfl rfl rfl fk_M_0_0 (Wp.r_iload_n3 (pc := 165) o_X12_lives rfl rfl (Wp.r_iconst (pc := 166) o_X12_lives rfl (Wp.r_iadd (pc := 167) o_X12_lives rfl (Wp.r_iaload (pc := 168) o_X12_lives rfl ak_M_1 (⟨hc15, ?_⟩)))))
      refine Wp.r_iconst (pc := 169) o_X12_lives rfl (Wp.r_iadd (pc := 170) o_X12_lives rfl (Wp.r_goto (pc := 171) o_X12_lives rfl (Wp.r_cv2 (pc := 177) o_X12_lives rfl fk_M_0_0 (⟨rm8_ rfl, ?_⟩))))
      refine w_X12_behindEnds (d := d + 7) _ ?_
      refine oq_bd H (fun r16 s17 H => ?_)
      exact Wp.r_istore_n2 (pc := 180) o_X12_lives rfl (Wp.r_goto (pc := 181) o_X12_lives rfl (Wp.weak2 [1, 0] (h_32 _ _ H) rfl))
    · have H := oq_f c9 H
      refine Wp.r_iload_n2 (pc := 174) o_X12_lives rfl rfl (Wp.r_iconst (pc := 175) o_X12_lives rfl (Wp.r_iadd (pc := 176) o_X12_lives rfl (Wp.r_cv2 (pc := 177) o_X12_lives rfl fk_M_0_0 (⟨rm8_ rfl, ?_⟩))))
      refine w_X12_behindEnds (d := d + 7) _ ?_
      refine oq_bd H (fun r18 s19 H => ?_)
      exact Wp.r_istore_n2 (pc := 180) o_X12_lives rfl (Wp.r_goto (pc := 181) o_X12_lives rfl (Wp.weak2 [1, 0] (h_32 _ _ H) rfl))
noncomputable def f_X12_lives_b111 (k_32 : Int32 → Sg → Option (Unit × Sg)) (v2 : Int32) (v3 : Int32) (t0 : Int32) (t1 : Int32) (t2 : Int32) (s : Sg) : Option (Unit × Sg) :=
  ck (inr t2 5) (
  nmx (pI s 11 t2.toNatClampNeg (t1 + t0)) (fun s5 =>
  ck (inr v3 2880) (
  if (s5.1 1 v3.toNatClampNeg) = 25 then
    ck (inr (v3 + 1) 2880) (
    ck (inr v2 80) (
    nmx (pI s5 10 v2.toNatClampNeg ((s5.1 1 ((v3 + 1).toNatClampNeg)) - 1)) (fun s9 =>
    f_X12_lives_b140 k_32 v2 v3 s9
    )
    )
    )
  else
    f_X12_lives_b140 k_32 v2 v3 s5
  )
  )
  )
set_option maxRecDepth 100000 in
theorem w_X12_lives_b111 {d : Nat} {Q : Qt} (k_32 : Int32 → Sg → Option (Unit × Sg)) (h_32 : ∀ (v2 : Int32) s, OQ (k_32 v2 s) (fun _ s9 => Q none s9) → Y_X12_lives d Q 32 [(0, .ref 0), (2, .int v2)] [] s) (v2 : Int32) (v3 : Int32) (t0 : Int32) (t1 : Int32) (t2 : Int32) (s : Sg) (H : OQ (f_X12_lives_b111 k_32 v2 v3 t0 t1 t2 s) (fun _ s9 => Q none s9)) : Y_X12_lives d Q 111 [(0, .ref 0), (2, .int v2), (3, .int v3)] [.int t0, .int t1, .int t2, .ref 11] s := by
  unfold f_X12_lives_b111 at H
  obtain ⟨hc4, H⟩ := oq_ck H
  refine Wp.r_iadd (pc := 111) o_X12_lives rfl (Wp.r_iastore (pc := 112) o_X12_lives rfl ak_M_11 (⟨hc4, ?_⟩))
  revert H
  generalize pI s 11 t2.toNatClampNeg (t1 + t0) = s5
  intro H
  have H := nmx_e H
  obtain ⟨hc6, H⟩ := oq_ck H
  refine Wp.f_al0_gfr (pc := 113) o_X12_lives rfl rfl rfl fk_M_0_0 (Wp.r_iload_n3 (pc := 117) o_X12_lives rfl rfl (Wp.r_iaload (pc := 118) o_X12_lives rfl ak_M_1 (⟨hc6, ?_⟩)))
  refine Wp.r_bipush (pc := 119) o_X12_lives rfl (Wp.r_icmp_ne (pc := 121) o_X12_lives rfl (fun c9 => ?_) (fun c9 => ?_))
  · have H := oq_t c9 H
    obtain ⟨hc7, H⟩ := oq_ck H
    refine Wp.f_al0_gfr (pc := 124) o_X12_lives rfl rfl rfl fk_M_0_31 (Wp.r_iload_n2 (pc := 128) o_X12_lives rfl rfl (Wp.f_al0_gfr (pc := 129) o_X12_lives rfl rfl rfl fk_M_0_0 (Wp.r_iload_n3 (pc := 133) o_X12_lives rfl rfl (Wp.r_iconst (pc := 134) o_X12_lives rfl (Wp.r_iadd (pc := 135) o_X12_lives rfl (Wp.r_iaload (pc := 136) o_X12_lives rfl ak_M_1 (⟨hc7, ?_⟩)))))))
    obtain ⟨hc8, H⟩ := oq_ck H
    refine Wp.r_iconst (pc := 137) o_X12_lives rfl (Wp.r_isub (pc := 138) o_X12_lives rfl (Wp.r_iastore (pc := 139) o_X12_lives rfl ak_M_10 (⟨hc8, ?_⟩)))
    revert H
    generalize pI s5 10 v2.toNatClampNeg ((s5.1 1 ((v3 + 1).toNatClampNeg)) - 1) = s9
    intro H
    have H := nmx_e H
    exact Wp.weak2 [0, 1, 2] (w_X12_lives_b140 k_32 h_32 _ _ _ H) rfl
  · have H := oq_f c9 H
    exact Wp.weak2 [0, 1, 2] (w_X12_lives_b140 k_32 h_32 _ _ _ H) rfl
noncomputable def f_X12_lives_b32 : Nat → Int32 → Sg → Option (Unit × Sg)
  | 0, _, _ => none
  | n + 1, v2, s =>
    if (s.1 1 11) ≤ v2 then
      some ((), s)
    else
      if (s.1 0 30) = 300 then
        some ((), pI s 11 4 1)
      else
        ck (inr (110 + (6 * v2)) 2880) (
        if ((pI s 0 30 ((s.1 0 30) + 1)).1 1 ((110 + (6 * v2)).toNatClampNeg)) = 27 then
          some ((), pI s 0 30 ((s.1 0 30) + 1))
        else
          bd (f_X12_does (110 + (6 * v2)) (pI s 0 30 ((s.1 0 30) + 1))) (fun r2 s3 =>
          if r2 = 0 then
            f_X12_lives_b111 (f_X12_lives_b32 n) v2 (110 + (6 * v2)) 1 ((pI s 0 30 ((s.1 0 30) + 1)).1 11 0) 0 s3
          else
            f_X12_lives_b111 (f_X12_lives_b32 n) v2 (110 + (6 * v2)) 0 ((pI s 0 30 ((s.1 0 30) + 1)).1 11 0) 0 s3
          )
        )
set_option maxRecDepth 100000 in
theorem w_X12_lives_b32 {d : Nat} {Q : Qt} (n : Nat) : ∀ (v2 : Int32) (s : Sg), OQ (f_X12_lives_b32 n v2 s) (fun _ s9 => Q none s9) → Y_X12_lives d Q 32 [(0, .ref 0), (2, .int v2)] [] s := by
  induction n with
  | zero => intro v2 s H; exact H.elim
  | succ n ih =>
    intro v2 s H
    unfold f_X12_lives_b32 at H
    refine Wp.r_iload_n2 (pc := 32) o_X12_lives rfl rfl (Wp.f_al0_gfr (pc := 33) o_X12_lives rfl rfl rfl fk_M_0_0 (Wp.r_bipush (pc := 37) o_X12_lives rfl (Wp.r_iaload (pc := 39) o_X12_lives rfl ak_M_1 (show (vp_in 11 2880) ∧ Y_X12_lives d Q 40 [(0, .ref 0), (2, .int v2)] [.int (s.1 1 11), .int v2] s from ⟨by unfold vp_in; decide, ?_⟩))))
    refine Wp.r_icmp_ge (pc := 40) o_X12_lives rfl (fun c9 => ?_) (fun c9 => ?_)
    · have H := oq_t c9 H
      exact Wp.r_return (pc := 184) o_X12_lives rfl (H)
    · have H := oq_f c9 H
      refine Wp.f_al0_gfi (pc := 43) o_X12_lives rfl rfl rfl fk_M_0_30 (Wp.r_sipush (pc := 47) o_X12_lives rfl (Wp.r_icmp_ne (pc := 50) o_X12_lives rfl (fun c9 => ?_) (fun c9 => ?_)))
      · have H := oq_t c9 H
        refine Wp.f_al0_gfr (pc := 53) o_X12_lives rfl rfl rfl fk_M_0_32 (Wp.r_iconst (pc := 57) o_X12_lives rfl (Wp.r_iconst (pc := 58) o_X12_lives rfl (Wp.r_iastore (pc := 59) o_X12_lives rfl ak_M_11 (show (vp_in 4 5) ∧ Y_X12_lives d Q 60 [(0, .ref 0), (2, .int v2)] [] (pI s 11 4 1) from ⟨by unfold vp_in; decide, ?_⟩))))
        exact Wp.r_return (pc := 60) o_X12_lives rfl (H)
      · have H := oq_f c9 H
        obtain ⟨hc1, H⟩ := oq_ck H
        refine Wp.r_bipush (pc := 61) o_X12_lives rfl (Wp.r_bipush (pc := 63) o_X12_lives rfl (Wp.r_iload_n2 (pc := 65) o_X12_lives rfl rfl (Wp.r_imul (pc := 66) o_X12_lives rfl (Wp.r_iadd (pc := 67) o_X12_lives rfl (Wp.r_istore_n3 (pc := 68) o_X12_lives rfl (Wp.r_aload_n0 (pc := 69) o_X12_lives rfl rfl (Wp.r_dup_r (pc := 70) o_X12_lives rfl (Wp.r_gfi (pc := 71) o_X12_lives rfl fk_M_0_30 (Wp.r_iconst (pc := 74) o_X12_lives rfl (Wp.r_iadd (pc := 75) o_X12_lives rfl (Wp.r_pfi (pc := 76) o_X12_lives rfl fk_M_0_30 (Wp.f_al0_gfr (pc := 79) o_X12_lives rfl rfl rfl fk_M_0_0 (Wp.r_iload_n3 (pc := 83) o_X12_lives rfl rfl (Wp.r_iaload (pc := 84) o_X12_lives rfl ak_M_1 (⟨hc1, ?_⟩)))))))))))))))
        refine Wp.r_bipush (pc := 85) o_X12_lives rfl (Wp.r_icmp_ne (pc := 87) o_X12_lives rfl (fun c9 => ?_) (fun c9 => ?_))
        · have H := oq_t c9 H
          exact Wp.r_return (pc := 90) o_X12_lives rfl (H)
        · have H := oq_f c9 H
          refine Wp.f_al0_gfr (pc := 91) o_X12_lives rfl rfl rfl fk_M_0_32 (Wp.r_iconst (pc := 95) o_X12_lives rfl (Wp.r_dup2 (pc := 96) o_X12_lives rfl (Wp.r_iaload (pc := 97) o_X12_lives rfl ak_M_11 (show (vp_in 0 5) ∧ Y_X12_lives d Q 98 [(3, .int (110 + (6 * v2))), (0, .ref 0), (2, .int v2)] [.int ((pI s 0 30 ((s.1 0 30) + 1)).1 11 0), .int 0, .ref 11] (pI s 0 30 ((s.1 0 30) + 1)) from ⟨by unfold vp_in; decide, ?_⟩))))
          refine Wp.r_aload_n0 (pc := 98) o_X12_lives rfl rfl (Wp.r_iload_n3 (pc := 99) o_X12_lives rfl rfl (Wp.r_cv2 (pc := 100) o_X12_lives rfl fk_M_0_0 (⟨rm8_ rfl, ?_⟩)))
          refine w_X12_does (d := d) _ ?_
          refine oq_bd H (fun r2 s3 H => ?_)
          refine Wp.r_if_eq (pc := 103) o_X12_lives rfl (fun c9 => ?_) (fun c9 => ?_)
          · have H := oq_t c9 H
            exact Wp.r_iconst (pc := 110) o_X12_lives rfl (Wp.weak2 [1, 2, 0] (w_X12_lives_b111 (f_X12_lives_b32 n) ih _ _ _ _ _ _ H) rfl)
          · have H := oq_f c9 H
            exact Wp.r_iconst (pc := 106) o_X12_lives rfl (Wp.r_goto (pc := 107) o_X12_lives rfl (Wp.weak2 [1, 2, 0] (w_X12_lives_b111 (f_X12_lives_b32 n) ih _ _ _ _ _ _ H) rfl))
noncomputable def f_X12_lives_b12 : Nat → Int32 → Sg → Option (Unit × Sg)
  | 0, _, _ => none
  | n + 1, v2, s =>
    if 5 ≤ v2 then
      f_X12_lives_b32 BIG 0 s
    else
      ck (inr v2 5) (
      (f_X12_lives_b12 n) (v2 + 1) (pI s 11 v2.toNatClampNeg 0)
      )
set_option maxRecDepth 100000 in
theorem w_X12_lives_b12 {d : Nat} {Q : Qt} (n : Nat) : ∀ (v2 : Int32) (s : Sg), OQ (f_X12_lives_b12 n v2 s) (fun _ s9 => Q none s9) → Y_X12_lives d Q 12 [(0, .ref 0), (2, .int v2)] [] s := by
  induction n with
  | zero => intro v2 s H; exact H.elim
  | succ n ih =>
    intro v2 s H
    unfold f_X12_lives_b12 at H
    refine Wp.r_iload_n2 (pc := 12) o_X12_lives rfl rfl (Wp.r_iconst (pc := 13) o_X12_lives rfl (Wp.r_icmp_ge (pc := 14) o_X12_lives rfl (fun c9 => ?_) (fun c9 => ?_)))
    · have H := oq_t c9 H
      exact Wp.r_iconst (pc := 30) o_X12_lives rfl (Wp.r_istore_n2 (pc := 31) o_X12_lives rfl (Wp.weak2 [1, 0] (w_X12_lives_b32 _ _ _ H) rfl))
    · have H := oq_f c9 H
      obtain ⟨hc20, H⟩ := oq_ck H
      refine Wp.f_al0_gfr (pc := 17) o_X12_lives rfl rfl rfl fk_M_0_32 (Wp.r_iload_n2 (pc := 21) o_X12_lives rfl rfl (Wp.r_iconst (pc := 22) o_X12_lives rfl (Wp.r_iastore (pc := 23) o_X12_lives rfl ak_M_11 (⟨hc20, ?_⟩))))
      exact Wp.f_iinc_goto (pc := 24) o_X12_lives rfl rfl rfl (Wp.weak2 [1, 0] (ih _ _ H) rfl)
noncomputable def f_X12_lives (a1 : Int32) (s : Sg) : Option (Unit × Sg) :=
  f_X12_lives_b12 BIG 0 (pI (pI s 0 29 a1) 0 30 0)
set_option maxRecDepth 100000 in
theorem w_X12_lives {d : Nat} {s : Sg} {Q : Qt} (a1 : Int32) (H : OQ (f_X12_lives a1 s) (fun _ s9 => Q none s9)) : WpM SHM MT (d + 9) 323 [.ref 0, .int a1] s Q := by
  refine WpM.enter me_X12_lives rfl rfl ?_
  show Y_X12_lives d Q 0 [(0, .ref 0), (1, .int a1)] [] s
  unfold f_X12_lives at H
  exact Wp.r_aload_n0 (pc := 0) o_X12_lives rfl rfl (Wp.r_iload_n1 (pc := 1) o_X12_lives rfl rfl (Wp.r_pfi (pc := 2) o_X12_lives rfl fk_M_0_29 (Wp.f_al0_iconst (pc := 5) o_X12_lives rfl rfl rfl (Wp.r_pfi (pc := 7) o_X12_lives rfl fk_M_0_30 (Wp.r_iconst (pc := 10) o_X12_lives rfl (Wp.r_istore_n2 (pc := 11) o_X12_lives rfl (Wp.weak2 [1, 0] (w_X12_lives_b12 _ _ _ H) rfl)))))))
noncomputable abbrev Y_X12_live (d : Nat) (Q : Qt) : Xt := Wp SHM (WpM SHM MT (d + 9)) (flat2 cq_X12_live) (some .int) Q
noncomputable def f_X12_live_b43 : Nat → Int32 → Sg → Option (Int32 × Sg)
  | 0, _, _ => none
  | n + 1, v2, s =>
    if 5 ≤ v2 then
      bd (f_X12_gives ((pI s 0 34 1).1 0 30) (pI s 0 34 1)) (fun r9 s10 =>
      some (r9, s10)
      )
    else
      ck (inr v2 5) (
      nmx (pI s 12 v2.toNatClampNeg (s.1 11 v2.toNatClampNeg)) (fun s12 =>
      (f_X12_live_b43 n) (v2 + 1) s12
      )
      )
set_option maxRecDepth 100000 in
theorem w_X12_live_b43 {d : Nat} {Q : Qt} (n : Nat) : ∀ (v2 : Int32) (s : Sg), OQ (f_X12_live_b43 n v2 s) (fun r9 s9 => Q (some (.int r9)) s9) → Y_X12_live d Q 43 [(0, .ref 0), (2, .int v2)] [] s := by
  induction n with
  | zero => intro v2 s H; exact H.elim
  | succ n ih =>
    intro v2 s H
    unfold f_X12_live_b43 at H
    refine Wp.r_iload_n2 (pc := 43) o_X12_live rfl rfl (Wp.r_iconst (pc := 44) o_X12_live rfl (Wp.r_icmp_ge (pc := 45) o_X12_live rfl (fun c9 => ?_) (fun c9 => ?_)))
    · have H := oq_t c9 H
      refine Wp.f_al0_iconst (pc := 66) o_X12_live rfl rfl rfl (Wp.r_pfz (pc := 68) o_X12_live rfl fk_M_0_34 (show ((1 : Int32) = 0 ∨ 1 = 1) ∧ Y_X12_live d Q 71 [(0, .ref 0), (2, .int v2)] [] (pI s 0 34 1) from ⟨Or.inr rfl, ?_⟩))
      refine Wp.r_aload_n0 (pc := 71) o_X12_live rfl rfl (Wp.f_al0_gfi (pc := 72) o_X12_live rfl rfl rfl fk_M_0_30 (Wp.r_cv2 (pc := 76) o_X12_live rfl fk_M_0_0 (⟨rm8_ rfl, ?_⟩)))
      refine w_X12_gives (d := d + 8) _ ?_
      refine oq_bd H (fun r9 s10 H => ?_)
      exact Wp.r_ireturn (pc := 79) o_X12_live rfl (⟨rfl, H⟩)
    · have H := oq_f c9 H
      obtain ⟨hc11, H⟩ := oq_ck H
      refine Wp.f_al0_gfr (pc := 48) o_X12_live rfl rfl rfl fk_M_0_33 (Wp.r_iload_n2 (pc := 52) o_X12_live rfl rfl (Wp.f_al0_gfr (pc := 53) o_X12_live rfl rfl rfl fk_M_0_32 (Wp.r_iload_n2 (pc := 57) o_X12_live rfl rfl (Wp.r_iaload (pc := 58) o_X12_live rfl ak_M_11 (⟨hc11, ?_⟩)))))
      refine Wp.r_iastore (pc := 59) o_X12_live rfl ak_M_12 (⟨hc11, ?_⟩)
      revert H
      generalize pI s 12 v2.toNatClampNeg (s.1 11 v2.toNatClampNeg) = s12
      intro H
      have H := nmx_e H
      exact Wp.f_iinc_goto (pc := 60) o_X12_live rfl rfl rfl (Wp.weak2 [1, 0] (ih _ _ H) rfl)
noncomputable def f_X12_live (a1 : Int32) (s : Sg) : Option (Int32 × Sg) :=
  bd (f_X12_isFrom a1.toInt64 0 9999 s) (fun r1 s2 =>
  if r1 = 0 then
    bd (f_X12_refuse 1 s2) (fun r3 s4 =>
    some (r3, s4)
    )
  else
    if (s2.1 1 11) = (-1) then
      bd (f_X12_refuse 6 s2) (fun r5 s6 =>
      some (r5, s6)
      )
    else
      bd (f_X12_lives a1 s2) (fun _ s8 =>
      f_X12_live_b43 BIG 0 s8
      )
  )
set_option maxRecDepth 100000 in
theorem w_X12_live {d : Nat} {s : Sg} {Q : Qt} (a1 : Int32) (H : OQ (f_X12_live a1 s) (fun r9 s9 => Q (some (.int r9)) s9)) : WpM SHM MT (d + 10) 324 [.ref 0, .int a1] s Q := by
  refine WpM.enter me_X12_live rfl rfl ?_
  show Y_X12_live d Q 0 [(0, .ref 0), (1, .int a1)] [] s
  unfold f_X12_live at H
  refine Wp.r_iload_n1 (pc := 0) o_X12_live rfl rfl (Wp.r_i2l (pc := 1) o_X12_live rfl (Wp.r_lconst (pc := 2) o_X12_live rfl (Wp.r_ldc2_w (pc := 3) o_X12_live rfl (Wp.r_cs3 (pc := 6) o_X12_live rfl (⟨rm8_ rfl, ?_⟩)))))
  refine w_X12_isFrom (d := d + 8) _ _ _ ?_
  refine oq_bd H (fun r1 s2 H => ?_)
  refine Wp.r_if_ne (pc := 9) o_X12_live rfl (fun c9 => ?_) (fun c9 => ?_)
  · have H := oq_t c9 H
    refine Wp.f_al0_iconst (pc := 12) o_X12_live rfl rfl rfl (Wp.r_cv2 (pc := 14) o_X12_live rfl fk_M_0_0 (⟨rm8_ rfl, ?_⟩))
    refine w_X12_refuse (d := d + 8) _ ?_
    refine oq_bd H (fun r3 s4 H => ?_)
    exact Wp.r_ireturn (pc := 17) o_X12_live rfl (⟨rfl, H⟩)
  · have H := oq_f c9 H
    refine Wp.f_al0_gfr (pc := 18) o_X12_live rfl rfl rfl fk_M_0_0 (Wp.r_bipush (pc := 22) o_X12_live rfl (Wp.r_iaload (pc := 24) o_X12_live rfl ak_M_1 (show (vp_in 11 2880) ∧ Y_X12_live d Q 25 [(0, .ref 0), (1, .int a1)] [.int (s2.1 1 11)] s2 from ⟨by unfold vp_in; decide, ?_⟩)))
    refine Wp.r_iconst (pc := 25) o_X12_live rfl (Wp.r_icmp_ne (pc := 26) o_X12_live rfl (fun c9 => ?_) (fun c9 => ?_))
    · have H := oq_t c9 H
      refine Wp.r_aload_n0 (pc := 29) o_X12_live rfl rfl (Wp.r_bipush (pc := 30) o_X12_live rfl (Wp.r_cv2 (pc := 32) o_X12_live rfl fk_M_0_0 (⟨rm8_ rfl, ?_⟩)))
      refine w_X12_refuse (d := d + 8) _ ?_
      refine oq_bd H (fun r5 s6 H => ?_)
      exact Wp.r_ireturn (pc := 35) o_X12_live rfl (⟨rfl, H⟩)
    · have H := oq_f c9 H
      refine Wp.r_aload_n0 (pc := 36) o_X12_live rfl rfl (Wp.r_iload_n1 (pc := 37) o_X12_live rfl rfl (Wp.r_cv2 (pc := 38) o_X12_live rfl fk_M_0_0 (⟨rm8_ rfl, ?_⟩)))
      refine w_X12_lives (d := d) _ ?_
      refine oq_bd H (fun _ s8 H => ?_)
      exact Wp.r_iconst (pc := 41) o_X12_live rfl (Wp.r_istore_n2 (pc := 42) o_X12_live rfl (Wp.weak2 [1, 0] (w_X12_live_b43 _ _ _ H) rfl))
noncomputable abbrev Y_X12_lived (d : Nat) (Q : Qt) : Xt := Wp SHM (WpM SHM MT (d + 1)) (flat2 cq_X12_lived) (some .int) Q
noncomputable def f_X12_lived (a1 : Int32) (s : Sg) : Option (Int32 × Sg) :=
  if a1 < 0 then
    bd (f_X12_refuse 1 s) (fun r1 s2 =>
    some (r1, s2)
    )
  else
    if a1 ≤ 4 then
      if (s.1 0 34) = 0 then
        bd (f_X12_refuse 6 s) (fun r3 s4 =>
        some (r3, s4)
        )
      else
        ck (inr a1 5) (
        bd (f_X12_gives (s.1 12 a1.toNatClampNeg) s) (fun r6 s7 =>
        some (r6, s7)
        )
        )
    else
      bd (f_X12_refuse 1 s) (fun r8 s9 =>
      some (r8, s9)
      )
set_option maxRecDepth 100000 in
theorem w_X12_lived {d : Nat} {s : Sg} {Q : Qt} (a1 : Int32) (H : OQ (f_X12_lived a1 s) (fun r9 s9 => Q (some (.int r9)) s9)) : WpM SHM MT (d + 2) 325 [.ref 0, .int a1] s Q := by
  refine WpM.enter me_X12_lived rfl rfl ?_
  show Y_X12_lived d Q 0 [(0, .ref 0), (1, .int a1)] [] s
  unfold f_X12_lived at H
  refine Wp.r_iload_n1 (pc := 0) o_X12_lived rfl rfl (Wp.r_if_lt (pc := 1) o_X12_lived rfl (fun c9 => ?_) (fun c9 => ?_))
  · have H := oq_t c9 H
    refine Wp.f_al0_iconst (pc := 9) o_X12_lived rfl rfl rfl (Wp.r_cv2 (pc := 11) o_X12_lived rfl fk_M_0_0 (⟨rm8_ rfl, ?_⟩))
    refine w_X12_refuse (d := d) _ ?_
    refine oq_bd H (fun r1 s2 H => ?_)
    exact Wp.r_goto (pc := 14) o_X12_lived rfl (Wp.r_ireturn (pc := 43) o_X12_lived rfl (⟨rfl, H⟩))
  · have H := oq_f c9 H
    refine Wp.r_iload_n1 (pc := 4) o_X12_lived rfl rfl (Wp.r_iconst (pc := 5) o_X12_lived rfl (Wp.r_icmp_le (pc := 6) o_X12_lived rfl (fun c9 => ?_) (fun c9 => ?_)))
    · have H := oq_t c9 H
      refine Wp.f_al0_gfi (pc := 17) o_X12_lived rfl rfl rfl fk_M_0_34 (Wp.r_if_eq (pc := 21) o_X12_lived rfl (fun c9 => ?_) (fun c9 => ?_))
      · have H := oq_t c9 H
        refine Wp.r_aload_n0 (pc := 37) o_X12_lived rfl rfl (Wp.r_bipush (pc := 38) o_X12_lived rfl (Wp.r_cv2 (pc := 40) o_X12_lived rfl fk_M_0_0 (⟨rm8_ rfl, ?_⟩)))
        refine w_X12_refuse (d := d) _ ?_
        refine oq_bd H (fun r3 s4 H => ?_)
        exact Wp.r_ireturn (pc := 43) o_X12_lived rfl (⟨rfl, H⟩)
      · have H := oq_f c9 H
        obtain ⟨hc5, H⟩ := oq_ck H
        refine Wp.r_aload_n0 (pc := 24) o_X12_lived rfl rfl (Wp.f_al0_gfr (pc := 25) o_X12_lived rfl rfl rfl fk_M_0_33 (Wp.r_iload_n1 (pc := 29) o_X12_lived rfl rfl (Wp.r_iaload (pc := 30) o_X12_lived rfl ak_M_12 (⟨hc5, ?_⟩))))
        refine Wp.r_cv2 (pc := 31) o_X12_lived rfl fk_M_0_0 (⟨rm8_ rfl, ?_⟩)
        refine w_X12_gives (d := d) _ ?_
        refine oq_bd H (fun r6 s7 H => ?_)
        exact Wp.r_goto (pc := 34) o_X12_lived rfl (Wp.r_ireturn (pc := 43) o_X12_lived rfl (⟨rfl, H⟩))
    · have H := oq_f c9 H
      refine Wp.f_al0_iconst (pc := 9) o_X12_lived rfl rfl rfl (Wp.r_cv2 (pc := 11) o_X12_lived rfl fk_M_0_0 (⟨rm8_ rfl, ?_⟩))
      refine w_X12_refuse (d := d) _ ?_
      refine oq_bd H (fun r8 s9 H => ?_)
      exact Wp.r_goto (pc := 14) o_X12_lived rfl (Wp.r_ireturn (pc := 43) o_X12_lived rfl (⟨rfl, H⟩))
noncomputable abbrev Y_X12_odds (d : Nat) (Q : Qt) : Xt := Wp SHM (WpM SHM MT (d + 9)) (flat2 cq_X12_odds) (some .boolean) Q
noncomputable def f_X12_odds_b77 : Nat → Int32 → Int32 → Int32 → Int32 → Int32 → Sg → Option (Int32 × Sg)
  | 0, _, _, _, _, _, _ => none
  | n + 1, v1, v2, v3, v4, v5, s =>
    if v3 ≤ v5 then
      bd (f_X12_tellsBy v4.toInt64 v3.toInt64 s) (fun r17 s18 =>
      ck (r17 = 0 ∨ r17 = 1) (some (r17, s18))
      )
    else
      bd (f_X12_lives (v2 + v5) s) (fun _ s20 =>
      bd (f_X12_setOf 2 s20) (fun r21 s22 =>
      if (v1 &&& (r21 ^^^ (-1))) = 0 then
        bd (f_X12_takesBack s22) (fun _ s24 =>
        (f_X12_odds_b77 n) v1 v2 v3 (v4 + 1) (v5 + 1) s24
        )
      else
        bd (f_X12_takesBack s22) (fun _ s26 =>
        (f_X12_odds_b77 n) v1 v2 v3 (v4 + 0) (v5 + 1) s26
        )
      )
      )
set_option maxRecDepth 100000 in
theorem w_X12_odds_b77 {d : Nat} {Q : Qt} (n : Nat) : ∀ (v1 : Int32) (v2 : Int32) (v3 : Int32) (v4 : Int32) (v5 : Int32) (s : Sg), OQ (f_X12_odds_b77 n v1 v2 v3 v4 v5 s) (fun r9 s9 => Q (some (.int r9)) s9) → Y_X12_odds d Q 77 [(0, .ref 0), (1, .int v1), (2, .int v2), (3, .int v3), (4, .int v4), (5, .int v5)] [] s := by
  induction n with
  | zero => intro v1 v2 v3 v4 v5 s H; exact H.elim
  | succ n ih =>
    intro v1 v2 v3 v4 v5 s H
    unfold f_X12_odds_b77 at H
    refine Wp.r_iload (pc := 77) o_X12_odds rfl rfl (Wp.r_iload_n3 (pc := 79) o_X12_odds rfl rfl (Wp.r_icmp_ge (pc := 80) o_X12_odds rfl (fun c9 => ?_) (fun c9 => ?_)))
    · have H := oq_t c9 H
      refine Wp.r_aload_n0 (pc := 123) o_X12_odds rfl rfl (Wp.r_iload (pc := 124) o_X12_odds rfl rfl (Wp.r_i2l (pc := 126) o_X12_odds rfl (Wp.r_iload_n3 (pc := 127) o_X12_odds rfl rfl (Wp.r_i2l (pc := 128) o_X12_odds rfl (Wp.r_cv3 (pc := 129) o_X12_odds rfl fk_M_0_0 (⟨rm8_ rfl, ?_⟩))))))
      refine w_X12_tellsBy (d := d + 7) _ _ ?_
      refine oq_bd H (fun r17 s18 H => ?_)
      obtain ⟨c9, H⟩ := oq_ck H
      exact Wp.r_ireturn (pc := 132) o_X12_odds rfl (⟨b01_n c9, H⟩)
    · have H := oq_f c9 H
      refine Wp.r_aload_n0 (pc := 83) o_X12_odds rfl rfl (Wp.r_iload_n2 (pc := 84) o_X12_odds rfl rfl (Wp.r_iload (pc := 85) o_X12_odds rfl rfl (Wp.r_iadd (pc := 87) o_X12_odds rfl (Wp.r_cv2 (pc := 88) o_X12_odds rfl fk_M_0_0 (⟨rm8_ rfl, ?_⟩)))))
      refine w_X12_lives (d := d) _ ?_
      refine oq_bd H (fun _ s20 H => ?_)
      refine Wp.r_iload (pc := 91) o_X12_odds rfl rfl (Wp.r_iload_n1 (pc := 93) o_X12_odds rfl rfl (Wp.f_al0_iconst (pc := 94) o_X12_odds rfl rfl rfl (Wp.r_cv2 (pc := 96) o_X12_odds rfl fk_M_0_0 (⟨rm8_ rfl, ?_⟩))))
      refine w_X12_setOf (d := d + 2) _ ?_
      refine oq_bd H (fun r21 s22 H => ?_)
      refine Wp.r_iconst (pc := 99) o_X12_odds rfl (Wp.r_ixor (pc := 100) o_X12_odds rfl (Wp.r_iand (pc := 101) o_X12_odds rfl (Wp.r_if_ne (pc := 102) o_X12_odds rfl (fun c9 => ?_) (fun c9 => ?_))))
      · have H := oq_t c9 H
        refine Wp.r_iconst (pc := 105) o_X12_odds rfl (Wp.r_goto (pc := 106) o_X12_odds rfl (Wp.r_iadd (pc := 110) o_X12_odds rfl (Wp.r_istore (pc := 111) o_X12_odds rfl (Wp.r_aload_n0 (pc := 113) o_X12_odds rfl rfl (Wp.r_cv1 (pc := 114) o_X12_odds rfl fk_M_0_0 (⟨rm8_ rfl, ?_⟩))))))
        refine w_X12_takesBack (d := d + 8)  ?_
        refine oq_bd H (fun _ s24 H => ?_)
        exact Wp.f_iinc_goto (pc := 117) o_X12_odds rfl rfl rfl (Wp.weak2 [2, 3, 4, 5, 1, 0] (ih _ _ _ _ _ _ H) rfl)
      · have H := oq_f c9 H
        refine Wp.r_iconst (pc := 109) o_X12_odds rfl (Wp.r_iadd (pc := 110) o_X12_odds rfl (Wp.r_istore (pc := 111) o_X12_odds rfl (Wp.r_aload_n0 (pc := 113) o_X12_odds rfl rfl (Wp.r_cv1 (pc := 114) o_X12_odds rfl fk_M_0_0 (⟨rm8_ rfl, ?_⟩)))))
        refine w_X12_takesBack (d := d + 8)  ?_
        refine oq_bd H (fun _ s26 H => ?_)
        exact Wp.f_iinc_goto (pc := 117) o_X12_odds rfl rfl rfl (Wp.weak2 [2, 3, 4, 5, 1, 0] (ih _ _ _ _ _ _ H) rfl)
noncomputable def f_X12_odds (a1 : Int32) (a2 : Int32) (a3 : Int32) (s : Sg) : Option (Int32 × Sg) :=
  bd (f_X12_isSetOf a1 s) (fun r1 s2 =>
  if r1 = 0 then
    bd (f_X12_is 1 s2) (fun r3 s4 =>
    ck (r3 = 0 ∨ r3 = 1) (some (r3, s4))
    )
  else
    bd (f_X12_isFrom a2.toInt64 0 9999 s2) (fun r5 s6 =>
    if r5 = 0 then
      bd (f_X12_is 1 s6) (fun r7 s8 =>
      ck (r7 = 0 ∨ r7 = 1) (some (r7, s8))
      )
    else
      bd (f_X12_isFrom a3.toInt64 1 20 s6) (fun r9 s10 =>
      if r9 = 0 then
        bd (f_X12_is 1 s10) (fun r11 s12 =>
        ck (r11 = 0 ∨ r11 = 1) (some (r11, s12))
        )
      else
        if ((a2 + a3) - 1) ≤ 9999 then
          if (s10.1 1 11) = (-1) then
            bd (f_X12_is 6 s10) (fun r13 s14 =>
            ck (r13 = 0 ∨ r13 = 1) (some (r13, s14))
            )
          else
            bd (f_X12_keepsAll s10) (fun _ s16 =>
            f_X12_odds_b77 BIG a1 a2 a3 0 0 s16
            )
        else
          bd (f_X12_is 1 s10) (fun r27 s28 =>
          ck (r27 = 0 ∨ r27 = 1) (some (r27, s28))
          )
      )
    )
  )
set_option maxRecDepth 100000 in
theorem w_X12_odds {d : Nat} {s : Sg} {Q : Qt} (a1 : Int32) (a2 : Int32) (a3 : Int32) (H : OQ (f_X12_odds a1 a2 a3 s) (fun r9 s9 => Q (some (.int r9)) s9)) : WpM SHM MT (d + 10) 326 [.ref 0, .int a1, .int a2, .int a3] s Q := by
  refine WpM.enter me_X12_odds rfl rfl ?_
  show Y_X12_odds d Q 0 [(0, .ref 0), (1, .int a1), (2, .int a2), (3, .int a3)] [] s
  unfold f_X12_odds at H
  refine Wp.r_aload_n0 (pc := 0) o_X12_odds rfl rfl (Wp.r_iload_n1 (pc := 1) o_X12_odds rfl rfl (Wp.r_cv2 (pc := 2) o_X12_odds rfl fk_M_0_0 (⟨rm8_ rfl, ?_⟩)))
  refine w_X12_isSetOf (d := d + 8) _ ?_
  refine oq_bd H (fun r1 s2 H => ?_)
  refine Wp.r_if_eq (pc := 5) o_X12_odds rfl (fun c9 => ?_) (fun c9 => ?_)
  · have H := oq_t c9 H
    refine Wp.f_al0_iconst (pc := 43) o_X12_odds rfl rfl rfl (Wp.r_cv2 (pc := 45) o_X12_odds rfl fk_M_0_0 (⟨rm8_ rfl, ?_⟩))
    refine w_X12_is (d := d + 8) _ ?_
    refine oq_bd H (fun r3 s4 H => ?_)
    obtain ⟨c9, H⟩ := oq_ck H
    exact Wp.r_ireturn (pc := 48) o_X12_odds rfl (⟨b01_n c9, H⟩)
  · have H := oq_f c9 H
    refine Wp.r_iload_n2 (pc := 8) o_X12_odds rfl rfl (Wp.r_i2l (pc := 9) o_X12_odds rfl (Wp.r_lconst (pc := 10) o_X12_odds rfl (Wp.r_ldc2_w (pc := 11) o_X12_odds rfl (Wp.r_cs3 (pc := 14) o_X12_odds rfl (⟨rm8_ rfl, ?_⟩)))))
    refine w_X12_isFrom (d := d + 8) _ _ _ ?_
    refine oq_bd H (fun r5 s6 H => ?_)
    refine Wp.r_if_eq (pc := 17) o_X12_odds rfl (fun c9 => ?_) (fun c9 => ?_)
    · have H := oq_t c9 H
      refine Wp.f_al0_iconst (pc := 43) o_X12_odds rfl rfl rfl (Wp.r_cv2 (pc := 45) o_X12_odds rfl fk_M_0_0 (⟨rm8_ rfl, ?_⟩))
      refine w_X12_is (d := d + 8) _ ?_
      refine oq_bd H (fun r7 s8 H => ?_)
      obtain ⟨c9, H⟩ := oq_ck H
      exact Wp.r_ireturn (pc := 48) o_X12_odds rfl (⟨b01_n c9, H⟩)
    · have H := oq_f c9 H
      refine Wp.r_iload_n3 (pc := 20) o_X12_odds rfl rfl (Wp.r_i2l (pc := 21) o_X12_odds rfl (Wp.r_lconst (pc := 22) o_X12_odds rfl (Wp.r_ldc2_w (pc := 23) o_X12_odds rfl (Wp.r_cs3 (pc := 26) o_X12_odds rfl (⟨rm8_ rfl, ?_⟩)))))
      refine w_X12_isFrom (d := d + 8) _ _ _ ?_
      refine oq_bd H (fun r9 s10 H => ?_)
      refine Wp.r_if_eq (pc := 29) o_X12_odds rfl (fun c9 => ?_) (fun c9 => ?_)
      · have H := oq_t c9 H
        refine Wp.f_al0_iconst (pc := 43) o_X12_odds rfl rfl rfl (Wp.r_cv2 (pc := 45) o_X12_odds rfl fk_M_0_0 (⟨rm8_ rfl, ?_⟩))
        refine w_X12_is (d := d + 8) _ ?_
        refine oq_bd H (fun r11 s12 H => ?_)
        obtain ⟨c9, H⟩ := oq_ck H
        exact Wp.r_ireturn (pc := 48) o_X12_odds rfl (⟨b01_n c9, H⟩)
      · have H := oq_f c9 H
        refine Wp.r_iload_n2 (pc := 32) o_X12_odds rfl rfl (Wp.r_iload_n3 (pc := 33) o_X12_odds rfl rfl (Wp.r_iadd (pc := 34) o_X12_odds rfl (Wp.r_iconst (pc := 35) o_X12_odds rfl (Wp.r_isub (pc := 36) o_X12_odds rfl (Wp.r_sipush (pc := 37) o_X12_odds rfl (Wp.r_icmp_le (pc := 40) o_X12_odds rfl (fun c9 => ?_) (fun c9 => ?_)))))))
        · have H := oq_t c9 H
          refine Wp.f_al0_gfr (pc := 49) o_X12_odds rfl rfl rfl fk_M_0_0 (Wp.r_bipush (pc := 53) o_X12_odds rfl (Wp.r_iaload (pc := 55) o_X12_odds rfl ak_M_1 (show (vp_in 11 2880) ∧ Y_X12_odds d Q 56 [(0, .ref 0), (1, .int a1), (2, .int a2), (3, .int a3)] [.int (s10.1 1 11)] s10 from ⟨by unfold vp_in; decide, ?_⟩)))
          refine Wp.r_iconst (pc := 56) o_X12_odds rfl (Wp.r_icmp_ne (pc := 57) o_X12_odds rfl (fun c9 => ?_) (fun c9 => ?_))
          · have H := oq_t c9 H
            refine Wp.r_aload_n0 (pc := 60) o_X12_odds rfl rfl (Wp.r_bipush (pc := 61) o_X12_odds rfl (Wp.r_cv2 (pc := 63) o_X12_odds rfl fk_M_0_0 (⟨rm8_ rfl, ?_⟩)))
            refine w_X12_is (d := d + 8) _ ?_
            refine oq_bd H (fun r13 s14 H => ?_)
            obtain ⟨c9, H⟩ := oq_ck H
            exact Wp.r_ireturn (pc := 66) o_X12_odds rfl (⟨b01_n c9, H⟩)
          · have H := oq_f c9 H
            refine Wp.r_aload_n0 (pc := 67) o_X12_odds rfl rfl (Wp.r_cv1 (pc := 68) o_X12_odds rfl fk_M_0_0 (⟨rm8_ rfl, ?_⟩))
            refine w_X12_keepsAll (d := d + 8)  ?_
            refine oq_bd H (fun _ s16 H => ?_)
            exact Wp.r_iconst (pc := 71) o_X12_odds rfl (Wp.r_istore (pc := 72) o_X12_odds rfl (Wp.r_iconst (pc := 74) o_X12_odds rfl (Wp.r_istore (pc := 75) o_X12_odds rfl (Wp.weak2 [2, 3, 4, 5, 1, 0] (w_X12_odds_b77 _ _ _ _ _ _ _ H) rfl))))
        · have H := oq_f c9 H
          refine Wp.f_al0_iconst (pc := 43) o_X12_odds rfl rfl rfl (Wp.r_cv2 (pc := 45) o_X12_odds rfl fk_M_0_0 (⟨rm8_ rfl, ?_⟩))
          refine w_X12_is (d := d + 8) _ ?_
          refine oq_bd H (fun r27 s28 H => ?_)
          obtain ⟨c9, H⟩ := oq_ck H
          exact Wp.r_ireturn (pc := 48) o_X12_odds rfl (⟨b01_n c9, H⟩)
noncomputable abbrev Y_X12_copies (d : Nat) (Q : Qt) : Xt := Wp SHM (WpM SHM MT (d + 0)) (flat2 cq_X12_copies) (none) Q
noncomputable def f_X12_copies_b41 : Nat → Int32 → Int32 → Int32 → Sg → Option (Unit × Sg)
  | 0, _, _, _, _ => none
  | n + 1, v1, v2, v3, s =>
    if 24 ≤ v3 then
      some ((), s)
    else
      ck (inr ((24 * v1) + v3) 130) (
      ck (inr ((24 * v2) + v3) 130) (
      nmx (pL s 2 (((24 * v2) + v3).toNatClampNeg) (s.2 2 (((24 * v1) + v3).toNatClampNeg))) (fun s3 =>
      (f_X12_copies_b41 n) v1 v2 (v3 + 1) s3
      )
      )
      )
set_option maxRecDepth 100000 in
theorem w_X12_copies_b41 {d : Nat} {Q : Qt} (n : Nat) : ∀ (v1 : Int32) (v2 : Int32) (v3 : Int32) (s : Sg), OQ (f_X12_copies_b41 n v1 v2 v3 s) (fun _ s9 => Q none s9) → Y_X12_copies d Q 41 [(0, .ref 0), (1, .int v1), (2, .int v2), (3, .int v3)] [] s := by
  induction n with
  | zero => intro v1 v2 v3 s H; exact H.elim
  | succ n ih =>
    intro v1 v2 v3 s H
    unfold f_X12_copies_b41 at H
    refine Wp.r_iload_n3 (pc := 41) o_X12_copies rfl rfl (Wp.r_bipush (pc := 42) o_X12_copies rfl (Wp.r_icmp_ge (pc := 44) o_X12_copies rfl (fun c9 => ?_) (fun c9 => ?_)))
    · have H := oq_t c9 H
      exact Wp.r_return (pc := 75) o_X12_copies rfl (H)
    · have H := oq_f c9 H
      obtain ⟨hc1, H⟩ := oq_ck H
      refine Wp.f_al0_gfr (pc := 47) o_X12_copies rfl rfl rfl fk_M_0_1 (Wp.r_bipush (pc := 51) o_X12_copies rfl (Wp.r_iload_n2 (pc := 53) o_X12_copies rfl rfl (Wp.r_imul (pc := 54) o_X12_copies rfl (Wp.r_iload_n3 (pc := 55) o_X12_copies rfl rfl (Wp.r_iadd (pc := 56) o_X12_copies rfl (Wp.f_al0_gfr (pc := 57) o_X12_copies rfl rfl rfl fk_M_0_1 (Wp.r_bipush (pc := 61) o_X12_copies rfl (Wp.r_iload_n1 (pc := 63) o_X12_copies rfl rfl (Wp.r_imul (pc := 64) o_X12_copies rfl (Wp.r_iload_n3 (pc := 65) o_X12_copies rfl rfl (Wp.r_iadd (pc := 66) o_X12_copies rfl (Wp.r_laload (pc := 67) o_X12_copies rfl ak_M_2 (⟨hc1, ?_⟩)))))))))))))
      obtain ⟨hc2, H⟩ := oq_ck H
      refine Wp.r_lastore (pc := 68) o_X12_copies rfl ak_M_2 (⟨hc2, ?_⟩)
      revert H
      generalize pL s 2 (((24 * v2) + v3).toNatClampNeg) (s.2 2 (((24 * v1) + v3).toNatClampNeg)) = s3
      intro H
      have H := nmx_e H
      exact Wp.f_iinc_goto (pc := 69) o_X12_copies rfl rfl rfl (Wp.weak2 [1, 2, 3, 0] (ih _ _ _ _ H) rfl)
noncomputable def f_X12_copies_b2 : Nat → Int32 → Int32 → Int32 → Sg → Option (Unit × Sg)
  | 0, _, _, _, _ => none
  | n + 1, v1, v2, v3, s =>
    if 480 ≤ v3 then
      f_X12_copies_b41 BIG v1 v2 0 s
    else
      ck (inr ((480 * v1) + v3) 2880) (
      ck (inr ((480 * v2) + v3) 2880) (
      nmx (pI s 1 (((480 * v2) + v3).toNatClampNeg) (s.1 1 (((480 * v1) + v3).toNatClampNeg))) (fun s6 =>
      (f_X12_copies_b2 n) v1 v2 (v3 + 1) s6
      )
      )
      )
set_option maxRecDepth 100000 in
theorem w_X12_copies_b2 {d : Nat} {Q : Qt} (n : Nat) : ∀ (v1 : Int32) (v2 : Int32) (v3 : Int32) (s : Sg), OQ (f_X12_copies_b2 n v1 v2 v3 s) (fun _ s9 => Q none s9) → Y_X12_copies d Q 2 [(0, .ref 0), (1, .int v1), (2, .int v2), (3, .int v3)] [] s := by
  induction n with
  | zero => intro v1 v2 v3 s H; exact H.elim
  | succ n ih =>
    intro v1 v2 v3 s H
    unfold f_X12_copies_b2 at H
    refine Wp.r_iload_n3 (pc := 2) o_X12_copies rfl rfl (Wp.r_sipush (pc := 3) o_X12_copies rfl (Wp.r_icmp_ge (pc := 6) o_X12_copies rfl (fun c9 => ?_) (fun c9 => ?_)))
    · have H := oq_t c9 H
      exact Wp.r_iconst (pc := 39) o_X12_copies rfl (Wp.r_istore_n3 (pc := 40) o_X12_copies rfl (Wp.weak2 [1, 2, 3, 0] (w_X12_copies_b41 _ _ _ _ _ H) rfl))
    · have H := oq_f c9 H
      obtain ⟨hc4, H⟩ := oq_ck H
      refine Wp.f_al0_gfr (pc := 9) o_X12_copies rfl rfl rfl fk_M_0_0 (Wp.r_sipush (pc := 13) o_X12_copies rfl (Wp.r_iload_n2 (pc := 16) o_X12_copies rfl rfl (Wp.r_imul (pc := 17) o_X12_copies rfl (Wp.r_iload_n3 (pc := 18) o_X12_copies rfl rfl (Wp.r_iadd (pc := 19) o_X12_copies rfl (Wp.f_al0_gfr (pc := 20) o_X12_copies rfl rfl rfl fk_M_0_0 (Wp.r_sipush (pc := 24) o_X12_copies rfl (Wp.r_iload_n1 (pc := 27) o_X12_copies rfl rfl (Wp.r_imul (pc := 28) o_X12_copies rfl (Wp.r_iload_n3 (pc := 29) o_X12_copies rfl rfl (Wp.r_iadd (pc := 30) o_X12_copies rfl (Wp.r_iaload (pc := 31) o_X12_copies rfl ak_M_1 (⟨hc4, ?_⟩)))))))))))))
      obtain ⟨hc5, H⟩ := oq_ck H
      refine Wp.r_iastore (pc := 32) o_X12_copies rfl ak_M_1 (⟨hc5, ?_⟩)
      revert H
      generalize pI s 1 (((480 * v2) + v3).toNatClampNeg) (s.1 1 (((480 * v1) + v3).toNatClampNeg)) = s6
      intro H
      have H := nmx_e H
      exact Wp.f_iinc_goto (pc := 33) o_X12_copies rfl rfl rfl (Wp.weak2 [1, 2, 3, 0] (ih _ _ _ _ H) rfl)
noncomputable def f_X12_copies (a1 : Int32) (a2 : Int32) (s : Sg) : Option (Unit × Sg) :=
  f_X12_copies_b2 BIG a1 a2 0 s
set_option maxRecDepth 100000 in
theorem w_X12_copies {d : Nat} {s : Sg} {Q : Qt} (a1 : Int32) (a2 : Int32) (H : OQ (f_X12_copies a1 a2 s) (fun _ s9 => Q none s9)) : WpM SHM MT (d + 1) 327 [.ref 0, .int a1, .int a2] s Q := by
  refine WpM.enter me_X12_copies rfl rfl ?_
  show Y_X12_copies d Q 0 [(0, .ref 0), (1, .int a1), (2, .int a2)] [] s
  unfold f_X12_copies at H
  exact Wp.r_iconst (pc := 0) o_X12_copies rfl (Wp.r_istore_n3 (pc := 1) o_X12_copies rfl (Wp.weak2 [1, 2, 3, 0] (w_X12_copies_b2 _ _ _ _ _ H) rfl))
noncomputable abbrev Y_X12_mark (d : Nat) (Q : Qt) : Xt := Wp SHM (WpM SHM MT (d + 1)) (flat2 cq_X12_mark) (some .int) Q
noncomputable def f_X12_mark  (s : Sg) : Option (Int32 × Sg) :=
  if (s.1 0 35) = 3 then
    bd (f_X12_refuse 4 s) (fun r1 s2 =>
    some (r1, s2)
    )
  else
    bd (f_X12_copies 0 ((pI s 0 35 ((s.1 0 35) + 1)).1 0 35) (pI s 0 35 ((s.1 0 35) + 1))) (fun _ s4 =>
    bd (f_X12_gives (s4.1 0 35) s4) (fun r5 s6 =>
    some (r5, s6)
    )
    )
set_option maxRecDepth 100000 in
theorem w_X12_mark {d : Nat} {s : Sg} {Q : Qt}  (H : OQ (f_X12_mark  s) (fun r9 s9 => Q (some (.int r9)) s9)) : WpM SHM MT (d + 2) 328 [.ref 0] s Q := by
  refine WpM.enter me_X12_mark rfl rfl ?_
  show Y_X12_mark d Q 0 [(0, .ref 0)] [] s
  unfold f_X12_mark at H
  refine Wp.f_al0_gfi (pc := 0) o_X12_mark rfl rfl rfl fk_M_0_35 (Wp.r_iconst (pc := 4) o_X12_mark rfl (Wp.r_icmp_ne (pc := 5) o_X12_mark rfl (fun c9 => ?_) (fun c9 => ?_)))
  · have H := oq_t c9 H
    refine Wp.f_al0_iconst (pc := 8) o_X12_mark rfl rfl rfl (Wp.r_cv2 (pc := 10) o_X12_mark rfl fk_M_0_0 (⟨rm8_ rfl, ?_⟩))
    refine w_X12_refuse (d := d) _ ?_
    refine oq_bd H (fun r1 s2 H => ?_)
    exact Wp.r_ireturn (pc := 13) o_X12_mark rfl (⟨rfl, H⟩)
  · have H := oq_f c9 H
    refine Wp.r_aload_n0 (pc := 14) o_X12_mark rfl rfl (Wp.r_dup_r (pc := 15) o_X12_mark rfl (Wp.r_gfi (pc := 16) o_X12_mark rfl fk_M_0_35 (Wp.r_iconst (pc := 19) o_X12_mark rfl (Wp.r_iadd (pc := 20) o_X12_mark rfl (Wp.r_pfi (pc := 21) o_X12_mark rfl fk_M_0_35 (Wp.f_al0_iconst (pc := 24) o_X12_mark rfl rfl rfl (Wp.f_al0_gfi (pc := 26) o_X12_mark rfl rfl rfl fk_M_0_35 (Wp.r_cv3 (pc := 30) o_X12_mark rfl fk_M_0_0 (⟨rm8_ rfl, ?_⟩)))))))))
    refine w_X12_copies (d := d) _ _ ?_
    refine oq_bd H (fun _ s4 H => ?_)
    refine Wp.r_aload_n0 (pc := 33) o_X12_mark rfl rfl (Wp.f_al0_gfi (pc := 34) o_X12_mark rfl rfl rfl fk_M_0_35 (Wp.r_cv2 (pc := 38) o_X12_mark rfl fk_M_0_0 (⟨rm8_ rfl, ?_⟩)))
    refine w_X12_gives (d := d) _ ?_
    refine oq_bd H (fun r5 s6 H => ?_)
    exact Wp.r_ireturn (pc := 41) o_X12_mark rfl (⟨rfl, H⟩)
noncomputable abbrev Y_X12_back (d : Nat) (Q : Qt) : Xt := Wp SHM (WpM SHM MT (d + 1)) (flat2 cq_X12_back) (some .int) Q
noncomputable def f_X12_back  (s : Sg) : Option (Int32 × Sg) :=
  if (s.1 0 35) = 0 then
    bd (f_X12_refuse 6 s) (fun r1 s2 =>
    some (r1, s2)
    )
  else
    bd (f_X12_copies (s.1 0 35) 0 s) (fun _ s4 =>
    bd (f_X12_gives ((pI s4 0 35 ((s4.1 0 35) - 1)).1 0 35) (pI s4 0 35 ((s4.1 0 35) - 1))) (fun r5 s6 =>
    some (r5, s6)
    )
    )
set_option maxRecDepth 100000 in
theorem w_X12_back {d : Nat} {s : Sg} {Q : Qt}  (H : OQ (f_X12_back  s) (fun r9 s9 => Q (some (.int r9)) s9)) : WpM SHM MT (d + 2) 329 [.ref 0] s Q := by
  refine WpM.enter me_X12_back rfl rfl ?_
  show Y_X12_back d Q 0 [(0, .ref 0)] [] s
  unfold f_X12_back at H
  refine Wp.f_al0_gfi (pc := 0) o_X12_back rfl rfl rfl fk_M_0_35 (Wp.r_if_ne (pc := 4) o_X12_back rfl (fun c9 => ?_) (fun c9 => ?_))
  · have H := oq_t c9 H
    refine Wp.r_aload_n0 (pc := 7) o_X12_back rfl rfl (Wp.r_bipush (pc := 8) o_X12_back rfl (Wp.r_cv2 (pc := 10) o_X12_back rfl fk_M_0_0 (⟨rm8_ rfl, ?_⟩)))
    refine w_X12_refuse (d := d) _ ?_
    refine oq_bd H (fun r1 s2 H => ?_)
    exact Wp.r_ireturn (pc := 13) o_X12_back rfl (⟨rfl, H⟩)
  · have H := oq_f c9 H
    refine Wp.r_aload_n0 (pc := 14) o_X12_back rfl rfl (Wp.f_al0_gfi (pc := 15) o_X12_back rfl rfl rfl fk_M_0_35 (Wp.r_iconst (pc := 19) o_X12_back rfl (Wp.r_cv3 (pc := 20) o_X12_back rfl fk_M_0_0 (⟨rm8_ rfl, ?_⟩))))
    refine w_X12_copies (d := d) _ _ ?_
    refine oq_bd H (fun _ s4 H => ?_)
    refine Wp.r_aload_n0 (pc := 23) o_X12_back rfl rfl (Wp.r_dup_r (pc := 24) o_X12_back rfl (Wp.r_gfi (pc := 25) o_X12_back rfl fk_M_0_35 (Wp.r_iconst (pc := 28) o_X12_back rfl (Wp.r_isub (pc := 29) o_X12_back rfl (Wp.r_pfi (pc := 30) o_X12_back rfl fk_M_0_35 (Wp.r_aload_n0 (pc := 33) o_X12_back rfl rfl (Wp.f_al0_gfi (pc := 34) o_X12_back rfl rfl rfl fk_M_0_35 (Wp.r_cv2 (pc := 38) o_X12_back rfl fk_M_0_0 (⟨rm8_ rfl, ?_⟩)))))))))
    refine w_X12_gives (d := d) _ ?_
    refine oq_bd H (fun r5 s6 H => ?_)
    exact Wp.r_ireturn (pc := 41) o_X12_back rfl (⟨rfl, H⟩)
