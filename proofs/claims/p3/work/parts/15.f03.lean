noncomputable abbrev Y_X11_forecast (d : Nat) (Q : Qt) : Xt := Wp SHC (WpM SHC MT (d + 4)) (flat2 cq_X11_forecast) (some .int) Q
noncomputable def f_X11_forecast_b52 : Nat → Int32 → Int32 → Int32 → Int32 → Sg → Option (Int32 × Sg)
  | 0, _, _, _, _, _ => none
  | n + 1, v1, v2, v3, v6, s =>
    if v2 ≤ v6 then
      if v3 = 0 then
        ck (inr v1 8) (
        bd (f_X11_answer (s.1 67 v1.toNatClampNeg) s) (fun r8 s9 =>
        some (r8, s9)
        )
        )
      else
        if v3 = 1 then
          ck (inr v1 8) (
          bd (f_X11_answer (s.1 68 v1.toNatClampNeg) s) (fun r11 s12 =>
          some (r11, s12)
          )
          )
        else
          ck (inr v1 8) (
          bd (f_X11_answer (s.1 69 v1.toNatClampNeg) s) (fun r14 s15 =>
          some (r14, s15)
          )
          )
    else
      bd (f_X2_passNight_25_53 s) (fun _ s17 =>
      (f_X11_forecast_b52 n) v1 v2 v3 (v6 + 1) s17
      )
set_option maxRecDepth 100000 in
theorem w_X11_forecast_b52 {d : Nat} {Q : Qt} (n : Nat) : ∀ (v1 : Int32) (v2 : Int32) (v3 : Int32) (v6 : Int32) (s : Sg), OQ (f_X11_forecast_b52 n v1 v2 v3 v6 s) (fun r9 s9 => Q (some (.int r9)) s9) → Y_X11_forecast d Q 52 [(0, .ref 0), (1, .int v1), (2, .int v2), (3, .int v3), (5, .ref 53), (6, .int v6)] [] s := by
  induction n with
  | zero => intro v1 v2 v3 v6 s H; exact H.elim
  | succ n ih =>
    intro v1 v2 v3 v6 s H
    unfold f_X11_forecast_b52 at H
    refine Wp.r_iload (pc := 52) o_X11_forecast rfl rfl (Wp.r_iload_n2 (pc := 54) o_X11_forecast rfl rfl (Wp.r_icmp_ge (pc := 55) o_X11_forecast rfl (fun c9 => ?_) (fun c9 => ?_)))
    · have H := oq_t c9 H
      refine Wp.r_aload_n0 (pc := 73) o_X11_forecast rfl rfl (Wp.r_aload (pc := 74) o_X11_forecast rfl rfl (Wp.r_iload_n3 (pc := 76) o_X11_forecast rfl rfl (Wp.r_cv2 (pc := 77) o_X11_forecast rfl fk_C_53_0 (⟨rm8_ rfl, ?_⟩))))
      refine WpM.enter me_X2_row rfl rfl ?_
      show Wp SHC _ (flat2 cq_X2_row) _ _ 0 [(0, .ref 53), (1, .int v3)] [] _
      refine Wp.r_iload_n1 (pc := 0) o_X2_row rfl rfl (Wp.r_if_ne (pc := 1) o_X2_row rfl (fun c9 => ?_) (fun c9 => ?_))
      · have H := oq_t c9 H
        refine Wp.f_al0_gfr (pc := 4) o_X2_row rfl rfl rfl fk_C_53_0 (Wp.r_areta (pc := 8) o_X2_row rfl (show Y_X11_forecast d Q 80 [(0, .ref 0), (1, .int v1), (2, .int v2), (3, .int v3), (5, .ref 53), (6, .int v6)] [.ref 67, .ref 0] s from ?_))
        obtain ⟨hc7, H⟩ := oq_ck H
        refine Wp.r_iload_n1 (pc := 80) o_X11_forecast rfl rfl (Wp.r_iaload (pc := 81) o_X11_forecast rfl ak_C_67 (⟨hc7, ?_⟩))
        refine Wp.r_cv2 (pc := 82) o_X11_forecast rfl fk_C_0_0 (⟨rm8_ rfl, ?_⟩)
        refine w_X11_answer (d := d + 3) _ ?_
        refine oq_bd H (fun r8 s9 H => ?_)
        exact Wp.r_ireturn (pc := 85) o_X11_forecast rfl (⟨rfl, H⟩)
      · have H := oq_f c9 H
        refine Wp.r_iload_n1 (pc := 9) o_X2_row rfl rfl (Wp.r_iconst (pc := 10) o_X2_row rfl (Wp.r_icmp_ne (pc := 11) o_X2_row rfl (fun c9 => ?_) (fun c9 => ?_)))
        · have H := oq_t c9 H
          refine Wp.f_al0_gfr (pc := 14) o_X2_row rfl rfl rfl fk_C_53_1 (Wp.r_goto (pc := 18) o_X2_row rfl (Wp.r_areta (pc := 25) o_X2_row rfl (show Y_X11_forecast d Q 80 [(0, .ref 0), (1, .int v1), (2, .int v2), (3, .int v3), (5, .ref 53), (6, .int v6)] [.ref 68, .ref 0] s from ?_)))
          obtain ⟨hc10, H⟩ := oq_ck H
          refine Wp.r_iload_n1 (pc := 80) o_X11_forecast rfl rfl (Wp.r_iaload (pc := 81) o_X11_forecast rfl ak_C_68 (⟨hc10, ?_⟩))
          refine Wp.r_cv2 (pc := 82) o_X11_forecast rfl fk_C_0_0 (⟨rm8_ rfl, ?_⟩)
          refine w_X11_answer (d := d + 3) _ ?_
          refine oq_bd H (fun r11 s12 H => ?_)
          exact Wp.r_ireturn (pc := 85) o_X11_forecast rfl (⟨rfl, H⟩)
        · have H := oq_f c9 H
          refine Wp.f_al0_gfr (pc := 21) o_X2_row rfl rfl rfl fk_C_53_2 (Wp.r_areta (pc := 25) o_X2_row rfl (show Y_X11_forecast d Q 80 [(0, .ref 0), (1, .int v1), (2, .int v2), (3, .int v3), (5, .ref 53), (6, .int v6)] [.ref 69, .ref 0] s from ?_))
          obtain ⟨hc13, H⟩ := oq_ck H
          refine Wp.r_iload_n1 (pc := 80) o_X11_forecast rfl rfl (Wp.r_iaload (pc := 81) o_X11_forecast rfl ak_C_69 (⟨hc13, ?_⟩))
          refine Wp.r_cv2 (pc := 82) o_X11_forecast rfl fk_C_0_0 (⟨rm8_ rfl, ?_⟩)
          refine w_X11_answer (d := d + 3) _ ?_
          refine oq_bd H (fun r14 s15 H => ?_)
          exact Wp.r_ireturn (pc := 85) o_X11_forecast rfl (⟨rfl, H⟩)
    · have H := oq_f c9 H
      refine Wp.r_aload (pc := 58) o_X11_forecast rfl rfl (Wp.f_al0_gfr (pc := 60) o_X11_forecast rfl rfl rfl fk_C_0_5 (Wp.r_cv2 (pc := 64) o_X11_forecast rfl fk_C_53_0 (⟨rm8_ rfl, ?_⟩)))
      refine w_X2_passNight_25_53 (d := d)  ?_
      refine oq_bd H (fun _ s17 H => ?_)
      exact Wp.f_iinc_goto (pc := 67) o_X11_forecast rfl rfl rfl (Wp.weak2 [1, 2, 3, 4, 5, 0] (ih _ _ _ _ _ H) rfl)
noncomputable def f_X11_forecast_b26 (v1 : Int32) (v2 : Int32) (v3 : Int32) (t0 : Int32) (t1 : Int32) (s : Sg) : Option (Int32 × Sg) :=
  bd (f_X11_whyNoStep t1 t0 s) (fun r3 s4 =>
  if r3 = 0 then
    bd (f_X2_copyFrom_26_53 s4) (fun _ s6 =>
    f_X11_forecast_b52 BIG v1 v2 v3 0 s6
    )
  else
    bd (f_X11_refuse r3 s4) (fun r18 s19 =>
    some (r18, s19)
    )
  )
set_option maxRecDepth 100000 in
theorem w_X11_forecast_b26 {d : Nat} {Q : Qt} (v1 : Int32) (v2 : Int32) (v3 : Int32) (t0 : Int32) (t1 : Int32) (s : Sg) (H : OQ (f_X11_forecast_b26 v1 v2 v3 t0 t1 s) (fun r9 s9 => Q (some (.int r9)) s9)) : Y_X11_forecast d Q 26 [(0, .ref 0), (1, .int v1), (2, .int v2), (3, .int v3)] [.int t0, .int t1, .ref 0] s := by
  unfold f_X11_forecast_b26 at H
  refine Wp.r_cv3 (pc := 26) o_X11_forecast rfl fk_C_0_0 (⟨rm8_ rfl, ?_⟩)
  refine w_X11_whyNoStep (d := d + 1) _ _ ?_
  refine oq_bd H (fun r3 s4 H => ?_)
  refine Wp.r_istore (pc := 29) o_X11_forecast rfl (Wp.r_iload (pc := 31) o_X11_forecast rfl rfl (Wp.r_if_eq (pc := 33) o_X11_forecast rfl (fun c9 => ?_) (fun c9 => ?_)))
  · have H := oq_t c9 H
    refine Wp.r_aload_n0 (pc := 43) o_X11_forecast rfl rfl (Wp.r_cv1 (pc := 44) o_X11_forecast rfl fk_C_0_0 (⟨rm8_ rfl, ?_⟩))
    refine WpM.enter me_X11_foresee rfl rfl ?_
    show Wp SHC _ (flat2 cq_X11_foresee) _ _ 0 [(0, .ref 0)] [] _
    refine Wp.f_al0_gfr (pc := 0) o_X11_foresee rfl rfl rfl fk_C_0_3 (Wp.r_gfr (pc := 4) o_X11_foresee rfl fk_C_51_1 (Wp.f_al0_gfr (pc := 7) o_X11_foresee rfl rfl rfl fk_C_0_6 (Wp.r_cv2 (pc := 11) o_X11_foresee rfl fk_C_53_0 (⟨rm8_ rfl, ?_⟩))))
    refine w_X2_copyFrom_26_53 (d := d + 1)  ?_
    refine oq_bd H (fun _ s6 H => ?_)
    refine Wp.f_al0_gfr (pc := 14) o_X11_foresee rfl rfl rfl fk_C_0_3 (Wp.r_gfr (pc := 18) o_X11_foresee rfl fk_C_51_1 (Wp.r_areto (pc := 21) o_X11_foresee rfl (show Y_X11_forecast d Q 47 [(4, .int r3), (0, .ref 0), (1, .int v1), (2, .int v2), (3, .int v3)] [.ref 53] s6 from ?_)))
    exact Wp.r_astore (pc := 47) o_X11_forecast rfl (Wp.r_iconst (pc := 49) o_X11_forecast rfl (Wp.r_istore (pc := 50) o_X11_forecast rfl (Wp.weak2 [3, 4, 5, 6, 1, 0] (w_X11_forecast_b52 _ _ _ _ _ _ H) rfl)))
  · have H := oq_f c9 H
    refine Wp.r_aload_n0 (pc := 36) o_X11_forecast rfl rfl (Wp.r_iload (pc := 37) o_X11_forecast rfl rfl (Wp.r_cv2 (pc := 39) o_X11_forecast rfl fk_C_0_0 (⟨rm8_ rfl, ?_⟩)))
    refine w_X11_refuse (d := d + 3) _ ?_
    refine oq_bd H (fun r18 s19 H => ?_)
    exact Wp.r_ireturn (pc := 42) o_X11_forecast rfl (⟨rfl, H⟩)
noncomputable def f_X11_forecast_b25 (v1 : Int32) (v2 : Int32) (v3 : Int32) (t0 : Int32) (s : Sg) : Option (Int32 × Sg) :=
  f_X11_forecast_b26 v1 v2 v3 0 t0 s
set_option maxRecDepth 100000 in
theorem w_X11_forecast_b25 {d : Nat} {Q : Qt} (v1 : Int32) (v2 : Int32) (v3 : Int32) (t0 : Int32) (s : Sg) (H : OQ (f_X11_forecast_b25 v1 v2 v3 t0 s) (fun r9 s9 => Q (some (.int r9)) s9)) : Y_X11_forecast d Q 25 [(0, .ref 0), (1, .int v1), (2, .int v2), (3, .int v3)] [.int t0, .ref 0] s := by
  unfold f_X11_forecast_b25 at H
  exact Wp.r_iconst (pc := 25) o_X11_forecast rfl (Wp.weak2 [0, 1, 2, 3] (w_X11_forecast_b26 _ _ _ _ _ _ H) rfl)
noncomputable def f_X11_forecast (a1 : Int32) (a2 : Int32) (a3 : Int32) (s : Sg) : Option (Int32 × Sg) :=
  bd (f_X11_within a2 0 60 s) (fun r1 s2 =>
  if r1 = 0 then
    f_X11_forecast_b25 a1 a2 a3 a1 s2
  else
    bd (f_X11_within a3 0 2 s2) (fun r20 s21 =>
    if r20 = 0 then
      f_X11_forecast_b25 a1 a2 a3 a1 s21
    else
      f_X11_forecast_b26 a1 a2 a3 1 a1 s21
    )
  )
set_option maxRecDepth 100000 in
theorem w_X11_forecast {d : Nat} {s : Sg} {Q : Qt} (a1 : Int32) (a2 : Int32) (a3 : Int32) (H : OQ (f_X11_forecast a1 a2 a3 s) (fun r9 s9 => Q (some (.int r9)) s9)) : WpM SHC MT (d + 5) 135 [.ref 0, .int a1, .int a2, .int a3] s Q := by
  refine WpM.enter me_X11_forecast rfl rfl ?_
  show Y_X11_forecast d Q 0 [(0, .ref 0), (1, .int a1), (2, .int a2), (3, .int a3)] [] s
  unfold f_X11_forecast at H
  refine Wp.r_aload_n0 (pc := 0) o_X11_forecast rfl rfl (Wp.r_iload_n1 (pc := 1) o_X11_forecast rfl rfl (Wp.r_iload_n2 (pc := 2) o_X11_forecast rfl rfl (Wp.r_iconst (pc := 3) o_X11_forecast rfl (Wp.r_bipush (pc := 4) o_X11_forecast rfl (Wp.r_cs3 (pc := 6) o_X11_forecast rfl (⟨rm8_ rfl, ?_⟩))))))
  refine w_X11_within (d := d + 3) _ _ _ ?_
  refine oq_bd H (fun r1 s2 H => ?_)
  refine Wp.r_if_eq (pc := 9) o_X11_forecast rfl (fun c9 => ?_) (fun c9 => ?_)
  · have H := oq_t c9 H
    exact Wp.weak2 [0, 1, 2, 3] (w_X11_forecast_b25 _ _ _ _ _ H) rfl
  · have H := oq_f c9 H
    refine Wp.r_iload_n3 (pc := 12) o_X11_forecast rfl rfl (Wp.r_iconst (pc := 13) o_X11_forecast rfl (Wp.r_iconst (pc := 14) o_X11_forecast rfl (Wp.r_cs3 (pc := 15) o_X11_forecast rfl (⟨rm8_ rfl, ?_⟩))))
    refine w_X11_within (d := d + 3) _ _ _ ?_
    refine oq_bd H (fun r20 s21 H => ?_)
    refine Wp.r_if_eq (pc := 18) o_X11_forecast rfl (fun c9 => ?_) (fun c9 => ?_)
    · have H := oq_t c9 H
      exact Wp.weak2 [0, 1, 2, 3] (w_X11_forecast_b25 _ _ _ _ _ H) rfl
    · have H := oq_f c9 H
      exact Wp.r_iconst (pc := 21) o_X11_forecast rfl (Wp.r_goto (pc := 22) o_X11_forecast rfl (Wp.weak2 [0, 1, 2, 3] (w_X11_forecast_b26 _ _ _ _ _ _ H) rfl))
noncomputable abbrev Y_X11_soonest (d : Nat) (Q : Qt) : Xt := Wp SHC (WpM SHC MT (d + 4)) (flat2 cq_X11_soonest) (some .int) Q
noncomputable def f_X11_soonest_b21 : Nat → Int32 → Int32 → Sg → Option (Int32 × Sg)
  | 0, _, _, _ => none
  | n + 1, v1, v3, s =>
    if 60 < v3 then
      bd (f_X11_refuse 6 s) (fun r7 s8 =>
      some (r7, s8)
      )
    else
      bd (f_X11_has (s.1 53 5) v1 s) (fun r9 s10 =>
      if r9 = 0 then
        bd (f_X2_passNight_25_53 s10) (fun _ s12 =>
        (f_X11_soonest_b21 n) v1 (v3 + 1) s12
        )
      else
        bd (f_X11_answer v3 s10) (fun r13 s14 =>
        some (r13, s14)
        )
      )
set_option maxRecDepth 100000 in
theorem w_X11_soonest_b21 {d : Nat} {Q : Qt} (n : Nat) : ∀ (v1 : Int32) (v3 : Int32) (s : Sg), OQ (f_X11_soonest_b21 n v1 v3 s) (fun r9 s9 => Q (some (.int r9)) s9) → Y_X11_soonest d Q 21 [(0, .ref 0), (1, .int v1), (2, .ref 53), (3, .int v3)] [] s := by
  induction n with
  | zero => intro v1 v3 s H; exact H.elim
  | succ n ih =>
    intro v1 v3 s H
    unfold f_X11_soonest_b21 at H
    refine Wp.r_iload_n3 (pc := 21) o_X11_soonest rfl rfl (Wp.r_bipush (pc := 22) o_X11_soonest rfl (Wp.r_icmp_gt (pc := 24) o_X11_soonest rfl (fun c9 => ?_) (fun c9 => ?_)))
    · have H := oq_t c9 H
      refine Wp.r_aload_n0 (pc := 58) o_X11_soonest rfl rfl (Wp.r_bipush (pc := 59) o_X11_soonest rfl (Wp.r_cv2 (pc := 61) o_X11_soonest rfl fk_C_0_0 (⟨rm8_ rfl, ?_⟩)))
      refine w_X11_refuse (d := d + 3) _ ?_
      refine oq_bd H (fun r7 s8 H => ?_)
      exact Wp.r_ireturn (pc := 64) o_X11_soonest rfl (⟨rfl, H⟩)
    · have H := oq_f c9 H
      refine Wp.f_al2_gfi (pc := 27) o_X11_soonest rfl rfl rfl fk_C_53_5 (Wp.r_iload_n1 (pc := 31) o_X11_soonest rfl rfl (Wp.r_cs2 (pc := 32) o_X11_soonest rfl (⟨rm8_ rfl, ?_⟩)))
      refine w_X11_has (d := d + 3) _ _ ?_
      refine oq_bd H (fun r9 s10 H => ?_)
      refine Wp.r_if_eq (pc := 35) o_X11_soonest rfl (fun c9 => ?_) (fun c9 => ?_)
      · have H := oq_t c9 H
        refine Wp.r_aload_n2 (pc := 44) o_X11_soonest rfl rfl (Wp.f_al0_gfr (pc := 45) o_X11_soonest rfl rfl rfl fk_C_0_5 (Wp.r_cv2 (pc := 49) o_X11_soonest rfl fk_C_53_0 (⟨rm8_ rfl, ?_⟩)))
        refine w_X2_passNight_25_53 (d := d)  ?_
        refine oq_bd H (fun _ s12 H => ?_)
        exact Wp.f_iinc_goto (pc := 52) o_X11_soonest rfl rfl rfl (Wp.weak2 [1, 2, 3, 0] (ih _ _ _ H) rfl)
      · have H := oq_f c9 H
        refine Wp.r_aload_n0 (pc := 38) o_X11_soonest rfl rfl (Wp.r_iload_n3 (pc := 39) o_X11_soonest rfl rfl (Wp.r_cv2 (pc := 40) o_X11_soonest rfl fk_C_0_0 (⟨rm8_ rfl, ?_⟩)))
        refine w_X11_answer (d := d + 3) _ ?_
        refine oq_bd H (fun r13 s14 H => ?_)
        exact Wp.r_ireturn (pc := 43) o_X11_soonest rfl (⟨rfl, H⟩)
noncomputable def f_X11_soonest (a1 : Int32) (s : Sg) : Option (Int32 × Sg) :=
  bd (f_X11_isQuarrel a1 s) (fun r1 s2 =>
  if r1 = 0 then
    bd (f_X11_refuse 1 s2) (fun r3 s4 =>
    some (r3, s4)
    )
  else
    bd (f_X2_copyFrom_26_53 s2) (fun _ s6 =>
    f_X11_soonest_b21 BIG a1 0 s6
    )
  )
set_option maxRecDepth 100000 in
theorem w_X11_soonest {d : Nat} {s : Sg} {Q : Qt} (a1 : Int32) (H : OQ (f_X11_soonest a1 s) (fun r9 s9 => Q (some (.int r9)) s9)) : WpM SHC MT (d + 5) 136 [.ref 0, .int a1] s Q := by
  refine WpM.enter me_X11_soonest rfl rfl ?_
  show Y_X11_soonest d Q 0 [(0, .ref 0), (1, .int a1)] [] s
  unfold f_X11_soonest at H
  refine Wp.r_aload_n0 (pc := 0) o_X11_soonest rfl rfl (Wp.r_iload_n1 (pc := 1) o_X11_soonest rfl rfl (Wp.r_cv2 (pc := 2) o_X11_soonest rfl fk_C_0_0 (⟨rm8_ rfl, ?_⟩)))
  refine w_X11_isQuarrel (d := d + 2) _ ?_
  refine oq_bd H (fun r1 s2 H => ?_)
  refine Wp.r_if_ne (pc := 5) o_X11_soonest rfl (fun c9 => ?_) (fun c9 => ?_)
  · have H := oq_t c9 H
    refine Wp.f_al0_iconst (pc := 8) o_X11_soonest rfl rfl rfl (Wp.r_cv2 (pc := 10) o_X11_soonest rfl fk_C_0_0 (⟨rm8_ rfl, ?_⟩))
    refine w_X11_refuse (d := d + 3) _ ?_
    refine oq_bd H (fun r3 s4 H => ?_)
    exact Wp.r_ireturn (pc := 13) o_X11_soonest rfl (⟨rfl, H⟩)
  · have H := oq_f c9 H
    refine Wp.r_aload_n0 (pc := 14) o_X11_soonest rfl rfl (Wp.r_cv1 (pc := 15) o_X11_soonest rfl fk_C_0_0 (⟨rm8_ rfl, ?_⟩))
    refine WpM.enter me_X11_foresee rfl rfl ?_
    show Wp SHC _ (flat2 cq_X11_foresee) _ _ 0 [(0, .ref 0)] [] _
    refine Wp.f_al0_gfr (pc := 0) o_X11_foresee rfl rfl rfl fk_C_0_3 (Wp.r_gfr (pc := 4) o_X11_foresee rfl fk_C_51_1 (Wp.f_al0_gfr (pc := 7) o_X11_foresee rfl rfl rfl fk_C_0_6 (Wp.r_cv2 (pc := 11) o_X11_foresee rfl fk_C_53_0 (⟨rm8_ rfl, ?_⟩))))
    refine w_X2_copyFrom_26_53 (d := d + 1)  ?_
    refine oq_bd H (fun _ s6 H => ?_)
    refine Wp.f_al0_gfr (pc := 14) o_X11_foresee rfl rfl rfl fk_C_0_3 (Wp.r_gfr (pc := 18) o_X11_foresee rfl fk_C_51_1 (Wp.r_areto (pc := 21) o_X11_foresee rfl (show Y_X11_soonest d Q 18 [(0, .ref 0), (1, .int a1)] [.ref 53] s6 from ?_)))
    exact Wp.r_astore_n2 (pc := 18) o_X11_soonest rfl (Wp.r_iconst (pc := 19) o_X11_soonest rfl (Wp.r_istore_n3 (pc := 20) o_X11_soonest rfl (Wp.weak2 [2, 3, 1, 0] (w_X11_soonest_b21 _ _ _ _ H) rfl)))
noncomputable abbrev Y_X11_longest (d : Nat) (Q : Qt) : Xt := Wp SHC (WpM SHC MT (d + 2)) (flat2 cq_X11_longest) (some .int) Q
noncomputable def f_X11_longest_b4 : Nat → Int32 → Int32 → Sg → Option (Int32 × Sg)
  | 0, _, _, _ => none
  | n + 1, v1, v2, s =>
    if (s.1 25 14) ≤ v2 then
      bd (f_X11_answerIfAny v1 s) (fun r1 s2 =>
      some (r1, s2)
      )
    else
      bd (f_X11_has (s.1 26 5) v2 s) (fun r3 s4 =>
      if r3 = 0 then
        if v1 = (-1) then
          (f_X11_longest_b4 n) v2 (v2 + 1) s4
        else
          ck (inr v2 8) (
          ck (inr v1 8) (
          if (s4.1 43 v2.toNatClampNeg) ≤ (s4.1 43 v1.toNatClampNeg) then
            (f_X11_longest_b4 n) v1 (v2 + 1) s4
          else
            (f_X11_longest_b4 n) v2 (v2 + 1) s4
          )
          )
      else
        (f_X11_longest_b4 n) v1 (v2 + 1) s4
      )
set_option maxRecDepth 100000 in
theorem w_X11_longest_b4 {d : Nat} {Q : Qt} (n : Nat) : ∀ (v1 : Int32) (v2 : Int32) (s : Sg), OQ (f_X11_longest_b4 n v1 v2 s) (fun r9 s9 => Q (some (.int r9)) s9) → Y_X11_longest d Q 4 [(0, .ref 0), (1, .int v1), (2, .int v2)] [] s := by
  induction n with
  | zero => intro v1 v2 s H; exact H.elim
  | succ n ih =>
    intro v1 v2 s H
    unfold f_X11_longest_b4 at H
    refine Wp.r_iload_n2 (pc := 4) o_X11_longest rfl rfl (Wp.f_al0_gfr (pc := 5) o_X11_longest rfl rfl rfl fk_C_0_5 (Wp.r_gfi (pc := 9) o_X11_longest rfl fk_C_25_14 (Wp.r_icmp_ge (pc := 12) o_X11_longest rfl (fun c9 => ?_) (fun c9 => ?_))))
    · have H := oq_t c9 H
      refine Wp.r_aload_n0 (pc := 63) o_X11_longest rfl rfl (Wp.r_iload_n1 (pc := 64) o_X11_longest rfl rfl (Wp.r_cv2 (pc := 65) o_X11_longest rfl fk_C_0_0 (⟨rm8_ rfl, ?_⟩)))
      refine w_X11_answerIfAny (d := d) _ ?_
      refine oq_bd H (fun r1 s2 H => ?_)
      exact Wp.r_ireturn (pc := 68) o_X11_longest rfl (⟨rfl, H⟩)
    · have H := oq_f c9 H
      refine Wp.f_al0_gfr (pc := 15) o_X11_longest rfl rfl rfl fk_C_0_6 (Wp.r_gfi (pc := 19) o_X11_longest rfl fk_C_26_5 (Wp.r_iload_n2 (pc := 22) o_X11_longest rfl rfl (Wp.r_cs2 (pc := 23) o_X11_longest rfl (⟨rm8_ rfl, ?_⟩))))
      refine w_X11_has (d := d + 1) _ _ ?_
      refine oq_bd H (fun r3 s4 H => ?_)
      refine Wp.r_if_ne (pc := 26) o_X11_longest rfl (fun c9 => ?_) (fun c9 => ?_)
      · have H := oq_t c9 H
        refine Wp.r_iload_n1 (pc := 29) o_X11_longest rfl rfl (Wp.r_iconst (pc := 30) o_X11_longest rfl (Wp.r_icmp_eq (pc := 31) o_X11_longest rfl (fun c9 => ?_) (fun c9 => ?_)))
        · have H := oq_t c9 H
          exact Wp.r_iload_n2 (pc := 55) o_X11_longest rfl rfl (Wp.r_istore_n1 (pc := 56) o_X11_longest rfl (Wp.f_iinc_goto (pc := 57) o_X11_longest rfl rfl rfl (Wp.weak2 [2, 1, 0] (ih _ _ _ H) rfl)))
        · have H := oq_f c9 H
          obtain ⟨hc5, H⟩ := oq_ck H
          refine Wp.f_al0_gfr (pc := 34) o_X11_longest rfl rfl rfl fk_C_0_6 (Wp.r_gfr (pc := 38) o_X11_longest rfl fk_C_26_3 (Wp.r_iload_n2 (pc := 41) o_X11_longest rfl rfl (Wp.r_iaload (pc := 42) o_X11_longest rfl ak_C_43 (⟨hc5, ?_⟩))))
          obtain ⟨hc6, H⟩ := oq_ck H
          refine Wp.f_al0_gfr (pc := 43) o_X11_longest rfl rfl rfl fk_C_0_6 (Wp.r_gfr (pc := 47) o_X11_longest rfl fk_C_26_3 (Wp.r_iload_n1 (pc := 50) o_X11_longest rfl rfl (Wp.r_iaload (pc := 51) o_X11_longest rfl ak_C_43 (⟨hc6, ?_⟩))))
          refine Wp.r_icmp_le (pc := 52) o_X11_longest rfl (fun c9 => ?_) (fun c9 => ?_)
          · have H := oq_t c9 H
            exact Wp.f_iinc_goto (pc := 57) o_X11_longest rfl rfl rfl (Wp.weak2 [1, 2, 0] (ih _ _ _ H) rfl)
          · have H := oq_f c9 H
            exact Wp.r_iload_n2 (pc := 55) o_X11_longest rfl rfl (Wp.r_istore_n1 (pc := 56) o_X11_longest rfl (Wp.f_iinc_goto (pc := 57) o_X11_longest rfl rfl rfl (Wp.weak2 [2, 1, 0] (ih _ _ _ H) rfl)))
      · have H := oq_f c9 H
        exact Wp.f_iinc_goto (pc := 57) o_X11_longest rfl rfl rfl (Wp.weak2 [1, 2, 0] (ih _ _ _ H) rfl)
noncomputable def f_X11_longest  (s : Sg) : Option (Int32 × Sg) :=
  f_X11_longest_b4 BIG (-1) 0 s
set_option maxRecDepth 100000 in
theorem w_X11_longest {d : Nat} {s : Sg} {Q : Qt}  (H : OQ (f_X11_longest  s) (fun r9 s9 => Q (some (.int r9)) s9)) : WpM SHC MT (d + 3) 137 [.ref 0] s Q := by
  refine WpM.enter me_X11_longest rfl rfl ?_
  show Y_X11_longest d Q 0 [(0, .ref 0)] [] s
  unfold f_X11_longest at H
  exact Wp.r_iconst (pc := 0) o_X11_longest rfl (Wp.r_istore_n1 (pc := 1) o_X11_longest rfl (Wp.r_iconst (pc := 2) o_X11_longest rfl (Wp.r_istore_n2 (pc := 3) o_X11_longest rfl (Wp.weak2 [2, 1, 0] (w_X11_longest_b4 _ _ _ _ H) rfl))))
noncomputable abbrev Y_X11_fullest (d : Nat) (Q : Qt) : Xt := Wp SHC (WpM SHC MT (d + 2)) (flat2 cq_X11_fullest) (some .int) Q
noncomputable def f_X11_fullest_b4 : Nat → Int32 → Int32 → Sg → Option (Int32 × Sg)
  | 0, _, _, _ => none
  | n + 1, v1, v2, s =>
    if (s.1 25 13) ≤ v2 then
      bd (f_X11_answerIfAny v1 s) (fun r1 s2 =>
      some (r1, s2)
      )
    else
      bd (f_X4_isGone v2 s) (fun r3 s4 =>
      if r3 = 0 then
        if v1 = (-1) then
          (f_X11_fullest_b4 n) v2 (v2 + 1) s4
        else
          bd (f_X2_lying v2 s4) (fun r5 s6 =>
          bd (f_X2_lying v1 s6) (fun r7 s8 =>
          if r5 ≤ r7 then
            (f_X11_fullest_b4 n) v1 (v2 + 1) s8
          else
            (f_X11_fullest_b4 n) v2 (v2 + 1) s8
          )
          )
      else
        (f_X11_fullest_b4 n) v1 (v2 + 1) s4
      )
set_option maxRecDepth 100000 in
theorem w_X11_fullest_b4 {d : Nat} {Q : Qt} (n : Nat) : ∀ (v1 : Int32) (v2 : Int32) (s : Sg), OQ (f_X11_fullest_b4 n v1 v2 s) (fun r9 s9 => Q (some (.int r9)) s9) → Y_X11_fullest d Q 4 [(0, .ref 0), (1, .int v1), (2, .int v2)] [] s := by
  induction n with
  | zero => intro v1 v2 s H; exact H.elim
  | succ n ih =>
    intro v1 v2 s H
    unfold f_X11_fullest_b4 at H
    refine Wp.r_iload_n2 (pc := 4) o_X11_fullest rfl rfl (Wp.f_al0_gfr (pc := 5) o_X11_fullest rfl rfl rfl fk_C_0_5 (Wp.r_gfi (pc := 9) o_X11_fullest rfl fk_C_25_13 (Wp.r_icmp_ge (pc := 12) o_X11_fullest rfl (fun c9 => ?_) (fun c9 => ?_))))
    · have H := oq_t c9 H
      refine Wp.r_aload_n0 (pc := 58) o_X11_fullest rfl rfl (Wp.r_iload_n1 (pc := 59) o_X11_fullest rfl rfl (Wp.r_cv2 (pc := 60) o_X11_fullest rfl fk_C_0_0 (⟨rm8_ rfl, ?_⟩)))
      refine w_X11_answerIfAny (d := d) _ ?_
      refine oq_bd H (fun r1 s2 H => ?_)
      exact Wp.r_ireturn (pc := 63) o_X11_fullest rfl (⟨rfl, H⟩)
    · have H := oq_f c9 H
      refine Wp.f_al0_gfr (pc := 15) o_X11_fullest rfl rfl rfl fk_C_0_5 (Wp.r_iload_n2 (pc := 19) o_X11_fullest rfl rfl (Wp.r_cv2 (pc := 20) o_X11_fullest rfl fk_C_25_0 (⟨rm8_ rfl, ?_⟩)))
      refine w_X4_isGone (d := d + 1) _ ?_
      refine oq_bd H (fun r3 s4 H => ?_)
      refine Wp.r_if_ne (pc := 23) o_X11_fullest rfl (fun c9 => ?_) (fun c9 => ?_)
      · have H := oq_t c9 H
        refine Wp.r_iload_n1 (pc := 26) o_X11_fullest rfl rfl (Wp.r_iconst (pc := 27) o_X11_fullest rfl (Wp.r_icmp_eq (pc := 28) o_X11_fullest rfl (fun c9 => ?_) (fun c9 => ?_)))
        · have H := oq_t c9 H
          exact Wp.r_iload_n2 (pc := 50) o_X11_fullest rfl rfl (Wp.r_istore_n1 (pc := 51) o_X11_fullest rfl (Wp.f_iinc_goto (pc := 52) o_X11_fullest rfl rfl rfl (Wp.weak2 [2, 1, 0] (ih _ _ _ H) rfl)))
        · have H := oq_f c9 H
          refine Wp.f_al0_gfr (pc := 31) o_X11_fullest rfl rfl rfl fk_C_0_6 (Wp.r_iload_n2 (pc := 35) o_X11_fullest rfl rfl (Wp.r_cv2 (pc := 36) o_X11_fullest rfl fk_C_26_0 (⟨rm8_ rfl, ?_⟩)))
          refine w_X2_lying (d := d + 1) _ ?_
          refine oq_bd H (fun r5 s6 H => ?_)
          refine Wp.f_al0_gfr (pc := 39) o_X11_fullest rfl rfl rfl fk_C_0_6 (Wp.r_iload_n1 (pc := 43) o_X11_fullest rfl rfl (Wp.r_cv2 (pc := 44) o_X11_fullest rfl fk_C_26_0 (⟨rm8_ rfl, ?_⟩)))
          refine w_X2_lying (d := d + 1) _ ?_
          refine oq_bd H (fun r7 s8 H => ?_)
          refine Wp.r_icmp_le (pc := 47) o_X11_fullest rfl (fun c9 => ?_) (fun c9 => ?_)
          · have H := oq_t c9 H
            exact Wp.f_iinc_goto (pc := 52) o_X11_fullest rfl rfl rfl (Wp.weak2 [1, 2, 0] (ih _ _ _ H) rfl)
          · have H := oq_f c9 H
            exact Wp.r_iload_n2 (pc := 50) o_X11_fullest rfl rfl (Wp.r_istore_n1 (pc := 51) o_X11_fullest rfl (Wp.f_iinc_goto (pc := 52) o_X11_fullest rfl rfl rfl (Wp.weak2 [2, 1, 0] (ih _ _ _ H) rfl)))
      · have H := oq_f c9 H
        exact Wp.f_iinc_goto (pc := 52) o_X11_fullest rfl rfl rfl (Wp.weak2 [1, 2, 0] (ih _ _ _ H) rfl)
noncomputable def f_X11_fullest  (s : Sg) : Option (Int32 × Sg) :=
  f_X11_fullest_b4 BIG (-1) 0 s
set_option maxRecDepth 100000 in
theorem w_X11_fullest {d : Nat} {s : Sg} {Q : Qt}  (H : OQ (f_X11_fullest  s) (fun r9 s9 => Q (some (.int r9)) s9)) : WpM SHC MT (d + 3) 138 [.ref 0] s Q := by
  refine WpM.enter me_X11_fullest rfl rfl ?_
  show Y_X11_fullest d Q 0 [(0, .ref 0)] [] s
  unfold f_X11_fullest at H
  exact Wp.r_iconst (pc := 0) o_X11_fullest rfl (Wp.r_istore_n1 (pc := 1) o_X11_fullest rfl (Wp.r_iconst (pc := 2) o_X11_fullest rfl (Wp.r_istore_n2 (pc := 3) o_X11_fullest rfl (Wp.weak2 [2, 1, 0] (w_X11_fullest_b4 _ _ _ _ H) rfl))))
noncomputable abbrev Y_X9_wantedAt_26_25 (d : Nat) (Q : Qt) : Xt := Wp SHC (WpM SHC MT (d + 2)) (flat2 cq_X9_wantedAt) (some .int) Q
noncomputable def f_X9_wantedAt_26_25_b73 (k_27 : Int32 → Int32 → Int32 → Int32 → Sg → Option (Int32 × Sg)) (v2 : Int32) (v3 : Int32) (v4 : Int32) (v5 : Int32) (t0 : Int32) (s : Sg) : Option (Int32 × Sg) :=
  bd (f_X2_inSight t0 s) (fun r10 s11 =>
  bd (f_X9_contentAt_25 t0 r10 (-1) s11) (fun r12 s13 =>
  nmx (v4 ||| (r12 &&& ((1 : Int32) <<< (v5 &&& 31))) : Int32) (fun x14 =>
  k_27 v2 v3 x14 (v5 + 1) s13
  )
  )
  )
set_option maxRecDepth 100000 in
theorem w_X9_wantedAt_26_25_b73 {d : Nat} {Q : Qt} (k_27 : Int32 → Int32 → Int32 → Int32 → Sg → Option (Int32 × Sg)) (h_27 : ∀ (v2 : Int32) (v3 : Int32) (v4 : Int32) (v5 : Int32) s, OQ (k_27 v2 v3 v4 v5 s) (fun r9 s9 => Q (some (.int r9)) s9) → Y_X9_wantedAt_26_25 d Q 27 [(0, .ref 25), (1, .ref 26), (2, .int v2), (3, .int v3), (4, .int v4), (5, .int v5)] [] s) (v2 : Int32) (v3 : Int32) (v4 : Int32) (v5 : Int32) (t0 : Int32) (s : Sg) (H : OQ (f_X9_wantedAt_26_25_b73 k_27 v2 v3 v4 v5 t0 s) (fun r9 s9 => Q (some (.int r9)) s9)) : Y_X9_wantedAt_26_25 d Q 73 [(0, .ref 25), (1, .ref 26), (2, .int v2), (3, .int v3), (4, .int v4), (5, .int v5)] [.int t0] s := by
  unfold f_X9_wantedAt_26_25_b73 at H
  refine Wp.r_istore (pc := 73) o_X9_wantedAt rfl (Wp.r_iload (pc := 75) o_X9_wantedAt rfl rfl (Wp.r_aload_n0 (pc := 77) o_X9_wantedAt rfl rfl (Wp.r_iload (pc := 78) o_X9_wantedAt rfl rfl (Wp.r_aload_n1 (pc := 80) o_X9_wantedAt rfl rfl (Wp.r_iload (pc := 81) o_X9_wantedAt rfl rfl (Wp.r_cv2 (pc := 83) o_X9_wantedAt rfl fk_C_26_0 (⟨rm8_ rfl, ?_⟩)))))))
  refine w_X2_inSight (d := d) _ ?_
  refine oq_bd H (fun r10 s11 H => ?_)
  refine Wp.r_iconst (pc := 86) o_X9_wantedAt rfl (Wp.r_cs4 (pc := 87) o_X9_wantedAt rfl (⟨rm8_ rfl, ?_⟩))
  refine w_X9_contentAt_25 (d := d) _ _ _ ?_
  refine oq_bd H (fun r12 s13 H => ?_)
  refine Wp.r_iconst (pc := 90) o_X9_wantedAt rfl (Wp.r_iload (pc := 91) o_X9_wantedAt rfl rfl (Wp.r_ishl (pc := 93) o_X9_wantedAt rfl (Wp.r_iand (pc := 94) o_X9_wantedAt rfl (Wp.r_ior (pc := 95) o_X9_wantedAt rfl (Wp.r_istore (pc := 96) o_X9_wantedAt rfl (show Y_X9_wantedAt_26_25 d Q 98 [(4, .int (v4 ||| (r12 &&& ((1 : Int32) <<< (v5 &&& 31))))), (6, .int t0), (0, .ref 25), (1, .ref 26), (2, .int v2), (3, .int v3), (5, .int v5)] [] s13 from ?_))))))
  revert H
  generalize (v4 ||| (r12 &&& ((1 : Int32) <<< (v5 &&& 31))) : Int32) = x14
  intro H
  have H := nmx_e H
  exact Wp.f_iinc_goto (pc := 98) o_X9_wantedAt rfl rfl rfl (Wp.weak2 [3, 4, 5, 6, 1, 0] (h_27 _ _ _ _ _ H) rfl)
noncomputable def f_X9_wantedAt_26_25_b27 : Nat → Int32 → Int32 → Int32 → Int32 → Sg → Option (Int32 × Sg)
  | 0, _, _, _, _, _ => none
  | n + 1, v2, v3, v4, v5, s =>
    if (s.1 25 14) ≤ v5 then
      some (v4, s)
    else
      bd (f_X11_has v3 v5 s) (fun r7 s8 =>
      if r7 = 0 then
        (f_X9_wantedAt_26_25_b27 n) v2 v3 v4 (v5 + 1) s8
      else
        ck (inr v5 8) (
        if (s8.1 31 v5.toNatClampNeg) = v2 then
          f_X9_wantedAt_26_25_b73 (f_X9_wantedAt_26_25_b27 n) v2 v3 v4 v5 (s8.1 32 v5.toNatClampNeg) s8
        else
          f_X9_wantedAt_26_25_b73 (f_X9_wantedAt_26_25_b27 n) v2 v3 v4 v5 (s8.1 31 v5.toNatClampNeg) s8
        )
      )
set_option maxRecDepth 100000 in
theorem w_X9_wantedAt_26_25_b27 {d : Nat} {Q : Qt} (n : Nat) : ∀ (v2 : Int32) (v3 : Int32) (v4 : Int32) (v5 : Int32) (s : Sg), OQ (f_X9_wantedAt_26_25_b27 n v2 v3 v4 v5 s) (fun r9 s9 => Q (some (.int r9)) s9) → Y_X9_wantedAt_26_25 d Q 27 [(0, .ref 25), (1, .ref 26), (2, .int v2), (3, .int v3), (4, .int v4), (5, .int v5)] [] s := by
  induction n with
  | zero => intro v2 v3 v4 v5 s H; exact H.elim
  | succ n ih =>
    intro v2 v3 v4 v5 s H
    unfold f_X9_wantedAt_26_25_b27 at H
    refine Wp.r_iload (pc := 27) o_X9_wantedAt rfl rfl (Wp.f_al0_gfi (pc := 29) o_X9_wantedAt rfl rfl rfl fk_C_25_14 (Wp.r_icmp_ge (pc := 33) o_X9_wantedAt rfl (fun c9 => ?_) (fun c9 => ?_)))
    · have H := oq_t c9 H
      exact Wp.r_iload (pc := 104) o_X9_wantedAt rfl rfl (Wp.r_ireturn (pc := 106) o_X9_wantedAt rfl (⟨rfl, H⟩))
    · have H := oq_f c9 H
      refine Wp.r_iload_n3 (pc := 36) o_X9_wantedAt rfl rfl (Wp.r_iload (pc := 37) o_X9_wantedAt rfl rfl (Wp.r_cs2 (pc := 39) o_X9_wantedAt rfl (⟨rm8_ rfl, ?_⟩)))
      refine w_X11_has (d := d + 1) _ _ ?_
      refine oq_bd H (fun r7 s8 H => ?_)
      refine Wp.r_if_eq (pc := 42) o_X9_wantedAt rfl (fun c9 => ?_) (fun c9 => ?_)
      · have H := oq_t c9 H
        exact Wp.f_iinc_goto (pc := 98) o_X9_wantedAt rfl rfl rfl (Wp.weak2 [1, 2, 3, 4, 5, 0] (ih _ _ _ _ _ H) rfl)
      · have H := oq_f c9 H
        obtain ⟨hc9, H⟩ := oq_ck H
        refine Wp.f_al0_gfr (pc := 45) o_X9_wantedAt rfl rfl rfl fk_C_25_3 (Wp.r_iload (pc := 49) o_X9_wantedAt rfl rfl (Wp.r_iaload (pc := 51) o_X9_wantedAt rfl ak_C_31 (⟨hc9, ?_⟩)))
        refine Wp.r_iload_n2 (pc := 52) o_X9_wantedAt rfl rfl (Wp.r_icmp_ne (pc := 53) o_X9_wantedAt rfl (fun c9 => ?_) (fun c9 => ?_))
        · have H := oq_t c9 H
          refine Wp.f_al0_gfr (pc := 56) o_X9_wantedAt rfl rfl rfl fk_C_25_4 (Wp.r_iload (pc := 60) o_X9_wantedAt rfl rfl (Wp.r_iaload (pc := 62) o_X9_wantedAt rfl ak_C_32 (⟨hc9, ?_⟩)))
          exact Wp.r_goto (pc := 63) o_X9_wantedAt rfl (Wp.weak2 [0, 1, 2, 3, 4, 5] (w_X9_wantedAt_26_25_b73 (f_X9_wantedAt_26_25_b27 n) ih _ _ _ _ _ _ H) rfl)
        · have H := oq_f c9 H
          refine Wp.f_al0_gfr (pc := 66) o_X9_wantedAt rfl rfl rfl fk_C_25_3 (Wp.r_iload (pc := 70) o_X9_wantedAt rfl rfl (Wp.r_iaload (pc := 72) o_X9_wantedAt rfl ak_C_31 (⟨hc9, ?_⟩)))
          exact Wp.weak2 [0, 1, 2, 3, 4, 5] (w_X9_wantedAt_26_25_b73 (f_X9_wantedAt_26_25_b27 n) ih _ _ _ _ _ _ H) rfl
noncomputable def f_X9_wantedAt_26_25 (a2 : Int32) (s : Sg) : Option (Int32 × Sg) :=
  ck (inr a2 8) (
  bd (f_X2_inSight a2 s) (fun r2 s3 =>
  bd (f_X9_contentAt_25 a2 r2 (-1) s3) (fun r4 s5 =>
  nmx ((s.1 34 a2.toNatClampNeg) &&& (r4 ^^^ (-1)) : Int32) (fun x6 =>
  f_X9_wantedAt_26_25_b27 BIG a2 x6 0 0 s5
  )
  )
  )
  )
set_option maxRecDepth 100000 in
theorem w_X9_wantedAt_26_25 {d : Nat} {s : Sg} {Q : Qt} (a2 : Int32) (H : OQ (f_X9_wantedAt_26_25 a2 s) (fun r9 s9 => Q (some (.int r9)) s9)) : WpM SHC MT (d + 3) 97 [.ref 25, .ref 26, .int a2] s Q := by
  refine WpM.enter me_X9_wantedAt rfl rfl ?_
  show Y_X9_wantedAt_26_25 d Q 0 [(0, .ref 25), (1, .ref 26), (2, .int a2)] [] s
  unfold f_X9_wantedAt_26_25 at H
  obtain ⟨hc1, H⟩ := oq_ck H
  refine Wp.f_al0_gfr (pc := 0) o_X9_wantedAt rfl rfl rfl fk_C_25_6 (Wp.r_iload_n2 (pc := 4) o_X9_wantedAt rfl rfl (Wp.r_iaload (pc := 5) o_X9_wantedAt rfl ak_C_34 (⟨hc1, ?_⟩)))
  refine Wp.r_aload_n0 (pc := 6) o_X9_wantedAt rfl rfl (Wp.r_iload_n2 (pc := 7) o_X9_wantedAt rfl rfl (Wp.r_aload_n1 (pc := 8) o_X9_wantedAt rfl rfl (Wp.r_iload_n2 (pc := 9) o_X9_wantedAt rfl rfl (Wp.r_cv2 (pc := 10) o_X9_wantedAt rfl fk_C_26_0 (⟨rm8_ rfl, ?_⟩)))))
  refine w_X2_inSight (d := d) _ ?_
  refine oq_bd H (fun r2 s3 H => ?_)
  refine Wp.r_iconst (pc := 13) o_X9_wantedAt rfl (Wp.r_cs4 (pc := 14) o_X9_wantedAt rfl (⟨rm8_ rfl, ?_⟩))
  refine w_X9_contentAt_25 (d := d) _ _ _ ?_
  refine oq_bd H (fun r4 s5 H => ?_)
  refine Wp.r_iconst (pc := 17) o_X9_wantedAt rfl (Wp.r_ixor (pc := 18) o_X9_wantedAt rfl (Wp.r_iand (pc := 19) o_X9_wantedAt rfl (Wp.r_istore_n3 (pc := 20) o_X9_wantedAt rfl (show Y_X9_wantedAt_26_25 d Q 21 [(3, .int ((s.1 34 a2.toNatClampNeg) &&& (r4 ^^^ (-1)))), (0, .ref 25), (1, .ref 26), (2, .int a2)] [] s5 from ?_))))
  revert H
  generalize ((s.1 34 a2.toNatClampNeg) &&& (r4 ^^^ (-1)) : Int32) = x6
  intro H
  have H := nmx_e H
  exact Wp.r_iconst (pc := 21) o_X9_wantedAt rfl (Wp.r_istore (pc := 22) o_X9_wantedAt rfl (Wp.r_iconst (pc := 24) o_X9_wantedAt rfl (Wp.r_istore (pc := 25) o_X9_wantedAt rfl (Wp.weak2 [3, 4, 5, 2, 1, 0] (w_X9_wantedAt_26_25_b27 _ _ _ _ _ _ H) rfl))))
noncomputable abbrev Y_bitCount (d : Nat) (Q : Qt) : Xt := Wp SHC (WpM SHC MT (d + 0)) (flat2 cq_J6_bitCount_0f7a4) (some .int) Q
noncomputable def f_bitCount (a0 : Int32) (s : Sg) : Option (Int32 × Sg) :=
  nmx (a0 - (((a0.toUInt32 >>> ((1 : Int32).toUInt32 &&& Int32.toUInt32 31)).toInt32) &&& 1431655765) : Int32) (fun x1 =>
  nmx ((x1 &&& 858993459) + (((x1.toUInt32 >>> ((2 : Int32).toUInt32 &&& Int32.toUInt32 31)).toInt32) &&& 858993459) : Int32) (fun x2 =>
  nmx ((x2 + ((x2.toUInt32 >>> ((4 : Int32).toUInt32 &&& Int32.toUInt32 31)).toInt32)) &&& 252645135 : Int32) (fun x3 =>
  nmx (x3 + ((x3.toUInt32 >>> ((8 : Int32).toUInt32 &&& Int32.toUInt32 31)).toInt32) : Int32) (fun x4 =>
  nmx (x4 + ((x4.toUInt32 >>> ((16 : Int32).toUInt32 &&& Int32.toUInt32 31)).toInt32) : Int32) (fun x5 =>
  some (x5 &&& 63, s)
  )
  )
  )
  )
  )
set_option maxRecDepth 100000 in
theorem w_bitCount {d : Nat} {s : Sg} {Q : Qt} (a0 : Int32) (H : OQ (f_bitCount a0 s) (fun r9 s9 => Q (some (.int r9)) s9)) : WpM SHC MT (d + 1) 330 [.int a0] s Q := by
  refine WpM.enter me_J6_bitCount_0f7a4 rfl rfl ?_
  show Y_bitCount d Q 0 [(0, .int a0)] [] s
  unfold f_bitCount at H
  refine Wp.r_iload_n0 (pc := 0) o_J6_bitCount_0f7a4 rfl rfl (Wp.r_iload_n0 (pc := 1) o_J6_bitCount_0f7a4 rfl rfl (Wp.r_iconst (pc := 2) o_J6_bitCount_0f7a4 rfl (Wp.r_iushr (pc := 3) o_J6_bitCount_0f7a4 rfl (Wp.r_ldc_w (pc := 4) o_J6_bitCount_0f7a4 rfl (Wp.r_iand (pc := 7) o_J6_bitCount_0f7a4 rfl (Wp.r_isub (pc := 8) o_J6_bitCount_0f7a4 rfl (Wp.r_istore_n0 (pc := 9) o_J6_bitCount_0f7a4 rfl (show Y_bitCount d Q 10 [(0, .int (a0 - (((a0.toUInt32 >>> ((1 : Int32).toUInt32 &&& Int32.toUInt32 31)).toInt32) &&& 1431655765)))] [] s from ?_))))))))
  revert H
  generalize (a0 - (((a0.toUInt32 >>> ((1 : Int32).toUInt32 &&& Int32.toUInt32 31)).toInt32) &&& 1431655765) : Int32) = x1
  intro H
  have H := nmx_e H
  refine Wp.r_iload_n0 (pc := 10) o_J6_bitCount_0f7a4 rfl rfl (Wp.r_ldc_w (pc := 11) o_J6_bitCount_0f7a4 rfl (Wp.r_iand (pc := 14) o_J6_bitCount_0f7a4 rfl (Wp.r_iload_n0 (pc := 15) o_J6_bitCount_0f7a4 rfl rfl (Wp.r_iconst (pc := 16) o_J6_bitCount_0f7a4 rfl (Wp.r_iushr (pc := 17) o_J6_bitCount_0f7a4 rfl (Wp.r_ldc_w (pc := 18) o_J6_bitCount_0f7a4 rfl (Wp.r_iand (pc := 21) o_J6_bitCount_0f7a4 rfl (Wp.r_iadd (pc := 22) o_J6_bitCount_0f7a4 rfl (Wp.r_istore_n0 (pc := 23) o_J6_bitCount_0f7a4 rfl (show Y_bitCount d Q 24 [(0, .int ((x1 &&& 858993459) + (((x1.toUInt32 >>> ((2 : Int32).toUInt32 &&& Int32.toUInt32 31)).toInt32) &&& 858993459)))] [] s from ?_))))))))))
  revert H
  generalize ((x1 &&& 858993459) + (((x1.toUInt32 >>> ((2 : Int32).toUInt32 &&& Int32.toUInt32 31)).toInt32) &&& 858993459) : Int32) = x2
  intro H
  have H := nmx_e H
  refine Wp.r_iload_n0 (pc := 24) o_J6_bitCount_0f7a4 rfl rfl (Wp.r_iload_n0 (pc := 25) o_J6_bitCount_0f7a4 rfl rfl (Wp.r_iconst (pc := 26) o_J6_bitCount_0f7a4 rfl (Wp.r_iushr (pc := 27) o_J6_bitCount_0f7a4 rfl (Wp.r_iadd (pc := 28) o_J6_bitCount_0f7a4 rfl (Wp.r_ldc_w (pc := 29) o_J6_bitCount_0f7a4 rfl (Wp.r_iand (pc := 32) o_J6_bitCount_0f7a4 rfl (Wp.r_istore_n0 (pc := 33) o_J6_bitCount_0f7a4 rfl (show Y_bitCount d Q 34 [(0, .int ((x2 + ((x2.toUInt32 >>> ((4 : Int32).toUInt32 &&& Int32.toUInt32 31)).toInt32)) &&& 252645135))] [] s from ?_))))))))
  revert H
  generalize ((x2 + ((x2.toUInt32 >>> ((4 : Int32).toUInt32 &&& Int32.toUInt32 31)).toInt32)) &&& 252645135 : Int32) = x3
  intro H
  have H := nmx_e H
  refine Wp.r_iload_n0 (pc := 34) o_J6_bitCount_0f7a4 rfl rfl (Wp.r_iload_n0 (pc := 35) o_J6_bitCount_0f7a4 rfl rfl (Wp.r_bipush (pc := 36) o_J6_bitCount_0f7a4 rfl (Wp.r_iushr (pc := 38) o_J6_bitCount_0f7a4 rfl (Wp.r_iadd (pc := 39) o_J6_bitCount_0f7a4 rfl (Wp.r_istore_n0 (pc := 40) o_J6_bitCount_0f7a4 rfl (show Y_bitCount d Q 41 [(0, .int (x3 + ((x3.toUInt32 >>> ((8 : Int32).toUInt32 &&& Int32.toUInt32 31)).toInt32)))] [] s from ?_))))))
  revert H
  generalize (x3 + ((x3.toUInt32 >>> ((8 : Int32).toUInt32 &&& Int32.toUInt32 31)).toInt32) : Int32) = x4
  intro H
  have H := nmx_e H
  refine Wp.r_iload_n0 (pc := 41) o_J6_bitCount_0f7a4 rfl rfl (Wp.r_iload_n0 (pc := 42) o_J6_bitCount_0f7a4 rfl rfl (Wp.r_bipush (pc := 43) o_J6_bitCount_0f7a4 rfl (Wp.r_iushr (pc := 45) o_J6_bitCount_0f7a4 rfl (Wp.r_iadd (pc := 46) o_J6_bitCount_0f7a4 rfl (Wp.r_istore_n0 (pc := 47) o_J6_bitCount_0f7a4 rfl (show Y_bitCount d Q 48 [(0, .int (x4 + ((x4.toUInt32 >>> ((16 : Int32).toUInt32 &&& Int32.toUInt32 31)).toInt32)))] [] s from ?_))))))
  revert H
  generalize (x4 + ((x4.toUInt32 >>> ((16 : Int32).toUInt32 &&& Int32.toUInt32 31)).toInt32) : Int32) = x5
  intro H
  have H := nmx_e H
  exact Wp.r_iload_n0 (pc := 48) o_J6_bitCount_0f7a4 rfl rfl (Wp.r_bipush (pc := 49) o_J6_bitCount_0f7a4 rfl (Wp.r_iand (pc := 51) o_J6_bitCount_0f7a4 rfl (Wp.r_ireturn (pc := 52) o_J6_bitCount_0f7a4 rfl (⟨rfl, H⟩))))
noncomputable abbrev Y_X9_broughtBy_26_25 (d : Nat) (Q : Qt) : Xt := Wp SHC (WpM SHC MT (d + 3)) (flat2 cq_X9_broughtBy) (some .int) Q
noncomputable def f_X9_broughtBy_26_25 (a2 : Int32) (a3 : Int32) (s : Sg) : Option (Int32 × Sg) :=
  bd (f_X4_isGone a2 s) (fun r1 s2 =>
  if r1 = 0 then
    ck (inr a2 8) (
    if (s2.1 42 a2.toNatClampNeg) ≤ 0 then
      bd (f_X2_lying a2 s2) (fun r4 s5 =>
      bd (f_X9_contentAt_25 a2 (r4 + a3) (-1) s5) (fun r6 s7 =>
      bd (f_X9_wantedAt_26_25 a2 s7) (fun r8 s9 =>
      bd (f_bitCount (r6 &&& r8) s9) (fun r10 s11 =>
      some (r10, s11)
      )
      )
      )
      )
    else
      some (0, s2)
    )
  else
    some (0, s2)
  )
set_option maxRecDepth 100000 in
theorem w_X9_broughtBy_26_25 {d : Nat} {s : Sg} {Q : Qt} (a2 : Int32) (a3 : Int32) (H : OQ (f_X9_broughtBy_26_25 a2 a3 s) (fun r9 s9 => Q (some (.int r9)) s9)) : WpM SHC MT (d + 4) 99 [.ref 25, .ref 26, .int a2, .int a3] s Q := by
  refine WpM.enter me_X9_broughtBy rfl rfl ?_
  show Y_X9_broughtBy_26_25 d Q 0 [(0, .ref 25), (1, .ref 26), (2, .int a2), (3, .int a3)] [] s
  unfold f_X9_broughtBy_26_25 at H
  refine Wp.r_aload_n0 (pc := 0) o_X9_broughtBy rfl rfl (Wp.r_iload_n2 (pc := 1) o_X9_broughtBy rfl rfl (Wp.r_cv2 (pc := 2) o_X9_broughtBy rfl fk_C_25_0 (⟨rm8_ rfl, ?_⟩)))
  refine w_X4_isGone (d := d + 2) _ ?_
  refine oq_bd H (fun r1 s2 H => ?_)
  refine Wp.r_if_ne (pc := 5) o_X9_broughtBy rfl (fun c9 => ?_) (fun c9 => ?_)
  · have H := oq_t c9 H
    obtain ⟨hc3, H⟩ := oq_ck H
    refine Wp.f_al1_gfr (pc := 8) o_X9_broughtBy rfl rfl rfl fk_C_26_2 (Wp.r_iload_n2 (pc := 12) o_X9_broughtBy rfl rfl (Wp.r_iaload (pc := 13) o_X9_broughtBy rfl ak_C_42 (⟨hc3, ?_⟩)))
    refine Wp.r_if_le (pc := 14) o_X9_broughtBy rfl (fun c9 => ?_) (fun c9 => ?_)
    · have H := oq_t c9 H
      refine Wp.r_aload_n0 (pc := 19) o_X9_broughtBy rfl rfl (Wp.r_iload_n2 (pc := 20) o_X9_broughtBy rfl rfl (Wp.r_aload_n1 (pc := 21) o_X9_broughtBy rfl rfl (Wp.r_iload_n2 (pc := 22) o_X9_broughtBy rfl rfl (Wp.r_cv2 (pc := 23) o_X9_broughtBy rfl fk_C_26_0 (⟨rm8_ rfl, ?_⟩)))))
      refine w_X2_lying (d := d + 2) _ ?_
      refine oq_bd H (fun r4 s5 H => ?_)
      refine Wp.r_iload_n3 (pc := 26) o_X9_broughtBy rfl rfl (Wp.r_iadd (pc := 27) o_X9_broughtBy rfl (Wp.r_iconst (pc := 28) o_X9_broughtBy rfl (Wp.r_cs4 (pc := 29) o_X9_broughtBy rfl (⟨rm8_ rfl, ?_⟩))))
      refine w_X9_contentAt_25 (d := d + 1) _ _ _ ?_
      refine oq_bd H (fun r6 s7 H => ?_)
      refine Wp.r_istore (pc := 32) o_X9_broughtBy rfl (Wp.r_iload (pc := 34) o_X9_broughtBy rfl rfl (Wp.r_aload_n0 (pc := 36) o_X9_broughtBy rfl rfl (Wp.r_aload_n1 (pc := 37) o_X9_broughtBy rfl rfl (Wp.r_iload_n2 (pc := 38) o_X9_broughtBy rfl rfl (Wp.r_cs3 (pc := 39) o_X9_broughtBy rfl (⟨rm8_ rfl, ?_⟩))))))
      refine w_X9_wantedAt_26_25 (d := d) _ ?_
      refine oq_bd H (fun r8 s9 H => ?_)
      refine Wp.r_iand (pc := 42) o_X9_broughtBy rfl (Wp.r_cs1 (pc := 43) o_X9_broughtBy rfl (⟨rm8_ rfl, ?_⟩))
      refine w_bitCount (d := d + 2) _ ?_
      refine oq_bd H (fun r10 s11 H => ?_)
      exact Wp.r_ireturn (pc := 46) o_X9_broughtBy rfl (⟨rfl, H⟩)
    · have H := oq_f c9 H
      exact Wp.r_iconst (pc := 17) o_X9_broughtBy rfl (Wp.r_ireturn (pc := 18) o_X9_broughtBy rfl (⟨rfl, H⟩))
  · have H := oq_f c9 H
    exact Wp.r_iconst (pc := 17) o_X9_broughtBy rfl (Wp.r_ireturn (pc := 18) o_X9_broughtBy rfl (⟨rfl, H⟩))
noncomputable abbrev Y_X9_bestFor_26_25 (d : Nat) (Q : Qt) : Xt := Wp SHC (WpM SHC MT (d + 4)) (flat2 cq_X9_bestFor) (some .int) Q
noncomputable def f_X9_bestFor_26_25_b8 : Nat → Int32 → Int32 → Int32 → Int32 → Sg → Option (Int32 × Sg)
  | 0, _, _, _, _, _ => none
  | n + 1, v2, v3, v4, v5, s =>
    if (s.1 25 13) ≤ v5 then
      some (v3, s)
    else
      bd (f_X9_broughtBy_26_25 v5 v2 s) (fun r1 s2 =>
      if r1 ≤ v4 then
        (f_X9_bestFor_26_25_b8 n) v2 v3 v4 (v5 + 1) s2
      else
        (f_X9_bestFor_26_25_b8 n) v2 v5 r1 (v5 + 1) s2
      )
set_option maxRecDepth 100000 in
theorem w_X9_bestFor_26_25_b8 {d : Nat} {Q : Qt} (n : Nat) : ∀ (v2 : Int32) (v3 : Int32) (v4 : Int32) (v5 : Int32) (s : Sg), OQ (f_X9_bestFor_26_25_b8 n v2 v3 v4 v5 s) (fun r9 s9 => Q (some (.int r9)) s9) → Y_X9_bestFor_26_25 d Q 8 [(0, .ref 25), (1, .ref 26), (2, .int v2), (3, .int v3), (4, .int v4), (5, .int v5)] [] s := by
  induction n with
  | zero => intro v2 v3 v4 v5 s H; exact H.elim
  | succ n ih =>
    intro v2 v3 v4 v5 s H
    unfold f_X9_bestFor_26_25_b8 at H
    refine Wp.r_iload (pc := 8) o_X9_bestFor rfl rfl (Wp.f_al0_gfi (pc := 10) o_X9_bestFor rfl rfl rfl fk_C_25_13 (Wp.r_icmp_ge (pc := 14) o_X9_bestFor rfl (fun c9 => ?_) (fun c9 => ?_)))
    · have H := oq_t c9 H
      exact Wp.r_iload_n3 (pc := 47) o_X9_bestFor rfl rfl (Wp.r_ireturn (pc := 48) o_X9_bestFor rfl (⟨rfl, H⟩))
    · have H := oq_f c9 H
      refine Wp.r_aload_n0 (pc := 17) o_X9_bestFor rfl rfl (Wp.r_aload_n1 (pc := 18) o_X9_bestFor rfl rfl (Wp.r_iload (pc := 19) o_X9_bestFor rfl rfl (Wp.r_iload_n2 (pc := 21) o_X9_bestFor rfl rfl (Wp.r_cs4 (pc := 22) o_X9_bestFor rfl (⟨rm8_ rfl, ?_⟩)))))
      refine w_X9_broughtBy_26_25 (d := d) _ _ ?_
      refine oq_bd H (fun r1 s2 H => ?_)
      refine Wp.r_istore (pc := 25) o_X9_bestFor rfl (Wp.r_iload (pc := 27) o_X9_bestFor rfl rfl (Wp.r_iload (pc := 29) o_X9_bestFor rfl rfl (Wp.r_icmp_le (pc := 31) o_X9_bestFor rfl (fun c9 => ?_) (fun c9 => ?_))))
      · have H := oq_t c9 H
        exact Wp.f_iinc_goto (pc := 41) o_X9_bestFor rfl rfl rfl (Wp.weak2 [2, 3, 4, 5, 6, 0] (ih _ _ _ _ _ H) rfl)
      · have H := oq_f c9 H
        exact Wp.r_iload (pc := 34) o_X9_bestFor rfl rfl (Wp.r_istore (pc := 36) o_X9_bestFor rfl (Wp.r_iload (pc := 38) o_X9_bestFor rfl rfl (Wp.r_istore_n3 (pc := 40) o_X9_bestFor rfl (Wp.f_iinc_goto (pc := 41) o_X9_bestFor rfl rfl rfl (Wp.weak2 [4, 5, 6, 1, 2, 0] (ih _ _ _ _ _ H) rfl)))))
noncomputable def f_X9_bestFor_26_25 (a2 : Int32) (s : Sg) : Option (Int32 × Sg) :=
  f_X9_bestFor_26_25_b8 BIG a2 (-1) 0 0 s
set_option maxRecDepth 100000 in
theorem w_X9_bestFor_26_25 {d : Nat} {s : Sg} {Q : Qt} (a2 : Int32) (H : OQ (f_X9_bestFor_26_25 a2 s) (fun r9 s9 => Q (some (.int r9)) s9)) : WpM SHC MT (d + 5) 98 [.ref 25, .ref 26, .int a2] s Q := by
  refine WpM.enter me_X9_bestFor rfl rfl ?_
  show Y_X9_bestFor_26_25 d Q 0 [(0, .ref 25), (1, .ref 26), (2, .int a2)] [] s
  unfold f_X9_bestFor_26_25 at H
  exact Wp.r_iconst (pc := 0) o_X9_bestFor rfl (Wp.r_istore_n3 (pc := 1) o_X9_bestFor rfl (Wp.r_iconst (pc := 2) o_X9_bestFor rfl (Wp.r_istore (pc := 3) o_X9_bestFor rfl (Wp.r_iconst (pc := 5) o_X9_bestFor rfl (Wp.r_istore (pc := 6) o_X9_bestFor rfl (Wp.weak2 [3, 4, 5, 2, 1, 0] (w_X9_bestFor_26_25_b8 _ _ _ _ _ _ H) rfl))))))
noncomputable abbrev Y_X11_best (d : Nat) (Q : Qt) : Xt := Wp SHC (WpM SHC MT (d + 5)) (flat2 cq_X11_best) (some .int) Q
noncomputable def f_X11_best (a1 : Int32) (s : Sg) : Option (Int32 × Sg) :=
  bd (f_X11_within a1 1 999 s) (fun r1 s2 =>
  if r1 = 0 then
    bd (f_X11_refuse 1 s2) (fun r3 s4 =>
    some (r3, s4)
    )
  else
    bd (f_X9_bestFor_26_25 a1 s2) (fun r5 s6 =>
    bd (f_X11_answerIfAny r5 s6) (fun r7 s8 =>
    some (r7, s8)
    )
    )
  )
set_option maxRecDepth 100000 in
theorem w_X11_best {d : Nat} {s : Sg} {Q : Qt} (a1 : Int32) (H : OQ (f_X11_best a1 s) (fun r9 s9 => Q (some (.int r9)) s9)) : WpM SHC MT (d + 6) 139 [.ref 0, .int a1] s Q := by
  refine WpM.enter me_X11_best rfl rfl ?_
  show Y_X11_best d Q 0 [(0, .ref 0), (1, .int a1)] [] s
  unfold f_X11_best at H
  refine Wp.r_iload_n1 (pc := 0) o_X11_best rfl rfl (Wp.r_iconst (pc := 1) o_X11_best rfl (Wp.r_sipush (pc := 2) o_X11_best rfl (Wp.r_cs3 (pc := 5) o_X11_best rfl (⟨rm8_ rfl, ?_⟩))))
  refine w_X11_within (d := d + 4) _ _ _ ?_
  refine oq_bd H (fun r1 s2 H => ?_)
  refine Wp.r_if_ne (pc := 8) o_X11_best rfl (fun c9 => ?_) (fun c9 => ?_)
  · have H := oq_t c9 H
    refine Wp.f_al0_iconst (pc := 11) o_X11_best rfl rfl rfl (Wp.r_cv2 (pc := 13) o_X11_best rfl fk_C_0_0 (⟨rm8_ rfl, ?_⟩))
    refine w_X11_refuse (d := d + 4) _ ?_
    refine oq_bd H (fun r3 s4 H => ?_)
    exact Wp.r_ireturn (pc := 16) o_X11_best rfl (⟨rfl, H⟩)
  · have H := oq_f c9 H
    refine Wp.r_aload_n0 (pc := 17) o_X11_best rfl rfl (Wp.f_al0_gfr (pc := 18) o_X11_best rfl rfl rfl fk_C_0_5 (Wp.f_al0_gfr (pc := 22) o_X11_best rfl rfl rfl fk_C_0_6 (Wp.r_iload_n1 (pc := 26) o_X11_best rfl rfl (Wp.r_cs3 (pc := 27) o_X11_best rfl (⟨rm8_ rfl, ?_⟩)))))
    refine w_X9_bestFor_26_25 (d := d) _ ?_
    refine oq_bd H (fun r5 s6 H => ?_)
    refine Wp.r_cv2 (pc := 30) o_X11_best rfl fk_C_0_0 (⟨rm8_ rfl, ?_⟩)
    refine w_X11_answerIfAny (d := d + 3) _ ?_
    refine oq_bd H (fun r7 s8 H => ?_)
    exact Wp.r_ireturn (pc := 33) o_X11_best rfl (⟨rfl, H⟩)
noncomputable abbrev Y_X11_clearRow_20 (d : Nat) (Q : Qt) : Xt := Wp SHC (WpM SHC MT (d + 0)) (flat2 cq_X11_clearRow) (none) Q
noncomputable def f_X11_clearRow_20_b2 : Nat → Int32 → Sg → Option (Unit × Sg)
  | 0, _, _ => none
  | n + 1, v1, s =>
    if 8 ≤ v1 then
      some ((), s)
    else
      ck (inr v1 8) (
      (f_X11_clearRow_20_b2 n) (v1 + 1) (pI s 20 v1.toNatClampNeg 0)
      )
set_option maxRecDepth 100000 in
theorem w_X11_clearRow_20_b2 {d : Nat} {Q : Qt} (n : Nat) : ∀ (v1 : Int32) (s : Sg), OQ (f_X11_clearRow_20_b2 n v1 s) (fun _ s9 => Q none s9) → Y_X11_clearRow_20 d Q 2 [(0, .ref 20), (1, .int v1)] [] s := by
  induction n with
  | zero => intro v1 s H; exact H.elim
  | succ n ih =>
    intro v1 s H
    unfold f_X11_clearRow_20_b2 at H
    refine Wp.r_iload_n1 (pc := 2) o_X11_clearRow rfl rfl (Wp.f_al0_alen (pc := 3) o_X11_clearRow rfl rfl rfl lk_C_20 (Wp.r_icmp_ge (pc := 5) o_X11_clearRow rfl (fun c9 => ?_) (fun c9 => ?_)))
    · have H := oq_t c9 H
      exact Wp.r_return (pc := 18) o_X11_clearRow rfl (H)
    · have H := oq_f c9 H
      obtain ⟨hc1, H⟩ := oq_ck H
      refine Wp.r_aload_n0 (pc := 8) o_X11_clearRow rfl rfl (Wp.r_iload_n1 (pc := 9) o_X11_clearRow rfl rfl (Wp.r_iconst (pc := 10) o_X11_clearRow rfl (Wp.r_iastore (pc := 11) o_X11_clearRow rfl ak_C_20 (⟨hc1, ?_⟩))))
      exact Wp.f_iinc_goto (pc := 12) o_X11_clearRow rfl rfl rfl (Wp.weak2 [1, 0] (ih _ _ H) rfl)
noncomputable def f_X11_clearRow_20  (s : Sg) : Option (Unit × Sg) :=
  f_X11_clearRow_20_b2 BIG 0 s
set_option maxRecDepth 100000 in
theorem w_X11_clearRow_20 {d : Nat} {s : Sg} {Q : Qt}  (H : OQ (f_X11_clearRow_20  s) (fun _ s9 => Q none s9)) : WpM SHC MT (d + 1) 185 [.ref 20] s Q := by
  refine WpM.enter me_X11_clearRow rfl rfl ?_
  show Y_X11_clearRow_20 d Q 0 [(0, .ref 20)] [] s
  unfold f_X11_clearRow_20 at H
  exact Wp.r_iconst (pc := 0) o_X11_clearRow rfl (Wp.r_istore_n1 (pc := 1) o_X11_clearRow rfl (Wp.weak2 [1, 0] (w_X11_clearRow_20_b2 _ _ _ H) rfl))
noncomputable abbrev Y_X0_askFor_25 (d : Nat) (Q : Qt) : Xt := Wp SHC (WpM SHC MT (d + 1)) (flat2 cq_X0_askFor) (none) Q
noncomputable def f_X0_askFor_25_b9 : Nat → Int32 → Int32 → Sg → Option (Unit × Sg)
  | 0, _, _, _ => none
  | n + 1, v2, v3, s =>
    if (s.1 25 14) ≤ v3 then
      some ((), s)
    else
      bd (f_X11_has v2 v3 s) (fun r3 s4 =>
      if r3 = 0 then
        (f_X0_askFor_25_b9 n) v2 (v3 + 1) s4
      else
        ck (inr v3 8) (
        ck (inr (s4.1 31 v3.toNatClampNeg) 8) (
        nmx (pI s4 20 ((s4.1 31 v3.toNatClampNeg).toNatClampNeg) ((s4.1 20 ((s4.1 31 v3.toNatClampNeg).toNatClampNeg)) + (s4.1 33 v3.toNatClampNeg))) (fun s7 =>
        ck (inr (s7.1 32 v3.toNatClampNeg) 8) (
        nmx (pI s7 20 ((s7.1 32 v3.toNatClampNeg).toNatClampNeg) ((s7.1 20 ((s7.1 32 v3.toNatClampNeg).toNatClampNeg)) + (s7.1 33 v3.toNatClampNeg))) (fun s9 =>
        (f_X0_askFor_25_b9 n) v2 (v3 + 1) s9
        )
        )
        )
        )
        )
      )
set_option maxRecDepth 100000 in
theorem w_X0_askFor_25_b9 {d : Nat} {Q : Qt} (n : Nat) : ∀ (v2 : Int32) (v3 : Int32) (s : Sg), OQ (f_X0_askFor_25_b9 n v2 v3 s) (fun _ s9 => Q none s9) → Y_X0_askFor_25 d Q 9 [(0, .ref 6), (1, .ref 25), (2, .int v2), (3, .int v3)] [] s := by
  induction n with
  | zero => intro v2 v3 s H; exact H.elim
  | succ n ih =>
    intro v2 v3 s H
    unfold f_X0_askFor_25_b9 at H
    refine Wp.r_iload_n3 (pc := 9) o_X0_askFor rfl rfl (Wp.f_al1_gfi (pc := 10) o_X0_askFor rfl rfl rfl fk_C_25_14 (Wp.r_icmp_ge (pc := 14) o_X0_askFor rfl (fun c9 => ?_) (fun c9 => ?_)))
    · have H := oq_t c9 H
      exact Wp.r_return (pc := 71) o_X0_askFor rfl (H)
    · have H := oq_f c9 H
      refine Wp.r_iload_n2 (pc := 17) o_X0_askFor rfl rfl (Wp.r_iload_n3 (pc := 18) o_X0_askFor rfl rfl (Wp.r_cs2 (pc := 19) o_X0_askFor rfl (⟨rm8_ rfl, ?_⟩)))
      refine w_X11_has (d := d) _ _ ?_
      refine oq_bd H (fun r3 s4 H => ?_)
      refine Wp.r_if_eq (pc := 22) o_X0_askFor rfl (fun c9 => ?_) (fun c9 => ?_)
      · have H := oq_t c9 H
        exact Wp.f_iinc_goto (pc := 65) o_X0_askFor rfl rfl rfl (Wp.weak2 [1, 2, 3, 0] (ih _ _ _ H) rfl)
      · have H := oq_f c9 H
        obtain ⟨hc5, H⟩ := oq_ck H
        refine Wp.f_al0_gfr (pc := 25) o_X0_askFor rfl rfl rfl fk_C_6_0 (Wp.f_al1_gfr (pc := 29) o_X0_askFor rfl rfl rfl fk_C_25_3 (Wp.r_iload_n3 (pc := 33) o_X0_askFor rfl rfl (Wp.r_iaload (pc := 34) o_X0_askFor rfl ak_C_31 (⟨hc5, ?_⟩))))
        obtain ⟨hc6, H⟩ := oq_ck H
        refine Wp.r_dup2 (pc := 35) o_X0_askFor rfl (Wp.r_iaload (pc := 36) o_X0_askFor rfl ak_C_20 (⟨hc6, ?_⟩))
        refine Wp.f_al1_gfr (pc := 37) o_X0_askFor rfl rfl rfl fk_C_25_5 (Wp.r_iload_n3 (pc := 41) o_X0_askFor rfl rfl (Wp.r_iaload (pc := 42) o_X0_askFor rfl ak_C_33 (⟨hc5, ?_⟩)))
        refine Wp.r_iadd (pc := 43) o_X0_askFor rfl (Wp.r_iastore (pc := 44) o_X0_askFor rfl ak_C_20 (⟨hc6, ?_⟩))
        revert H
        generalize pI s4 20 ((s4.1 31 v3.toNatClampNeg).toNatClampNeg) ((s4.1 20 ((s4.1 31 v3.toNatClampNeg).toNatClampNeg)) + (s4.1 33 v3.toNatClampNeg)) = s7
        intro H
        have H := nmx_e H
        refine Wp.f_al0_gfr (pc := 45) o_X0_askFor rfl rfl rfl fk_C_6_0 (Wp.f_al1_gfr (pc := 49) o_X0_askFor rfl rfl rfl fk_C_25_4 (Wp.r_iload_n3 (pc := 53) o_X0_askFor rfl rfl (Wp.r_iaload (pc := 54) o_X0_askFor rfl ak_C_32 (⟨hc5, ?_⟩))))
        obtain ⟨hc8, H⟩ := oq_ck H
        refine Wp.r_dup2 (pc := 55) o_X0_askFor rfl (Wp.r_iaload (pc := 56) o_X0_askFor rfl ak_C_20 (⟨hc8, ?_⟩))
        refine Wp.f_al1_gfr (pc := 57) o_X0_askFor rfl rfl rfl fk_C_25_5 (Wp.r_iload_n3 (pc := 61) o_X0_askFor rfl rfl (Wp.r_iaload (pc := 62) o_X0_askFor rfl ak_C_33 (⟨hc5, ?_⟩)))
        refine Wp.r_iadd (pc := 63) o_X0_askFor rfl (Wp.r_iastore (pc := 64) o_X0_askFor rfl ak_C_20 (⟨hc8, ?_⟩))
        revert H
        generalize pI s7 20 ((s7.1 32 v3.toNatClampNeg).toNatClampNeg) ((s7.1 20 ((s7.1 32 v3.toNatClampNeg).toNatClampNeg)) + (s7.1 33 v3.toNatClampNeg)) = s9
        intro H
        have H := nmx_e H
        exact Wp.f_iinc_goto (pc := 65) o_X0_askFor rfl rfl rfl (Wp.weak2 [1, 2, 3, 0] (ih _ _ _ H) rfl)
noncomputable def f_X0_askFor_25 (a2 : Int32) (s : Sg) : Option (Unit × Sg) :=
  bd (f_X11_clearRow_20 s) (fun _ s2 =>
  f_X0_askFor_25_b9 BIG a2 0 s2
  )
set_option maxRecDepth 100000 in
theorem w_X0_askFor_25 {d : Nat} {s : Sg} {Q : Qt} (a2 : Int32) (H : OQ (f_X0_askFor_25 a2 s) (fun _ s9 => Q none s9)) : WpM SHC MT (d + 2) 2 [.ref 6, .ref 25, .int a2] s Q := by
  refine WpM.enter me_X0_askFor rfl rfl ?_
  show Y_X0_askFor_25 d Q 0 [(0, .ref 6), (1, .ref 25), (2, .int a2)] [] s
  unfold f_X0_askFor_25 at H
  refine Wp.f_al0_gfr (pc := 0) o_X0_askFor rfl rfl rfl fk_C_6_0 (Wp.r_cs1 (pc := 4) o_X0_askFor rfl (⟨rm8_ rfl, ?_⟩))
  refine w_X11_clearRow_20 (d := d)  ?_
  refine oq_bd H (fun _ s2 H => ?_)
  exact Wp.r_iconst (pc := 7) o_X0_askFor rfl (Wp.r_istore_n3 (pc := 8) o_X0_askFor rfl (Wp.weak2 [1, 2, 3, 0] (w_X0_askFor_25_b9 _ _ _ _ H) rfl))
noncomputable abbrev Y_X0_lackOnStep_25_26 (d : Nat) (Q : Qt) : Xt := Wp SHC (WpM SHC MT (d + 2)) (flat2 cq_X0_lackOnStep) (some .int) Q
noncomputable def f_X0_lackOnStep_25_26 (a3 : Int32) (a4 : Int32) (s : Sg) : Option (Int32 × Sg) :=
  bd (f_X0_askFor_25 a3 s) (fun _ s2 =>
  ck (inr a4 8) (
  bd (f_X2_lying a4 s2) (fun r4 s5 =>
  some (if 0 < ((s2.1 20 a4.toNatClampNeg) - r4) then ((s2.1 20 a4.toNatClampNeg) - r4) else 0, s5)
  )
  )
  )
set_option maxRecDepth 100000 in
theorem w_X0_lackOnStep_25_26 {d : Nat} {s : Sg} {Q : Qt} (a3 : Int32) (a4 : Int32) (H : OQ (f_X0_lackOnStep_25_26 a3 a4 s) (fun r9 s9 => Q (some (.int r9)) s9)) : WpM SHC MT (d + 3) 4 [.ref 6, .ref 25, .ref 26, .int a3, .int a4] s Q := by
  refine WpM.enter me_X0_lackOnStep rfl rfl ?_
  show Y_X0_lackOnStep_25_26 d Q 0 [(0, .ref 6), (1, .ref 25), (2, .ref 26), (3, .int a3), (4, .int a4)] [] s
  unfold f_X0_lackOnStep_25_26 at H
  refine Wp.r_aload_n0 (pc := 0) o_X0_lackOnStep rfl rfl (Wp.r_aload_n1 (pc := 1) o_X0_lackOnStep rfl rfl (Wp.r_iload_n3 (pc := 2) o_X0_lackOnStep rfl rfl (Wp.r_cv3 (pc := 3) o_X0_lackOnStep rfl fk_C_6_0 (⟨rm8_ rfl, ?_⟩))))
  refine w_X0_askFor_25 (d := d) _ ?_
  refine oq_bd H (fun _ s2 H => ?_)
  obtain ⟨hc3, H⟩ := oq_ck H
  refine Wp.r_iconst (pc := 6) o_X0_lackOnStep rfl (Wp.f_al0_gfr (pc := 7) o_X0_lackOnStep rfl rfl rfl fk_C_6_0 (Wp.r_iload (pc := 11) o_X0_lackOnStep rfl rfl (Wp.r_iaload (pc := 13) o_X0_lackOnStep rfl ak_C_20 (⟨hc3, ?_⟩))))
  refine Wp.r_aload_n2 (pc := 14) o_X0_lackOnStep rfl rfl (Wp.r_iload (pc := 15) o_X0_lackOnStep rfl rfl (Wp.r_cv2 (pc := 17) o_X0_lackOnStep rfl fk_C_26_0 (⟨rm8_ rfl, ?_⟩)))
  refine w_X2_lying (d := d + 1) _ ?_
  refine oq_bd H (fun r4 s5 H => ?_)
  refine Wp.r_isub (pc := 20) o_X0_lackOnStep rfl (Wp.r_max (pc := 21) o_X0_lackOnStep rfl (⟨rm8_ rfl, ?_⟩))
  exact Wp.r_ireturn (pc := 24) o_X0_lackOnStep rfl (⟨rfl, H⟩)
noncomputable abbrev Y_X0_lackOf_25_26 (d : Nat) (Q : Qt) : Xt := Wp SHC (WpM SHC MT (d + 3)) (flat2 cq_X0_lackOf) (some .int) Q
noncomputable def f_X0_lackOf_25_26_b17 : Nat → Int32 → Int32 → Int32 → Sg → Option (Int32 × Sg)
  | 0, _, _, _, _ => none
  | n + 1, v3, v4, v5, s =>
    if (s.1 25 13) ≤ v5 then
      some (v4, s)
    else
      bd (f_X4_isGone v5 s) (fun r3 s4 =>
      if r3 = 0 then
        bd (f_X0_lackOnStep_25_26 v3 v5 s4) (fun r5 s6 =>
        (f_X0_lackOf_25_26_b17 n) v3 (v4 + r5) (v5 + 1) s6
        )
      else
        (f_X0_lackOf_25_26_b17 n) v3 v4 (v5 + 1) s4
      )
set_option maxRecDepth 100000 in
theorem w_X0_lackOf_25_26_b17 {d : Nat} {Q : Qt} (n : Nat) : ∀ (v3 : Int32) (v4 : Int32) (v5 : Int32) (s : Sg), OQ (f_X0_lackOf_25_26_b17 n v3 v4 v5 s) (fun r9 s9 => Q (some (.int r9)) s9) → Y_X0_lackOf_25_26 d Q 17 [(0, .ref 6), (1, .ref 25), (2, .ref 26), (3, .int v3), (4, .int v4), (5, .int v5)] [] s := by
  induction n with
  | zero => intro v3 v4 v5 s H; exact H.elim
  | succ n ih =>
    intro v3 v4 v5 s H
    unfold f_X0_lackOf_25_26_b17 at H
    refine Wp.r_iload (pc := 17) o_X0_lackOf rfl rfl (Wp.f_al1_gfi (pc := 19) o_X0_lackOf rfl rfl rfl fk_C_25_13 (Wp.r_icmp_ge (pc := 23) o_X0_lackOf rfl (fun c9 => ?_) (fun c9 => ?_)))
    · have H := oq_t c9 H
      exact Wp.r_iload (pc := 55) o_X0_lackOf rfl rfl (Wp.r_ireturn (pc := 57) o_X0_lackOf rfl (⟨rfl, H⟩))
    · have H := oq_f c9 H
      refine Wp.r_aload_n1 (pc := 26) o_X0_lackOf rfl rfl (Wp.r_iload (pc := 27) o_X0_lackOf rfl rfl (Wp.r_cv2 (pc := 29) o_X0_lackOf rfl fk_C_25_0 (⟨rm8_ rfl, ?_⟩)))
      refine w_X4_isGone (d := d + 2) _ ?_
      refine oq_bd H (fun r3 s4 H => ?_)
      refine Wp.r_if_ne (pc := 32) o_X0_lackOf rfl (fun c9 => ?_) (fun c9 => ?_)
      · have H := oq_t c9 H
        refine Wp.r_iload (pc := 35) o_X0_lackOf rfl rfl (Wp.r_aload_n0 (pc := 37) o_X0_lackOf rfl rfl (Wp.r_aload_n1 (pc := 38) o_X0_lackOf rfl rfl (Wp.r_aload_n2 (pc := 39) o_X0_lackOf rfl rfl (Wp.r_iload_n3 (pc := 40) o_X0_lackOf rfl rfl (Wp.r_iload (pc := 41) o_X0_lackOf rfl rfl (Wp.r_cv5 (pc := 43) o_X0_lackOf rfl fk_C_6_0 (⟨rm8_ rfl, ?_⟩)))))))
        refine w_X0_lackOnStep_25_26 (d := d) _ _ ?_
        refine oq_bd H (fun r5 s6 H => ?_)
        exact Wp.r_iadd (pc := 46) o_X0_lackOf rfl (Wp.r_istore (pc := 47) o_X0_lackOf rfl (Wp.f_iinc_goto (pc := 49) o_X0_lackOf rfl rfl rfl (Wp.weak2 [2, 3, 4, 5, 1, 0] (ih _ _ _ _ H) rfl)))
      · have H := oq_f c9 H
        exact Wp.f_iinc_goto (pc := 49) o_X0_lackOf rfl rfl rfl (Wp.weak2 [1, 2, 3, 4, 5, 0] (ih _ _ _ _ H) rfl)
noncomputable def f_X0_lackOf_25_26 (a3 : Int32) (s : Sg) : Option (Int32 × Sg) :=
  bd (f_X4_withoutHope s) (fun r1 s2 =>
  if (a3 &&& r1) = 0 then
    f_X0_lackOf_25_26_b17 BIG a3 0 0 s2
  else
    some ((-1), s2)
  )
set_option maxRecDepth 100000 in
theorem w_X0_lackOf_25_26 {d : Nat} {s : Sg} {Q : Qt} (a3 : Int32) (H : OQ (f_X0_lackOf_25_26 a3 s) (fun r9 s9 => Q (some (.int r9)) s9)) : WpM SHC MT (d + 4) 3 [.ref 6, .ref 25, .ref 26, .int a3] s Q := by
  refine WpM.enter me_X0_lackOf rfl rfl ?_
  show Y_X0_lackOf_25_26 d Q 0 [(0, .ref 6), (1, .ref 25), (2, .ref 26), (3, .int a3)] [] s
  unfold f_X0_lackOf_25_26 at H
  refine Wp.r_iload_n3 (pc := 0) o_X0_lackOf rfl rfl (Wp.r_aload_n1 (pc := 1) o_X0_lackOf rfl rfl (Wp.r_cv1 (pc := 2) o_X0_lackOf rfl fk_C_25_0 (⟨rm8_ rfl, ?_⟩)))
  refine w_X4_withoutHope (d := d + 1)  ?_
  refine oq_bd H (fun r1 s2 H => ?_)
  refine Wp.r_iand (pc := 5) o_X0_lackOf rfl (Wp.r_if_eq (pc := 6) o_X0_lackOf rfl (fun c9 => ?_) (fun c9 => ?_))
  · have H := oq_t c9 H
    exact Wp.r_iconst (pc := 11) o_X0_lackOf rfl (Wp.r_istore (pc := 12) o_X0_lackOf rfl (Wp.r_iconst (pc := 14) o_X0_lackOf rfl (Wp.r_istore (pc := 15) o_X0_lackOf rfl (Wp.weak2 [2, 3, 4, 5, 1, 0] (w_X0_lackOf_25_26_b17 _ _ _ _ _ H) rfl))))
  · have H := oq_f c9 H
    exact Wp.r_iconst (pc := 9) o_X0_lackOf rfl (Wp.r_ireturn (pc := 10) o_X0_lackOf rfl (⟨rfl, H⟩))
noncomputable abbrev Y_X11_closest (d : Nat) (Q : Qt) : Xt := Wp SHC (WpM SHC MT (d + 4)) (flat2 cq_X11_closest) (some .int) Q
noncomputable def f_X11_closest_b40 : Nat → Int32 → Int32 → Int32 → Int32 → Sg → Option (Int32 × Sg)
  | 0, _, _, _, _, _ => none
  | n + 1, v1, v2, v3, v4, s =>
    if (s.1 25 14) ≤ v4 then
      bd (f_X11_answerIfAny v2 s) (fun r8 s9 =>
      some (r8, s9)
      )
    else
      bd (f_X11_has v1 v4 s) (fun r10 s11 =>
      if r10 = 0 then
        (f_X11_closest_b40 n) v1 v2 v3 (v4 + 1) s11
      else
        bd (f_X0_lackOf_25_26 ((1 : Int32) <<< (v4 &&& 31)) s11) (fun r12 s13 =>
        if v2 = (-1) then
          (f_X11_closest_b40 n) v1 v4 r12 (v4 + 1) s13
        else
          if v3 ≤ r12 then
            (f_X11_closest_b40 n) v1 v2 v3 (v4 + 1) s13
          else
            (f_X11_closest_b40 n) v1 v4 r12 (v4 + 1) s13
        )
      )
set_option maxRecDepth 100000 in
theorem w_X11_closest_b40 {d : Nat} {Q : Qt} (n : Nat) : ∀ (v1 : Int32) (v2 : Int32) (v3 : Int32) (v4 : Int32) (s : Sg), OQ (f_X11_closest_b40 n v1 v2 v3 v4 s) (fun r9 s9 => Q (some (.int r9)) s9) → Y_X11_closest d Q 40 [(0, .ref 0), (1, .int v1), (2, .int v2), (3, .int v3), (4, .int v4)] [] s := by
  induction n with
  | zero => intro v1 v2 v3 v4 s H; exact H.elim
  | succ n ih =>
    intro v1 v2 v3 v4 s H
    unfold f_X11_closest_b40 at H
    refine Wp.r_iload (pc := 40) o_X11_closest rfl rfl (Wp.f_al0_gfr (pc := 42) o_X11_closest rfl rfl rfl fk_C_0_5 (Wp.r_gfi (pc := 46) o_X11_closest rfl fk_C_25_14 (Wp.r_icmp_ge (pc := 49) o_X11_closest rfl (fun c9 => ?_) (fun c9 => ?_))))
    · have H := oq_t c9 H
      refine Wp.r_aload_n0 (pc := 105) o_X11_closest rfl rfl (Wp.r_iload_n2 (pc := 106) o_X11_closest rfl rfl (Wp.r_cv2 (pc := 107) o_X11_closest rfl fk_C_0_0 (⟨rm8_ rfl, ?_⟩)))
      refine w_X11_answerIfAny (d := d + 2) _ ?_
      refine oq_bd H (fun r8 s9 H => ?_)
      exact Wp.r_ireturn (pc := 110) o_X11_closest rfl (⟨rfl, H⟩)
    · have H := oq_f c9 H
      refine Wp.r_iload_n1 (pc := 52) o_X11_closest rfl rfl (Wp.r_iload (pc := 53) o_X11_closest rfl rfl (Wp.r_cs2 (pc := 55) o_X11_closest rfl (⟨rm8_ rfl, ?_⟩)))
      refine w_X11_has (d := d + 3) _ _ ?_
      refine oq_bd H (fun r10 s11 H => ?_)
      refine Wp.r_if_eq (pc := 58) o_X11_closest rfl (fun c9 => ?_) (fun c9 => ?_)
      · have H := oq_t c9 H
        exact Wp.f_iinc_goto (pc := 99) o_X11_closest rfl rfl rfl (Wp.weak2 [1, 2, 3, 4, 0] (ih _ _ _ _ _ H) rfl)
      · have H := oq_f c9 H
        refine Wp.f_al0_gfr (pc := 61) o_X11_closest rfl rfl rfl fk_C_0_9 (Wp.f_al0_gfr (pc := 65) o_X11_closest rfl rfl rfl fk_C_0_5 (Wp.f_al0_gfr (pc := 69) o_X11_closest rfl rfl rfl fk_C_0_6 (Wp.r_iconst (pc := 73) o_X11_closest rfl (Wp.r_iload (pc := 74) o_X11_closest rfl rfl (Wp.r_ishl (pc := 76) o_X11_closest rfl (Wp.r_cv4 (pc := 77) o_X11_closest rfl fk_C_6_0 (⟨rm8_ rfl, ?_⟩)))))))
        refine w_X0_lackOf_25_26 (d := d) _ ?_
        refine oq_bd H (fun r12 s13 H => ?_)
        refine Wp.r_istore (pc := 80) o_X11_closest rfl (Wp.r_iload_n2 (pc := 82) o_X11_closest rfl rfl (Wp.r_iconst (pc := 83) o_X11_closest rfl (Wp.r_icmp_eq (pc := 84) o_X11_closest rfl (fun c9 => ?_) (fun c9 => ?_))))
        · have H := oq_t c9 H
          exact Wp.r_iload (pc := 93) o_X11_closest rfl rfl (Wp.r_istore_n2 (pc := 95) o_X11_closest rfl (Wp.r_iload (pc := 96) o_X11_closest rfl rfl (Wp.r_istore_n3 (pc := 98) o_X11_closest rfl (Wp.f_iinc_goto (pc := 99) o_X11_closest rfl rfl rfl (Wp.weak2 [4, 5, 2, 1, 0] (ih _ _ _ _ _ H) rfl)))))
        · have H := oq_f c9 H
          refine Wp.r_iload (pc := 87) o_X11_closest rfl rfl (Wp.r_iload_n3 (pc := 89) o_X11_closest rfl rfl (Wp.r_icmp_ge (pc := 90) o_X11_closest rfl (fun c9 => ?_) (fun c9 => ?_)))
          · have H := oq_t c9 H
            exact Wp.f_iinc_goto (pc := 99) o_X11_closest rfl rfl rfl (Wp.weak2 [2, 3, 4, 5, 0] (ih _ _ _ _ _ H) rfl)
          · have H := oq_f c9 H
            exact Wp.r_iload (pc := 93) o_X11_closest rfl rfl (Wp.r_istore_n2 (pc := 95) o_X11_closest rfl (Wp.r_iload (pc := 96) o_X11_closest rfl rfl (Wp.r_istore_n3 (pc := 98) o_X11_closest rfl (Wp.f_iinc_goto (pc := 99) o_X11_closest rfl rfl rfl (Wp.weak2 [4, 5, 2, 1, 0] (ih _ _ _ _ _ H) rfl)))))
noncomputable def f_X11_closest  (s : Sg) : Option (Int32 × Sg) :=
  bd (f_X4_allQuarrels s) (fun r1 s2 =>
  bd (f_X9_atPeace_26_25 (-1) s2) (fun r3 s4 =>
  bd (f_X4_withoutHope s4) (fun r5 s6 =>
  nmx ((r1 &&& (r3 ^^^ (-1))) &&& (r5 ^^^ (-1)) : Int32) (fun x7 =>
  f_X11_closest_b40 BIG x7 (-1) 0 0 s6
  )
  )
  )
  )
set_option maxRecDepth 100000 in
theorem w_X11_closest {d : Nat} {s : Sg} {Q : Qt}  (H : OQ (f_X11_closest  s) (fun r9 s9 => Q (some (.int r9)) s9)) : WpM SHC MT (d + 5) 140 [.ref 0] s Q := by
  refine WpM.enter me_X11_closest rfl rfl ?_
  show Y_X11_closest d Q 0 [(0, .ref 0)] [] s
  unfold f_X11_closest at H
  refine Wp.f_al0_gfr (pc := 0) o_X11_closest rfl rfl rfl fk_C_0_5 (Wp.r_cv1 (pc := 4) o_X11_closest rfl fk_C_25_0 (⟨rm8_ rfl, ?_⟩))
  refine w_X4_allQuarrels (d := d + 3)  ?_
  refine oq_bd H (fun r1 s2 H => ?_)
  refine Wp.f_al0_gfr (pc := 7) o_X11_closest rfl rfl rfl fk_C_0_5 (Wp.f_al0_gfr (pc := 11) o_X11_closest rfl rfl rfl fk_C_0_6 (Wp.r_iconst (pc := 15) o_X11_closest rfl (Wp.r_cs3 (pc := 16) o_X11_closest rfl (⟨rm8_ rfl, ?_⟩))))
  refine w_X9_atPeace_26_25 (d := d + 1) _ ?_
  refine oq_bd H (fun r3 s4 H => ?_)
  refine Wp.r_iconst (pc := 19) o_X11_closest rfl (Wp.r_ixor (pc := 20) o_X11_closest rfl (Wp.r_iand (pc := 21) o_X11_closest rfl (Wp.f_al0_gfr (pc := 22) o_X11_closest rfl rfl rfl fk_C_0_5 (Wp.r_cv1 (pc := 26) o_X11_closest rfl fk_C_25_0 (⟨rm8_ rfl, ?_⟩)))))
  refine w_X4_withoutHope (d := d + 2)  ?_
  refine oq_bd H (fun r5 s6 H => ?_)
  refine Wp.r_iconst (pc := 29) o_X11_closest rfl (Wp.r_ixor (pc := 30) o_X11_closest rfl (Wp.r_iand (pc := 31) o_X11_closest rfl (Wp.r_istore_n1 (pc := 32) o_X11_closest rfl (show Y_X11_closest d Q 33 [(1, .int ((r1 &&& (r3 ^^^ (-1))) &&& (r5 ^^^ (-1)))), (0, .ref 0)] [] s6 from ?_))))
  revert H
  generalize ((r1 &&& (r3 ^^^ (-1))) &&& (r5 ^^^ (-1)) : Int32) = x7
  intro H
  have H := nmx_e H
  exact Wp.r_iconst (pc := 33) o_X11_closest rfl (Wp.r_istore_n2 (pc := 34) o_X11_closest rfl (Wp.r_iconst (pc := 35) o_X11_closest rfl (Wp.r_istore_n3 (pc := 36) o_X11_closest rfl (Wp.r_iconst (pc := 37) o_X11_closest rfl (Wp.r_istore (pc := 38) o_X11_closest rfl (Wp.weak2 [4, 3, 2, 1, 0] (w_X11_closest_b40 _ _ _ _ _ _ H) rfl))))))
noncomputable abbrev Y_X0_moved_25_26 (d : Nat) (Q : Qt) : Xt := Wp SHC (WpM SHC MT (d + 1)) (flat2 cq_X0_moved) (some .int) Q
noncomputable def f_X0_moved_25_26_b67 : Nat → Int32 → Int32 → Int32 → Int32 → Int32 → Int32 → Sg → Option (Int32 × Sg)
  | 0, _, _, _, _, _, _, _ => none
  | n + 1, v3, v4, v5, v6, v7, v8, s =>
    if (s.1 25 13) ≤ v8 then
      ck (¬ v3 = 0) (
      some (v6 - (if (v4 - v4 / v3 * v3) < v7 then (v4 - v4 / v3 * v3) else v7), s)
      )
    else
      bd (f_X4_isGone v8 s) (fun r3 s4 =>
      if r3 = 0 then
        bd (f_X2_lying v8 s4) (fun r5 s6 =>
        if r5 ≤ v5 then
          (f_X0_moved_25_26_b67 n) v3 v4 v5 v6 v7 (v8 + 1) s6
        else
          bd (f_X2_lying v8 s6) (fun r7 s8 =>
          (f_X0_moved_25_26_b67 n) v3 v4 v5 (v6 + (r7 - v5)) (v7 + 1) (v8 + 1) s8
          )
        )
      else
        (f_X0_moved_25_26_b67 n) v3 v4 v5 v6 v7 (v8 + 1) s4
      )
set_option maxRecDepth 100000 in
theorem w_X0_moved_25_26_b67 {d : Nat} {Q : Qt} (n : Nat) : ∀ (v3 : Int32) (v4 : Int32) (v5 : Int32) (v6 : Int32) (v7 : Int32) (v8 : Int32) (s : Sg), OQ (f_X0_moved_25_26_b67 n v3 v4 v5 v6 v7 v8 s) (fun r9 s9 => Q (some (.int r9)) s9) → Y_X0_moved_25_26 d Q 67 [(1, .ref 25), (2, .ref 26), (3, .int v3), (4, .int v4), (5, .int v5), (6, .int v6), (7, .int v7), (8, .int v8)] [] s := by
  induction n with
  | zero => intro v3 v4 v5 v6 v7 v8 s H; exact H.elim
  | succ n ih =>
    intro v3 v4 v5 v6 v7 v8 s H
    unfold f_X0_moved_25_26_b67 at H
    refine Wp.r_iload (pc := 67) o_X0_moved rfl rfl (Wp.f_al1_gfi (pc := 69) o_X0_moved rfl rfl rfl fk_C_25_13 (Wp.r_icmp_ge (pc := 73) o_X0_moved rfl (fun c9 => ?_) (fun c9 => ?_)))
    · have H := oq_t c9 H
      obtain ⟨hc2, H⟩ := oq_ck H
      refine Wp.r_iload (pc := 119) o_X0_moved rfl rfl (Wp.r_iload (pc := 121) o_X0_moved rfl rfl (Wp.r_iload (pc := 123) o_X0_moved rfl rfl (Wp.r_iload_n3 (pc := 125) o_X0_moved rfl rfl (Wp.r_irem (pc := 126) o_X0_moved rfl (⟨hc2, ?_⟩)))))
      refine Wp.r_min (pc := 127) o_X0_moved rfl (⟨rm8_ rfl, ?_⟩)
      exact Wp.r_isub (pc := 130) o_X0_moved rfl (Wp.r_ireturn (pc := 131) o_X0_moved rfl (⟨rfl, H⟩))
    · have H := oq_f c9 H
      refine Wp.r_aload_n1 (pc := 76) o_X0_moved rfl rfl (Wp.r_iload (pc := 77) o_X0_moved rfl rfl (Wp.r_cv2 (pc := 79) o_X0_moved rfl fk_C_25_0 (⟨rm8_ rfl, ?_⟩)))
      refine w_X4_isGone (d := d) _ ?_
      refine oq_bd H (fun r3 s4 H => ?_)
      refine Wp.r_if_ne (pc := 82) o_X0_moved rfl (fun c9 => ?_) (fun c9 => ?_)
      · have H := oq_t c9 H
        refine Wp.r_aload_n2 (pc := 85) o_X0_moved rfl rfl (Wp.r_iload (pc := 86) o_X0_moved rfl rfl (Wp.r_cv2 (pc := 88) o_X0_moved rfl fk_C_26_0 (⟨rm8_ rfl, ?_⟩)))
        refine w_X2_lying (d := d) _ ?_
        refine oq_bd H (fun r5 s6 H => ?_)
        refine Wp.r_iload (pc := 91) o_X0_moved rfl rfl (Wp.r_icmp_le (pc := 93) o_X0_moved rfl (fun c9 => ?_) (fun c9 => ?_))
        · have H := oq_t c9 H
          exact Wp.f_iinc_goto (pc := 113) o_X0_moved rfl rfl rfl (Wp.weak2 [1, 2, 3, 4, 5, 6, 7, 0] (ih _ _ _ _ _ _ _ H) rfl)
        · have H := oq_f c9 H
          refine Wp.r_iload (pc := 96) o_X0_moved rfl rfl (Wp.r_aload_n2 (pc := 98) o_X0_moved rfl rfl (Wp.r_iload (pc := 99) o_X0_moved rfl rfl (Wp.r_cv2 (pc := 101) o_X0_moved rfl fk_C_26_0 (⟨rm8_ rfl, ?_⟩))))
          refine w_X2_lying (d := d) _ ?_
          refine oq_bd H (fun r7 s8 H => ?_)
          exact Wp.r_iload (pc := 104) o_X0_moved rfl rfl (Wp.r_isub (pc := 106) o_X0_moved rfl (Wp.r_iadd (pc := 107) o_X0_moved rfl (Wp.r_istore (pc := 108) o_X0_moved rfl (Wp.r_iinc (pc := 110) o_X0_moved rfl rfl (Wp.f_iinc_goto (pc := 113) o_X0_moved rfl rfl rfl (Wp.weak2 [3, 4, 5, 6, 7, 2, 1, 0] (ih _ _ _ _ _ _ _ H) rfl))))))
      · have H := oq_f c9 H
        exact Wp.f_iinc_goto (pc := 113) o_X0_moved rfl rfl rfl (Wp.weak2 [1, 2, 3, 4, 5, 6, 7, 0] (ih _ _ _ _ _ _ _ H) rfl)
noncomputable def f_X0_moved_25_26_b8 : Nat → Int32 → Int32 → Int32 → Sg → Option (Int32 × Sg)
  | 0, _, _, _, _ => none
  | n + 1, v3, v4, v5, s =>
    if (s.1 25 13) ≤ v5 then
      if v3 = 0 then
        some (0, s)
      else
        ck (¬ v3 = 0) (
        f_X0_moved_25_26_b67 BIG v3 v4 (v4 / v3) 0 0 0 s
        )
    else
      bd (f_X4_isGone v5 s) (fun r9 s10 =>
      if r9 = 0 then
        bd (f_X2_lying v5 s10) (fun r11 s12 =>
        (f_X0_moved_25_26_b8 n) (v3 + 1) (v4 + r11) (v5 + 1) s12
        )
      else
        (f_X0_moved_25_26_b8 n) v3 v4 (v5 + 1) s10
      )
set_option maxRecDepth 100000 in
theorem w_X0_moved_25_26_b8 {d : Nat} {Q : Qt} (n : Nat) : ∀ (v3 : Int32) (v4 : Int32) (v5 : Int32) (s : Sg), OQ (f_X0_moved_25_26_b8 n v3 v4 v5 s) (fun r9 s9 => Q (some (.int r9)) s9) → Y_X0_moved_25_26 d Q 8 [(1, .ref 25), (2, .ref 26), (3, .int v3), (4, .int v4), (5, .int v5)] [] s := by
  induction n with
  | zero => intro v3 v4 v5 s H; exact H.elim
  | succ n ih =>
    intro v3 v4 v5 s H
    unfold f_X0_moved_25_26_b8 at H
    refine Wp.r_iload (pc := 8) o_X0_moved rfl rfl (Wp.f_al1_gfi (pc := 10) o_X0_moved rfl rfl rfl fk_C_25_13 (Wp.r_icmp_ge (pc := 14) o_X0_moved rfl (fun c9 => ?_) (fun c9 => ?_)))
    · have H := oq_t c9 H
      refine Wp.r_iload_n3 (pc := 46) o_X0_moved rfl rfl (Wp.r_if_ne (pc := 47) o_X0_moved rfl (fun c9 => ?_) (fun c9 => ?_))
      · have H := oq_t c9 H
        exact Wp.r_iconst (pc := 50) o_X0_moved rfl (Wp.r_ireturn (pc := 51) o_X0_moved rfl (⟨rfl, H⟩))
      · have H := oq_f c9 H
        obtain ⟨hc1, H⟩ := oq_ck H
        refine Wp.r_iload (pc := 52) o_X0_moved rfl rfl (Wp.r_iload_n3 (pc := 54) o_X0_moved rfl rfl (Wp.r_idiv (pc := 55) o_X0_moved rfl (⟨hc1, ?_⟩)))
        exact Wp.r_istore (pc := 56) o_X0_moved rfl (Wp.r_iconst (pc := 58) o_X0_moved rfl (Wp.r_istore (pc := 59) o_X0_moved rfl (Wp.r_iconst (pc := 61) o_X0_moved rfl (Wp.r_istore (pc := 62) o_X0_moved rfl (Wp.r_iconst (pc := 64) o_X0_moved rfl (Wp.r_istore (pc := 65) o_X0_moved rfl (Wp.weak2 [4, 5, 6, 7, 3, 2, 1, 0] (w_X0_moved_25_26_b67 _ _ _ _ _ _ _ _ H) rfl)))))))
    · have H := oq_f c9 H
      refine Wp.r_aload_n1 (pc := 17) o_X0_moved rfl rfl (Wp.r_iload (pc := 18) o_X0_moved rfl rfl (Wp.r_cv2 (pc := 20) o_X0_moved rfl fk_C_25_0 (⟨rm8_ rfl, ?_⟩)))
      refine w_X4_isGone (d := d) _ ?_
      refine oq_bd H (fun r9 s10 H => ?_)
      refine Wp.r_if_ne (pc := 23) o_X0_moved rfl (fun c9 => ?_) (fun c9 => ?_)
      · have H := oq_t c9 H
        refine Wp.r_iinc (pc := 26) o_X0_moved rfl rfl (Wp.r_iload (pc := 29) o_X0_moved rfl rfl (Wp.r_aload_n2 (pc := 31) o_X0_moved rfl rfl (Wp.r_iload (pc := 32) o_X0_moved rfl rfl (Wp.r_cv2 (pc := 34) o_X0_moved rfl fk_C_26_0 (⟨rm8_ rfl, ?_⟩)))))
        refine w_X2_lying (d := d) _ ?_
        refine oq_bd H (fun r11 s12 H => ?_)
        exact Wp.r_iadd (pc := 37) o_X0_moved rfl (Wp.r_istore (pc := 38) o_X0_moved rfl (Wp.f_iinc_goto (pc := 40) o_X0_moved rfl rfl rfl (Wp.weak2 [3, 4, 2, 1, 0] (ih _ _ _ _ H) rfl)))
      · have H := oq_f c9 H
        exact Wp.f_iinc_goto (pc := 40) o_X0_moved rfl rfl rfl (Wp.weak2 [1, 2, 3, 4, 0] (ih _ _ _ _ H) rfl)
noncomputable def f_X0_moved_25_26  (s : Sg) : Option (Int32 × Sg) :=
  f_X0_moved_25_26_b8 BIG 0 0 0 s
set_option maxRecDepth 100000 in
theorem w_X0_moved_25_26 {d : Nat} {s : Sg} {Q : Qt}  (H : OQ (f_X0_moved_25_26  s) (fun r9 s9 => Q (some (.int r9)) s9)) : WpM SHC MT (d + 2) 5 [.ref 6, .ref 25, .ref 26] s Q := by
  refine WpM.enter me_X0_moved rfl rfl ?_
  show Y_X0_moved_25_26 d Q 0 [(0, .ref 6), (1, .ref 25), (2, .ref 26)] [] s
  unfold f_X0_moved_25_26 at H
  exact Wp.r_iconst (pc := 0) o_X0_moved rfl (Wp.r_istore_n3 (pc := 1) o_X0_moved rfl (Wp.r_iconst (pc := 2) o_X0_moved rfl (Wp.r_istore (pc := 3) o_X0_moved rfl (Wp.r_iconst (pc := 5) o_X0_moved rfl (Wp.r_istore (pc := 6) o_X0_moved rfl (Wp.weak2 [4, 5, 2, 1, 0] (w_X0_moved_25_26_b8 _ _ _ _ _ H) rfl))))))
noncomputable abbrev Y_X11_level (d : Nat) (Q : Qt) : Xt := Wp SHC (WpM SHC MT (d + 2)) (flat2 cq_X11_level) (some .int) Q
noncomputable def f_X11_level  (s : Sg) : Option (Int32 × Sg) :=
  bd (f_X0_moved_25_26 s) (fun r1 s2 =>
  bd (f_X11_answer r1 s2) (fun r3 s4 =>
  some (r3, s4)
  )
  )
set_option maxRecDepth 100000 in
theorem w_X11_level {d : Nat} {s : Sg} {Q : Qt}  (H : OQ (f_X11_level  s) (fun r9 s9 => Q (some (.int r9)) s9)) : WpM SHC MT (d + 3) 141 [.ref 0] s Q := by
  refine WpM.enter me_X11_level rfl rfl ?_
  show Y_X11_level d Q 0 [(0, .ref 0)] [] s
  unfold f_X11_level at H
  refine Wp.r_aload_n0 (pc := 0) o_X11_level rfl rfl (Wp.f_al0_gfr (pc := 1) o_X11_level rfl rfl rfl fk_C_0_9 (Wp.f_al0_gfr (pc := 5) o_X11_level rfl rfl rfl fk_C_0_5 (Wp.f_al0_gfr (pc := 9) o_X11_level rfl rfl rfl fk_C_0_6 (Wp.r_cv3 (pc := 13) o_X11_level rfl fk_C_6_0 (⟨rm8_ rfl, ?_⟩)))))
  refine w_X0_moved_25_26 (d := d)  ?_
  refine oq_bd H (fun r1 s2 H => ?_)
  refine Wp.r_cv2 (pc := 16) o_X11_level rfl fk_C_0_0 (⟨rm8_ rfl, ?_⟩)
  refine w_X11_answer (d := d + 1) _ ?_
  refine oq_bd H (fun r3 s4 H => ?_)
  exact Wp.r_ireturn (pc := 19) o_X11_level rfl (⟨rfl, H⟩)
noncomputable abbrev Y_X2_hasSnow_25_53 (d : Nat) (Q : Qt) : Xt := Wp SHC (WpM SHC MT (d + 1)) (flat2 cq_X2_hasSnow) (some .boolean) Q
noncomputable def f_X2_hasSnow_25_53_b2 : Nat → Int32 → Int32 → Sg → Option (Int32 × Sg)
  | 0, _, _, _ => none
  | n + 1, v2, v3, s =>
    if (s.1 25 13) ≤ v3 then
      some (0, s)
    else
      bd (f_X11_has v2 v3 s) (fun r1 s2 =>
      if r1 = 0 then
        (f_X2_hasSnow_25_53_b2 n) v2 (v3 + 1) s2
      else
        ck (inr v3 8) (
        if (s2.1 69 v3.toNatClampNeg) ≤ 0 then
          (f_X2_hasSnow_25_53_b2 n) v2 (v3 + 1) s2
        else
          some (1, s2)
        )
      )
set_option maxRecDepth 100000 in
theorem w_X2_hasSnow_25_53_b2 {d : Nat} {Q : Qt} (n : Nat) : ∀ (v2 : Int32) (v3 : Int32) (s : Sg), OQ (f_X2_hasSnow_25_53_b2 n v2 v3 s) (fun r9 s9 => Q (some (.int r9)) s9) → Y_X2_hasSnow_25_53 d Q 2 [(0, .ref 53), (1, .ref 25), (2, .int v2), (3, .int v3)] [] s := by
  induction n with
  | zero => intro v2 v3 s H; exact H.elim
  | succ n ih =>
    intro v2 v3 s H
    unfold f_X2_hasSnow_25_53_b2 at H
    refine Wp.r_iload_n3 (pc := 2) o_X2_hasSnow rfl rfl (Wp.f_al1_gfi (pc := 3) o_X2_hasSnow rfl rfl rfl fk_C_25_13 (Wp.r_icmp_ge (pc := 7) o_X2_hasSnow rfl (fun c9 => ?_) (fun c9 => ?_)))
    · have H := oq_t c9 H
      exact Wp.r_iconst (pc := 35) o_X2_hasSnow rfl (Wp.r_ireturn (pc := 36) o_X2_hasSnow rfl (⟨rfl, H⟩))
    · have H := oq_f c9 H
      refine Wp.r_iload_n2 (pc := 10) o_X2_hasSnow rfl rfl (Wp.r_iload_n3 (pc := 11) o_X2_hasSnow rfl rfl (Wp.r_cs2 (pc := 12) o_X2_hasSnow rfl (⟨rm8_ rfl, ?_⟩)))
      refine w_X11_has (d := d) _ _ ?_
      refine oq_bd H (fun r1 s2 H => ?_)
      refine Wp.r_if_eq (pc := 15) o_X2_hasSnow rfl (fun c9 => ?_) (fun c9 => ?_)
      · have H := oq_t c9 H
        exact Wp.f_iinc_goto (pc := 29) o_X2_hasSnow rfl rfl rfl (Wp.weak2 [1, 2, 3, 0] (ih _ _ _ H) rfl)
      · have H := oq_f c9 H
        obtain ⟨hc3, H⟩ := oq_ck H
        refine Wp.f_al0_gfr (pc := 18) o_X2_hasSnow rfl rfl rfl fk_C_53_2 (Wp.r_iload_n3 (pc := 22) o_X2_hasSnow rfl rfl (Wp.r_iaload (pc := 23) o_X2_hasSnow rfl ak_C_69 (⟨hc3, ?_⟩)))
        refine Wp.r_if_le (pc := 24) o_X2_hasSnow rfl (fun c9 => ?_) (fun c9 => ?_)
        · have H := oq_t c9 H
          exact Wp.f_iinc_goto (pc := 29) o_X2_hasSnow rfl rfl rfl (Wp.weak2 [1, 2, 3, 0] (ih _ _ _ H) rfl)
        · have H := oq_f c9 H
          exact Wp.r_iconst (pc := 27) o_X2_hasSnow rfl (Wp.r_ireturn (pc := 28) o_X2_hasSnow rfl (⟨rfl, H⟩))
noncomputable def f_X2_hasSnow_25_53 (a2 : Int32) (s : Sg) : Option (Int32 × Sg) :=
  f_X2_hasSnow_25_53_b2 BIG a2 0 s
set_option maxRecDepth 100000 in
theorem w_X2_hasSnow_25_53 {d : Nat} {s : Sg} {Q : Qt} (a2 : Int32) (H : OQ (f_X2_hasSnow_25_53 a2 s) (fun r9 s9 => Q (some (.int r9)) s9)) : WpM SHC MT (d + 2) 26 [.ref 53, .ref 25, .int a2] s Q := by
  refine WpM.enter me_X2_hasSnow rfl rfl ?_
  show Y_X2_hasSnow_25_53 d Q 0 [(0, .ref 53), (1, .ref 25), (2, .int a2)] [] s
  unfold f_X2_hasSnow_25_53 at H
  exact Wp.r_iconst (pc := 0) o_X2_hasSnow rfl (Wp.r_istore_n3 (pc := 1) o_X2_hasSnow rfl (Wp.weak2 [1, 2, 3, 0] (w_X2_hasSnow_25_53_b2 _ _ _ _ H) rfl))
noncomputable abbrev Y_X11_nightsTillThawed (d : Nat) (Q : Qt) : Xt := Wp SHC (WpM SHC MT (d + 4)) (flat2 cq_X11_nightsTillThawed) (some .int) Q
noncomputable def f_X11_nightsTillThawed_b7 : Nat → Int32 → Int32 → Sg → Option (Int32 × Sg)
  | 0, _, _, _ => none
  | n + 1, v1, v3, s =>
    if 60 < v3 then
      some ((-1), s)
    else
      bd (f_X2_hasSnow_25_53 v1 s) (fun r3 s4 =>
      if r3 = 0 then
        some (v3, s4)
      else
        bd (f_X2_passNight_25_53 s4) (fun _ s6 =>
        (f_X11_nightsTillThawed_b7 n) v1 (v3 + 1) s6
        )
      )
set_option maxRecDepth 100000 in
theorem w_X11_nightsTillThawed_b7 {d : Nat} {Q : Qt} (n : Nat) : ∀ (v1 : Int32) (v3 : Int32) (s : Sg), OQ (f_X11_nightsTillThawed_b7 n v1 v3 s) (fun r9 s9 => Q (some (.int r9)) s9) → Y_X11_nightsTillThawed d Q 7 [(0, .ref 0), (1, .int v1), (2, .ref 53), (3, .int v3)] [] s := by
  induction n with
  | zero => intro v1 v3 s H; exact H.elim
  | succ n ih =>
    intro v1 v3 s H
    unfold f_X11_nightsTillThawed_b7 at H
    refine Wp.r_iload_n3 (pc := 7) o_X11_nightsTillThawed rfl rfl (Wp.r_bipush (pc := 8) o_X11_nightsTillThawed rfl (Wp.r_icmp_gt (pc := 10) o_X11_nightsTillThawed rfl (fun c9 => ?_) (fun c9 => ?_)))
    · have H := oq_t c9 H
      exact Wp.r_iconst (pc := 41) o_X11_nightsTillThawed rfl (Wp.r_ireturn (pc := 42) o_X11_nightsTillThawed rfl (⟨rfl, H⟩))
    · have H := oq_f c9 H
      refine Wp.r_aload_n2 (pc := 13) o_X11_nightsTillThawed rfl rfl (Wp.f_al0_gfr (pc := 14) o_X11_nightsTillThawed rfl rfl rfl fk_C_0_5 (Wp.r_iload_n1 (pc := 18) o_X11_nightsTillThawed rfl rfl (Wp.r_cv3 (pc := 19) o_X11_nightsTillThawed rfl fk_C_53_0 (⟨rm8_ rfl, ?_⟩))))
      refine w_X2_hasSnow_25_53 (d := d + 2) _ ?_
      refine oq_bd H (fun r3 s4 H => ?_)
      refine Wp.r_if_ne (pc := 22) o_X11_nightsTillThawed rfl (fun c9 => ?_) (fun c9 => ?_)
      · have H := oq_t c9 H
        exact Wp.r_iload_n3 (pc := 25) o_X11_nightsTillThawed rfl rfl (Wp.r_ireturn (pc := 26) o_X11_nightsTillThawed rfl (⟨rfl, H⟩))
      · have H := oq_f c9 H
        refine Wp.r_aload_n2 (pc := 27) o_X11_nightsTillThawed rfl rfl (Wp.f_al0_gfr (pc := 28) o_X11_nightsTillThawed rfl rfl rfl fk_C_0_5 (Wp.r_cv2 (pc := 32) o_X11_nightsTillThawed rfl fk_C_53_0 (⟨rm8_ rfl, ?_⟩)))
        refine w_X2_passNight_25_53 (d := d)  ?_
        refine oq_bd H (fun _ s6 H => ?_)
        exact Wp.f_iinc_goto (pc := 35) o_X11_nightsTillThawed rfl rfl rfl (Wp.weak2 [1, 2, 3, 0] (ih _ _ _ H) rfl)
noncomputable def f_X11_nightsTillThawed (a1 : Int32) (s : Sg) : Option (Int32 × Sg) :=
  bd (f_X2_copyFrom_26_53 s) (fun _ s2 =>
  f_X11_nightsTillThawed_b7 BIG a1 0 s2
  )
set_option maxRecDepth 100000 in
theorem w_X11_nightsTillThawed {d : Nat} {s : Sg} {Q : Qt} (a1 : Int32) (H : OQ (f_X11_nightsTillThawed a1 s) (fun r9 s9 => Q (some (.int r9)) s9)) : WpM SHC MT (d + 5) 181 [.ref 0, .int a1] s Q := by
  refine WpM.enter me_X11_nightsTillThawed rfl rfl ?_
  show Y_X11_nightsTillThawed d Q 0 [(0, .ref 0), (1, .int a1)] [] s
  unfold f_X11_nightsTillThawed at H
  refine Wp.r_aload_n0 (pc := 0) o_X11_nightsTillThawed rfl rfl (Wp.r_cv1 (pc := 1) o_X11_nightsTillThawed rfl fk_C_0_0 (⟨rm8_ rfl, ?_⟩))
  refine WpM.enter me_X11_foresee rfl rfl ?_
  show Wp SHC _ (flat2 cq_X11_foresee) _ _ 0 [(0, .ref 0)] [] _
  refine Wp.f_al0_gfr (pc := 0) o_X11_foresee rfl rfl rfl fk_C_0_3 (Wp.r_gfr (pc := 4) o_X11_foresee rfl fk_C_51_1 (Wp.f_al0_gfr (pc := 7) o_X11_foresee rfl rfl rfl fk_C_0_6 (Wp.r_cv2 (pc := 11) o_X11_foresee rfl fk_C_53_0 (⟨rm8_ rfl, ?_⟩))))
  refine w_X2_copyFrom_26_53 (d := d + 1)  ?_
  refine oq_bd H (fun _ s2 H => ?_)
  refine Wp.f_al0_gfr (pc := 14) o_X11_foresee rfl rfl rfl fk_C_0_3 (Wp.r_gfr (pc := 18) o_X11_foresee rfl fk_C_51_1 (Wp.r_areto (pc := 21) o_X11_foresee rfl (show Y_X11_nightsTillThawed d Q 4 [(0, .ref 0), (1, .int a1)] [.ref 53] s2 from ?_)))
  exact Wp.r_astore_n2 (pc := 4) o_X11_nightsTillThawed rfl (Wp.r_iconst (pc := 5) o_X11_nightsTillThawed rfl (Wp.r_istore_n3 (pc := 6) o_X11_nightsTillThawed rfl (Wp.weak2 [2, 3, 1, 0] (w_X11_nightsTillThawed_b7 _ _ _ _ H) rfl)))
noncomputable abbrev Y_X11_thaw (d : Nat) (Q : Qt) : Xt := Wp SHC (WpM SHC MT (d + 5)) (flat2 cq_X11_thaw) (some .int) Q
noncomputable def f_X11_thaw (a1 : Int32) (s : Sg) : Option (Int32 × Sg) :=
  bd (f_X11_whyNoStep a1 1 s) (fun r1 s2 =>
  if r1 = 0 then
    bd (f_X11_nightsTillThawed ((1 : Int32) <<< (a1 &&& 31)) s2) (fun r3 s4 =>
    bd (f_X11_answerIfAny r3 s4) (fun r5 s6 =>
    some (r5, s6)
    )
    )
  else
    bd (f_X11_refuse r1 s2) (fun r7 s8 =>
    some (r7, s8)
    )
  )
set_option maxRecDepth 100000 in
theorem w_X11_thaw {d : Nat} {s : Sg} {Q : Qt} (a1 : Int32) (H : OQ (f_X11_thaw a1 s) (fun r9 s9 => Q (some (.int r9)) s9)) : WpM SHC MT (d + 6) 142 [.ref 0, .int a1] s Q := by
  refine WpM.enter me_X11_thaw rfl rfl ?_
  show Y_X11_thaw d Q 0 [(0, .ref 0), (1, .int a1)] [] s
  unfold f_X11_thaw at H
  refine Wp.r_aload_n0 (pc := 0) o_X11_thaw rfl rfl (Wp.r_iload_n1 (pc := 1) o_X11_thaw rfl rfl (Wp.r_iconst (pc := 2) o_X11_thaw rfl (Wp.r_cv3 (pc := 3) o_X11_thaw rfl fk_C_0_0 (⟨rm8_ rfl, ?_⟩))))
  refine w_X11_whyNoStep (d := d + 2) _ _ ?_
  refine oq_bd H (fun r1 s2 H => ?_)
  refine Wp.r_istore_n2 (pc := 6) o_X11_thaw rfl (Wp.r_iload_n2 (pc := 7) o_X11_thaw rfl rfl (Wp.r_if_eq (pc := 8) o_X11_thaw rfl (fun c9 => ?_) (fun c9 => ?_)))
  · have H := oq_t c9 H
    refine Wp.r_aload_n0 (pc := 17) o_X11_thaw rfl rfl (Wp.f_al0_iconst (pc := 18) o_X11_thaw rfl rfl rfl (Wp.r_iload_n1 (pc := 20) o_X11_thaw rfl rfl (Wp.r_ishl (pc := 21) o_X11_thaw rfl (Wp.r_cv2 (pc := 22) o_X11_thaw rfl fk_C_0_0 (⟨rm8_ rfl, ?_⟩)))))
    refine w_X11_nightsTillThawed (d := d) _ ?_
    refine oq_bd H (fun r3 s4 H => ?_)
    refine Wp.r_cv2 (pc := 25) o_X11_thaw rfl fk_C_0_0 (⟨rm8_ rfl, ?_⟩)
    refine w_X11_answerIfAny (d := d + 3) _ ?_
    refine oq_bd H (fun r5 s6 H => ?_)
    exact Wp.r_ireturn (pc := 28) o_X11_thaw rfl (⟨rfl, H⟩)
  · have H := oq_f c9 H
    refine Wp.r_aload_n0 (pc := 11) o_X11_thaw rfl rfl (Wp.r_iload_n2 (pc := 12) o_X11_thaw rfl rfl (Wp.r_cv2 (pc := 13) o_X11_thaw rfl fk_C_0_0 (⟨rm8_ rfl, ?_⟩)))
    refine w_X11_refuse (d := d + 4) _ ?_
    refine oq_bd H (fun r7 s8 H => ?_)
    exact Wp.r_ireturn (pc := 16) o_X11_thaw rfl (⟨rfl, H⟩)
noncomputable abbrev Y_X4_allHouses (d : Nat) (Q : Qt) : Xt := Wp SHC (WpM SHC MT (d + 0)) (flat2 cq_X4_allHouses) (some .int) Q
noncomputable def f_X4_allHouses  (s : Sg) : Option (Int32 × Sg) :=
  some (((1 : Int32) <<< ((s.1 25 13) &&& 31)) - 1, s)
set_option maxRecDepth 100000 in
theorem w_X4_allHouses {d : Nat} {s : Sg} {Q : Qt}  (H : OQ (f_X4_allHouses  s) (fun r9 s9 => Q (some (.int r9)) s9)) : WpM SHC MT (d + 1) 53 [.ref 25] s Q := by
  refine WpM.enter me_X4_allHouses rfl rfl ?_
  show Y_X4_allHouses d Q 0 [(0, .ref 25)] [] s
  unfold f_X4_allHouses at H
  exact Wp.r_iconst (pc := 0) o_X4_allHouses rfl (Wp.f_al0_gfi (pc := 1) o_X4_allHouses rfl rfl rfl fk_C_25_13 (Wp.r_ishl (pc := 5) o_X4_allHouses rfl (Wp.r_iconst (pc := 6) o_X4_allHouses rfl (Wp.r_isub (pc := 7) o_X4_allHouses rfl (Wp.r_ireturn (pc := 8) o_X4_allHouses rfl (⟨rfl, H⟩))))))
noncomputable abbrev Y_X11_thawAll (d : Nat) (Q : Qt) : Xt := Wp SHC (WpM SHC MT (d + 5)) (flat2 cq_X11_thawAll) (some .int) Q
noncomputable def f_X11_thawAll  (s : Sg) : Option (Int32 × Sg) :=
  bd (f_X4_allHouses s) (fun r1 s2 =>
  bd (f_X11_nightsTillThawed r1 s2) (fun r3 s4 =>
  bd (f_X11_answerIfAny r3 s4) (fun r5 s6 =>
  some (r5, s6)
  )
  )
  )
set_option maxRecDepth 100000 in
theorem w_X11_thawAll {d : Nat} {s : Sg} {Q : Qt}  (H : OQ (f_X11_thawAll  s) (fun r9 s9 => Q (some (.int r9)) s9)) : WpM SHC MT (d + 6) 143 [.ref 0] s Q := by
  refine WpM.enter me_X11_thawAll rfl rfl ?_
  show Y_X11_thawAll d Q 0 [(0, .ref 0)] [] s
  unfold f_X11_thawAll at H
  refine Wp.r_aload_n0 (pc := 0) o_X11_thawAll rfl rfl (Wp.r_aload_n0 (pc := 1) o_X11_thawAll rfl rfl (Wp.f_al0_gfr (pc := 2) o_X11_thawAll rfl rfl rfl fk_C_0_5 (Wp.r_cv1 (pc := 6) o_X11_thawAll rfl fk_C_25_0 (⟨rm8_ rfl, ?_⟩))))
  refine w_X4_allHouses (d := d + 4)  ?_
  refine oq_bd H (fun r1 s2 H => ?_)
  refine Wp.r_cv2 (pc := 9) o_X11_thawAll rfl fk_C_0_0 (⟨rm8_ rfl, ?_⟩)
  refine w_X11_nightsTillThawed (d := d) _ ?_
  refine oq_bd H (fun r3 s4 H => ?_)
  refine Wp.r_cv2 (pc := 12) o_X11_thawAll rfl fk_C_0_0 (⟨rm8_ rfl, ?_⟩)
  refine w_X11_answerIfAny (d := d + 3) _ ?_
  refine oq_bd H (fun r5 s6 H => ?_)
  exact Wp.r_ireturn (pc := 15) o_X11_thawAll rfl (⟨rfl, H⟩)
noncomputable abbrev Y_X11_wants (d : Nat) (Q : Qt) : Xt := Wp SHC (WpM SHC MT (d + 3)) (flat2 cq_X11_wants) (some .int) Q
noncomputable def f_X11_wants (a1 : Int32) (s : Sg) : Option (Int32 × Sg) :=
  bd (f_X11_whyNoStep a1 1 s) (fun r1 s2 =>
  if r1 = 0 then
    bd (f_X9_wantedAt_26_25 a1 s2) (fun r3 s4 =>
    bd (f_X11_answer r3 s4) (fun r5 s6 =>
    some (r5, s6)
    )
    )
  else
    bd (f_X11_refuse r1 s2) (fun r7 s8 =>
    some (r7, s8)
    )
  )
set_option maxRecDepth 100000 in
theorem w_X11_wants {d : Nat} {s : Sg} {Q : Qt} (a1 : Int32) (H : OQ (f_X11_wants a1 s) (fun r9 s9 => Q (some (.int r9)) s9)) : WpM SHC MT (d + 4) 144 [.ref 0, .int a1] s Q := by
  refine WpM.enter me_X11_wants rfl rfl ?_
  show Y_X11_wants d Q 0 [(0, .ref 0), (1, .int a1)] [] s
  unfold f_X11_wants at H
  refine Wp.r_aload_n0 (pc := 0) o_X11_wants rfl rfl (Wp.r_iload_n1 (pc := 1) o_X11_wants rfl rfl (Wp.r_iconst (pc := 2) o_X11_wants rfl (Wp.r_cv3 (pc := 3) o_X11_wants rfl fk_C_0_0 (⟨rm8_ rfl, ?_⟩))))
  refine w_X11_whyNoStep (d := d) _ _ ?_
  refine oq_bd H (fun r1 s2 H => ?_)
  refine Wp.r_istore_n2 (pc := 6) o_X11_wants rfl (Wp.r_iload_n2 (pc := 7) o_X11_wants rfl rfl (Wp.r_if_eq (pc := 8) o_X11_wants rfl (fun c9 => ?_) (fun c9 => ?_)))
  · have H := oq_t c9 H
    refine Wp.r_aload_n0 (pc := 17) o_X11_wants rfl rfl (Wp.f_al0_gfr (pc := 18) o_X11_wants rfl rfl rfl fk_C_0_5 (Wp.f_al0_gfr (pc := 22) o_X11_wants rfl rfl rfl fk_C_0_6 (Wp.r_iload_n1 (pc := 26) o_X11_wants rfl rfl (Wp.r_cs3 (pc := 27) o_X11_wants rfl (⟨rm8_ rfl, ?_⟩)))))
    refine w_X9_wantedAt_26_25 (d := d) _ ?_
    refine oq_bd H (fun r3 s4 H => ?_)
    refine Wp.r_cv2 (pc := 30) o_X11_wants rfl fk_C_0_0 (⟨rm8_ rfl, ?_⟩)
    refine w_X11_answer (d := d + 2) _ ?_
    refine oq_bd H (fun r5 s6 H => ?_)
    exact Wp.r_ireturn (pc := 33) o_X11_wants rfl (⟨rfl, H⟩)
  · have H := oq_f c9 H
    refine Wp.r_aload_n0 (pc := 11) o_X11_wants rfl rfl (Wp.r_iload_n2 (pc := 12) o_X11_wants rfl rfl (Wp.r_cv2 (pc := 13) o_X11_wants rfl fk_C_0_0 (⟨rm8_ rfl, ?_⟩)))
    refine w_X11_refuse (d := d + 2) _ ?_
    refine oq_bd H (fun r7 s8 H => ?_)
    exact Wp.r_ireturn (pc := 16) o_X11_wants rfl (⟨rfl, H⟩)
noncomputable abbrev Y_X11_cliff (d : Nat) (Q : Qt) : Xt := Wp SHC (WpM SHC MT (d + 1)) (flat2 cq_X11_cliff) (some .int) Q
noncomputable def f_X11_cliff_b4 : Nat → Int32 → Int32 → Sg → Option (Int32 × Sg)
  | 0, _, _, _ => none
  | n + 1, v1, v2, s =>
    if (s.1 25 13) ≤ (v2 + 1) then
      bd (f_X11_answer v1 s) (fun r1 s2 =>
      some (r1, s2)
      )
    else
      bd (f_X4_isGone v2 s) (fun r3 s4 =>
      if r3 = 0 then
        bd (f_X4_isGone (v2 + 1) s4) (fun r5 s6 =>
        if r5 = 0 then
          bd (f_X2_lying v2 s6) (fun r7 s8 =>
          bd (f_X2_lying (v2 + 1) s8) (fun r9 s10 =>
          nmx (if v1 < (if 0 ≤ (r7 - r9) then (r7 - r9) else 0 - (r7 - r9)) then (if 0 ≤ (r7 - r9) then (r7 - r9) else 0 - (r7 - r9)) else v1 : Int32) (fun x11 =>
          (f_X11_cliff_b4 n) x11 (v2 + 1) s10
          )
          )
          )
        else
          (f_X11_cliff_b4 n) v1 (v2 + 1) s6
        )
      else
        (f_X11_cliff_b4 n) v1 (v2 + 1) s4
      )
set_option maxRecDepth 100000 in
theorem w_X11_cliff_b4 {d : Nat} {Q : Qt} (n : Nat) : ∀ (v1 : Int32) (v2 : Int32) (s : Sg), OQ (f_X11_cliff_b4 n v1 v2 s) (fun r9 s9 => Q (some (.int r9)) s9) → Y_X11_cliff d Q 4 [(0, .ref 0), (1, .int v1), (2, .int v2)] [] s := by
  induction n with
  | zero => intro v1 v2 s H; exact H.elim
  | succ n ih =>
    intro v1 v2 s H
    unfold f_X11_cliff_b4 at H
    refine Wp.r_iload_n2 (pc := 4) o_X11_cliff rfl rfl (Wp.r_iconst (pc := 5) o_X11_cliff rfl (Wp.r_iadd (pc := 6) o_X11_cliff rfl (Wp.f_al0_gfr (pc := 7) o_X11_cliff rfl rfl rfl fk_C_0_5 (Wp.r_gfi (pc := 11) o_X11_cliff rfl fk_C_25_13 (Wp.r_icmp_ge (pc := 14) o_X11_cliff rfl (fun c9 => ?_) (fun c9 => ?_))))))
    · have H := oq_t c9 H
      refine Wp.r_aload_n0 (pc := 74) o_X11_cliff rfl rfl (Wp.r_iload_n1 (pc := 75) o_X11_cliff rfl rfl (Wp.r_cv2 (pc := 76) o_X11_cliff rfl fk_C_0_0 (⟨rm8_ rfl, ?_⟩)))
      refine w_X11_answer (d := d) _ ?_
      refine oq_bd H (fun r1 s2 H => ?_)
      exact Wp.r_ireturn (pc := 79) o_X11_cliff rfl (⟨rfl, H⟩)
    · have H := oq_f c9 H
      refine Wp.f_al0_gfr (pc := 17) o_X11_cliff rfl rfl rfl fk_C_0_5 (Wp.r_iload_n2 (pc := 21) o_X11_cliff rfl rfl (Wp.r_cv2 (pc := 22) o_X11_cliff rfl fk_C_25_0 (⟨rm8_ rfl, ?_⟩)))
      refine w_X4_isGone (d := d) _ ?_
      refine oq_bd H (fun r3 s4 H => ?_)
      refine Wp.r_if_ne (pc := 25) o_X11_cliff rfl (fun c9 => ?_) (fun c9 => ?_)
      · have H := oq_t c9 H
        refine Wp.f_al0_gfr (pc := 28) o_X11_cliff rfl rfl rfl fk_C_0_5 (Wp.r_iload_n2 (pc := 32) o_X11_cliff rfl rfl (Wp.r_iconst (pc := 33) o_X11_cliff rfl (Wp.r_iadd (pc := 34) o_X11_cliff rfl (Wp.r_cv2 (pc := 35) o_X11_cliff rfl fk_C_25_0 (⟨rm8_ rfl, ?_⟩)))))
        refine w_X4_isGone (d := d) _ ?_
        refine oq_bd H (fun r5 s6 H => ?_)
        refine Wp.r_if_ne (pc := 38) o_X11_cliff rfl (fun c9 => ?_) (fun c9 => ?_)
        · have H := oq_t c9 H
          refine Wp.r_iload_n1 (pc := 41) o_X11_cliff rfl rfl (Wp.f_al0_gfr (pc := 42) o_X11_cliff rfl rfl rfl fk_C_0_6 (Wp.r_iload_n2 (pc := 46) o_X11_cliff rfl rfl (Wp.r_cv2 (pc := 47) o_X11_cliff rfl fk_C_26_0 (⟨rm8_ rfl, ?_⟩))))
          refine w_X2_lying (d := d) _ ?_
          refine oq_bd H (fun r7 s8 H => ?_)
          refine Wp.f_al0_gfr (pc := 50) o_X11_cliff rfl rfl rfl fk_C_0_6 (Wp.r_iload_n2 (pc := 54) o_X11_cliff rfl rfl (Wp.r_iconst (pc := 55) o_X11_cliff rfl (Wp.r_iadd (pc := 56) o_X11_cliff rfl (Wp.r_cv2 (pc := 57) o_X11_cliff rfl fk_C_26_0 (⟨rm8_ rfl, ?_⟩)))))
          refine w_X2_lying (d := d) _ ?_
          refine oq_bd H (fun r9 s10 H => ?_)
          refine Wp.r_isub (pc := 60) o_X11_cliff rfl (Wp.r_abs (pc := 61) o_X11_cliff rfl (⟨rm8_ rfl, ?_⟩))
          refine Wp.r_max (pc := 64) o_X11_cliff rfl (⟨rm8_ rfl, ?_⟩)
          refine Wp.r_istore_n1 (pc := 67) o_X11_cliff rfl (show Y_X11_cliff d Q 68 [(1, .int (if v1 < (if 0 ≤ (r7 - r9) then (r7 - r9) else 0 - (r7 - r9)) then (if 0 ≤ (r7 - r9) then (r7 - r9) else 0 - (r7 - r9)) else v1)), (0, .ref 0), (2, .int v2)] [] s10 from ?_)
          revert H
          generalize (if v1 < (if 0 ≤ (r7 - r9) then (r7 - r9) else 0 - (r7 - r9)) then (if 0 ≤ (r7 - r9) then (r7 - r9) else 0 - (r7 - r9)) else v1 : Int32) = x11
          intro H
          have H := nmx_e H
          exact Wp.f_iinc_goto (pc := 68) o_X11_cliff rfl rfl rfl (Wp.weak2 [2, 1, 0] (ih _ _ _ H) rfl)
        · have H := oq_f c9 H
          exact Wp.f_iinc_goto (pc := 68) o_X11_cliff rfl rfl rfl (Wp.weak2 [1, 2, 0] (ih _ _ _ H) rfl)
      · have H := oq_f c9 H
        exact Wp.f_iinc_goto (pc := 68) o_X11_cliff rfl rfl rfl (Wp.weak2 [1, 2, 0] (ih _ _ _ H) rfl)
noncomputable def f_X11_cliff  (s : Sg) : Option (Int32 × Sg) :=
  f_X11_cliff_b4 BIG 0 0 s
set_option maxRecDepth 100000 in
theorem w_X11_cliff {d : Nat} {s : Sg} {Q : Qt}  (H : OQ (f_X11_cliff  s) (fun r9 s9 => Q (some (.int r9)) s9)) : WpM SHC MT (d + 2) 145 [.ref 0] s Q := by
  refine WpM.enter me_X11_cliff rfl rfl ?_
  show Y_X11_cliff d Q 0 [(0, .ref 0)] [] s
  unfold f_X11_cliff at H
  exact Wp.r_iconst (pc := 0) o_X11_cliff rfl (Wp.r_istore_n1 (pc := 1) o_X11_cliff rfl (Wp.r_iconst (pc := 2) o_X11_cliff rfl (Wp.r_istore_n2 (pc := 3) o_X11_cliff rfl (Wp.weak2 [2, 1, 0] (w_X11_cliff_b4 _ _ _ _ H) rfl))))
noncomputable abbrev Y_X2_looksLike (d : Nat) (Q : Qt) : Xt := Wp SHC (WpM SHC MT (d + 1)) (flat2 cq_X2_looksLike) (some .boolean) Q
noncomputable def f_X2_looksLike (a1 : Int32) (a2 : Int32) (s : Sg) : Option (Int32 × Sg) :=
  if a2 = 0 then
    ck (inr a1 8) (
    if (s.1 41 a1.toNatClampNeg) ≤ 0 then
      some (0, s)
    else
      some (1, s)
    )
  else
    if a2 = 1 then
      ck (inr a1 8) (
      if (s.1 42 a1.toNatClampNeg) ≤ 0 then
        some (0, s)
      else
        some (1, s)
      )
    else
      ck (inr a1 8) (
      if (s.1 42 a1.toNatClampNeg) = 0 then
        bd (f_X2_lying a1 s) (fun r4 s5 =>
        if r4 = 0 then
          some (1, s5)
        else
          some (0, s5)
        )
      else
        some (0, s)
      )
set_option maxRecDepth 100000 in
theorem w_X2_looksLike {d : Nat} {s : Sg} {Q : Qt} (a1 : Int32) (a2 : Int32) (H : OQ (f_X2_looksLike a1 a2 s) (fun r9 s9 => Q (some (.int r9)) s9)) : WpM SHC MT (d + 2) 27 [.ref 26, .int a1, .int a2] s Q := by
  refine WpM.enter me_X2_looksLike rfl rfl ?_
  show Y_X2_looksLike d Q 0 [(0, .ref 26), (1, .int a1), (2, .int a2)] [] s
  unfold f_X2_looksLike at H
  refine Wp.r_iload_n2 (pc := 0) o_X2_looksLike rfl rfl (Wp.r_if_ne (pc := 1) o_X2_looksLike rfl (fun c9 => ?_) (fun c9 => ?_))
  · have H := oq_t c9 H
    obtain ⟨hc1, H⟩ := oq_ck H
    refine Wp.f_al0_gfr (pc := 4) o_X2_looksLike rfl rfl rfl fk_C_26_1 (Wp.r_iload_n1 (pc := 8) o_X2_looksLike rfl rfl (Wp.r_iaload (pc := 9) o_X2_looksLike rfl ak_C_41 (⟨hc1, ?_⟩)))
    refine Wp.r_if_le (pc := 10) o_X2_looksLike rfl (fun c9 => ?_) (fun c9 => ?_)
    · have H := oq_t c9 H
      exact Wp.r_iconst (pc := 17) o_X2_looksLike rfl (Wp.r_ireturn (pc := 18) o_X2_looksLike rfl (⟨rfl, H⟩))
    · have H := oq_f c9 H
      exact Wp.r_iconst (pc := 13) o_X2_looksLike rfl (Wp.r_goto (pc := 14) o_X2_looksLike rfl (Wp.r_ireturn (pc := 18) o_X2_looksLike rfl (⟨rfl, H⟩)))
  · have H := oq_f c9 H
    refine Wp.r_iload_n2 (pc := 19) o_X2_looksLike rfl rfl (Wp.r_iconst (pc := 20) o_X2_looksLike rfl (Wp.r_icmp_ne (pc := 21) o_X2_looksLike rfl (fun c9 => ?_) (fun c9 => ?_)))
    · have H := oq_t c9 H
      obtain ⟨hc2, H⟩ := oq_ck H
      refine Wp.f_al0_gfr (pc := 24) o_X2_looksLike rfl rfl rfl fk_C_26_2 (Wp.r_iload_n1 (pc := 28) o_X2_looksLike rfl rfl (Wp.r_iaload (pc := 29) o_X2_looksLike rfl ak_C_42 (⟨hc2, ?_⟩)))
      refine Wp.r_if_le (pc := 30) o_X2_looksLike rfl (fun c9 => ?_) (fun c9 => ?_)
      · have H := oq_t c9 H
        exact Wp.r_iconst (pc := 37) o_X2_looksLike rfl (Wp.r_goto (pc := 38) o_X2_looksLike rfl (Wp.r_ireturn (pc := 63) o_X2_looksLike rfl (⟨rfl, H⟩)))
      · have H := oq_f c9 H
        exact Wp.r_iconst (pc := 33) o_X2_looksLike rfl (Wp.r_goto (pc := 34) o_X2_looksLike rfl (Wp.r_ireturn (pc := 63) o_X2_looksLike rfl (⟨rfl, H⟩)))
    · have H := oq_f c9 H
      obtain ⟨hc3, H⟩ := oq_ck H
      refine Wp.f_al0_gfr (pc := 41) o_X2_looksLike rfl rfl rfl fk_C_26_2 (Wp.r_iload_n1 (pc := 45) o_X2_looksLike rfl rfl (Wp.r_iaload (pc := 46) o_X2_looksLike rfl ak_C_42 (⟨hc3, ?_⟩)))
      refine Wp.r_if_ne (pc := 47) o_X2_looksLike rfl (fun c9 => ?_) (fun c9 => ?_)
      · have H := oq_t c9 H
        refine Wp.r_aload_n0 (pc := 50) o_X2_looksLike rfl rfl (Wp.r_iload_n1 (pc := 51) o_X2_looksLike rfl rfl (Wp.r_cv2 (pc := 52) o_X2_looksLike rfl fk_C_26_0 (⟨rm8_ rfl, ?_⟩)))
        refine w_X2_lying (d := d) _ ?_
        refine oq_bd H (fun r4 s5 H => ?_)
        refine Wp.r_if_ne (pc := 55) o_X2_looksLike rfl (fun c9 => ?_) (fun c9 => ?_)
        · have H := oq_t c9 H
          exact Wp.r_iconst (pc := 58) o_X2_looksLike rfl (Wp.r_goto (pc := 59) o_X2_looksLike rfl (Wp.r_ireturn (pc := 63) o_X2_looksLike rfl (⟨rfl, H⟩)))
        · have H := oq_f c9 H
          exact Wp.r_iconst (pc := 62) o_X2_looksLike rfl (Wp.r_ireturn (pc := 63) o_X2_looksLike rfl (⟨rfl, H⟩))
      · have H := oq_f c9 H
        exact Wp.r_iconst (pc := 62) o_X2_looksLike rfl (Wp.r_ireturn (pc := 63) o_X2_looksLike rfl (⟨rfl, H⟩))
noncomputable abbrev Y_X11_steps (d : Nat) (Q : Qt) : Xt := Wp SHC (WpM SHC MT (d + 2)) (flat2 cq_X11_steps) (some .int) Q
noncomputable def f_X11_steps_b19 : Nat → Int32 → Int32 → Int32 → Sg → Option (Int32 × Sg)
  | 0, _, _, _, _ => none
  | n + 1, v1, v2, v3, s =>
    if (s.1 25 13) ≤ v3 then
      bd (f_X11_answer v2 s) (fun r5 s6 =>
      some (r5, s6)
      )
    else
      bd (f_X4_isGone v3 s) (fun r7 s8 =>
      if r7 = 0 then
        bd (f_X2_looksLike v3 v1 s8) (fun r9 s10 =>
        if r9 = 0 then
          (f_X11_steps_b19 n) v1 v2 (v3 + 1) s10
        else
          (f_X11_steps_b19 n) v1 (v2 + 1) (v3 + 1) s10
        )
      else
        (f_X11_steps_b19 n) v1 v2 (v3 + 1) s8
      )
set_option maxRecDepth 100000 in
theorem w_X11_steps_b19 {d : Nat} {Q : Qt} (n : Nat) : ∀ (v1 : Int32) (v2 : Int32) (v3 : Int32) (s : Sg), OQ (f_X11_steps_b19 n v1 v2 v3 s) (fun r9 s9 => Q (some (.int r9)) s9) → Y_X11_steps d Q 19 [(0, .ref 0), (1, .int v1), (2, .int v2), (3, .int v3)] [] s := by
  induction n with
  | zero => intro v1 v2 v3 s H; exact H.elim
  | succ n ih =>
    intro v1 v2 v3 s H
    unfold f_X11_steps_b19 at H
    refine Wp.r_iload_n3 (pc := 19) o_X11_steps rfl rfl (Wp.f_al0_gfr (pc := 20) o_X11_steps rfl rfl rfl fk_C_0_5 (Wp.r_gfi (pc := 24) o_X11_steps rfl fk_C_25_13 (Wp.r_icmp_ge (pc := 27) o_X11_steps rfl (fun c9 => ?_) (fun c9 => ?_))))
    · have H := oq_t c9 H
      refine Wp.r_aload_n0 (pc := 62) o_X11_steps rfl rfl (Wp.r_iload_n2 (pc := 63) o_X11_steps rfl rfl (Wp.r_cv2 (pc := 64) o_X11_steps rfl fk_C_0_0 (⟨rm8_ rfl, ?_⟩)))
      refine w_X11_answer (d := d + 1) _ ?_
      refine oq_bd H (fun r5 s6 H => ?_)
      exact Wp.r_ireturn (pc := 67) o_X11_steps rfl (⟨rfl, H⟩)
    · have H := oq_f c9 H
      refine Wp.f_al0_gfr (pc := 30) o_X11_steps rfl rfl rfl fk_C_0_5 (Wp.r_iload_n3 (pc := 34) o_X11_steps rfl rfl (Wp.r_cv2 (pc := 35) o_X11_steps rfl fk_C_25_0 (⟨rm8_ rfl, ?_⟩)))
      refine w_X4_isGone (d := d + 1) _ ?_
      refine oq_bd H (fun r7 s8 H => ?_)
      refine Wp.r_if_ne (pc := 38) o_X11_steps rfl (fun c9 => ?_) (fun c9 => ?_)
      · have H := oq_t c9 H
        refine Wp.f_al0_gfr (pc := 41) o_X11_steps rfl rfl rfl fk_C_0_6 (Wp.r_iload_n3 (pc := 45) o_X11_steps rfl rfl (Wp.r_iload_n1 (pc := 46) o_X11_steps rfl rfl (Wp.r_cv3 (pc := 47) o_X11_steps rfl fk_C_26_0 (⟨rm8_ rfl, ?_⟩))))
        refine w_X2_looksLike (d := d) _ _ ?_
        refine oq_bd H (fun r9 s10 H => ?_)
        refine Wp.r_if_eq (pc := 50) o_X11_steps rfl (fun c9 => ?_) (fun c9 => ?_)
        · have H := oq_t c9 H
          exact Wp.f_iinc_goto (pc := 56) o_X11_steps rfl rfl rfl (Wp.weak2 [1, 2, 3, 0] (ih _ _ _ _ H) rfl)
        · have H := oq_f c9 H
          exact Wp.r_iinc (pc := 53) o_X11_steps rfl rfl (Wp.f_iinc_goto (pc := 56) o_X11_steps rfl rfl rfl (Wp.weak2 [2, 3, 1, 0] (ih _ _ _ _ H) rfl))
      · have H := oq_f c9 H
        exact Wp.f_iinc_goto (pc := 56) o_X11_steps rfl rfl rfl (Wp.weak2 [1, 2, 3, 0] (ih _ _ _ _ H) rfl)
noncomputable def f_X11_steps (a1 : Int32) (s : Sg) : Option (Int32 × Sg) :=
  bd (f_X11_within a1 0 2 s) (fun r1 s2 =>
  if r1 = 0 then
    bd (f_X11_refuse 1 s2) (fun r3 s4 =>
    some (r3, s4)
    )
  else
    f_X11_steps_b19 BIG a1 0 0 s2
  )
set_option maxRecDepth 100000 in
theorem w_X11_steps {d : Nat} {s : Sg} {Q : Qt} (a1 : Int32) (H : OQ (f_X11_steps a1 s) (fun r9 s9 => Q (some (.int r9)) s9)) : WpM SHC MT (d + 3) 146 [.ref 0, .int a1] s Q := by
  refine WpM.enter me_X11_steps rfl rfl ?_
  show Y_X11_steps d Q 0 [(0, .ref 0), (1, .int a1)] [] s
  unfold f_X11_steps at H
  refine Wp.r_iload_n1 (pc := 0) o_X11_steps rfl rfl (Wp.r_iconst (pc := 1) o_X11_steps rfl (Wp.r_iconst (pc := 2) o_X11_steps rfl (Wp.r_cs3 (pc := 3) o_X11_steps rfl (⟨rm8_ rfl, ?_⟩))))
  refine w_X11_within (d := d + 1) _ _ _ ?_
  refine oq_bd H (fun r1 s2 H => ?_)
  refine Wp.r_if_ne (pc := 6) o_X11_steps rfl (fun c9 => ?_) (fun c9 => ?_)
  · have H := oq_t c9 H
    refine Wp.f_al0_iconst (pc := 9) o_X11_steps rfl rfl rfl (Wp.r_cv2 (pc := 11) o_X11_steps rfl fk_C_0_0 (⟨rm8_ rfl, ?_⟩))
    refine w_X11_refuse (d := d + 1) _ ?_
    refine oq_bd H (fun r3 s4 H => ?_)
    exact Wp.r_ireturn (pc := 14) o_X11_steps rfl (⟨rfl, H⟩)
  · have H := oq_f c9 H
    exact Wp.r_iconst (pc := 15) o_X11_steps rfl (Wp.r_istore_n2 (pc := 16) o_X11_steps rfl (Wp.r_iconst (pc := 17) o_X11_steps rfl (Wp.r_istore_n3 (pc := 18) o_X11_steps rfl (Wp.weak2 [2, 3, 1, 0] (w_X11_steps_b19 _ _ _ _ _ H) rfl))))
noncomputable abbrev Y_X0_cheapest_25 (d : Nat) (Q : Qt) : Xt := Wp SHC (WpM SHC MT (d + 1)) (flat2 cq_X0_cheapest) (some .int) Q
noncomputable def f_X0_cheapest_25_b4 : Nat → Int32 → Int32 → Int32 → Sg → Option (Int32 × Sg)
  | 0, _, _, _, _ => none
  | n + 1, v1, v2, v3, s =>
    if (s.1 25 16) ≤ v3 then
      some (v2, s)
    else
      bd (f_X11_has v1 v3 s) (fun r1 s2 =>
      if r1 = 0 then
        if v2 = (-1) then
          (f_X0_cheapest_25_b4 n) v1 v3 (v3 + 1) s2
        else
          ck (inr v3 4) (
          ck (inr v2 4) (
          if (s2.1 38 v2.toNatClampNeg) ≤ (s2.1 38 v3.toNatClampNeg) then
            (f_X0_cheapest_25_b4 n) v1 v2 (v3 + 1) s2
          else
            (f_X0_cheapest_25_b4 n) v1 v3 (v3 + 1) s2
          )
          )
      else
        (f_X0_cheapest_25_b4 n) v1 v2 (v3 + 1) s2
      )
set_option maxRecDepth 100000 in
theorem w_X0_cheapest_25_b4 {d : Nat} {Q : Qt} (n : Nat) : ∀ (v1 : Int32) (v2 : Int32) (v3 : Int32) (s : Sg), OQ (f_X0_cheapest_25_b4 n v1 v2 v3 s) (fun r9 s9 => Q (some (.int r9)) s9) → Y_X0_cheapest_25 d Q 4 [(0, .ref 25), (1, .int v1), (2, .int v2), (3, .int v3)] [] s := by
  induction n with
  | zero => intro v1 v2 v3 s H; exact H.elim
  | succ n ih =>
    intro v1 v2 v3 s H
    unfold f_X0_cheapest_25_b4 at H
    refine Wp.r_iload_n3 (pc := 4) o_X0_cheapest rfl rfl (Wp.f_al0_gfi (pc := 5) o_X0_cheapest rfl rfl rfl fk_C_25_16 (Wp.r_icmp_ge (pc := 9) o_X0_cheapest rfl (fun c9 => ?_) (fun c9 => ?_)))
    · have H := oq_t c9 H
      exact Wp.r_iload_n2 (pc := 48) o_X0_cheapest rfl rfl (Wp.r_ireturn (pc := 49) o_X0_cheapest rfl (⟨rfl, H⟩))
    · have H := oq_f c9 H
      refine Wp.r_iload_n1 (pc := 12) o_X0_cheapest rfl rfl (Wp.r_iload_n3 (pc := 13) o_X0_cheapest rfl rfl (Wp.r_cs2 (pc := 14) o_X0_cheapest rfl (⟨rm8_ rfl, ?_⟩)))
      refine w_X11_has (d := d) _ _ ?_
      refine oq_bd H (fun r1 s2 H => ?_)
      refine Wp.r_if_ne (pc := 17) o_X0_cheapest rfl (fun c9 => ?_) (fun c9 => ?_)
      · have H := oq_t c9 H
        refine Wp.r_iload_n2 (pc := 20) o_X0_cheapest rfl rfl (Wp.r_iconst (pc := 21) o_X0_cheapest rfl (Wp.r_icmp_eq (pc := 22) o_X0_cheapest rfl (fun c9 => ?_) (fun c9 => ?_)))
        · have H := oq_t c9 H
          exact Wp.r_iload_n3 (pc := 40) o_X0_cheapest rfl rfl (Wp.r_istore_n2 (pc := 41) o_X0_cheapest rfl (Wp.f_iinc_goto (pc := 42) o_X0_cheapest rfl rfl rfl (Wp.weak2 [2, 3, 1, 0] (ih _ _ _ _ H) rfl)))
        · have H := oq_f c9 H
          obtain ⟨hc3, H⟩ := oq_ck H
          refine Wp.f_al0_gfr (pc := 25) o_X0_cheapest rfl rfl rfl fk_C_25_10 (Wp.r_iload_n3 (pc := 29) o_X0_cheapest rfl rfl (Wp.r_iaload (pc := 30) o_X0_cheapest rfl ak_C_38 (⟨hc3, ?_⟩)))
          obtain ⟨hc4, H⟩ := oq_ck H
          refine Wp.f_al0_gfr (pc := 31) o_X0_cheapest rfl rfl rfl fk_C_25_10 (Wp.r_iload_n2 (pc := 35) o_X0_cheapest rfl rfl (Wp.r_iaload (pc := 36) o_X0_cheapest rfl ak_C_38 (⟨hc4, ?_⟩)))
          refine Wp.r_icmp_ge (pc := 37) o_X0_cheapest rfl (fun c9 => ?_) (fun c9 => ?_)
          · have H := oq_t c9 H
            exact Wp.f_iinc_goto (pc := 42) o_X0_cheapest rfl rfl rfl (Wp.weak2 [1, 2, 3, 0] (ih _ _ _ _ H) rfl)
          · have H := oq_f c9 H
            exact Wp.r_iload_n3 (pc := 40) o_X0_cheapest rfl rfl (Wp.r_istore_n2 (pc := 41) o_X0_cheapest rfl (Wp.f_iinc_goto (pc := 42) o_X0_cheapest rfl rfl rfl (Wp.weak2 [2, 3, 1, 0] (ih _ _ _ _ H) rfl)))
      · have H := oq_f c9 H
        exact Wp.f_iinc_goto (pc := 42) o_X0_cheapest rfl rfl rfl (Wp.weak2 [1, 2, 3, 0] (ih _ _ _ _ H) rfl)
noncomputable def f_X0_cheapest_25 (a1 : Int32) (s : Sg) : Option (Int32 × Sg) :=
  f_X0_cheapest_25_b4 BIG a1 (-1) 0 s
set_option maxRecDepth 100000 in
theorem w_X0_cheapest_25 {d : Nat} {s : Sg} {Q : Qt} (a1 : Int32) (H : OQ (f_X0_cheapest_25 a1 s) (fun r9 s9 => Q (some (.int r9)) s9)) : WpM SHC MT (d + 2) 7 [.ref 25, .int a1] s Q := by
  refine WpM.enter me_X0_cheapest rfl rfl ?_
  show Y_X0_cheapest_25 d Q 0 [(0, .ref 25), (1, .int a1)] [] s
  unfold f_X0_cheapest_25 at H
  exact Wp.r_iconst (pc := 0) o_X0_cheapest rfl (Wp.r_istore_n2 (pc := 1) o_X0_cheapest rfl (Wp.r_iconst (pc := 2) o_X0_cheapest rfl (Wp.r_istore_n3 (pc := 3) o_X0_cheapest rfl (Wp.weak2 [2, 3, 1, 0] (w_X0_cheapest_25_b4 _ _ _ _ _ H) rfl))))
noncomputable abbrev Y_X0_payFor_25_26 (d : Nat) (Q : Qt) : Xt := Wp SHC (WpM SHC MT (d + 2)) (flat2 cq_X0_payFor) (some .boolean) Q
noncomputable def f_X0_payFor_25_26_b19 : Nat → Int32 → Int32 → Int32 → Sg → Option (Int32 × Sg)
  | 0, _, _, _, _ => none
  | n + 1, v4, v5, v6, s =>
    if (s.1 25 16) ≤ v6 then
      if v4 = 0 then
        some (1, s)
      else
        some (0, s)
    else
      if v4 ≤ 0 then
        if v4 = 0 then
          some (1, s)
        else
          some (0, s)
      else
        bd (f_X0_cheapest_25 v5 s) (fun r1 s2 =>
        if r1 = (-1) then
          (f_X0_payFor_25_26_b19 n) v4 v5 (v6 + 1) s2
        else
          nmx (v5 ||| ((1 : Int32) <<< (r1 &&& 31)) : Int32) (fun x3 =>
          ck (inr r1 4) (
          nmx (if (s2.1 44 r1.toNatClampNeg) < v4 then (s2.1 44 r1.toNatClampNeg) else v4 : Int32) (fun x5 =>
          nmx (pI s2 6 3 ((s2.1 6 3) + (x5 * (s2.1 38 r1.toNatClampNeg)))) (fun s6 =>
          nmx (pI s6 6 4 (s6.1 38 r1.toNatClampNeg)) (fun s7 =>
          (f_X0_payFor_25_26_b19 n) (v4 - x5) x3 (v6 + 1) s7
          )
          )
          )
          )
          )
        )
set_option maxRecDepth 100000 in
theorem w_X0_payFor_25_26_b19 {d : Nat} {Q : Qt} (n : Nat) : ∀ (v4 : Int32) (v5 : Int32) (v6 : Int32) (s : Sg), OQ (f_X0_payFor_25_26_b19 n v4 v5 v6 s) (fun r9 s9 => Q (some (.int r9)) s9) → Y_X0_payFor_25_26 d Q 19 [(0, .ref 6), (1, .ref 25), (2, .ref 26), (4, .int v4), (5, .int v5), (6, .int v6)] [] s := by
  induction n with
  | zero => intro v4 v5 v6 s H; exact H.elim
  | succ n ih =>
    intro v4 v5 v6 s H
    unfold f_X0_payFor_25_26_b19 at H
    refine Wp.r_iload (pc := 19) o_X0_payFor rfl rfl (Wp.f_al1_gfi (pc := 21) o_X0_payFor rfl rfl rfl fk_C_25_16 (Wp.r_icmp_ge (pc := 25) o_X0_payFor rfl (fun c9 => ?_) (fun c9 => ?_)))
    · have H := oq_t c9 H
      refine Wp.r_iload (pc := 113) o_X0_payFor rfl rfl (Wp.r_if_ne (pc := 115) o_X0_payFor rfl (fun c9 => ?_) (fun c9 => ?_))
      · have H := oq_t c9 H
        exact Wp.r_iconst (pc := 118) o_X0_payFor rfl (Wp.r_goto (pc := 119) o_X0_payFor rfl (Wp.r_ireturn (pc := 123) o_X0_payFor rfl (⟨rfl, H⟩)))
      · have H := oq_f c9 H
        exact Wp.r_iconst (pc := 122) o_X0_payFor rfl (Wp.r_ireturn (pc := 123) o_X0_payFor rfl (⟨rfl, H⟩))
    · have H := oq_f c9 H
      refine Wp.r_iload (pc := 28) o_X0_payFor rfl rfl (Wp.r_if_le (pc := 30) o_X0_payFor rfl (fun c9 => ?_) (fun c9 => ?_))
      · have H := oq_t c9 H
        refine Wp.r_iload (pc := 113) o_X0_payFor rfl rfl (Wp.r_if_ne (pc := 115) o_X0_payFor rfl (fun c9 => ?_) (fun c9 => ?_))
        · have H := oq_t c9 H
          exact Wp.r_iconst (pc := 118) o_X0_payFor rfl (Wp.r_goto (pc := 119) o_X0_payFor rfl (Wp.r_ireturn (pc := 123) o_X0_payFor rfl (⟨rfl, H⟩)))
        · have H := oq_f c9 H
          exact Wp.r_iconst (pc := 122) o_X0_payFor rfl (Wp.r_ireturn (pc := 123) o_X0_payFor rfl (⟨rfl, H⟩))
      · have H := oq_f c9 H
        refine Wp.r_aload_n1 (pc := 33) o_X0_payFor rfl rfl (Wp.r_iload (pc := 34) o_X0_payFor rfl rfl (Wp.r_cs2 (pc := 36) o_X0_payFor rfl (⟨rm8_ rfl, ?_⟩)))
        refine w_X0_cheapest_25 (d := d) _ ?_
        refine oq_bd H (fun r1 s2 H => ?_)
        refine Wp.r_istore (pc := 39) o_X0_payFor rfl (Wp.r_iload (pc := 41) o_X0_payFor rfl rfl (Wp.r_iconst (pc := 43) o_X0_payFor rfl (Wp.r_icmp_eq (pc := 44) o_X0_payFor rfl (fun c9 => ?_) (fun c9 => ?_))))
        · have H := oq_t c9 H
          exact Wp.f_iinc_goto (pc := 107) o_X0_payFor rfl rfl rfl (Wp.weak2 [2, 3, 4, 5, 6, 0] (ih _ _ _ _ H) rfl)
        · have H := oq_f c9 H
          refine Wp.r_iload (pc := 47) o_X0_payFor rfl rfl (Wp.r_iconst (pc := 49) o_X0_payFor rfl (Wp.r_iload (pc := 50) o_X0_payFor rfl rfl (Wp.r_ishl (pc := 52) o_X0_payFor rfl (Wp.r_ior (pc := 53) o_X0_payFor rfl (Wp.r_istore (pc := 54) o_X0_payFor rfl (show Y_X0_payFor_25_26 d Q 56 [(5, .int (v5 ||| ((1 : Int32) <<< (r1 &&& 31)))), (7, .int r1), (0, .ref 6), (1, .ref 25), (2, .ref 26), (4, .int v4), (6, .int v6)] [] s2 from ?_))))))
          revert H
          generalize (v5 ||| ((1 : Int32) <<< (r1 &&& 31)) : Int32) = x3
          intro H
          have H := nmx_e H
          obtain ⟨hc4, H⟩ := oq_ck H
          refine Wp.r_iload (pc := 56) o_X0_payFor rfl rfl (Wp.f_al2_gfr (pc := 58) o_X0_payFor rfl rfl rfl fk_C_26_4 (Wp.r_iload (pc := 62) o_X0_payFor rfl rfl (Wp.r_iaload (pc := 64) o_X0_payFor rfl ak_C_44 (⟨hc4, ?_⟩))))
          refine Wp.r_min (pc := 65) o_X0_payFor rfl (⟨rm8_ rfl, ?_⟩)
          refine Wp.r_istore (pc := 68) o_X0_payFor rfl (show Y_X0_payFor_25_26 d Q 70 [(8, .int (if (s2.1 44 r1.toNatClampNeg) < v4 then (s2.1 44 r1.toNatClampNeg) else v4)), (5, .int x3), (7, .int r1), (0, .ref 6), (1, .ref 25), (2, .ref 26), (4, .int v4), (6, .int v6)] [] s2 from ?_)
          revert H
          generalize (if (s2.1 44 r1.toNatClampNeg) < v4 then (s2.1 44 r1.toNatClampNeg) else v4 : Int32) = x5
          intro H
          have H := nmx_e H
          refine Wp.r_iload (pc := 70) o_X0_payFor rfl rfl (Wp.r_iload (pc := 72) o_X0_payFor rfl rfl (Wp.r_isub (pc := 74) o_X0_payFor rfl (Wp.r_istore (pc := 75) o_X0_payFor rfl (Wp.r_aload_n0 (pc := 77) o_X0_payFor rfl rfl (Wp.r_dup_r (pc := 78) o_X0_payFor rfl (Wp.r_gfi (pc := 79) o_X0_payFor rfl fk_C_6_3 (Wp.r_iload (pc := 82) o_X0_payFor rfl rfl (Wp.f_al1_gfr (pc := 84) o_X0_payFor rfl rfl rfl fk_C_25_10 (Wp.r_iload (pc := 88) o_X0_payFor rfl rfl (Wp.r_iaload (pc := 90) o_X0_payFor rfl ak_C_38 (⟨hc4, ?_⟩)))))))))))
          refine Wp.r_imul (pc := 91) o_X0_payFor rfl (Wp.r_iadd (pc := 92) o_X0_payFor rfl (Wp.r_pfi (pc := 93) o_X0_payFor rfl fk_C_6_3 (show Y_X0_payFor_25_26 d Q 96 [(4, .int (v4 - x5)), (8, .int x5), (5, .int x3), (7, .int r1), (0, .ref 6), (1, .ref 25), (2, .ref 26), (6, .int v6)] [] (pI s2 6 3 ((s2.1 6 3) + (x5 * (s2.1 38 r1.toNatClampNeg)))) from ?_)))
          revert H
          generalize pI s2 6 3 ((s2.1 6 3) + (x5 * (s2.1 38 r1.toNatClampNeg))) = s6
          intro H
          have H := nmx_e H
          refine Wp.r_aload_n0 (pc := 96) o_X0_payFor rfl rfl (Wp.f_al1_gfr (pc := 97) o_X0_payFor rfl rfl rfl fk_C_25_10 (Wp.r_iload (pc := 101) o_X0_payFor rfl rfl (Wp.r_iaload (pc := 103) o_X0_payFor rfl ak_C_38 (⟨hc4, ?_⟩))))
          refine Wp.r_pfi (pc := 104) o_X0_payFor rfl fk_C_6_4 (show Y_X0_payFor_25_26 d Q 107 [(4, .int (v4 - x5)), (8, .int x5), (5, .int x3), (7, .int r1), (0, .ref 6), (1, .ref 25), (2, .ref 26), (6, .int v6)] [] (pI s6 6 4 (s6.1 38 r1.toNatClampNeg)) from ?_)
          revert H
          generalize pI s6 6 4 (s6.1 38 r1.toNatClampNeg) = s7
          intro H
          have H := nmx_e H
          exact Wp.f_iinc_goto (pc := 107) o_X0_payFor rfl rfl rfl (Wp.weak2 [5, 6, 7, 1, 3, 0] (ih _ _ _ _ H) rfl)
noncomputable def f_X0_payFor_25_26 (a3 : Int32) (s : Sg) : Option (Int32 × Sg) :=
  f_X0_payFor_25_26_b19 BIG a3 0 0 (pI (pI s 6 3 0) 6 4 0)
set_option maxRecDepth 100000 in
theorem w_X0_payFor_25_26 {d : Nat} {s : Sg} {Q : Qt} (a3 : Int32) (H : OQ (f_X0_payFor_25_26 a3 s) (fun r9 s9 => Q (some (.int r9)) s9)) : WpM SHC MT (d + 3) 6 [.ref 6, .ref 25, .ref 26, .int a3] s Q := by
  refine WpM.enter me_X0_payFor rfl rfl ?_
  show Y_X0_payFor_25_26 d Q 0 [(0, .ref 6), (1, .ref 25), (2, .ref 26), (3, .int a3)] [] s
  unfold f_X0_payFor_25_26 at H
  exact Wp.r_iload_n3 (pc := 0) o_X0_payFor rfl rfl (Wp.r_istore (pc := 1) o_X0_payFor rfl (Wp.r_iconst (pc := 3) o_X0_payFor rfl (Wp.r_istore (pc := 4) o_X0_payFor rfl (Wp.f_al0_iconst (pc := 6) o_X0_payFor rfl rfl rfl (Wp.r_pfi (pc := 8) o_X0_payFor rfl fk_C_6_3 (Wp.f_al0_iconst (pc := 11) o_X0_payFor rfl rfl rfl (Wp.r_pfi (pc := 13) o_X0_payFor rfl fk_C_6_4 (Wp.r_iconst (pc := 16) o_X0_payFor rfl (Wp.r_istore (pc := 17) o_X0_payFor rfl (Wp.weak2 [3, 4, 5, 2, 1, 0] (w_X0_payFor_25_26_b19 _ _ _ _ _ H) rfl))))))))))
noncomputable abbrev Y_X11_value (d : Nat) (Q : Qt) : Xt := Wp SHC (WpM SHC MT (d + 3)) (flat2 cq_X11_value) (some .int) Q
noncomputable def f_X11_value (a1 : Int32) (s : Sg) : Option (Int32 × Sg) :=
  bd (f_X11_whyNoStep a1 1 s) (fun r1 s2 =>
  if r1 = 0 then
    bd (f_X2_lying a1 s2) (fun r3 s4 =>
    bd (f_X0_payFor_25_26 r3 s4) (fun r5 s6 =>
    if r5 = 0 then
      bd (f_X11_refuse 6 s6) (fun r7 s8 =>
      some (r7, s8)
      )
    else
      bd (f_X11_answer (s6.1 6 3) s6) (fun r9 s10 =>
      some (r9, s10)
      )
    )
    )
  else
    bd (f_X11_refuse r1 s2) (fun r11 s12 =>
    some (r11, s12)
    )
  )
set_option maxRecDepth 100000 in
theorem w_X11_value {d : Nat} {s : Sg} {Q : Qt} (a1 : Int32) (H : OQ (f_X11_value a1 s) (fun r9 s9 => Q (some (.int r9)) s9)) : WpM SHC MT (d + 4) 147 [.ref 0, .int a1] s Q := by
  refine WpM.enter me_X11_value rfl rfl ?_
  show Y_X11_value d Q 0 [(0, .ref 0), (1, .int a1)] [] s
  unfold f_X11_value at H
  refine Wp.r_aload_n0 (pc := 0) o_X11_value rfl rfl (Wp.r_iload_n1 (pc := 1) o_X11_value rfl rfl (Wp.r_iconst (pc := 2) o_X11_value rfl (Wp.r_cv3 (pc := 3) o_X11_value rfl fk_C_0_0 (⟨rm8_ rfl, ?_⟩))))
  refine w_X11_whyNoStep (d := d) _ _ ?_
  refine oq_bd H (fun r1 s2 H => ?_)
  refine Wp.r_istore_n2 (pc := 6) o_X11_value rfl (Wp.r_iload_n2 (pc := 7) o_X11_value rfl rfl (Wp.r_if_eq (pc := 8) o_X11_value rfl (fun c9 => ?_) (fun c9 => ?_)))
  · have H := oq_t c9 H
    refine Wp.f_al0_gfr (pc := 17) o_X11_value rfl rfl rfl fk_C_0_9 (Wp.f_al0_gfr (pc := 21) o_X11_value rfl rfl rfl fk_C_0_5 (Wp.f_al0_gfr (pc := 25) o_X11_value rfl rfl rfl fk_C_0_6 (Wp.f_al0_gfr (pc := 29) o_X11_value rfl rfl rfl fk_C_0_6 (Wp.r_iload_n1 (pc := 33) o_X11_value rfl rfl (Wp.r_cv2 (pc := 34) o_X11_value rfl fk_C_26_0 (⟨rm8_ rfl, ?_⟩))))))
    refine w_X2_lying (d := d + 2) _ ?_
    refine oq_bd H (fun r3 s4 H => ?_)
    refine Wp.r_cv4 (pc := 37) o_X11_value rfl fk_C_6_0 (⟨rm8_ rfl, ?_⟩)
    refine w_X0_payFor_25_26 (d := d) _ ?_
    refine oq_bd H (fun r5 s6 H => ?_)
    refine Wp.r_if_eq (pc := 40) o_X11_value rfl (fun c9 => ?_) (fun c9 => ?_)
    · have H := oq_t c9 H
      refine Wp.r_aload_n0 (pc := 57) o_X11_value rfl rfl (Wp.r_bipush (pc := 58) o_X11_value rfl (Wp.r_cv2 (pc := 60) o_X11_value rfl fk_C_0_0 (⟨rm8_ rfl, ?_⟩)))
      refine w_X11_refuse (d := d + 2) _ ?_
      refine oq_bd H (fun r7 s8 H => ?_)
      exact Wp.r_ireturn (pc := 63) o_X11_value rfl (⟨rfl, H⟩)
    · have H := oq_f c9 H
      refine Wp.r_aload_n0 (pc := 43) o_X11_value rfl rfl (Wp.f_al0_gfr (pc := 44) o_X11_value rfl rfl rfl fk_C_0_9 (Wp.r_gfi (pc := 48) o_X11_value rfl fk_C_6_3 (Wp.r_cv2 (pc := 51) o_X11_value rfl fk_C_0_0 (⟨rm8_ rfl, ?_⟩))))
      refine w_X11_answer (d := d + 2) _ ?_
      refine oq_bd H (fun r9 s10 H => ?_)
      exact Wp.r_goto (pc := 54) o_X11_value rfl (Wp.r_ireturn (pc := 63) o_X11_value rfl (⟨rfl, H⟩))
  · have H := oq_f c9 H
    refine Wp.r_aload_n0 (pc := 11) o_X11_value rfl rfl (Wp.r_iload_n2 (pc := 12) o_X11_value rfl rfl (Wp.r_cv2 (pc := 13) o_X11_value rfl fk_C_0_0 (⟨rm8_ rfl, ?_⟩)))
    refine w_X11_refuse (d := d + 2) _ ?_
    refine oq_bd H (fun r11 s12 H => ?_)
    exact Wp.r_ireturn (pc := 16) o_X11_value rfl (⟨rfl, H⟩)
noncomputable abbrev Y_X11_beside (d : Nat) (Q : Qt) : Xt := Wp SHC (WpM SHC MT (d + 2)) (flat2 cq_X11_beside) (some .int) Q
noncomputable def f_X11_beside_b32 (v1 : Int32) (t0 : Int32) (s : Sg) : Option (Int32 × Sg) :=
  if (s.1 25 13) ≤ (v1 + 1) then
    bd (f_X11_answer (t0 + 0) s) (fun r5 s6 =>
    some (r5, s6)
    )
  else
    bd (f_X2_lying (v1 + 1) s) (fun r7 s8 =>
    bd (f_X11_answer (t0 + r7) s8) (fun r9 s10 =>
    some (r9, s10)
    )
    )
set_option maxRecDepth 100000 in
theorem w_X11_beside_b32 {d : Nat} {Q : Qt} (v1 : Int32) (t0 : Int32) (s : Sg) (H : OQ (f_X11_beside_b32 v1 t0 s) (fun r9 s9 => Q (some (.int r9)) s9)) : Y_X11_beside d Q 32 [(0, .ref 0), (1, .int v1)] [.int t0] s := by
  unfold f_X11_beside_b32 at H
  refine Wp.r_istore_n2 (pc := 32) o_X11_beside rfl (Wp.r_iload_n1 (pc := 33) o_X11_beside rfl rfl (Wp.r_iconst (pc := 34) o_X11_beside rfl (Wp.r_iadd (pc := 35) o_X11_beside rfl (Wp.f_al0_gfr (pc := 36) o_X11_beside rfl rfl rfl fk_C_0_5 (Wp.r_gfi (pc := 40) o_X11_beside rfl fk_C_25_13 (Wp.r_icmp_ge (pc := 43) o_X11_beside rfl (fun c9 => ?_) (fun c9 => ?_)))))))
  · have H := oq_t c9 H
    refine Wp.r_iconst (pc := 59) o_X11_beside rfl (Wp.r_istore_n3 (pc := 60) o_X11_beside rfl (Wp.r_aload_n0 (pc := 61) o_X11_beside rfl rfl (Wp.r_iload_n2 (pc := 62) o_X11_beside rfl rfl (Wp.r_iload_n3 (pc := 63) o_X11_beside rfl rfl (Wp.r_iadd (pc := 64) o_X11_beside rfl (Wp.r_cv2 (pc := 65) o_X11_beside rfl fk_C_0_0 (⟨rm8_ rfl, ?_⟩)))))))
    refine w_X11_answer (d := d + 1) _ ?_
    refine oq_bd H (fun r5 s6 H => ?_)
    exact Wp.r_ireturn (pc := 68) o_X11_beside rfl (⟨rfl, H⟩)
  · have H := oq_f c9 H
    refine Wp.f_al0_gfr (pc := 46) o_X11_beside rfl rfl rfl fk_C_0_6 (Wp.r_iload_n1 (pc := 50) o_X11_beside rfl rfl (Wp.r_iconst (pc := 51) o_X11_beside rfl (Wp.r_iadd (pc := 52) o_X11_beside rfl (Wp.r_cv2 (pc := 53) o_X11_beside rfl fk_C_26_0 (⟨rm8_ rfl, ?_⟩)))))
    refine w_X2_lying (d := d + 1) _ ?_
    refine oq_bd H (fun r7 s8 H => ?_)
    refine Wp.r_goto (pc := 56) o_X11_beside rfl (Wp.r_istore_n3 (pc := 60) o_X11_beside rfl (Wp.r_aload_n0 (pc := 61) o_X11_beside rfl rfl (Wp.r_iload_n2 (pc := 62) o_X11_beside rfl rfl (Wp.r_iload_n3 (pc := 63) o_X11_beside rfl rfl (Wp.r_iadd (pc := 64) o_X11_beside rfl (Wp.r_cv2 (pc := 65) o_X11_beside rfl fk_C_0_0 (⟨rm8_ rfl, ?_⟩)))))))
    refine w_X11_answer (d := d + 1) _ ?_
    refine oq_bd H (fun r9 s10 H => ?_)
    exact Wp.r_ireturn (pc := 68) o_X11_beside rfl (⟨rfl, H⟩)
noncomputable def f_X11_beside (a1 : Int32) (s : Sg) : Option (Int32 × Sg) :=
  bd (f_X11_isHouse a1 s) (fun r1 s2 =>
  if r1 = 0 then
    bd (f_X11_refuse 1 s2) (fun r3 s4 =>
    some (r3, s4)
    )
  else
    if a1 ≤ 0 then
      f_X11_beside_b32 a1 0 s2
    else
      bd (f_X2_lying (a1 - 1) s2) (fun r11 s12 =>
      f_X11_beside_b32 a1 r11 s12
      )
  )
set_option maxRecDepth 100000 in
theorem w_X11_beside {d : Nat} {s : Sg} {Q : Qt} (a1 : Int32) (H : OQ (f_X11_beside a1 s) (fun r9 s9 => Q (some (.int r9)) s9)) : WpM SHC MT (d + 3) 148 [.ref 0, .int a1] s Q := by
  refine WpM.enter me_X11_beside rfl rfl ?_
  show Y_X11_beside d Q 0 [(0, .ref 0), (1, .int a1)] [] s
  unfold f_X11_beside at H
  refine Wp.r_aload_n0 (pc := 0) o_X11_beside rfl rfl (Wp.r_iload_n1 (pc := 1) o_X11_beside rfl rfl (Wp.r_cv2 (pc := 2) o_X11_beside rfl fk_C_0_0 (⟨rm8_ rfl, ?_⟩)))
  refine w_X11_isHouse (d := d) _ ?_
  refine oq_bd H (fun r1 s2 H => ?_)
  refine Wp.r_if_ne (pc := 5) o_X11_beside rfl (fun c9 => ?_) (fun c9 => ?_)
  · have H := oq_t c9 H
    refine Wp.f_al0_iconst (pc := 8) o_X11_beside rfl rfl rfl (Wp.r_cv2 (pc := 10) o_X11_beside rfl fk_C_0_0 (⟨rm8_ rfl, ?_⟩))
    refine w_X11_refuse (d := d + 1) _ ?_
    refine oq_bd H (fun r3 s4 H => ?_)
    exact Wp.r_ireturn (pc := 13) o_X11_beside rfl (⟨rfl, H⟩)
  · have H := oq_f c9 H
    refine Wp.r_iload_n1 (pc := 14) o_X11_beside rfl rfl (Wp.r_if_le (pc := 15) o_X11_beside rfl (fun c9 => ?_) (fun c9 => ?_))
    · have H := oq_t c9 H
      exact Wp.r_iconst (pc := 31) o_X11_beside rfl (Wp.weak2 [0, 1] (w_X11_beside_b32 _ _ _ H) rfl)
    · have H := oq_f c9 H
      refine Wp.f_al0_gfr (pc := 18) o_X11_beside rfl rfl rfl fk_C_0_6 (Wp.r_iload_n1 (pc := 22) o_X11_beside rfl rfl (Wp.r_iconst (pc := 23) o_X11_beside rfl (Wp.r_isub (pc := 24) o_X11_beside rfl (Wp.r_cv2 (pc := 25) o_X11_beside rfl fk_C_26_0 (⟨rm8_ rfl, ?_⟩)))))
      refine w_X2_lying (d := d + 1) _ ?_
      refine oq_bd H (fun r11 s12 H => ?_)
      exact Wp.r_goto (pc := 28) o_X11_beside rfl (Wp.weak2 [0, 1] (w_X11_beside_b32 _ _ _ H) rfl)
noncomputable abbrev Y_X11_ghosts (d : Nat) (Q : Qt) : Xt := Wp SHC (WpM SHC MT (d + 1)) (flat2 cq_X11_ghosts) (some .int) Q
noncomputable def f_X11_ghosts_b4 : Nat → Int32 → Int32 → Sg → Option (Int32 × Sg)
  | 0, _, _, _ => none
  | n + 1, v1, v2, s =>
    if (s.1 25 14) ≤ v2 then
      bd (f_X11_answer v1 s) (fun r1 s2 =>
      some (r1, s2)
      )
    else
      ck (inr v2 8) (
      bd (f_X4_isGone (s.1 31 v2.toNatClampNeg) s) (fun r4 s5 =>
      if r4 = 0 then
        (f_X11_ghosts_b4 n) v1 (v2 + 1) s5
      else
        bd (f_X4_isGone (s5.1 32 v2.toNatClampNeg) s5) (fun r6 s7 =>
        if r6 = 0 then
          (f_X11_ghosts_b4 n) v1 (v2 + 1) s7
        else
          nmx (v1 ||| ((1 : Int32) <<< (v2 &&& 31)) : Int32) (fun x8 =>
          (f_X11_ghosts_b4 n) x8 (v2 + 1) s7
          )
        )
      )
      )
set_option maxRecDepth 100000 in
theorem w_X11_ghosts_b4 {d : Nat} {Q : Qt} (n : Nat) : ∀ (v1 : Int32) (v2 : Int32) (s : Sg), OQ (f_X11_ghosts_b4 n v1 v2 s) (fun r9 s9 => Q (some (.int r9)) s9) → Y_X11_ghosts d Q 4 [(0, .ref 0), (1, .int v1), (2, .int v2)] [] s := by
  induction n with
  | zero => intro v1 v2 s H; exact H.elim
  | succ n ih =>
    intro v1 v2 s H
    unfold f_X11_ghosts_b4 at H
    refine Wp.r_iload_n2 (pc := 4) o_X11_ghosts rfl rfl (Wp.f_al0_gfr (pc := 5) o_X11_ghosts rfl rfl rfl fk_C_0_5 (Wp.r_gfi (pc := 9) o_X11_ghosts rfl fk_C_25_14 (Wp.r_icmp_ge (pc := 12) o_X11_ghosts rfl (fun c9 => ?_) (fun c9 => ?_))))
    · have H := oq_t c9 H
      refine Wp.r_aload_n0 (pc := 65) o_X11_ghosts rfl rfl (Wp.r_iload_n1 (pc := 66) o_X11_ghosts rfl rfl (Wp.r_cv2 (pc := 67) o_X11_ghosts rfl fk_C_0_0 (⟨rm8_ rfl, ?_⟩)))
      refine w_X11_answer (d := d) _ ?_
      refine oq_bd H (fun r1 s2 H => ?_)
      exact Wp.r_ireturn (pc := 70) o_X11_ghosts rfl (⟨rfl, H⟩)
    · have H := oq_f c9 H
      obtain ⟨hc3, H⟩ := oq_ck H
      refine Wp.f_al0_gfr (pc := 15) o_X11_ghosts rfl rfl rfl fk_C_0_5 (Wp.f_al0_gfr (pc := 19) o_X11_ghosts rfl rfl rfl fk_C_0_5 (Wp.r_gfr (pc := 23) o_X11_ghosts rfl fk_C_25_3 (Wp.r_iload_n2 (pc := 26) o_X11_ghosts rfl rfl (Wp.r_iaload (pc := 27) o_X11_ghosts rfl ak_C_31 (⟨hc3, ?_⟩)))))
      refine Wp.r_cv2 (pc := 28) o_X11_ghosts rfl fk_C_25_0 (⟨rm8_ rfl, ?_⟩)
      refine w_X4_isGone (d := d) _ ?_
      refine oq_bd H (fun r4 s5 H => ?_)
      refine Wp.r_if_eq (pc := 31) o_X11_ghosts rfl (fun c9 => ?_) (fun c9 => ?_)
      · have H := oq_t c9 H
        exact Wp.f_iinc_goto (pc := 59) o_X11_ghosts rfl rfl rfl (Wp.weak2 [1, 2, 0] (ih _ _ _ H) rfl)
      · have H := oq_f c9 H
        refine Wp.f_al0_gfr (pc := 34) o_X11_ghosts rfl rfl rfl fk_C_0_5 (Wp.f_al0_gfr (pc := 38) o_X11_ghosts rfl rfl rfl fk_C_0_5 (Wp.r_gfr (pc := 42) o_X11_ghosts rfl fk_C_25_4 (Wp.r_iload_n2 (pc := 45) o_X11_ghosts rfl rfl (Wp.r_iaload (pc := 46) o_X11_ghosts rfl ak_C_32 (⟨hc3, ?_⟩)))))
        refine Wp.r_cv2 (pc := 47) o_X11_ghosts rfl fk_C_25_0 (⟨rm8_ rfl, ?_⟩)
        refine w_X4_isGone (d := d) _ ?_
        refine oq_bd H (fun r6 s7 H => ?_)
        refine Wp.r_if_eq (pc := 50) o_X11_ghosts rfl (fun c9 => ?_) (fun c9 => ?_)
        · have H := oq_t c9 H
          exact Wp.f_iinc_goto (pc := 59) o_X11_ghosts rfl rfl rfl (Wp.weak2 [1, 2, 0] (ih _ _ _ H) rfl)
        · have H := oq_f c9 H
          refine Wp.r_iload_n1 (pc := 53) o_X11_ghosts rfl rfl (Wp.r_iconst (pc := 54) o_X11_ghosts rfl (Wp.r_iload_n2 (pc := 55) o_X11_ghosts rfl rfl (Wp.r_ishl (pc := 56) o_X11_ghosts rfl (Wp.r_ior (pc := 57) o_X11_ghosts rfl (Wp.r_istore_n1 (pc := 58) o_X11_ghosts rfl (show Y_X11_ghosts d Q 59 [(1, .int (v1 ||| ((1 : Int32) <<< (v2 &&& 31)))), (0, .ref 0), (2, .int v2)] [] s7 from ?_))))))
          revert H
          generalize (v1 ||| ((1 : Int32) <<< (v2 &&& 31)) : Int32) = x8
          intro H
          have H := nmx_e H
          exact Wp.f_iinc_goto (pc := 59) o_X11_ghosts rfl rfl rfl (Wp.weak2 [2, 1, 0] (ih _ _ _ H) rfl)
noncomputable def f_X11_ghosts  (s : Sg) : Option (Int32 × Sg) :=
  f_X11_ghosts_b4 BIG 0 0 s
set_option maxRecDepth 100000 in
theorem w_X11_ghosts {d : Nat} {s : Sg} {Q : Qt}  (H : OQ (f_X11_ghosts  s) (fun r9 s9 => Q (some (.int r9)) s9)) : WpM SHC MT (d + 2) 149 [.ref 0] s Q := by
  refine WpM.enter me_X11_ghosts rfl rfl ?_
  show Y_X11_ghosts d Q 0 [(0, .ref 0)] [] s
  unfold f_X11_ghosts at H
  exact Wp.r_iconst (pc := 0) o_X11_ghosts rfl (Wp.r_istore_n1 (pc := 1) o_X11_ghosts rfl (Wp.r_iconst (pc := 2) o_X11_ghosts rfl (Wp.r_istore_n2 (pc := 3) o_X11_ghosts rfl (Wp.weak2 [2, 1, 0] (w_X11_ghosts_b4 _ _ _ _ H) rfl))))
noncomputable abbrev Y_X0_isEnough_25_26 (d : Nat) (Q : Qt) : Xt := Wp SHC (WpM SHC MT (d + 2)) (flat2 cq_X0_isEnough) (some .boolean) Q
noncomputable def f_X0_isEnough_25_26_b9 : Nat → Int32 → Sg → Option (Int32 × Sg)
  | 0, _, _ => none
  | n + 1, v4, s =>
    if (s.1 25 13) ≤ v4 then
      some (1, s)
    else
      bd (f_X4_isGone v4 s) (fun r3 s4 =>
      if r3 = 0 then
        ck (inr v4 8) (
        bd (f_X2_inSight v4 s4) (fun r6 s7 =>
        if (s4.1 20 v4.toNatClampNeg) ≤ r6 then
          (f_X0_isEnough_25_26_b9 n) (v4 + 1) s7
        else
          some (0, s7)
        )
        )
      else
        (f_X0_isEnough_25_26_b9 n) (v4 + 1) s4
      )
set_option maxRecDepth 100000 in
theorem w_X0_isEnough_25_26_b9 {d : Nat} {Q : Qt} (n : Nat) : ∀ (v4 : Int32) (s : Sg), OQ (f_X0_isEnough_25_26_b9 n v4 s) (fun r9 s9 => Q (some (.int r9)) s9) → Y_X0_isEnough_25_26 d Q 9 [(0, .ref 6), (1, .ref 25), (2, .ref 26), (4, .int v4)] [] s := by
  induction n with
  | zero => intro v4 s H; exact H.elim
  | succ n ih =>
    intro v4 s H
    unfold f_X0_isEnough_25_26_b9 at H
    refine Wp.r_iload (pc := 9) o_X0_isEnough rfl rfl (Wp.f_al1_gfi (pc := 11) o_X0_isEnough rfl rfl rfl fk_C_25_13 (Wp.r_icmp_ge (pc := 15) o_X0_isEnough rfl (fun c9 => ?_) (fun c9 => ?_)))
    · have H := oq_t c9 H
      exact Wp.r_iconst (pc := 51) o_X0_isEnough rfl (Wp.r_ireturn (pc := 52) o_X0_isEnough rfl (⟨rfl, H⟩))
    · have H := oq_f c9 H
      refine Wp.r_aload_n1 (pc := 18) o_X0_isEnough rfl rfl (Wp.r_iload (pc := 19) o_X0_isEnough rfl rfl (Wp.r_cv2 (pc := 21) o_X0_isEnough rfl fk_C_25_0 (⟨rm8_ rfl, ?_⟩)))
      refine w_X4_isGone (d := d + 1) _ ?_
      refine oq_bd H (fun r3 s4 H => ?_)
      refine Wp.r_if_ne (pc := 24) o_X0_isEnough rfl (fun c9 => ?_) (fun c9 => ?_)
      · have H := oq_t c9 H
        obtain ⟨hc5, H⟩ := oq_ck H
        refine Wp.f_al0_gfr (pc := 27) o_X0_isEnough rfl rfl rfl fk_C_6_0 (Wp.r_iload (pc := 31) o_X0_isEnough rfl rfl (Wp.r_iaload (pc := 33) o_X0_isEnough rfl ak_C_20 (⟨hc5, ?_⟩)))
        refine Wp.r_aload_n2 (pc := 34) o_X0_isEnough rfl rfl (Wp.r_iload (pc := 35) o_X0_isEnough rfl rfl (Wp.r_cv2 (pc := 37) o_X0_isEnough rfl fk_C_26_0 (⟨rm8_ rfl, ?_⟩)))
        refine w_X2_inSight (d := d) _ ?_
        refine oq_bd H (fun r6 s7 H => ?_)
        refine Wp.r_icmp_le (pc := 40) o_X0_isEnough rfl (fun c9 => ?_) (fun c9 => ?_)
        · have H := oq_t c9 H
          exact Wp.f_iinc_goto (pc := 45) o_X0_isEnough rfl rfl rfl (Wp.weak2 [1, 2, 3, 0] (ih _ _ H) rfl)
        · have H := oq_f c9 H
          exact Wp.r_iconst (pc := 43) o_X0_isEnough rfl (Wp.r_ireturn (pc := 44) o_X0_isEnough rfl (⟨rfl, H⟩))
      · have H := oq_f c9 H
        exact Wp.f_iinc_goto (pc := 45) o_X0_isEnough rfl rfl rfl (Wp.weak2 [1, 2, 3, 0] (ih _ _ H) rfl)
noncomputable def f_X0_isEnough_25_26 (a3 : Int32) (s : Sg) : Option (Int32 × Sg) :=
  bd (f_X0_askFor_25 a3 s) (fun _ s2 =>
  f_X0_isEnough_25_26_b9 BIG 0 s2
  )
set_option maxRecDepth 100000 in
theorem w_X0_isEnough_25_26 {d : Nat} {s : Sg} {Q : Qt} (a3 : Int32) (H : OQ (f_X0_isEnough_25_26 a3 s) (fun r9 s9 => Q (some (.int r9)) s9)) : WpM SHC MT (d + 3) 1 [.ref 6, .ref 25, .ref 26, .int a3] s Q := by
  refine WpM.enter me_X0_isEnough rfl rfl ?_
  show Y_X0_isEnough_25_26 d Q 0 [(0, .ref 6), (1, .ref 25), (2, .ref 26), (3, .int a3)] [] s
  unfold f_X0_isEnough_25_26 at H
  refine Wp.r_aload_n0 (pc := 0) o_X0_isEnough rfl rfl (Wp.r_aload_n1 (pc := 1) o_X0_isEnough rfl rfl (Wp.r_iload_n3 (pc := 2) o_X0_isEnough rfl rfl (Wp.r_cv3 (pc := 3) o_X0_isEnough rfl fk_C_6_0 (⟨rm8_ rfl, ?_⟩))))
  refine w_X0_askFor_25 (d := d) _ ?_
  refine oq_bd H (fun _ s2 H => ?_)
  exact Wp.r_iconst (pc := 6) o_X0_isEnough rfl (Wp.r_istore (pc := 7) o_X0_isEnough rfl (Wp.weak2 [1, 2, 3, 0] (w_X0_isEnough_25_26_b9 _ _ _ H) rfl))
noncomputable abbrev Y_X0_greatest_25_26 (d : Nat) (Q : Qt) : Xt := Wp SHC (WpM SHC MT (d + 3)) (flat2 cq_X0_greatest) (some .int) Q
noncomputable def f_X0_greatest_25_26_b14 : Nat → Int32 → Int32 → Int32 → Int32 → Sg → Option (Int32 × Sg)
  | 0, _, _, _, _, _ => none
  | n + 1, v3, v4, v5, v6, s =>
    bd (f_X4_allQuarrels s) (fun r3 s4 =>
    if r3 < v6 then
      some (v4, s4)
    else
      bd (f_bitCount v6 s4) (fun r5 s6 =>
      if r5 ≤ v5 then
        (f_X0_greatest_25_26_b14 n) v3 v4 v5 (v6 + 1) s6
      else
        if (v6 &&& v3) = 0 then
          bd (f_X0_isEnough_25_26 v6 s6) (fun r7 s8 =>
          if r7 = 0 then
            (f_X0_greatest_25_26_b14 n) v3 v4 v5 (v6 + 1) s8
          else
            (f_X0_greatest_25_26_b14 n) v3 v6 r5 (v6 + 1) s8
          )
        else
          (f_X0_greatest_25_26_b14 n) v3 v4 v5 (v6 + 1) s6
      )
    )
set_option maxRecDepth 100000 in
theorem w_X0_greatest_25_26_b14 {d : Nat} {Q : Qt} (n : Nat) : ∀ (v3 : Int32) (v4 : Int32) (v5 : Int32) (v6 : Int32) (s : Sg), OQ (f_X0_greatest_25_26_b14 n v3 v4 v5 v6 s) (fun r9 s9 => Q (some (.int r9)) s9) → Y_X0_greatest_25_26 d Q 14 [(0, .ref 6), (1, .ref 25), (2, .ref 26), (3, .int v3), (4, .int v4), (5, .int v5), (6, .int v6)] [] s := by
  induction n with
  | zero => intro v3 v4 v5 v6 s H; exact H.elim
  | succ n ih =>
    intro v3 v4 v5 v6 s H
    unfold f_X0_greatest_25_26_b14 at H
    refine Wp.r_iload (pc := 14) o_X0_greatest rfl rfl (Wp.r_aload_n1 (pc := 16) o_X0_greatest rfl rfl (Wp.r_cv1 (pc := 17) o_X0_greatest rfl fk_C_25_0 (⟨rm8_ rfl, ?_⟩)))
    refine w_X4_allQuarrels (d := d + 2)  ?_
    refine oq_bd H (fun r3 s4 H => ?_)
    refine Wp.r_icmp_gt (pc := 20) o_X0_greatest rfl (fun c9 => ?_) (fun c9 => ?_)
    · have H := oq_t c9 H
      exact Wp.r_iload (pc := 69) o_X0_greatest rfl rfl (Wp.r_ireturn (pc := 71) o_X0_greatest rfl (⟨rfl, H⟩))
    · have H := oq_f c9 H
      refine Wp.r_iload (pc := 23) o_X0_greatest rfl rfl (Wp.r_cs1 (pc := 25) o_X0_greatest rfl (⟨rm8_ rfl, ?_⟩))
      refine w_bitCount (d := d + 2) _ ?_
      refine oq_bd H (fun r5 s6 H => ?_)
      refine Wp.r_istore (pc := 28) o_X0_greatest rfl (Wp.r_iload (pc := 30) o_X0_greatest rfl rfl (Wp.r_iload (pc := 32) o_X0_greatest rfl rfl (Wp.r_icmp_le (pc := 34) o_X0_greatest rfl (fun c9 => ?_) (fun c9 => ?_))))
      · have H := oq_t c9 H
        exact Wp.f_iinc_goto (pc := 63) o_X0_greatest rfl rfl rfl (Wp.weak2 [2, 3, 4, 5, 6, 7, 0] (ih _ _ _ _ _ H) rfl)
      · have H := oq_f c9 H
        refine Wp.r_iload (pc := 37) o_X0_greatest rfl rfl (Wp.r_iload_n3 (pc := 39) o_X0_greatest rfl rfl (Wp.r_iand (pc := 40) o_X0_greatest rfl (Wp.r_if_ne (pc := 41) o_X0_greatest rfl (fun c9 => ?_) (fun c9 => ?_))))
        · have H := oq_t c9 H
          refine Wp.r_aload_n0 (pc := 44) o_X0_greatest rfl rfl (Wp.r_aload_n1 (pc := 45) o_X0_greatest rfl rfl (Wp.r_aload_n2 (pc := 46) o_X0_greatest rfl rfl (Wp.r_iload (pc := 47) o_X0_greatest rfl rfl (Wp.r_cv4 (pc := 49) o_X0_greatest rfl fk_C_6_0 (⟨rm8_ rfl, ?_⟩)))))
          refine w_X0_isEnough_25_26 (d := d) _ ?_
          refine oq_bd H (fun r7 s8 H => ?_)
          refine Wp.r_if_eq (pc := 52) o_X0_greatest rfl (fun c9 => ?_) (fun c9 => ?_)
          · have H := oq_t c9 H
            exact Wp.f_iinc_goto (pc := 63) o_X0_greatest rfl rfl rfl (Wp.weak2 [2, 3, 4, 5, 6, 7, 0] (ih _ _ _ _ _ H) rfl)
          · have H := oq_f c9 H
            exact Wp.r_iload (pc := 55) o_X0_greatest rfl rfl (Wp.r_istore (pc := 57) o_X0_greatest rfl (Wp.r_iload (pc := 59) o_X0_greatest rfl rfl (Wp.r_istore (pc := 61) o_X0_greatest rfl (Wp.f_iinc_goto (pc := 63) o_X0_greatest rfl rfl rfl (Wp.weak2 [4, 5, 6, 7, 1, 2, 0] (ih _ _ _ _ _ H) rfl)))))
        · have H := oq_f c9 H
          exact Wp.f_iinc_goto (pc := 63) o_X0_greatest rfl rfl rfl (Wp.weak2 [2, 3, 4, 5, 6, 7, 0] (ih _ _ _ _ _ H) rfl)
noncomputable def f_X0_greatest_25_26  (s : Sg) : Option (Int32 × Sg) :=
  bd (f_X4_withoutHope s) (fun r1 s2 =>
  f_X0_greatest_25_26_b14 BIG r1 0 0 1 s2
  )
set_option maxRecDepth 100000 in
theorem w_X0_greatest_25_26 {d : Nat} {s : Sg} {Q : Qt}  (H : OQ (f_X0_greatest_25_26  s) (fun r9 s9 => Q (some (.int r9)) s9)) : WpM SHC MT (d + 4) 0 [.ref 6, .ref 25, .ref 26] s Q := by
  refine WpM.enter me_X0_greatest rfl rfl ?_
  show Y_X0_greatest_25_26 d Q 0 [(0, .ref 6), (1, .ref 25), (2, .ref 26)] [] s
  unfold f_X0_greatest_25_26 at H
  refine Wp.r_aload_n1 (pc := 0) o_X0_greatest rfl rfl (Wp.r_cv1 (pc := 1) o_X0_greatest rfl fk_C_25_0 (⟨rm8_ rfl, ?_⟩))
  refine w_X4_withoutHope (d := d + 1)  ?_
  refine oq_bd H (fun r1 s2 H => ?_)
  exact Wp.r_istore_n3 (pc := 4) o_X0_greatest rfl (Wp.r_iconst (pc := 5) o_X0_greatest rfl (Wp.r_istore (pc := 6) o_X0_greatest rfl (Wp.r_iconst (pc := 8) o_X0_greatest rfl (Wp.r_istore (pc := 9) o_X0_greatest rfl (Wp.r_iconst (pc := 11) o_X0_greatest rfl (Wp.r_istore (pc := 12) o_X0_greatest rfl (Wp.weak2 [4, 5, 6, 3, 2, 1, 0] (w_X0_greatest_25_26_b14 _ _ _ _ _ _ H) rfl)))))))
noncomputable abbrev Y_X11_most (d : Nat) (Q : Qt) : Xt := Wp SHC (WpM SHC MT (d + 4)) (flat2 cq_X11_most) (some .int) Q
noncomputable def f_X11_most  (s : Sg) : Option (Int32 × Sg) :=
  bd (f_X0_greatest_25_26 s) (fun r1 s2 =>
  bd (f_X11_answer r1 s2) (fun r3 s4 =>
  some (r3, s4)
  )
  )
set_option maxRecDepth 100000 in
theorem w_X11_most {d : Nat} {s : Sg} {Q : Qt}  (H : OQ (f_X11_most  s) (fun r9 s9 => Q (some (.int r9)) s9)) : WpM SHC MT (d + 5) 150 [.ref 0] s Q := by
  refine WpM.enter me_X11_most rfl rfl ?_
  show Y_X11_most d Q 0 [(0, .ref 0)] [] s
  unfold f_X11_most at H
  refine Wp.r_aload_n0 (pc := 0) o_X11_most rfl rfl (Wp.f_al0_gfr (pc := 1) o_X11_most rfl rfl rfl fk_C_0_9 (Wp.f_al0_gfr (pc := 5) o_X11_most rfl rfl rfl fk_C_0_5 (Wp.f_al0_gfr (pc := 9) o_X11_most rfl rfl rfl fk_C_0_6 (Wp.r_cv3 (pc := 13) o_X11_most rfl fk_C_6_0 (⟨rm8_ rfl, ?_⟩)))))
  refine w_X0_greatest_25_26 (d := d)  ?_
  refine oq_bd H (fun r1 s2 H => ?_)
  refine Wp.r_cv2 (pc := 16) o_X11_most rfl fk_C_0_0 (⟨rm8_ rfl, ?_⟩)
  refine w_X11_answer (d := d + 3) _ ?_
  refine oq_bd H (fun r3 s4 H => ?_)
  exact Wp.r_ireturn (pc := 19) o_X11_most rfl (⟨rfl, H⟩)
noncomputable abbrev Y_X11_isSet (d : Nat) (Q : Qt) : Xt := Wp SHC (WpM SHC MT (d + 1)) (flat2 cq_X11_isSet) (some .boolean) Q
noncomputable def f_X11_isSet (a1 : Int32) (s : Sg) : Option (Int32 × Sg) :=
  bd (f_X4_allQuarrels s) (fun r1 s2 =>
  bd (f_X11_within a1 0 r1 s2) (fun r3 s4 =>
  ck (r3 = 0 ∨ r3 = 1) (some (r3, s4))
  )
  )
set_option maxRecDepth 100000 in
theorem w_X11_isSet {d : Nat} {s : Sg} {Q : Qt} (a1 : Int32) (H : OQ (f_X11_isSet a1 s) (fun r9 s9 => Q (some (.int r9)) s9)) : WpM SHC MT (d + 2) 175 [.ref 0, .int a1] s Q := by
  refine WpM.enter me_X11_isSet rfl rfl ?_
  show Y_X11_isSet d Q 0 [(0, .ref 0), (1, .int a1)] [] s
  unfold f_X11_isSet at H
  refine Wp.r_iload_n1 (pc := 0) o_X11_isSet rfl rfl (Wp.r_iconst (pc := 1) o_X11_isSet rfl (Wp.f_al0_gfr (pc := 2) o_X11_isSet rfl rfl rfl fk_C_0_5 (Wp.r_cv1 (pc := 6) o_X11_isSet rfl fk_C_25_0 (⟨rm8_ rfl, ?_⟩))))
  refine w_X4_allQuarrels (d := d)  ?_
  refine oq_bd H (fun r1 s2 H => ?_)
  refine Wp.r_cs3 (pc := 9) o_X11_isSet rfl (⟨rm8_ rfl, ?_⟩)
  refine w_X11_within (d := d) _ _ _ ?_
  refine oq_bd H (fun r3 s4 H => ?_)
  obtain ⟨c9, H⟩ := oq_ck H
  exact Wp.r_ireturn (pc := 12) o_X11_isSet rfl (⟨b01_n c9, H⟩)
noncomputable abbrev Y_X11_lack (d : Nat) (Q : Qt) : Xt := Wp SHC (WpM SHC MT (d + 4)) (flat2 cq_X11_lack) (some .int) Q
noncomputable def f_X11_lack (a1 : Int32) (s : Sg) : Option (Int32 × Sg) :=
  bd (f_X11_isSet a1 s) (fun r1 s2 =>
  if r1 = 0 then
    bd (f_X11_refuse 1 s2) (fun r3 s4 =>
    some (r3, s4)
    )
  else
    bd (f_X0_lackOf_25_26 a1 s2) (fun r5 s6 =>
    bd (f_X11_answer r5 s6) (fun r7 s8 =>
    some (r7, s8)
    )
    )
  )
set_option maxRecDepth 100000 in
theorem w_X11_lack {d : Nat} {s : Sg} {Q : Qt} (a1 : Int32) (H : OQ (f_X11_lack a1 s) (fun r9 s9 => Q (some (.int r9)) s9)) : WpM SHC MT (d + 5) 151 [.ref 0, .int a1] s Q := by
  refine WpM.enter me_X11_lack rfl rfl ?_
  show Y_X11_lack d Q 0 [(0, .ref 0), (1, .int a1)] [] s
  unfold f_X11_lack at H
  refine Wp.r_aload_n0 (pc := 0) o_X11_lack rfl rfl (Wp.r_iload_n1 (pc := 1) o_X11_lack rfl rfl (Wp.r_cv2 (pc := 2) o_X11_lack rfl fk_C_0_0 (⟨rm8_ rfl, ?_⟩)))
  refine w_X11_isSet (d := d + 2) _ ?_
  refine oq_bd H (fun r1 s2 H => ?_)
  refine Wp.r_if_ne (pc := 5) o_X11_lack rfl (fun c9 => ?_) (fun c9 => ?_)
  · have H := oq_t c9 H
    refine Wp.f_al0_iconst (pc := 8) o_X11_lack rfl rfl rfl (Wp.r_cv2 (pc := 10) o_X11_lack rfl fk_C_0_0 (⟨rm8_ rfl, ?_⟩))
    refine w_X11_refuse (d := d + 3) _ ?_
    refine oq_bd H (fun r3 s4 H => ?_)
    exact Wp.r_ireturn (pc := 13) o_X11_lack rfl (⟨rfl, H⟩)
  · have H := oq_f c9 H
    refine Wp.r_aload_n0 (pc := 14) o_X11_lack rfl rfl (Wp.f_al0_gfr (pc := 15) o_X11_lack rfl rfl rfl fk_C_0_9 (Wp.f_al0_gfr (pc := 19) o_X11_lack rfl rfl rfl fk_C_0_5 (Wp.f_al0_gfr (pc := 23) o_X11_lack rfl rfl rfl fk_C_0_6 (Wp.r_iload_n1 (pc := 27) o_X11_lack rfl rfl (Wp.r_cv4 (pc := 28) o_X11_lack rfl fk_C_6_0 (⟨rm8_ rfl, ?_⟩))))))
    refine w_X0_lackOf_25_26 (d := d) _ ?_
    refine oq_bd H (fun r5 s6 H => ?_)
    refine Wp.r_cv2 (pc := 31) o_X11_lack rfl fk_C_0_0 (⟨rm8_ rfl, ?_⟩)
    refine w_X11_answer (d := d + 3) _ ?_
    refine oq_bd H (fun r7 s8 H => ?_)
    exact Wp.r_ireturn (pc := 34) o_X11_lack rfl (⟨rfl, H⟩)
noncomputable abbrev Y_X11_lackAt (d : Nat) (Q : Qt) : Xt := Wp SHC (WpM SHC MT (d + 3)) (flat2 cq_X11_lackAt) (some .int) Q
noncomputable def f_X11_lackAt (a1 : Int32) (a2 : Int32) (s : Sg) : Option (Int32 × Sg) :=
  bd (f_X11_isSet a1 s) (fun r1 s2 =>
  bd (f_X11_whyNoStep a2 r1 s2) (fun r3 s4 =>
  if r3 = 0 then
    bd (f_X4_withoutHope s4) (fun r5 s6 =>
    if (a1 &&& r5) = 0 then
      bd (f_X0_lackOnStep_25_26 a1 a2 s6) (fun r7 s8 =>
      bd (f_X11_answer r7 s8) (fun r9 s10 =>
      some (r9, s10)
      )
      )
    else
      bd (f_X11_answer (-1) s6) (fun r11 s12 =>
      some (r11, s12)
      )
    )
  else
    bd (f_X11_refuse r3 s4) (fun r13 s14 =>
    some (r13, s14)
    )
  )
  )
set_option maxRecDepth 100000 in
theorem w_X11_lackAt {d : Nat} {s : Sg} {Q : Qt} (a1 : Int32) (a2 : Int32) (H : OQ (f_X11_lackAt a1 a2 s) (fun r9 s9 => Q (some (.int r9)) s9)) : WpM SHC MT (d + 4) 152 [.ref 0, .int a1, .int a2] s Q := by
  refine WpM.enter me_X11_lackAt rfl rfl ?_
  show Y_X11_lackAt d Q 0 [(0, .ref 0), (1, .int a1), (2, .int a2)] [] s
  unfold f_X11_lackAt at H
  refine Wp.r_aload_n0 (pc := 0) o_X11_lackAt rfl rfl (Wp.r_iload_n2 (pc := 1) o_X11_lackAt rfl rfl (Wp.r_aload_n0 (pc := 2) o_X11_lackAt rfl rfl (Wp.r_iload_n1 (pc := 3) o_X11_lackAt rfl rfl (Wp.r_cv2 (pc := 4) o_X11_lackAt rfl fk_C_0_0 (⟨rm8_ rfl, ?_⟩)))))
  refine w_X11_isSet (d := d + 1) _ ?_
  refine oq_bd H (fun r1 s2 H => ?_)
  refine Wp.r_cv3 (pc := 7) o_X11_lackAt rfl fk_C_0_0 (⟨rm8_ rfl, ?_⟩)
  refine w_X11_whyNoStep (d := d) _ _ ?_
  refine oq_bd H (fun r3 s4 H => ?_)
  refine Wp.r_istore_n3 (pc := 10) o_X11_lackAt rfl (Wp.r_iload_n3 (pc := 11) o_X11_lackAt rfl rfl (Wp.r_if_eq (pc := 12) o_X11_lackAt rfl (fun c9 => ?_) (fun c9 => ?_)))
  · have H := oq_t c9 H
    refine Wp.r_iload_n1 (pc := 21) o_X11_lackAt rfl rfl (Wp.f_al0_gfr (pc := 22) o_X11_lackAt rfl rfl rfl fk_C_0_5 (Wp.r_cv1 (pc := 26) o_X11_lackAt rfl fk_C_25_0 (⟨rm8_ rfl, ?_⟩)))
    refine w_X4_withoutHope (d := d + 1)  ?_
    refine oq_bd H (fun r5 s6 H => ?_)
    refine Wp.r_iand (pc := 29) o_X11_lackAt rfl (Wp.r_if_eq (pc := 30) o_X11_lackAt rfl (fun c9 => ?_) (fun c9 => ?_))
    · have H := oq_t c9 H
      refine Wp.r_aload_n0 (pc := 39) o_X11_lackAt rfl rfl (Wp.f_al0_gfr (pc := 40) o_X11_lackAt rfl rfl rfl fk_C_0_9 (Wp.f_al0_gfr (pc := 44) o_X11_lackAt rfl rfl rfl fk_C_0_5 (Wp.f_al0_gfr (pc := 48) o_X11_lackAt rfl rfl rfl fk_C_0_6 (Wp.r_iload_n1 (pc := 52) o_X11_lackAt rfl rfl (Wp.r_iload_n2 (pc := 53) o_X11_lackAt rfl rfl (Wp.r_cv5 (pc := 54) o_X11_lackAt rfl fk_C_6_0 (⟨rm8_ rfl, ?_⟩)))))))
      refine w_X0_lackOnStep_25_26 (d := d) _ _ ?_
      refine oq_bd H (fun r7 s8 H => ?_)
      refine Wp.r_cv2 (pc := 57) o_X11_lackAt rfl fk_C_0_0 (⟨rm8_ rfl, ?_⟩)
      refine w_X11_answer (d := d + 2) _ ?_
      refine oq_bd H (fun r9 s10 H => ?_)
      exact Wp.r_ireturn (pc := 60) o_X11_lackAt rfl (⟨rfl, H⟩)
    · have H := oq_f c9 H
      refine Wp.f_al0_iconst (pc := 33) o_X11_lackAt rfl rfl rfl (Wp.r_cv2 (pc := 35) o_X11_lackAt rfl fk_C_0_0 (⟨rm8_ rfl, ?_⟩))
      refine w_X11_answer (d := d + 2) _ ?_
      refine oq_bd H (fun r11 s12 H => ?_)
      exact Wp.r_ireturn (pc := 38) o_X11_lackAt rfl (⟨rfl, H⟩)
  · have H := oq_f c9 H
    refine Wp.r_aload_n0 (pc := 15) o_X11_lackAt rfl rfl (Wp.r_iload_n3 (pc := 16) o_X11_lackAt rfl rfl (Wp.r_cv2 (pc := 17) o_X11_lackAt rfl fk_C_0_0 (⟨rm8_ rfl, ?_⟩)))
    refine w_X11_refuse (d := d + 2) _ ?_
    refine oq_bd H (fun r13 s14 H => ?_)
    exact Wp.r_ireturn (pc := 20) o_X11_lackAt rfl (⟨rfl, H⟩)
noncomputable abbrev Y_X9_freedBy_26_25 (d : Nat) (Q : Qt) : Xt := Wp SHC (WpM SHC MT (d + 3)) (flat2 cq_X9_freedBy) (some .int) Q
noncomputable def f_X9_freedBy_26_25 (a2 : Int32) (s : Sg) : Option (Int32 × Sg) :=
  bd (f_X9_atPeace_26_25 a2 s) (fun r1 s2 =>
  bd (f_X9_atPeace_26_25 (-1) s2) (fun r3 s4 =>
  some ((r1 &&& (r3 ^^^ (-1))) &&& (((1 : Int32) <<< (a2 &&& 31)) ^^^ (-1)), s4)
  )
  )
set_option maxRecDepth 100000 in
theorem w_X9_freedBy_26_25 {d : Nat} {s : Sg} {Q : Qt} (a2 : Int32) (H : OQ (f_X9_freedBy_26_25 a2 s) (fun r9 s9 => Q (some (.int r9)) s9)) : WpM SHC MT (d + 4) 96 [.ref 25, .ref 26, .int a2] s Q := by
  refine WpM.enter me_X9_freedBy rfl rfl ?_
  show Y_X9_freedBy_26_25 d Q 0 [(0, .ref 25), (1, .ref 26), (2, .int a2)] [] s
  unfold f_X9_freedBy_26_25 at H
  refine Wp.r_aload_n0 (pc := 0) o_X9_freedBy rfl rfl (Wp.r_aload_n1 (pc := 1) o_X9_freedBy rfl rfl (Wp.r_iload_n2 (pc := 2) o_X9_freedBy rfl rfl (Wp.r_cs3 (pc := 3) o_X9_freedBy rfl (⟨rm8_ rfl, ?_⟩))))
  refine w_X9_atPeace_26_25 (d := d) _ ?_
  refine oq_bd H (fun r1 s2 H => ?_)
  refine Wp.r_istore_n3 (pc := 6) o_X9_freedBy rfl (Wp.r_iload_n3 (pc := 7) o_X9_freedBy rfl rfl (Wp.r_aload_n0 (pc := 8) o_X9_freedBy rfl rfl (Wp.f_al1_iconst (pc := 9) o_X9_freedBy rfl rfl rfl (Wp.r_cs3 (pc := 11) o_X9_freedBy rfl (⟨rm8_ rfl, ?_⟩)))))
  refine w_X9_atPeace_26_25 (d := d) _ ?_
  refine oq_bd H (fun r3 s4 H => ?_)
  exact Wp.r_iconst (pc := 14) o_X9_freedBy rfl (Wp.r_ixor (pc := 15) o_X9_freedBy rfl (Wp.r_iand (pc := 16) o_X9_freedBy rfl (Wp.r_iconst (pc := 17) o_X9_freedBy rfl (Wp.r_iload_n2 (pc := 18) o_X9_freedBy rfl rfl (Wp.r_ishl (pc := 19) o_X9_freedBy rfl (Wp.r_iconst (pc := 20) o_X9_freedBy rfl (Wp.r_ixor (pc := 21) o_X9_freedBy rfl (Wp.r_iand (pc := 22) o_X9_freedBy rfl (Wp.r_ireturn (pc := 23) o_X9_freedBy rfl (⟨rfl, H⟩))))))))))
noncomputable abbrev Y_X11_freed (d : Nat) (Q : Qt) : Xt := Wp SHC (WpM SHC MT (d + 4)) (flat2 cq_X11_freed) (some .int) Q
noncomputable def f_X11_freed (a1 : Int32) (s : Sg) : Option (Int32 × Sg) :=
  bd (f_X11_isQuarrel a1 s) (fun r1 s2 =>
  if r1 = 0 then
    bd (f_X11_refuse 1 s2) (fun r3 s4 =>
    some (r3, s4)
    )
  else
    bd (f_X9_freedBy_26_25 a1 s2) (fun r5 s6 =>
    bd (f_X11_answer r5 s6) (fun r7 s8 =>
    some (r7, s8)
    )
    )
  )
set_option maxRecDepth 100000 in
theorem w_X11_freed {d : Nat} {s : Sg} {Q : Qt} (a1 : Int32) (H : OQ (f_X11_freed a1 s) (fun r9 s9 => Q (some (.int r9)) s9)) : WpM SHC MT (d + 5) 153 [.ref 0, .int a1] s Q := by
  refine WpM.enter me_X11_freed rfl rfl ?_
  show Y_X11_freed d Q 0 [(0, .ref 0), (1, .int a1)] [] s
  unfold f_X11_freed at H
  refine Wp.r_aload_n0 (pc := 0) o_X11_freed rfl rfl (Wp.r_iload_n1 (pc := 1) o_X11_freed rfl rfl (Wp.r_cv2 (pc := 2) o_X11_freed rfl fk_C_0_0 (⟨rm8_ rfl, ?_⟩)))
  refine w_X11_isQuarrel (d := d + 2) _ ?_
  refine oq_bd H (fun r1 s2 H => ?_)
  refine Wp.r_if_ne (pc := 5) o_X11_freed rfl (fun c9 => ?_) (fun c9 => ?_)
  · have H := oq_t c9 H
    refine Wp.f_al0_iconst (pc := 8) o_X11_freed rfl rfl rfl (Wp.r_cv2 (pc := 10) o_X11_freed rfl fk_C_0_0 (⟨rm8_ rfl, ?_⟩))
    refine w_X11_refuse (d := d + 3) _ ?_
    refine oq_bd H (fun r3 s4 H => ?_)
    exact Wp.r_ireturn (pc := 13) o_X11_freed rfl (⟨rfl, H⟩)
  · have H := oq_f c9 H
    refine Wp.r_aload_n0 (pc := 14) o_X11_freed rfl rfl (Wp.f_al0_gfr (pc := 15) o_X11_freed rfl rfl rfl fk_C_0_5 (Wp.f_al0_gfr (pc := 19) o_X11_freed rfl rfl rfl fk_C_0_6 (Wp.r_iload_n1 (pc := 23) o_X11_freed rfl rfl (Wp.r_cs3 (pc := 24) o_X11_freed rfl (⟨rm8_ rfl, ?_⟩)))))
    refine w_X9_freedBy_26_25 (d := d) _ ?_
    refine oq_bd H (fun r5 s6 H => ?_)
    refine Wp.r_cv2 (pc := 27) o_X11_freed rfl fk_C_0_0 (⟨rm8_ rfl, ?_⟩)
    refine w_X11_answer (d := d + 3) _ ?_
    refine oq_bd H (fun r7 s8 H => ?_)
    exact Wp.r_ireturn (pc := 30) o_X11_freed rfl (⟨rfl, H⟩)
noncomputable abbrev Y_X11_cost (d : Nat) (Q : Qt) : Xt := Wp SHC (WpM SHC MT (d + 3)) (flat2 cq_X11_cost) (some .int) Q
noncomputable def f_X11_cost (a1 : Int32) (s : Sg) : Option (Int32 × Sg) :=
  bd (f_X11_within a1 0 9999 s) (fun r1 s2 =>
  if r1 = 0 then
    bd (f_X11_refuse 1 s2) (fun r3 s4 =>
    some (r3, s4)
    )
  else
    bd (f_X0_payFor_25_26 a1 s2) (fun r5 s6 =>
    if r5 = 0 then
      bd (f_X11_refuse 6 s6) (fun r7 s8 =>
      some (r7, s8)
      )
    else
      bd (f_X11_answer (s6.1 6 3) s6) (fun r9 s10 =>
      some (r9, s10)
      )
    )
  )
set_option maxRecDepth 100000 in
theorem w_X11_cost {d : Nat} {s : Sg} {Q : Qt} (a1 : Int32) (H : OQ (f_X11_cost a1 s) (fun r9 s9 => Q (some (.int r9)) s9)) : WpM SHC MT (d + 4) 154 [.ref 0, .int a1] s Q := by
  refine WpM.enter me_X11_cost rfl rfl ?_
  show Y_X11_cost d Q 0 [(0, .ref 0), (1, .int a1)] [] s
  unfold f_X11_cost at H
  refine Wp.r_iload_n1 (pc := 0) o_X11_cost rfl rfl (Wp.r_iconst (pc := 1) o_X11_cost rfl (Wp.r_sipush (pc := 2) o_X11_cost rfl (Wp.r_cs3 (pc := 5) o_X11_cost rfl (⟨rm8_ rfl, ?_⟩))))
  refine w_X11_within (d := d + 2) _ _ _ ?_
  refine oq_bd H (fun r1 s2 H => ?_)
  refine Wp.r_if_ne (pc := 8) o_X11_cost rfl (fun c9 => ?_) (fun c9 => ?_)
  · have H := oq_t c9 H
    refine Wp.f_al0_iconst (pc := 11) o_X11_cost rfl rfl rfl (Wp.r_cv2 (pc := 13) o_X11_cost rfl fk_C_0_0 (⟨rm8_ rfl, ?_⟩))
    refine w_X11_refuse (d := d + 2) _ ?_
    refine oq_bd H (fun r3 s4 H => ?_)
    exact Wp.r_ireturn (pc := 16) o_X11_cost rfl (⟨rfl, H⟩)
  · have H := oq_f c9 H
    refine Wp.f_al0_gfr (pc := 17) o_X11_cost rfl rfl rfl fk_C_0_9 (Wp.f_al0_gfr (pc := 21) o_X11_cost rfl rfl rfl fk_C_0_5 (Wp.f_al0_gfr (pc := 25) o_X11_cost rfl rfl rfl fk_C_0_6 (Wp.r_iload_n1 (pc := 29) o_X11_cost rfl rfl (Wp.r_cv4 (pc := 30) o_X11_cost rfl fk_C_6_0 (⟨rm8_ rfl, ?_⟩)))))
    refine w_X0_payFor_25_26 (d := d) _ ?_
    refine oq_bd H (fun r5 s6 H => ?_)
    refine Wp.r_if_eq (pc := 33) o_X11_cost rfl (fun c9 => ?_) (fun c9 => ?_)
    · have H := oq_t c9 H
      refine Wp.r_aload_n0 (pc := 50) o_X11_cost rfl rfl (Wp.r_bipush (pc := 51) o_X11_cost rfl (Wp.r_cv2 (pc := 53) o_X11_cost rfl fk_C_0_0 (⟨rm8_ rfl, ?_⟩)))
      refine w_X11_refuse (d := d + 2) _ ?_
      refine oq_bd H (fun r7 s8 H => ?_)
      exact Wp.r_ireturn (pc := 56) o_X11_cost rfl (⟨rfl, H⟩)
    · have H := oq_f c9 H
      refine Wp.r_aload_n0 (pc := 36) o_X11_cost rfl rfl (Wp.f_al0_gfr (pc := 37) o_X11_cost rfl rfl rfl fk_C_0_9 (Wp.r_gfi (pc := 41) o_X11_cost rfl fk_C_6_3 (Wp.r_cv2 (pc := 44) o_X11_cost rfl fk_C_0_0 (⟨rm8_ rfl, ?_⟩))))
      refine w_X11_answer (d := d + 2) _ ?_
      refine oq_bd H (fun r9 s10 H => ?_)
      exact Wp.r_goto (pc := 47) o_X11_cost rfl (Wp.r_ireturn (pc := 56) o_X11_cost rfl (⟨rfl, H⟩))
noncomputable abbrev Y_X11_dearest (d : Nat) (Q : Qt) : Xt := Wp SHC (WpM SHC MT (d + 3)) (flat2 cq_X11_dearest) (some .int) Q
noncomputable def f_X11_dearest (a1 : Int32) (s : Sg) : Option (Int32 × Sg) :=
  bd (f_X11_within a1 1 9999 s) (fun r1 s2 =>
  if r1 = 0 then
    bd (f_X11_refuse 1 s2) (fun r3 s4 =>
    some (r3, s4)
    )
  else
    bd (f_X0_payFor_25_26 a1 s2) (fun r5 s6 =>
    if r5 = 0 then
      bd (f_X11_refuse 6 s6) (fun r7 s8 =>
      some (r7, s8)
      )
    else
      bd (f_X11_answer (s6.1 6 4) s6) (fun r9 s10 =>
      some (r9, s10)
      )
    )
  )
set_option maxRecDepth 100000 in
theorem w_X11_dearest {d : Nat} {s : Sg} {Q : Qt} (a1 : Int32) (H : OQ (f_X11_dearest a1 s) (fun r9 s9 => Q (some (.int r9)) s9)) : WpM SHC MT (d + 4) 155 [.ref 0, .int a1] s Q := by
  refine WpM.enter me_X11_dearest rfl rfl ?_
  show Y_X11_dearest d Q 0 [(0, .ref 0), (1, .int a1)] [] s
  unfold f_X11_dearest at H
  refine Wp.r_iload_n1 (pc := 0) o_X11_dearest rfl rfl (Wp.r_iconst (pc := 1) o_X11_dearest rfl (Wp.r_sipush (pc := 2) o_X11_dearest rfl (Wp.r_cs3 (pc := 5) o_X11_dearest rfl (⟨rm8_ rfl, ?_⟩))))
  refine w_X11_within (d := d + 2) _ _ _ ?_
  refine oq_bd H (fun r1 s2 H => ?_)
  refine Wp.r_if_ne (pc := 8) o_X11_dearest rfl (fun c9 => ?_) (fun c9 => ?_)
  · have H := oq_t c9 H
    refine Wp.f_al0_iconst (pc := 11) o_X11_dearest rfl rfl rfl (Wp.r_cv2 (pc := 13) o_X11_dearest rfl fk_C_0_0 (⟨rm8_ rfl, ?_⟩))
    refine w_X11_refuse (d := d + 2) _ ?_
    refine oq_bd H (fun r3 s4 H => ?_)
    exact Wp.r_ireturn (pc := 16) o_X11_dearest rfl (⟨rfl, H⟩)
  · have H := oq_f c9 H
    refine Wp.f_al0_gfr (pc := 17) o_X11_dearest rfl rfl rfl fk_C_0_9 (Wp.f_al0_gfr (pc := 21) o_X11_dearest rfl rfl rfl fk_C_0_5 (Wp.f_al0_gfr (pc := 25) o_X11_dearest rfl rfl rfl fk_C_0_6 (Wp.r_iload_n1 (pc := 29) o_X11_dearest rfl rfl (Wp.r_cv4 (pc := 30) o_X11_dearest rfl fk_C_6_0 (⟨rm8_ rfl, ?_⟩)))))
    refine w_X0_payFor_25_26 (d := d) _ ?_
    refine oq_bd H (fun r5 s6 H => ?_)
    refine Wp.r_if_eq (pc := 33) o_X11_dearest rfl (fun c9 => ?_) (fun c9 => ?_)
    · have H := oq_t c9 H
      refine Wp.r_aload_n0 (pc := 50) o_X11_dearest rfl rfl (Wp.r_bipush (pc := 51) o_X11_dearest rfl (Wp.r_cv2 (pc := 53) o_X11_dearest rfl fk_C_0_0 (⟨rm8_ rfl, ?_⟩)))
      refine w_X11_refuse (d := d + 2) _ ?_
      refine oq_bd H (fun r7 s8 H => ?_)
      exact Wp.r_ireturn (pc := 56) o_X11_dearest rfl (⟨rfl, H⟩)
    · have H := oq_f c9 H
      refine Wp.r_aload_n0 (pc := 36) o_X11_dearest rfl rfl (Wp.f_al0_gfr (pc := 37) o_X11_dearest rfl rfl rfl fk_C_0_9 (Wp.r_gfi (pc := 41) o_X11_dearest rfl fk_C_6_4 (Wp.r_cv2 (pc := 44) o_X11_dearest rfl fk_C_0_0 (⟨rm8_ rfl, ?_⟩))))
      refine w_X11_answer (d := d + 2) _ ?_
      refine oq_bd H (fun r9 s10 H => ?_)
      exact Wp.r_goto (pc := 47) o_X11_dearest rfl (Wp.r_ireturn (pc := 56) o_X11_dearest rfl (⟨rfl, H⟩))
noncomputable abbrev Y_X11_quiet (d : Nat) (Q : Qt) : Xt := Wp SHC (WpM SHC MT (d + 3)) (flat2 cq_X11_quiet) (some .int) Q
noncomputable def f_X11_quiet_b28 (v1 : Int32) (v2 : Int32) (v3 : Int32) (t0 : Int32) (t1 : Int32) (s : Sg) : Option (Int32 × Sg) :=
  bd (f_X11_whyNoStep t1 t0 s) (fun r3 s4 =>
  if r3 = 0 then
    ck (inr v1 8) (
    bd (f_X11_answer (if 0 < ((v2 + ((s4.1 25 18) * v3)) - (s4.1 40 v1.toNatClampNeg)) then ((v2 + ((s4.1 25 18) * v3)) - (s4.1 40 v1.toNatClampNeg)) else 0) s4) (fun r6 s7 =>
    some (r6, s7)
    )
    )
  else
    bd (f_X11_refuse r3 s4) (fun r8 s9 =>
    some (r8, s9)
    )
  )
set_option maxRecDepth 100000 in
theorem w_X11_quiet_b28 {d : Nat} {Q : Qt} (v1 : Int32) (v2 : Int32) (v3 : Int32) (t0 : Int32) (t1 : Int32) (s : Sg) (H : OQ (f_X11_quiet_b28 v1 v2 v3 t0 t1 s) (fun r9 s9 => Q (some (.int r9)) s9)) : Y_X11_quiet d Q 28 [(0, .ref 0), (1, .int v1), (2, .int v2), (3, .int v3)] [.int t0, .int t1, .ref 0] s := by
  unfold f_X11_quiet_b28 at H
  refine Wp.r_cv3 (pc := 28) o_X11_quiet rfl fk_C_0_0 (⟨rm8_ rfl, ?_⟩)
  refine w_X11_whyNoStep (d := d) _ _ ?_
  refine oq_bd H (fun r3 s4 H => ?_)
  refine Wp.r_istore (pc := 31) o_X11_quiet rfl (Wp.r_iload (pc := 33) o_X11_quiet rfl rfl (Wp.r_if_eq (pc := 35) o_X11_quiet rfl (fun c9 => ?_) (fun c9 => ?_)))
  · have H := oq_t c9 H
    obtain ⟨hc5, H⟩ := oq_ck H
    refine Wp.f_al0_iconst (pc := 45) o_X11_quiet rfl rfl rfl (Wp.r_iload_n2 (pc := 47) o_X11_quiet rfl rfl (Wp.f_al0_gfr (pc := 48) o_X11_quiet rfl rfl rfl fk_C_0_5 (Wp.r_gfi (pc := 52) o_X11_quiet rfl fk_C_25_18 (Wp.r_iload_n3 (pc := 55) o_X11_quiet rfl rfl (Wp.r_imul (pc := 56) o_X11_quiet rfl (Wp.r_iadd (pc := 57) o_X11_quiet rfl (Wp.f_al0_gfr (pc := 58) o_X11_quiet rfl rfl rfl fk_C_0_6 (Wp.r_gfr (pc := 62) o_X11_quiet rfl fk_C_26_0 (Wp.r_iload_n1 (pc := 65) o_X11_quiet rfl rfl (Wp.r_iaload (pc := 66) o_X11_quiet rfl ak_C_40 (⟨hc5, ?_⟩)))))))))))
    refine Wp.r_isub (pc := 67) o_X11_quiet rfl (Wp.r_max (pc := 68) o_X11_quiet rfl (⟨rm8_ rfl, ?_⟩))
    refine Wp.r_cv2 (pc := 71) o_X11_quiet rfl fk_C_0_0 (⟨rm8_ rfl, ?_⟩)
    refine w_X11_answer (d := d + 2) _ ?_
    refine oq_bd H (fun r6 s7 H => ?_)
    exact Wp.r_ireturn (pc := 74) o_X11_quiet rfl (⟨rfl, H⟩)
  · have H := oq_f c9 H
    refine Wp.r_aload_n0 (pc := 38) o_X11_quiet rfl rfl (Wp.r_iload (pc := 39) o_X11_quiet rfl rfl (Wp.r_cv2 (pc := 41) o_X11_quiet rfl fk_C_0_0 (⟨rm8_ rfl, ?_⟩)))
    refine w_X11_refuse (d := d + 2) _ ?_
    refine oq_bd H (fun r8 s9 H => ?_)
    exact Wp.r_ireturn (pc := 44) o_X11_quiet rfl (⟨rfl, H⟩)
noncomputable def f_X11_quiet_b27 (v1 : Int32) (v2 : Int32) (v3 : Int32) (t0 : Int32) (s : Sg) : Option (Int32 × Sg) :=
  f_X11_quiet_b28 v1 v2 v3 0 t0 s
set_option maxRecDepth 100000 in
theorem w_X11_quiet_b27 {d : Nat} {Q : Qt} (v1 : Int32) (v2 : Int32) (v3 : Int32) (t0 : Int32) (s : Sg) (H : OQ (f_X11_quiet_b27 v1 v2 v3 t0 s) (fun r9 s9 => Q (some (.int r9)) s9)) : Y_X11_quiet d Q 27 [(0, .ref 0), (1, .int v1), (2, .int v2), (3, .int v3)] [.int t0, .ref 0] s := by
  unfold f_X11_quiet_b27 at H
  exact Wp.r_iconst (pc := 27) o_X11_quiet rfl (Wp.weak2 [0, 1, 2, 3] (w_X11_quiet_b28 _ _ _ _ _ _ H) rfl)
noncomputable def f_X11_quiet (a1 : Int32) (a2 : Int32) (a3 : Int32) (s : Sg) : Option (Int32 × Sg) :=
  bd (f_X11_within a2 0 999 s) (fun r1 s2 =>
  if r1 = 0 then
    f_X11_quiet_b27 a1 a2 a3 a1 s2
  else
    bd (f_X11_within a3 0 9 s2) (fun r10 s11 =>
    if r10 = 0 then
      f_X11_quiet_b27 a1 a2 a3 a1 s11
    else
      f_X11_quiet_b28 a1 a2 a3 1 a1 s11
    )
  )
set_option maxRecDepth 100000 in
theorem w_X11_quiet {d : Nat} {s : Sg} {Q : Qt} (a1 : Int32) (a2 : Int32) (a3 : Int32) (H : OQ (f_X11_quiet a1 a2 a3 s) (fun r9 s9 => Q (some (.int r9)) s9)) : WpM SHC MT (d + 4) 156 [.ref 0, .int a1, .int a2, .int a3] s Q := by
  refine WpM.enter me_X11_quiet rfl rfl ?_
  show Y_X11_quiet d Q 0 [(0, .ref 0), (1, .int a1), (2, .int a2), (3, .int a3)] [] s
  unfold f_X11_quiet at H
  refine Wp.r_aload_n0 (pc := 0) o_X11_quiet rfl rfl (Wp.r_iload_n1 (pc := 1) o_X11_quiet rfl rfl (Wp.r_iload_n2 (pc := 2) o_X11_quiet rfl rfl (Wp.r_iconst (pc := 3) o_X11_quiet rfl (Wp.r_sipush (pc := 4) o_X11_quiet rfl (Wp.r_cs3 (pc := 7) o_X11_quiet rfl (⟨rm8_ rfl, ?_⟩))))))
  refine w_X11_within (d := d + 2) _ _ _ ?_
  refine oq_bd H (fun r1 s2 H => ?_)
  refine Wp.r_if_eq (pc := 10) o_X11_quiet rfl (fun c9 => ?_) (fun c9 => ?_)
  · have H := oq_t c9 H
    exact Wp.weak2 [0, 1, 2, 3] (w_X11_quiet_b27 _ _ _ _ _ H) rfl
  · have H := oq_f c9 H
    refine Wp.r_iload_n3 (pc := 13) o_X11_quiet rfl rfl (Wp.r_iconst (pc := 14) o_X11_quiet rfl (Wp.r_bipush (pc := 15) o_X11_quiet rfl (Wp.r_cs3 (pc := 17) o_X11_quiet rfl (⟨rm8_ rfl, ?_⟩))))
    refine w_X11_within (d := d + 2) _ _ _ ?_
    refine oq_bd H (fun r10 s11 H => ?_)
    refine Wp.r_if_eq (pc := 20) o_X11_quiet rfl (fun c9 => ?_) (fun c9 => ?_)
    · have H := oq_t c9 H
      exact Wp.weak2 [0, 1, 2, 3] (w_X11_quiet_b27 _ _ _ _ _ H) rfl
    · have H := oq_f c9 H
      exact Wp.r_iconst (pc := 23) o_X11_quiet rfl (Wp.r_goto (pc := 24) o_X11_quiet rfl (Wp.weak2 [0, 1, 2, 3] (w_X11_quiet_b28 _ _ _ _ _ _ H) rfl))
noncomputable abbrev Y_X0_takeMissing_25_14 (d : Nat) (Q : Qt) : Xt := Wp SHC (WpM SHC MT (d + 1)) (flat2 cq_X0_takeMissing) (some .boolean) Q
noncomputable def f_X0_takeMissing_25_14_b25 (k_2 : Int32 → Sg → Option (Int32 × Sg)) (v3 : Int32) (t0 : Int64) (s : Sg) : Option (Int32 × Sg) :=
  ck (inr v3 60) (
  if (lg_cmp (s.2 14 v3.toNatClampNeg) 0) < 0 then
    some (0, s)
  else
    if (lg_cmp (s.2 14 v3.toNatClampNeg) t0) ≤ 0 then
      ck (inr v3 8) (
      nmx (pI s 21 v3.toNatClampNeg ((s.2 14 v3.toNatClampNeg).toInt32)) (fun s5 =>
      k_2 (v3 + 1) s5
      )
      )
    else
      some (0, s)
  )
set_option maxRecDepth 100000 in
theorem w_X0_takeMissing_25_14_b25 {d : Nat} {Q : Qt} (k_2 : Int32 → Sg → Option (Int32 × Sg)) (h_2 : ∀ (v3 : Int32) s, OQ (k_2 v3 s) (fun r9 s9 => Q (some (.int r9)) s9) → Y_X0_takeMissing_25_14 d Q 2 [(0, .ref 6), (1, .ref 25), (2, .ref 14), (3, .int v3)] [] s) (v3 : Int32) (t0 : Int64) (s : Sg) (H : OQ (f_X0_takeMissing_25_14_b25 k_2 v3 t0 s) (fun r9 s9 => Q (some (.int r9)) s9)) : Y_X0_takeMissing_25_14 d Q 25 [(0, .ref 6), (1, .ref 25), (2, .ref 14), (3, .int v3)] [.long t0] s := by
  unfold f_X0_takeMissing_25_14_b25 at H
  obtain ⟨hc3, H⟩ := oq_ck H
  refine Wp.r_lstore (pc := 25) o_X0_takeMissing rfl (Wp.r_aload_n2 (pc := 27) o_X0_takeMissing rfl rfl (Wp.r_iload_n3 (pc := 28) o_X0_takeMissing rfl rfl (Wp.r_laload (pc := 29) o_X0_takeMissing rfl ak_C_14 (⟨hc3, ?_⟩))))
  refine Wp.r_lconst (pc := 30) o_X0_takeMissing rfl (Wp.r_lcmp (pc := 31) o_X0_takeMissing rfl (Wp.r_if_lt (pc := 32) o_X0_takeMissing rfl (fun c9 => ?_) (fun c9 => ?_)))
  · have H := oq_t c9 H
    exact Wp.r_iconst (pc := 44) o_X0_takeMissing rfl (Wp.r_ireturn (pc := 45) o_X0_takeMissing rfl (⟨rfl, H⟩))
  · have H := oq_f c9 H
    refine Wp.r_aload_n2 (pc := 35) o_X0_takeMissing rfl rfl (Wp.r_iload_n3 (pc := 36) o_X0_takeMissing rfl rfl (Wp.r_laload (pc := 37) o_X0_takeMissing rfl ak_C_14 (⟨hc3, ?_⟩)))
    refine Wp.r_lload (pc := 38) o_X0_takeMissing rfl rfl (Wp.r_lcmp (pc := 40) o_X0_takeMissing rfl (Wp.r_if_le (pc := 41) o_X0_takeMissing rfl (fun c9 => ?_) (fun c9 => ?_)))
    · have H := oq_t c9 H
      refine Wp.f_al0_gfr (pc := 46) o_X0_takeMissing rfl rfl rfl fk_C_6_1 (Wp.r_iload_n3 (pc := 50) o_X0_takeMissing rfl rfl (Wp.r_aload_n2 (pc := 51) o_X0_takeMissing rfl rfl (Wp.r_iload_n3 (pc := 52) o_X0_takeMissing rfl rfl (Wp.r_laload (pc := 53) o_X0_takeMissing rfl ak_C_14 (⟨hc3, ?_⟩)))))
      obtain ⟨hc4, H⟩ := oq_ck H
      refine Wp.r_l2i (pc := 54) o_X0_takeMissing rfl (Wp.r_iastore (pc := 55) o_X0_takeMissing rfl ak_C_21 (⟨hc4, ?_⟩))
      revert H
      generalize pI s 21 v3.toNatClampNeg ((s.2 14 v3.toNatClampNeg).toInt32) = s5
      intro H
      have H := nmx_e H
      exact Wp.f_iinc_goto (pc := 56) o_X0_takeMissing rfl rfl rfl (Wp.weak2 [2, 3, 4, 0] (h_2 _ _ H) rfl)
    · have H := oq_f c9 H
      exact Wp.r_iconst (pc := 44) o_X0_takeMissing rfl (Wp.r_ireturn (pc := 45) o_X0_takeMissing rfl (⟨rfl, H⟩))
noncomputable def f_X0_takeMissing_25_14_b2 : Nat → Int32 → Sg → Option (Int32 × Sg)
  | 0, _, _ => none
  | n + 1, v3, s =>
    if (s.1 25 13) ≤ v3 then
      some (1, s)
    else
      bd (f_X4_isGone v3 s) (fun r1 s2 =>
      if r1 = 0 then
        f_X0_takeMissing_25_14_b25 (f_X0_takeMissing_25_14_b2 n) v3 9999 s2
      else
        f_X0_takeMissing_25_14_b25 (f_X0_takeMissing_25_14_b2 n) v3 0 s2
      )
set_option maxRecDepth 100000 in
theorem w_X0_takeMissing_25_14_b2 {d : Nat} {Q : Qt} (n : Nat) : ∀ (v3 : Int32) (s : Sg), OQ (f_X0_takeMissing_25_14_b2 n v3 s) (fun r9 s9 => Q (some (.int r9)) s9) → Y_X0_takeMissing_25_14 d Q 2 [(0, .ref 6), (1, .ref 25), (2, .ref 14), (3, .int v3)] [] s := by
  induction n with
  | zero => intro v3 s H; exact H.elim
  | succ n ih =>
    intro v3 s H
    unfold f_X0_takeMissing_25_14_b2 at H
    refine Wp.r_iload_n3 (pc := 2) o_X0_takeMissing rfl rfl (Wp.f_al1_gfi (pc := 3) o_X0_takeMissing rfl rfl rfl fk_C_25_13 (Wp.r_icmp_ge (pc := 7) o_X0_takeMissing rfl (fun c9 => ?_) (fun c9 => ?_)))
    · have H := oq_t c9 H
      exact Wp.r_iconst (pc := 62) o_X0_takeMissing rfl (Wp.r_ireturn (pc := 63) o_X0_takeMissing rfl (⟨rfl, H⟩))
    · have H := oq_f c9 H
      refine Wp.r_aload_n1 (pc := 10) o_X0_takeMissing rfl rfl (Wp.r_iload_n3 (pc := 11) o_X0_takeMissing rfl rfl (Wp.r_cv2 (pc := 12) o_X0_takeMissing rfl fk_C_25_0 (⟨rm8_ rfl, ?_⟩)))
      refine w_X4_isGone (d := d) _ ?_
      refine oq_bd H (fun r1 s2 H => ?_)
      refine Wp.r_if_eq (pc := 15) o_X0_takeMissing rfl (fun c9 => ?_) (fun c9 => ?_)
      · have H := oq_t c9 H
        exact Wp.r_ldc2_w (pc := 22) o_X0_takeMissing rfl (Wp.weak2 [0, 1, 2, 3] (w_X0_takeMissing_25_14_b25 (f_X0_takeMissing_25_14_b2 n) ih _ _ _ H) rfl)
      · have H := oq_f c9 H
        exact Wp.r_lconst (pc := 18) o_X0_takeMissing rfl (Wp.r_goto (pc := 19) o_X0_takeMissing rfl (Wp.weak2 [0, 1, 2, 3] (w_X0_takeMissing_25_14_b25 (f_X0_takeMissing_25_14_b2 n) ih _ _ _ H) rfl))
noncomputable def f_X0_takeMissing_25_14  (s : Sg) : Option (Int32 × Sg) :=
  f_X0_takeMissing_25_14_b2 BIG 0 s
set_option maxRecDepth 100000 in
theorem w_X0_takeMissing_25_14 {d : Nat} {s : Sg} {Q : Qt}  (H : OQ (f_X0_takeMissing_25_14  s) (fun r9 s9 => Q (some (.int r9)) s9)) : WpM SHC MT (d + 2) 8 [.ref 6, .ref 25, .ref 14] s Q := by
  refine WpM.enter me_X0_takeMissing rfl rfl ?_
  show Y_X0_takeMissing_25_14 d Q 0 [(0, .ref 6), (1, .ref 25), (2, .ref 14)] [] s
  unfold f_X0_takeMissing_25_14 at H
  exact Wp.r_iconst (pc := 0) o_X0_takeMissing rfl (Wp.r_istore_n3 (pc := 1) o_X0_takeMissing rfl (Wp.weak2 [1, 2, 3, 0] (w_X0_takeMissing_25_14_b2 _ _ _ H) rfl))
noncomputable abbrev Y_X0_isExplained (d : Nat) (Q : Qt) : Xt := Wp SHC (WpM SHC MT (d + 1)) (flat2 cq_X0_isExplained) (some .boolean) Q
noncomputable def f_X0_isExplained_b64 (k_39 : Int32 → Int32 → Sg → Option (Int32 × Sg)) : Nat → Int32 → Int32 → Int32 → Int32 → Sg → Option (Int32 × Sg)
  | 0, _, _, _, _, _ => none
  | n + 1, v1, v4, v5, v6, s =>
    if (v4 + 1) < v6 then
      if v5 ≤ 0 then
        k_39 v1 (v4 + 1) s
      else
        some (0, s)
    else
      if v1 ≤ v6 then
        if v5 ≤ 0 then
          k_39 v1 (v4 + 1) s
        else
          some (0, s)
      else
        ck (inr v6 8) (
        nmx (if (s.1 22 v6.toNatClampNeg) < v5 then (s.1 22 v6.toNatClampNeg) else v5 : Int32) (fun x4 =>
        nmx (pI s 22 v6.toNatClampNeg ((s.1 22 v6.toNatClampNeg) - x4)) (fun s5 =>
        (f_X0_isExplained_b64 k_39 n) v1 v4 (v5 - x4) (v6 + 1) s5
        )
        )
        )
set_option maxRecDepth 100000 in
theorem w_X0_isExplained_b64 {d : Nat} {Q : Qt} (k_39 : Int32 → Int32 → Sg → Option (Int32 × Sg)) (h_39 : ∀ (v1 : Int32) (v4 : Int32) s, OQ (k_39 v1 v4 s) (fun r9 s9 => Q (some (.int r9)) s9) → Y_X0_isExplained d Q 39 [(0, .ref 6), (1, .int v1), (4, .int v4)] [] s) (n : Nat) : ∀ (v1 : Int32) (v4 : Int32) (v5 : Int32) (v6 : Int32) (s : Sg), OQ (f_X0_isExplained_b64 k_39 n v1 v4 v5 v6 s) (fun r9 s9 => Q (some (.int r9)) s9) → Y_X0_isExplained d Q 64 [(0, .ref 6), (1, .int v1), (4, .int v4), (5, .int v5), (6, .int v6)] [] s := by
  induction n with
  | zero => intro v1 v4 v5 v6 s H; exact H.elim
  | succ n ih =>
    intro v1 v4 v5 v6 s H
    unfold f_X0_isExplained_b64 at H
    refine Wp.r_iload (pc := 64) o_X0_isExplained rfl rfl (Wp.r_iload (pc := 66) o_X0_isExplained rfl rfl (Wp.r_iconst (pc := 68) o_X0_isExplained rfl (Wp.r_iadd (pc := 69) o_X0_isExplained rfl (Wp.r_icmp_gt (pc := 70) o_X0_isExplained rfl (fun c9 => ?_) (fun c9 => ?_)))))
    · have H := oq_t c9 H
      refine Wp.r_iload (pc := 118) o_X0_isExplained rfl rfl (Wp.r_if_le (pc := 120) o_X0_isExplained rfl (fun c9 => ?_) (fun c9 => ?_))
      · have H := oq_t c9 H
        exact Wp.f_iinc_goto (pc := 125) o_X0_isExplained rfl rfl rfl (Wp.weak2 [1, 2, 0] (h_39 _ _ _ H) rfl)
      · have H := oq_f c9 H
        exact Wp.r_iconst (pc := 123) o_X0_isExplained rfl (Wp.r_ireturn (pc := 124) o_X0_isExplained rfl (⟨rfl, H⟩))
    · have H := oq_f c9 H
      refine Wp.r_iload (pc := 73) o_X0_isExplained rfl rfl (Wp.r_iload_n1 (pc := 75) o_X0_isExplained rfl rfl (Wp.r_icmp_ge (pc := 76) o_X0_isExplained rfl (fun c9 => ?_) (fun c9 => ?_)))
      · have H := oq_t c9 H
        refine Wp.r_iload (pc := 118) o_X0_isExplained rfl rfl (Wp.r_if_le (pc := 120) o_X0_isExplained rfl (fun c9 => ?_) (fun c9 => ?_))
        · have H := oq_t c9 H
          exact Wp.f_iinc_goto (pc := 125) o_X0_isExplained rfl rfl rfl (Wp.weak2 [1, 2, 0] (h_39 _ _ _ H) rfl)
        · have H := oq_f c9 H
          exact Wp.r_iconst (pc := 123) o_X0_isExplained rfl (Wp.r_ireturn (pc := 124) o_X0_isExplained rfl (⟨rfl, H⟩))
      · have H := oq_f c9 H
        obtain ⟨hc3, H⟩ := oq_ck H
        refine Wp.r_iload (pc := 79) o_X0_isExplained rfl rfl (Wp.f_al0_gfr (pc := 81) o_X0_isExplained rfl rfl rfl fk_C_6_2 (Wp.r_iload (pc := 85) o_X0_isExplained rfl rfl (Wp.r_iaload (pc := 87) o_X0_isExplained rfl ak_C_22 (⟨hc3, ?_⟩))))
        refine Wp.r_min (pc := 88) o_X0_isExplained rfl (⟨rm8_ rfl, ?_⟩)
        refine Wp.r_istore (pc := 91) o_X0_isExplained rfl (show Y_X0_isExplained d Q 93 [(7, .int (if (s.1 22 v6.toNatClampNeg) < v5 then (s.1 22 v6.toNatClampNeg) else v5)), (0, .ref 6), (1, .int v1), (4, .int v4), (5, .int v5), (6, .int v6)] [] s from ?_)
        revert H
        generalize (if (s.1 22 v6.toNatClampNeg) < v5 then (s.1 22 v6.toNatClampNeg) else v5 : Int32) = x4
        intro H
        have H := nmx_e H
        refine Wp.f_al0_gfr (pc := 93) o_X0_isExplained rfl rfl rfl fk_C_6_2 (Wp.r_iload (pc := 97) o_X0_isExplained rfl rfl (Wp.r_dup2 (pc := 99) o_X0_isExplained rfl (Wp.r_iaload (pc := 100) o_X0_isExplained rfl ak_C_22 (⟨hc3, ?_⟩))))
        refine Wp.r_iload (pc := 101) o_X0_isExplained rfl rfl (Wp.r_isub (pc := 103) o_X0_isExplained rfl (Wp.r_iastore (pc := 104) o_X0_isExplained rfl ak_C_22 (⟨hc3, ?_⟩)))
        revert H
        generalize pI s 22 v6.toNatClampNeg ((s.1 22 v6.toNatClampNeg) - x4) = s5
        intro H
        have H := nmx_e H
        exact Wp.r_iload (pc := 105) o_X0_isExplained rfl rfl (Wp.r_iload (pc := 107) o_X0_isExplained rfl rfl (Wp.r_isub (pc := 109) o_X0_isExplained rfl (Wp.r_istore (pc := 110) o_X0_isExplained rfl (Wp.f_iinc_goto (pc := 112) o_X0_isExplained rfl rfl rfl (Wp.weak2 [3, 4, 5, 1, 0] (ih _ _ _ _ _ H) rfl)))))
noncomputable def f_X0_isExplained_b39 : Nat → Int32 → Int32 → Sg → Option (Int32 × Sg)
  | 0, _, _, _ => none
  | n + 1, v1, v4, s =>
    if v1 ≤ v4 then
      some (1, s)
    else
      ck (inr v4 8) (
      nmx (if 0 < (v4 - 1) then (v4 - 1) else 0 : Int32) (fun x2 =>
      f_X0_isExplained_b64 (f_X0_isExplained_b39 n) BIG v1 v4 (s.1 21 v4.toNatClampNeg) x2 s
      )
      )
set_option maxRecDepth 100000 in
theorem w_X0_isExplained_b39 {d : Nat} {Q : Qt} (n : Nat) : ∀ (v1 : Int32) (v4 : Int32) (s : Sg), OQ (f_X0_isExplained_b39 n v1 v4 s) (fun r9 s9 => Q (some (.int r9)) s9) → Y_X0_isExplained d Q 39 [(0, .ref 6), (1, .int v1), (4, .int v4)] [] s := by
  induction n with
  | zero => intro v1 v4 s H; exact H.elim
  | succ n ih =>
    intro v1 v4 s H
    unfold f_X0_isExplained_b39 at H
    refine Wp.r_iload (pc := 39) o_X0_isExplained rfl rfl (Wp.r_iload_n1 (pc := 41) o_X0_isExplained rfl rfl (Wp.r_icmp_ge (pc := 42) o_X0_isExplained rfl (fun c9 => ?_) (fun c9 => ?_)))
    · have H := oq_t c9 H
      exact Wp.r_iconst (pc := 131) o_X0_isExplained rfl (Wp.r_ireturn (pc := 132) o_X0_isExplained rfl (⟨rfl, H⟩))
    · have H := oq_f c9 H
      obtain ⟨hc1, H⟩ := oq_ck H
      refine Wp.f_al0_gfr (pc := 45) o_X0_isExplained rfl rfl rfl fk_C_6_1 (Wp.r_iload (pc := 49) o_X0_isExplained rfl rfl (Wp.r_iaload (pc := 51) o_X0_isExplained rfl ak_C_21 (⟨hc1, ?_⟩)))
      refine Wp.r_istore (pc := 52) o_X0_isExplained rfl (Wp.r_iconst (pc := 54) o_X0_isExplained rfl (Wp.r_iload (pc := 55) o_X0_isExplained rfl rfl (Wp.r_iconst (pc := 57) o_X0_isExplained rfl (Wp.r_isub (pc := 58) o_X0_isExplained rfl (Wp.r_max (pc := 59) o_X0_isExplained rfl (⟨rm8_ rfl, ?_⟩))))))
      refine Wp.r_istore (pc := 62) o_X0_isExplained rfl (show Y_X0_isExplained d Q 64 [(6, .int (if 0 < (v4 - 1) then (v4 - 1) else 0)), (5, .int (s.1 21 v4.toNatClampNeg)), (0, .ref 6), (1, .int v1), (4, .int v4)] [] s from ?_)
      revert H
      generalize (if 0 < (v4 - 1) then (v4 - 1) else 0 : Int32) = x2
      intro H
      have H := nmx_e H
      exact Wp.weak2 [2, 3, 4, 1, 0] (w_X0_isExplained_b64 (f_X0_isExplained_b39 n) ih _ _ _ _ _ _ H) rfl
noncomputable def f_X0_isExplained_b3 : Nat → Int32 → Int32 → Int32 → Int32 → Sg → Option (Int32 × Sg)
  | 0, _, _, _, _, _ => none
  | n + 1, v1, v2, v3, v4, s =>
    if v1 ≤ v4 then
      f_X0_isExplained_b39 BIG v1 0 s
    else
      bd (f_X11_has v2 v4 s) (fun r6 s7 =>
      if r6 = 0 then
        ck (inr v4 8) (
        (f_X0_isExplained_b3 n) v1 v2 v3 (v4 + 1) (pI s7 22 v4.toNatClampNeg 0)
        )
      else
        ck (inr v4 8) (
        (f_X0_isExplained_b3 n) v1 v2 v3 (v4 + 1) (pI s7 22 v4.toNatClampNeg v3)
        )
      )
set_option maxRecDepth 100000 in
theorem w_X0_isExplained_b3 {d : Nat} {Q : Qt} (n : Nat) : ∀ (v1 : Int32) (v2 : Int32) (v3 : Int32) (v4 : Int32) (s : Sg), OQ (f_X0_isExplained_b3 n v1 v2 v3 v4 s) (fun r9 s9 => Q (some (.int r9)) s9) → Y_X0_isExplained d Q 3 [(0, .ref 6), (1, .int v1), (2, .int v2), (3, .int v3), (4, .int v4)] [] s := by
  induction n with
  | zero => intro v1 v2 v3 v4 s H; exact H.elim
  | succ n ih =>
    intro v1 v2 v3 v4 s H
    unfold f_X0_isExplained_b3 at H
    refine Wp.r_iload (pc := 3) o_X0_isExplained rfl rfl (Wp.r_iload_n1 (pc := 5) o_X0_isExplained rfl rfl (Wp.r_icmp_ge (pc := 6) o_X0_isExplained rfl (fun c9 => ?_) (fun c9 => ?_)))
    · have H := oq_t c9 H
      exact Wp.r_iconst (pc := 36) o_X0_isExplained rfl (Wp.r_istore (pc := 37) o_X0_isExplained rfl (Wp.weak2 [1, 2, 0] (w_X0_isExplained_b39 _ _ _ _ H) rfl))
    · have H := oq_f c9 H
      refine Wp.f_al0_gfr (pc := 9) o_X0_isExplained rfl rfl rfl fk_C_6_2 (Wp.r_iload (pc := 13) o_X0_isExplained rfl rfl (Wp.r_iload_n2 (pc := 15) o_X0_isExplained rfl rfl (Wp.r_iload (pc := 16) o_X0_isExplained rfl rfl (Wp.r_cs2 (pc := 18) o_X0_isExplained rfl (⟨rm8_ rfl, ?_⟩)))))
      refine w_X11_has (d := d) _ _ ?_
      refine oq_bd H (fun r6 s7 H => ?_)
      refine Wp.r_if_eq (pc := 21) o_X0_isExplained rfl (fun c9 => ?_) (fun c9 => ?_)
      · have H := oq_t c9 H
        obtain ⟨hc8, H⟩ := oq_ck H
        refine Wp.r_iconst (pc := 28) o_X0_isExplained rfl (Wp.r_iastore (pc := 29) o_X0_isExplained rfl ak_C_22 (⟨hc8, ?_⟩))
        exact Wp.f_iinc_goto (pc := 30) o_X0_isExplained rfl rfl rfl (Wp.weak2 [1, 2, 3, 4, 0] (ih _ _ _ _ _ H) rfl)
      · have H := oq_f c9 H
        obtain ⟨hc9, H⟩ := oq_ck H
        refine Wp.r_iload_n3 (pc := 24) o_X0_isExplained rfl rfl (Wp.r_goto (pc := 25) o_X0_isExplained rfl (Wp.r_iastore (pc := 29) o_X0_isExplained rfl ak_C_22 (⟨hc9, ?_⟩)))
        exact Wp.f_iinc_goto (pc := 30) o_X0_isExplained rfl rfl rfl (Wp.weak2 [1, 2, 3, 4, 0] (ih _ _ _ _ _ H) rfl)
noncomputable def f_X0_isExplained (a1 : Int32) (a2 : Int32) (a3 : Int32) (s : Sg) : Option (Int32 × Sg) :=
  f_X0_isExplained_b3 BIG a1 a2 a3 0 s
set_option maxRecDepth 100000 in
theorem w_X0_isExplained {d : Nat} {s : Sg} {Q : Qt} (a1 : Int32) (a2 : Int32) (a3 : Int32) (H : OQ (f_X0_isExplained a1 a2 a3 s) (fun r9 s9 => Q (some (.int r9)) s9)) : WpM SHC MT (d + 2) 10 [.ref 6, .int a1, .int a2, .int a3] s Q := by
  refine WpM.enter me_X0_isExplained rfl rfl ?_
  show Y_X0_isExplained d Q 0 [(0, .ref 6), (1, .int a1), (2, .int a2), (3, .int a3)] [] s
  unfold f_X0_isExplained at H
  exact Wp.r_iconst (pc := 0) o_X0_isExplained rfl (Wp.r_istore (pc := 1) o_X0_isExplained rfl (Wp.weak2 [1, 2, 3, 4, 0] (w_X0_isExplained_b3 _ _ _ _ _ _ H) rfl))
noncomputable abbrev Y_X0_fewestSweepers (d : Nat) (Q : Qt) : Xt := Wp SHC (WpM SHC MT (d + 2)) (flat2 cq_X0_fewestSweepers) (some .int) Q
noncomputable def f_X0_fewestSweepers_b10 : Nat → Int32 → Int32 → Int32 → Int32 → Int32 → Sg → Option (Int32 × Sg)
  | 0, _, _, _, _, _, _ => none
  | n + 1, v1, v2, v3, v4, v5, s =>
    if ((1 : Int32) <<< (v1 &&& 31)) ≤ v5 then
      some (v3, s)
    else
      bd (f_bitCount v5 s) (fun r1 s2 =>
      if v4 ≤ r1 then
        (f_X0_fewestSweepers_b10 n) v1 v2 v3 v4 (v5 + 1) s2
      else
        bd (f_X0_isExplained v1 v5 v2 s2) (fun r3 s4 =>
        if r3 = 0 then
          (f_X0_fewestSweepers_b10 n) v1 v2 v3 v4 (v5 + 1) s4
        else
          (f_X0_fewestSweepers_b10 n) v1 v2 v5 r1 (v5 + 1) s4
        )
      )
set_option maxRecDepth 100000 in
theorem w_X0_fewestSweepers_b10 {d : Nat} {Q : Qt} (n : Nat) : ∀ (v1 : Int32) (v2 : Int32) (v3 : Int32) (v4 : Int32) (v5 : Int32) (s : Sg), OQ (f_X0_fewestSweepers_b10 n v1 v2 v3 v4 v5 s) (fun r9 s9 => Q (some (.int r9)) s9) → Y_X0_fewestSweepers d Q 10 [(0, .ref 6), (1, .int v1), (2, .int v2), (3, .int v3), (4, .int v4), (5, .int v5)] [] s := by
  induction n with
  | zero => intro v1 v2 v3 v4 v5 s H; exact H.elim
  | succ n ih =>
    intro v1 v2 v3 v4 v5 s H
    unfold f_X0_fewestSweepers_b10 at H
    refine Wp.r_iload (pc := 10) o_X0_fewestSweepers rfl rfl (Wp.r_iconst (pc := 12) o_X0_fewestSweepers rfl (Wp.r_iload_n1 (pc := 13) o_X0_fewestSweepers rfl rfl (Wp.r_ishl (pc := 14) o_X0_fewestSweepers rfl (Wp.r_icmp_ge (pc := 15) o_X0_fewestSweepers rfl (fun c9 => ?_) (fun c9 => ?_)))))
    · have H := oq_t c9 H
      exact Wp.r_iload_n3 (pc := 56) o_X0_fewestSweepers rfl rfl (Wp.r_ireturn (pc := 57) o_X0_fewestSweepers rfl (⟨rfl, H⟩))
    · have H := oq_f c9 H
      refine Wp.r_iload (pc := 18) o_X0_fewestSweepers rfl rfl (Wp.r_cs1 (pc := 20) o_X0_fewestSweepers rfl (⟨rm8_ rfl, ?_⟩))
      refine w_bitCount (d := d + 1) _ ?_
      refine oq_bd H (fun r1 s2 H => ?_)
      refine Wp.r_istore (pc := 23) o_X0_fewestSweepers rfl (Wp.r_iload (pc := 25) o_X0_fewestSweepers rfl rfl (Wp.r_iload (pc := 27) o_X0_fewestSweepers rfl rfl (Wp.r_icmp_ge (pc := 29) o_X0_fewestSweepers rfl (fun c9 => ?_) (fun c9 => ?_))))
      · have H := oq_t c9 H
        exact Wp.f_iinc_goto (pc := 50) o_X0_fewestSweepers rfl rfl rfl (Wp.weak2 [2, 3, 4, 5, 6, 0] (ih _ _ _ _ _ _ H) rfl)
      · have H := oq_f c9 H
        refine Wp.r_aload_n0 (pc := 32) o_X0_fewestSweepers rfl rfl (Wp.r_iload_n1 (pc := 33) o_X0_fewestSweepers rfl rfl (Wp.r_iload (pc := 34) o_X0_fewestSweepers rfl rfl (Wp.r_iload_n2 (pc := 36) o_X0_fewestSweepers rfl rfl (Wp.r_cv4 (pc := 37) o_X0_fewestSweepers rfl fk_C_6_0 (⟨rm8_ rfl, ?_⟩)))))
        refine w_X0_isExplained (d := d) _ _ _ ?_
        refine oq_bd H (fun r3 s4 H => ?_)
        refine Wp.r_if_eq (pc := 40) o_X0_fewestSweepers rfl (fun c9 => ?_) (fun c9 => ?_)
        · have H := oq_t c9 H
          exact Wp.f_iinc_goto (pc := 50) o_X0_fewestSweepers rfl rfl rfl (Wp.weak2 [2, 3, 4, 5, 6, 0] (ih _ _ _ _ _ _ H) rfl)
        · have H := oq_f c9 H
          exact Wp.r_iload (pc := 43) o_X0_fewestSweepers rfl rfl (Wp.r_istore (pc := 45) o_X0_fewestSweepers rfl (Wp.r_iload (pc := 47) o_X0_fewestSweepers rfl rfl (Wp.r_istore_n3 (pc := 49) o_X0_fewestSweepers rfl (Wp.f_iinc_goto (pc := 50) o_X0_fewestSweepers rfl rfl rfl (Wp.weak2 [4, 5, 6, 1, 2, 0] (ih _ _ _ _ _ _ H) rfl)))))
noncomputable def f_X0_fewestSweepers (a1 : Int32) (a2 : Int32) (s : Sg) : Option (Int32 × Sg) :=
  f_X0_fewestSweepers_b10 BIG a1 a2 (-1) (a1 + 1) 0 s
set_option maxRecDepth 100000 in
theorem w_X0_fewestSweepers {d : Nat} {s : Sg} {Q : Qt} (a1 : Int32) (a2 : Int32) (H : OQ (f_X0_fewestSweepers a1 a2 s) (fun r9 s9 => Q (some (.int r9)) s9)) : WpM SHC MT (d + 3) 9 [.ref 6, .int a1, .int a2] s Q := by
  refine WpM.enter me_X0_fewestSweepers rfl rfl ?_
  show Y_X0_fewestSweepers d Q 0 [(0, .ref 6), (1, .int a1), (2, .int a2)] [] s
  unfold f_X0_fewestSweepers at H
  exact Wp.r_iconst (pc := 0) o_X0_fewestSweepers rfl (Wp.r_istore_n3 (pc := 1) o_X0_fewestSweepers rfl (Wp.r_iload_n1 (pc := 2) o_X0_fewestSweepers rfl rfl (Wp.r_iconst (pc := 3) o_X0_fewestSweepers rfl (Wp.r_iadd (pc := 4) o_X0_fewestSweepers rfl (Wp.r_istore (pc := 5) o_X0_fewestSweepers rfl (Wp.r_iconst (pc := 7) o_X0_fewestSweepers rfl (Wp.r_istore (pc := 8) o_X0_fewestSweepers rfl (Wp.weak2 [3, 4, 5, 2, 1, 0] (w_X0_fewestSweepers_b10 _ _ _ _ _ _ _ H) rfl))))))))
noncomputable abbrev Y_X0_takeMissing_25_15 (d : Nat) (Q : Qt) : Xt := Wp SHC (WpM SHC MT (d + 1)) (flat2 cq_X0_takeMissing) (some .boolean) Q
noncomputable def f_X0_takeMissing_25_15_b25 (k_2 : Int32 → Sg → Option (Int32 × Sg)) (v3 : Int32) (t0 : Int64) (s : Sg) : Option (Int32 × Sg) :=
  ck (inr v3 60) (
  if (lg_cmp (s.2 15 v3.toNatClampNeg) 0) < 0 then
    some (0, s)
  else
    if (lg_cmp (s.2 15 v3.toNatClampNeg) t0) ≤ 0 then
      ck (inr v3 8) (
      nmx (pI s 21 v3.toNatClampNeg ((s.2 15 v3.toNatClampNeg).toInt32)) (fun s5 =>
      k_2 (v3 + 1) s5
      )
      )
    else
      some (0, s)
  )
set_option maxRecDepth 100000 in
theorem w_X0_takeMissing_25_15_b25 {d : Nat} {Q : Qt} (k_2 : Int32 → Sg → Option (Int32 × Sg)) (h_2 : ∀ (v3 : Int32) s, OQ (k_2 v3 s) (fun r9 s9 => Q (some (.int r9)) s9) → Y_X0_takeMissing_25_15 d Q 2 [(0, .ref 6), (1, .ref 25), (2, .ref 15), (3, .int v3)] [] s) (v3 : Int32) (t0 : Int64) (s : Sg) (H : OQ (f_X0_takeMissing_25_15_b25 k_2 v3 t0 s) (fun r9 s9 => Q (some (.int r9)) s9)) : Y_X0_takeMissing_25_15 d Q 25 [(0, .ref 6), (1, .ref 25), (2, .ref 15), (3, .int v3)] [.long t0] s := by
  unfold f_X0_takeMissing_25_15_b25 at H
  obtain ⟨hc3, H⟩ := oq_ck H
  refine Wp.r_lstore (pc := 25) o_X0_takeMissing rfl (Wp.r_aload_n2 (pc := 27) o_X0_takeMissing rfl rfl (Wp.r_iload_n3 (pc := 28) o_X0_takeMissing rfl rfl (Wp.r_laload (pc := 29) o_X0_takeMissing rfl ak_C_15 (⟨hc3, ?_⟩))))
  refine Wp.r_lconst (pc := 30) o_X0_takeMissing rfl (Wp.r_lcmp (pc := 31) o_X0_takeMissing rfl (Wp.r_if_lt (pc := 32) o_X0_takeMissing rfl (fun c9 => ?_) (fun c9 => ?_)))
  · have H := oq_t c9 H
    exact Wp.r_iconst (pc := 44) o_X0_takeMissing rfl (Wp.r_ireturn (pc := 45) o_X0_takeMissing rfl (⟨rfl, H⟩))
  · have H := oq_f c9 H
    refine Wp.r_aload_n2 (pc := 35) o_X0_takeMissing rfl rfl (Wp.r_iload_n3 (pc := 36) o_X0_takeMissing rfl rfl (Wp.r_laload (pc := 37) o_X0_takeMissing rfl ak_C_15 (⟨hc3, ?_⟩)))
    refine Wp.r_lload (pc := 38) o_X0_takeMissing rfl rfl (Wp.r_lcmp (pc := 40) o_X0_takeMissing rfl (Wp.r_if_le (pc := 41) o_X0_takeMissing rfl (fun c9 => ?_) (fun c9 => ?_)))
    · have H := oq_t c9 H
      refine Wp.f_al0_gfr (pc := 46) o_X0_takeMissing rfl rfl rfl fk_C_6_1 (Wp.r_iload_n3 (pc := 50) o_X0_takeMissing rfl rfl (Wp.r_aload_n2 (pc := 51) o_X0_takeMissing rfl rfl (Wp.r_iload_n3 (pc := 52) o_X0_takeMissing rfl rfl (Wp.r_laload (pc := 53) o_X0_takeMissing rfl ak_C_15 (⟨hc3, ?_⟩)))))
      obtain ⟨hc4, H⟩ := oq_ck H
      refine Wp.r_l2i (pc := 54) o_X0_takeMissing rfl (Wp.r_iastore (pc := 55) o_X0_takeMissing rfl ak_C_21 (⟨hc4, ?_⟩))
      revert H
      generalize pI s 21 v3.toNatClampNeg ((s.2 15 v3.toNatClampNeg).toInt32) = s5
      intro H
      have H := nmx_e H
      exact Wp.f_iinc_goto (pc := 56) o_X0_takeMissing rfl rfl rfl (Wp.weak2 [2, 3, 4, 0] (h_2 _ _ H) rfl)
    · have H := oq_f c9 H
      exact Wp.r_iconst (pc := 44) o_X0_takeMissing rfl (Wp.r_ireturn (pc := 45) o_X0_takeMissing rfl (⟨rfl, H⟩))
noncomputable def f_X0_takeMissing_25_15_b2 : Nat → Int32 → Sg → Option (Int32 × Sg)
  | 0, _, _ => none
  | n + 1, v3, s =>
    if (s.1 25 13) ≤ v3 then
      some (1, s)
    else
      bd (f_X4_isGone v3 s) (fun r1 s2 =>
      if r1 = 0 then
        f_X0_takeMissing_25_15_b25 (f_X0_takeMissing_25_15_b2 n) v3 9999 s2
      else
        f_X0_takeMissing_25_15_b25 (f_X0_takeMissing_25_15_b2 n) v3 0 s2
      )
set_option maxRecDepth 100000 in
theorem w_X0_takeMissing_25_15_b2 {d : Nat} {Q : Qt} (n : Nat) : ∀ (v3 : Int32) (s : Sg), OQ (f_X0_takeMissing_25_15_b2 n v3 s) (fun r9 s9 => Q (some (.int r9)) s9) → Y_X0_takeMissing_25_15 d Q 2 [(0, .ref 6), (1, .ref 25), (2, .ref 15), (3, .int v3)] [] s := by
  induction n with
  | zero => intro v3 s H; exact H.elim
  | succ n ih =>
    intro v3 s H
    unfold f_X0_takeMissing_25_15_b2 at H
    refine Wp.r_iload_n3 (pc := 2) o_X0_takeMissing rfl rfl (Wp.f_al1_gfi (pc := 3) o_X0_takeMissing rfl rfl rfl fk_C_25_13 (Wp.r_icmp_ge (pc := 7) o_X0_takeMissing rfl (fun c9 => ?_) (fun c9 => ?_)))
    · have H := oq_t c9 H
      exact Wp.r_iconst (pc := 62) o_X0_takeMissing rfl (Wp.r_ireturn (pc := 63) o_X0_takeMissing rfl (⟨rfl, H⟩))
    · have H := oq_f c9 H
      refine Wp.r_aload_n1 (pc := 10) o_X0_takeMissing rfl rfl (Wp.r_iload_n3 (pc := 11) o_X0_takeMissing rfl rfl (Wp.r_cv2 (pc := 12) o_X0_takeMissing rfl fk_C_25_0 (⟨rm8_ rfl, ?_⟩)))
      refine w_X4_isGone (d := d) _ ?_
      refine oq_bd H (fun r1 s2 H => ?_)
      refine Wp.r_if_eq (pc := 15) o_X0_takeMissing rfl (fun c9 => ?_) (fun c9 => ?_)
      · have H := oq_t c9 H
        exact Wp.r_ldc2_w (pc := 22) o_X0_takeMissing rfl (Wp.weak2 [0, 1, 2, 3] (w_X0_takeMissing_25_15_b25 (f_X0_takeMissing_25_15_b2 n) ih _ _ _ H) rfl)
      · have H := oq_f c9 H
        exact Wp.r_lconst (pc := 18) o_X0_takeMissing rfl (Wp.r_goto (pc := 19) o_X0_takeMissing rfl (Wp.weak2 [0, 1, 2, 3] (w_X0_takeMissing_25_15_b25 (f_X0_takeMissing_25_15_b2 n) ih _ _ _ H) rfl))
noncomputable def f_X0_takeMissing_25_15  (s : Sg) : Option (Int32 × Sg) :=
  f_X0_takeMissing_25_15_b2 BIG 0 s
set_option maxRecDepth 100000 in
theorem w_X0_takeMissing_25_15 {d : Nat} {s : Sg} {Q : Qt}  (H : OQ (f_X0_takeMissing_25_15  s) (fun r9 s9 => Q (some (.int r9)) s9)) : WpM SHC MT (d + 2) 8 [.ref 6, .ref 25, .ref 15] s Q := by
  refine WpM.enter me_X0_takeMissing rfl rfl ?_
  show Y_X0_takeMissing_25_15 d Q 0 [(0, .ref 6), (1, .ref 25), (2, .ref 15)] [] s
  unfold f_X0_takeMissing_25_15 at H
  exact Wp.r_iconst (pc := 0) o_X0_takeMissing rfl (Wp.r_istore_n3 (pc := 1) o_X0_takeMissing rfl (Wp.weak2 [1, 2, 3, 0] (w_X0_takeMissing_25_15_b2 _ _ _ H) rfl))
noncomputable abbrev Y_X0_takeMissing_25_16 (d : Nat) (Q : Qt) : Xt := Wp SHC (WpM SHC MT (d + 1)) (flat2 cq_X0_takeMissing) (some .boolean) Q
noncomputable def f_X0_takeMissing_25_16_b25 (k_2 : Int32 → Sg → Option (Int32 × Sg)) (v3 : Int32) (t0 : Int64) (s : Sg) : Option (Int32 × Sg) :=
  ck (inr v3 60) (
  if (lg_cmp (s.2 16 v3.toNatClampNeg) 0) < 0 then
    some (0, s)
  else
    if (lg_cmp (s.2 16 v3.toNatClampNeg) t0) ≤ 0 then
      ck (inr v3 8) (
      nmx (pI s 21 v3.toNatClampNeg ((s.2 16 v3.toNatClampNeg).toInt32)) (fun s5 =>
      k_2 (v3 + 1) s5
      )
      )
    else
      some (0, s)
  )
set_option maxRecDepth 100000 in
theorem w_X0_takeMissing_25_16_b25 {d : Nat} {Q : Qt} (k_2 : Int32 → Sg → Option (Int32 × Sg)) (h_2 : ∀ (v3 : Int32) s, OQ (k_2 v3 s) (fun r9 s9 => Q (some (.int r9)) s9) → Y_X0_takeMissing_25_16 d Q 2 [(0, .ref 6), (1, .ref 25), (2, .ref 16), (3, .int v3)] [] s) (v3 : Int32) (t0 : Int64) (s : Sg) (H : OQ (f_X0_takeMissing_25_16_b25 k_2 v3 t0 s) (fun r9 s9 => Q (some (.int r9)) s9)) : Y_X0_takeMissing_25_16 d Q 25 [(0, .ref 6), (1, .ref 25), (2, .ref 16), (3, .int v3)] [.long t0] s := by
  unfold f_X0_takeMissing_25_16_b25 at H
  obtain ⟨hc3, H⟩ := oq_ck H
  refine Wp.r_lstore (pc := 25) o_X0_takeMissing rfl (Wp.r_aload_n2 (pc := 27) o_X0_takeMissing rfl rfl (Wp.r_iload_n3 (pc := 28) o_X0_takeMissing rfl rfl (Wp.r_laload (pc := 29) o_X0_takeMissing rfl ak_C_16 (⟨hc3, ?_⟩))))
  refine Wp.r_lconst (pc := 30) o_X0_takeMissing rfl (Wp.r_lcmp (pc := 31) o_X0_takeMissing rfl (Wp.r_if_lt (pc := 32) o_X0_takeMissing rfl (fun c9 => ?_) (fun c9 => ?_)))
  · have H := oq_t c9 H
    exact Wp.r_iconst (pc := 44) o_X0_takeMissing rfl (Wp.r_ireturn (pc := 45) o_X0_takeMissing rfl (⟨rfl, H⟩))
  · have H := oq_f c9 H
    refine Wp.r_aload_n2 (pc := 35) o_X0_takeMissing rfl rfl (Wp.r_iload_n3 (pc := 36) o_X0_takeMissing rfl rfl (Wp.r_laload (pc := 37) o_X0_takeMissing rfl ak_C_16 (⟨hc3, ?_⟩)))
    refine Wp.r_lload (pc := 38) o_X0_takeMissing rfl rfl (Wp.r_lcmp (pc := 40) o_X0_takeMissing rfl (Wp.r_if_le (pc := 41) o_X0_takeMissing rfl (fun c9 => ?_) (fun c9 => ?_)))
    · have H := oq_t c9 H
      refine Wp.f_al0_gfr (pc := 46) o_X0_takeMissing rfl rfl rfl fk_C_6_1 (Wp.r_iload_n3 (pc := 50) o_X0_takeMissing rfl rfl (Wp.r_aload_n2 (pc := 51) o_X0_takeMissing rfl rfl (Wp.r_iload_n3 (pc := 52) o_X0_takeMissing rfl rfl (Wp.r_laload (pc := 53) o_X0_takeMissing rfl ak_C_16 (⟨hc3, ?_⟩)))))
      obtain ⟨hc4, H⟩ := oq_ck H
      refine Wp.r_l2i (pc := 54) o_X0_takeMissing rfl (Wp.r_iastore (pc := 55) o_X0_takeMissing rfl ak_C_21 (⟨hc4, ?_⟩))
      revert H
      generalize pI s 21 v3.toNatClampNeg ((s.2 16 v3.toNatClampNeg).toInt32) = s5
      intro H
      have H := nmx_e H
      exact Wp.f_iinc_goto (pc := 56) o_X0_takeMissing rfl rfl rfl (Wp.weak2 [2, 3, 4, 0] (h_2 _ _ H) rfl)
    · have H := oq_f c9 H
      exact Wp.r_iconst (pc := 44) o_X0_takeMissing rfl (Wp.r_ireturn (pc := 45) o_X0_takeMissing rfl (⟨rfl, H⟩))
noncomputable def f_X0_takeMissing_25_16_b2 : Nat → Int32 → Sg → Option (Int32 × Sg)
  | 0, _, _ => none
  | n + 1, v3, s =>
    if (s.1 25 13) ≤ v3 then
      some (1, s)
    else
      bd (f_X4_isGone v3 s) (fun r1 s2 =>
      if r1 = 0 then
        f_X0_takeMissing_25_16_b25 (f_X0_takeMissing_25_16_b2 n) v3 9999 s2
      else
        f_X0_takeMissing_25_16_b25 (f_X0_takeMissing_25_16_b2 n) v3 0 s2
      )
set_option maxRecDepth 100000 in
theorem w_X0_takeMissing_25_16_b2 {d : Nat} {Q : Qt} (n : Nat) : ∀ (v3 : Int32) (s : Sg), OQ (f_X0_takeMissing_25_16_b2 n v3 s) (fun r9 s9 => Q (some (.int r9)) s9) → Y_X0_takeMissing_25_16 d Q 2 [(0, .ref 6), (1, .ref 25), (2, .ref 16), (3, .int v3)] [] s := by
  induction n with
  | zero => intro v3 s H; exact H.elim
  | succ n ih =>
    intro v3 s H
    unfold f_X0_takeMissing_25_16_b2 at H
    refine Wp.r_iload_n3 (pc := 2) o_X0_takeMissing rfl rfl (Wp.f_al1_gfi (pc := 3) o_X0_takeMissing rfl rfl rfl fk_C_25_13 (Wp.r_icmp_ge (pc := 7) o_X0_takeMissing rfl (fun c9 => ?_) (fun c9 => ?_)))
    · have H := oq_t c9 H
      exact Wp.r_iconst (pc := 62) o_X0_takeMissing rfl (Wp.r_ireturn (pc := 63) o_X0_takeMissing rfl (⟨rfl, H⟩))
    · have H := oq_f c9 H
      refine Wp.r_aload_n1 (pc := 10) o_X0_takeMissing rfl rfl (Wp.r_iload_n3 (pc := 11) o_X0_takeMissing rfl rfl (Wp.r_cv2 (pc := 12) o_X0_takeMissing rfl fk_C_25_0 (⟨rm8_ rfl, ?_⟩)))
      refine w_X4_isGone (d := d) _ ?_
      refine oq_bd H (fun r1 s2 H => ?_)
      refine Wp.r_if_eq (pc := 15) o_X0_takeMissing rfl (fun c9 => ?_) (fun c9 => ?_)
      · have H := oq_t c9 H
        exact Wp.r_ldc2_w (pc := 22) o_X0_takeMissing rfl (Wp.weak2 [0, 1, 2, 3] (w_X0_takeMissing_25_16_b25 (f_X0_takeMissing_25_16_b2 n) ih _ _ _ H) rfl)
      · have H := oq_f c9 H
        exact Wp.r_lconst (pc := 18) o_X0_takeMissing rfl (Wp.r_goto (pc := 19) o_X0_takeMissing rfl (Wp.weak2 [0, 1, 2, 3] (w_X0_takeMissing_25_16_b25 (f_X0_takeMissing_25_16_b2 n) ih _ _ _ H) rfl))
noncomputable def f_X0_takeMissing_25_16  (s : Sg) : Option (Int32 × Sg) :=
  f_X0_takeMissing_25_16_b2 BIG 0 s
set_option maxRecDepth 100000 in
theorem w_X0_takeMissing_25_16 {d : Nat} {s : Sg} {Q : Qt}  (H : OQ (f_X0_takeMissing_25_16  s) (fun r9 s9 => Q (some (.int r9)) s9)) : WpM SHC MT (d + 2) 8 [.ref 6, .ref 25, .ref 16] s Q := by
  refine WpM.enter me_X0_takeMissing rfl rfl ?_
  show Y_X0_takeMissing_25_16 d Q 0 [(0, .ref 6), (1, .ref 25), (2, .ref 16)] [] s
  unfold f_X0_takeMissing_25_16 at H
  exact Wp.r_iconst (pc := 0) o_X0_takeMissing rfl (Wp.r_istore_n3 (pc := 1) o_X0_takeMissing rfl (Wp.weak2 [1, 2, 3, 0] (w_X0_takeMissing_25_16_b2 _ _ _ H) rfl))
noncomputable abbrev Y_X0_takeMissing_25_17 (d : Nat) (Q : Qt) : Xt := Wp SHC (WpM SHC MT (d + 1)) (flat2 cq_X0_takeMissing) (some .boolean) Q
noncomputable def f_X0_takeMissing_25_17_b25 (k_2 : Int32 → Sg → Option (Int32 × Sg)) (v3 : Int32) (t0 : Int64) (s : Sg) : Option (Int32 × Sg) :=
  ck (inr v3 60) (
  if (lg_cmp (s.2 17 v3.toNatClampNeg) 0) < 0 then
    some (0, s)
  else
    if (lg_cmp (s.2 17 v3.toNatClampNeg) t0) ≤ 0 then
      ck (inr v3 8) (
      nmx (pI s 21 v3.toNatClampNeg ((s.2 17 v3.toNatClampNeg).toInt32)) (fun s5 =>
      k_2 (v3 + 1) s5
      )
      )
    else
      some (0, s)
  )
set_option maxRecDepth 100000 in
theorem w_X0_takeMissing_25_17_b25 {d : Nat} {Q : Qt} (k_2 : Int32 → Sg → Option (Int32 × Sg)) (h_2 : ∀ (v3 : Int32) s, OQ (k_2 v3 s) (fun r9 s9 => Q (some (.int r9)) s9) → Y_X0_takeMissing_25_17 d Q 2 [(0, .ref 6), (1, .ref 25), (2, .ref 17), (3, .int v3)] [] s) (v3 : Int32) (t0 : Int64) (s : Sg) (H : OQ (f_X0_takeMissing_25_17_b25 k_2 v3 t0 s) (fun r9 s9 => Q (some (.int r9)) s9)) : Y_X0_takeMissing_25_17 d Q 25 [(0, .ref 6), (1, .ref 25), (2, .ref 17), (3, .int v3)] [.long t0] s := by
  unfold f_X0_takeMissing_25_17_b25 at H
  obtain ⟨hc3, H⟩ := oq_ck H
  refine Wp.r_lstore (pc := 25) o_X0_takeMissing rfl (Wp.r_aload_n2 (pc := 27) o_X0_takeMissing rfl rfl (Wp.r_iload_n3 (pc := 28) o_X0_takeMissing rfl rfl (Wp.r_laload (pc := 29) o_X0_takeMissing rfl ak_C_17 (⟨hc3, ?_⟩))))
  refine Wp.r_lconst (pc := 30) o_X0_takeMissing rfl (Wp.r_lcmp (pc := 31) o_X0_takeMissing rfl (Wp.r_if_lt (pc := 32) o_X0_takeMissing rfl (fun c9 => ?_) (fun c9 => ?_)))
  · have H := oq_t c9 H
    exact Wp.r_iconst (pc := 44) o_X0_takeMissing rfl (Wp.r_ireturn (pc := 45) o_X0_takeMissing rfl (⟨rfl, H⟩))
  · have H := oq_f c9 H
    refine Wp.r_aload_n2 (pc := 35) o_X0_takeMissing rfl rfl (Wp.r_iload_n3 (pc := 36) o_X0_takeMissing rfl rfl (Wp.r_laload (pc := 37) o_X0_takeMissing rfl ak_C_17 (⟨hc3, ?_⟩)))
    refine Wp.r_lload (pc := 38) o_X0_takeMissing rfl rfl (Wp.r_lcmp (pc := 40) o_X0_takeMissing rfl (Wp.r_if_le (pc := 41) o_X0_takeMissing rfl (fun c9 => ?_) (fun c9 => ?_)))
    · have H := oq_t c9 H
      refine Wp.f_al0_gfr (pc := 46) o_X0_takeMissing rfl rfl rfl fk_C_6_1 (Wp.r_iload_n3 (pc := 50) o_X0_takeMissing rfl rfl (Wp.r_aload_n2 (pc := 51) o_X0_takeMissing rfl rfl (Wp.r_iload_n3 (pc := 52) o_X0_takeMissing rfl rfl (Wp.r_laload (pc := 53) o_X0_takeMissing rfl ak_C_17 (⟨hc3, ?_⟩)))))
      obtain ⟨hc4, H⟩ := oq_ck H
      refine Wp.r_l2i (pc := 54) o_X0_takeMissing rfl (Wp.r_iastore (pc := 55) o_X0_takeMissing rfl ak_C_21 (⟨hc4, ?_⟩))
      revert H
      generalize pI s 21 v3.toNatClampNeg ((s.2 17 v3.toNatClampNeg).toInt32) = s5
      intro H
      have H := nmx_e H
      exact Wp.f_iinc_goto (pc := 56) o_X0_takeMissing rfl rfl rfl (Wp.weak2 [2, 3, 4, 0] (h_2 _ _ H) rfl)
    · have H := oq_f c9 H
      exact Wp.r_iconst (pc := 44) o_X0_takeMissing rfl (Wp.r_ireturn (pc := 45) o_X0_takeMissing rfl (⟨rfl, H⟩))
noncomputable def f_X0_takeMissing_25_17_b2 : Nat → Int32 → Sg → Option (Int32 × Sg)
  | 0, _, _ => none
  | n + 1, v3, s =>
    if (s.1 25 13) ≤ v3 then
      some (1, s)
    else
      bd (f_X4_isGone v3 s) (fun r1 s2 =>
      if r1 = 0 then
        f_X0_takeMissing_25_17_b25 (f_X0_takeMissing_25_17_b2 n) v3 9999 s2
      else
        f_X0_takeMissing_25_17_b25 (f_X0_takeMissing_25_17_b2 n) v3 0 s2
      )
set_option maxRecDepth 100000 in
theorem w_X0_takeMissing_25_17_b2 {d : Nat} {Q : Qt} (n : Nat) : ∀ (v3 : Int32) (s : Sg), OQ (f_X0_takeMissing_25_17_b2 n v3 s) (fun r9 s9 => Q (some (.int r9)) s9) → Y_X0_takeMissing_25_17 d Q 2 [(0, .ref 6), (1, .ref 25), (2, .ref 17), (3, .int v3)] [] s := by
  induction n with
  | zero => intro v3 s H; exact H.elim
  | succ n ih =>
    intro v3 s H
    unfold f_X0_takeMissing_25_17_b2 at H
    refine Wp.r_iload_n3 (pc := 2) o_X0_takeMissing rfl rfl (Wp.f_al1_gfi (pc := 3) o_X0_takeMissing rfl rfl rfl fk_C_25_13 (Wp.r_icmp_ge (pc := 7) o_X0_takeMissing rfl (fun c9 => ?_) (fun c9 => ?_)))
    · have H := oq_t c9 H
      exact Wp.r_iconst (pc := 62) o_X0_takeMissing rfl (Wp.r_ireturn (pc := 63) o_X0_takeMissing rfl (⟨rfl, H⟩))
    · have H := oq_f c9 H
      refine Wp.r_aload_n1 (pc := 10) o_X0_takeMissing rfl rfl (Wp.r_iload_n3 (pc := 11) o_X0_takeMissing rfl rfl (Wp.r_cv2 (pc := 12) o_X0_takeMissing rfl fk_C_25_0 (⟨rm8_ rfl, ?_⟩)))
      refine w_X4_isGone (d := d) _ ?_
      refine oq_bd H (fun r1 s2 H => ?_)
      refine Wp.r_if_eq (pc := 15) o_X0_takeMissing rfl (fun c9 => ?_) (fun c9 => ?_)
      · have H := oq_t c9 H
        exact Wp.r_ldc2_w (pc := 22) o_X0_takeMissing rfl (Wp.weak2 [0, 1, 2, 3] (w_X0_takeMissing_25_17_b25 (f_X0_takeMissing_25_17_b2 n) ih _ _ _ H) rfl)
      · have H := oq_f c9 H
        exact Wp.r_lconst (pc := 18) o_X0_takeMissing rfl (Wp.r_goto (pc := 19) o_X0_takeMissing rfl (Wp.weak2 [0, 1, 2, 3] (w_X0_takeMissing_25_17_b25 (f_X0_takeMissing_25_17_b2 n) ih _ _ _ H) rfl))
noncomputable def f_X0_takeMissing_25_17  (s : Sg) : Option (Int32 × Sg) :=
  f_X0_takeMissing_25_17_b2 BIG 0 s
set_option maxRecDepth 100000 in
theorem w_X0_takeMissing_25_17 {d : Nat} {s : Sg} {Q : Qt}  (H : OQ (f_X0_takeMissing_25_17  s) (fun r9 s9 => Q (some (.int r9)) s9)) : WpM SHC MT (d + 2) 8 [.ref 6, .ref 25, .ref 17] s Q := by
  refine WpM.enter me_X0_takeMissing rfl rfl ?_
  show Y_X0_takeMissing_25_17 d Q 0 [(0, .ref 6), (1, .ref 25), (2, .ref 17)] [] s
  unfold f_X0_takeMissing_25_17 at H
  exact Wp.r_iconst (pc := 0) o_X0_takeMissing rfl (Wp.r_istore_n3 (pc := 1) o_X0_takeMissing rfl (Wp.weak2 [1, 2, 3, 0] (w_X0_takeMissing_25_17_b2 _ _ _ H) rfl))
noncomputable abbrev Y_X11_who (d : Nat) (Q : Qt) : Xt := Wp SHC (WpM SHC MT (d + 3)) (flat2 cq_X11_who) (some .int) Q
noncomputable def f_X11_who (a1 : Int32) (a2 : Int32) (s : Sg) : Option (Int32 × Sg) :=
  bd (f_X11_isTray a1 s) (fun r1 s2 =>
  if r1 = 0 then
    bd (f_X11_refuse 1 s2) (fun r3 s4 =>
    some (r3, s4)
    )
  else
    bd (f_X11_within a2 1 999 s2) (fun r5 s6 =>
    if r5 = 0 then
      bd (f_X11_refuse 1 s6) (fun r7 s8 =>
      some (r7, s8)
      )
    else
      ck (inr a1 4) (
      sel4 a1
        (
          if (s6.1 10 1) = 0 then
            bd (f_X11_refuse 2 s6) (fun r10 s11 =>
            some (r10, s11)
            )
          else
            if (s6.1 25 13) ≤ (s6.1 10 3) then
              bd (f_X0_takeMissing_25_14 s6) (fun r12 s13 =>
              if r12 = 0 then
                bd (f_X11_refuse 5 s13) (fun r14 s15 =>
                some (r14, s15)
                )
              else
                bd (f_X0_fewestSweepers (s13.1 25 13) a2 s13) (fun r16 s17 =>
                bd (f_X11_answerIfAny r16 s17) (fun r18 s19 =>
                some (r18, s19)
                )
                )
              )
            else
              bd (f_X11_refuse 3 s6) (fun r20 s21 =>
              some (r20, s21)
              )
        )
        (
          if (s6.1 11 1) = 0 then
            bd (f_X11_refuse 2 s6) (fun r22 s23 =>
            some (r22, s23)
            )
          else
            if (s6.1 25 13) ≤ (s6.1 11 3) then
              bd (f_X0_takeMissing_25_15 s6) (fun r24 s25 =>
              if r24 = 0 then
                bd (f_X11_refuse 5 s25) (fun r26 s27 =>
                some (r26, s27)
                )
              else
                bd (f_X0_fewestSweepers (s25.1 25 13) a2 s25) (fun r28 s29 =>
                bd (f_X11_answerIfAny r28 s29) (fun r30 s31 =>
                some (r30, s31)
                )
                )
              )
            else
              bd (f_X11_refuse 3 s6) (fun r32 s33 =>
              some (r32, s33)
              )
        )
        (
          if (s6.1 12 1) = 0 then
            bd (f_X11_refuse 2 s6) (fun r34 s35 =>
            some (r34, s35)
            )
          else
            if (s6.1 25 13) ≤ (s6.1 12 3) then
              bd (f_X0_takeMissing_25_16 s6) (fun r36 s37 =>
              if r36 = 0 then
                bd (f_X11_refuse 5 s37) (fun r38 s39 =>
                some (r38, s39)
                )
              else
                bd (f_X0_fewestSweepers (s37.1 25 13) a2 s37) (fun r40 s41 =>
                bd (f_X11_answerIfAny r40 s41) (fun r42 s43 =>
                some (r42, s43)
                )
                )
              )
            else
              bd (f_X11_refuse 3 s6) (fun r44 s45 =>
              some (r44, s45)
              )
        )
        (
          if (s6.1 13 1) = 0 then
            bd (f_X11_refuse 2 s6) (fun r46 s47 =>
            some (r46, s47)
            )
          else
            if (s6.1 25 13) ≤ (s6.1 13 3) then
              bd (f_X0_takeMissing_25_17 s6) (fun r48 s49 =>
              if r48 = 0 then
                bd (f_X11_refuse 5 s49) (fun r50 s51 =>
                some (r50, s51)
                )
              else
                bd (f_X0_fewestSweepers (s49.1 25 13) a2 s49) (fun r52 s53 =>
                bd (f_X11_answerIfAny r52 s53) (fun r54 s55 =>
                some (r54, s55)
                )
                )
              )
            else
              bd (f_X11_refuse 3 s6) (fun r56 s57 =>
              some (r56, s57)
              )
        )
      )
    )
  )
set_option maxRecDepth 100000 in
theorem w_X11_who {d : Nat} {s : Sg} {Q : Qt} (a1 : Int32) (a2 : Int32) (H : OQ (f_X11_who a1 a2 s) (fun r9 s9 => Q (some (.int r9)) s9)) : WpM SHC MT (d + 4) 157 [.ref 0, .int a1, .int a2] s Q := by
  refine WpM.enter me_X11_who rfl rfl ?_
  show Y_X11_who d Q 0 [(0, .ref 0), (1, .int a1), (2, .int a2)] [] s
  unfold f_X11_who at H
  refine Wp.r_iload_n1 (pc := 0) o_X11_who rfl rfl (Wp.r_cs1 (pc := 1) o_X11_who rfl (⟨rm8_ rfl, ?_⟩))
  refine w_X11_isTray (d := d + 1) _ ?_
  refine oq_bd H (fun r1 s2 H => ?_)
  refine Wp.r_if_eq (pc := 4) o_X11_who rfl (fun c9 => ?_) (fun c9 => ?_)
  · have H := oq_t c9 H
    refine Wp.f_al0_iconst (pc := 18) o_X11_who rfl rfl rfl (Wp.r_cv2 (pc := 20) o_X11_who rfl fk_C_0_0 (⟨rm8_ rfl, ?_⟩))
    refine w_X11_refuse (d := d + 2) _ ?_
    refine oq_bd H (fun r3 s4 H => ?_)
    exact Wp.r_ireturn (pc := 23) o_X11_who rfl (⟨rfl, H⟩)
  · have H := oq_f c9 H
    refine Wp.r_iload_n2 (pc := 7) o_X11_who rfl rfl (Wp.r_iconst (pc := 8) o_X11_who rfl (Wp.r_sipush (pc := 9) o_X11_who rfl (Wp.r_cs3 (pc := 12) o_X11_who rfl (⟨rm8_ rfl, ?_⟩))))
    refine w_X11_within (d := d + 2) _ _ _ ?_
    refine oq_bd H (fun r5 s6 H => ?_)
    refine Wp.r_if_ne (pc := 15) o_X11_who rfl (fun c9 => ?_) (fun c9 => ?_)
    · have H := oq_t c9 H
      refine Wp.f_al0_iconst (pc := 18) o_X11_who rfl rfl rfl (Wp.r_cv2 (pc := 20) o_X11_who rfl fk_C_0_0 (⟨rm8_ rfl, ?_⟩))
      refine w_X11_refuse (d := d + 2) _ ?_
      refine oq_bd H (fun r7 s8 H => ?_)
      exact Wp.r_ireturn (pc := 23) o_X11_who rfl (⟨rfl, H⟩)
    · have H := oq_f c9 H
      obtain ⟨c9, H⟩ := oq_ck H
      refine Wp.f_al0_gfr (pc := 24) o_X11_who rfl rfl rfl fk_C_0_1 (Wp.r_iload_n1 (pc := 28) o_X11_who rfl rfl (Wp.run 1 (show vp_in a1 4 ∧ (a1 = nI 0 → Y_X11_who d Q 30 [(0, .ref 0), (1, .int a1), (2, .int a2)] [.ref 10] s6) ∧ (a1 = nI 1 → Y_X11_who d Q 30 [(0, .ref 0), (1, .int a1), (2, .int a2)] [.ref 11] s6) ∧ (a1 = nI 2 → Y_X11_who d Q 30 [(0, .ref 0), (1, .int a1), (2, .int a2)] [.ref 12] s6) ∧ (a1 = nI 3 → Y_X11_who d Q 30 [(0, .ref 0), (1, .int a1), (2, .int a2)] [.ref 13] s6) ∧ True from ⟨c9, fun e9 => ?_, fun e9 => ?_, fun e9 => ?_, fun e9 => ?_, trivial⟩)))
      · have ek9 := e9
        have H := oq_sel4_0 (i := a1) e9 H
        refine Wp.r_gfi (pc := 30) o_X11_who rfl fk_C_10_1 (Wp.r_if_ne (pc := 33) o_X11_who rfl (fun c9 => ?_) (fun c9 => ?_))
        · have H := oq_t c9 H
          refine Wp.f_al0_iconst (pc := 36) o_X11_who rfl rfl rfl (Wp.r_cv2 (pc := 38) o_X11_who rfl fk_C_0_0 (⟨rm8_ rfl, ?_⟩))
          refine w_X11_refuse (d := d + 2) _ ?_
          refine oq_bd H (fun r10 s11 H => ?_)
          exact Wp.r_ireturn (pc := 41) o_X11_who rfl (⟨rfl, H⟩)
        · have H := oq_f c9 H
          refine Wp.f_al0_gfr (pc := 42) o_X11_who rfl rfl rfl fk_C_0_1 (Wp.r_iload_n1 (pc := 46) o_X11_who rfl rfl (Wp.run 1 (show vp_in a1 4 ∧ (a1 = nI 0 → Y_X11_who d Q 48 [(0, .ref 0), (1, .int a1), (2, .int a2)] [.ref 10] s6) ∧ (a1 = nI 1 → Y_X11_who d Q 48 [(0, .ref 0), (1, .int a1), (2, .int a2)] [.ref 11] s6) ∧ (a1 = nI 2 → Y_X11_who d Q 48 [(0, .ref 0), (1, .int a1), (2, .int a2)] [.ref 12] s6) ∧ (a1 = nI 3 → Y_X11_who d Q 48 [(0, .ref 0), (1, .int a1), (2, .int a2)] [.ref 13] s6) ∧ True from ⟨by rw [ek9]; unfold vp_in; decide, fun _ => ?_, fun z9 => absurd (ek9.symm.trans z9) (by decide), fun z9 => absurd (ek9.symm.trans z9) (by decide), fun z9 => absurd (ek9.symm.trans z9) (by decide), trivial⟩)))
          refine Wp.r_gfi (pc := 48) o_X11_who rfl fk_C_10_3 (Wp.f_al0_gfr (pc := 51) o_X11_who rfl rfl rfl fk_C_0_5 (Wp.r_gfi (pc := 55) o_X11_who rfl fk_C_25_13 (Wp.r_icmp_ge (pc := 58) o_X11_who rfl (fun c9 => ?_) (fun c9 => ?_))))
          · have H := oq_t c9 H
            refine Wp.f_al0_gfr (pc := 67) o_X11_who rfl rfl rfl fk_C_0_9 (Wp.f_al0_gfr (pc := 71) o_X11_who rfl rfl rfl fk_C_0_5 (Wp.f_al0_gfr (pc := 75) o_X11_who rfl rfl rfl fk_C_0_1 (Wp.r_iload_n1 (pc := 79) o_X11_who rfl rfl (Wp.run 1 (show vp_in a1 4 ∧ (a1 = nI 0 → Y_X11_who d Q 81 [(0, .ref 0), (1, .int a1), (2, .int a2)] [.ref 10, .ref 25, .ref 6] s6) ∧ (a1 = nI 1 → Y_X11_who d Q 81 [(0, .ref 0), (1, .int a1), (2, .int a2)] [.ref 11, .ref 25, .ref 6] s6) ∧ (a1 = nI 2 → Y_X11_who d Q 81 [(0, .ref 0), (1, .int a1), (2, .int a2)] [.ref 12, .ref 25, .ref 6] s6) ∧ (a1 = nI 3 → Y_X11_who d Q 81 [(0, .ref 0), (1, .int a1), (2, .int a2)] [.ref 13, .ref 25, .ref 6] s6) ∧ True from ⟨by rw [ek9]; unfold vp_in; decide, fun _ => ?_, fun z9 => absurd (ek9.symm.trans z9) (by decide), fun z9 => absurd (ek9.symm.trans z9) (by decide), fun z9 => absurd (ek9.symm.trans z9) (by decide), trivial⟩)))))
            refine Wp.r_gfr (pc := 81) o_X11_who rfl fk_C_10_0 (Wp.r_cv3 (pc := 84) o_X11_who rfl fk_C_6_0 (⟨rm8_ rfl, ?_⟩))
            refine w_X0_takeMissing_25_14 (d := d + 1)  ?_
            refine oq_bd H (fun r12 s13 H => ?_)
            refine Wp.r_if_ne (pc := 87) o_X11_who rfl (fun c9 => ?_) (fun c9 => ?_)
            · have H := oq_t c9 H
              refine Wp.f_al0_iconst (pc := 90) o_X11_who rfl rfl rfl (Wp.r_cv2 (pc := 92) o_X11_who rfl fk_C_0_0 (⟨rm8_ rfl, ?_⟩))
              refine w_X11_refuse (d := d + 2) _ ?_
              refine oq_bd H (fun r14 s15 H => ?_)
              exact Wp.r_ireturn (pc := 95) o_X11_who rfl (⟨rfl, H⟩)
            · have H := oq_f c9 H
              refine Wp.r_aload_n0 (pc := 96) o_X11_who rfl rfl (Wp.f_al0_gfr (pc := 97) o_X11_who rfl rfl rfl fk_C_0_9 (Wp.f_al0_gfr (pc := 101) o_X11_who rfl rfl rfl fk_C_0_5 (Wp.r_gfi (pc := 105) o_X11_who rfl fk_C_25_13 (Wp.r_iload_n2 (pc := 108) o_X11_who rfl rfl (Wp.r_cv3 (pc := 109) o_X11_who rfl fk_C_6_0 (⟨rm8_ rfl, ?_⟩))))))
              refine w_X0_fewestSweepers (d := d) _ _ ?_
              refine oq_bd H (fun r16 s17 H => ?_)
              refine Wp.r_cv2 (pc := 112) o_X11_who rfl fk_C_0_0 (⟨rm8_ rfl, ?_⟩)
              refine w_X11_answerIfAny (d := d + 1) _ ?_
              refine oq_bd H (fun r18 s19 H => ?_)
              exact Wp.r_ireturn (pc := 115) o_X11_who rfl (⟨rfl, H⟩)
          · have H := oq_f c9 H
            refine Wp.f_al0_iconst (pc := 61) o_X11_who rfl rfl rfl (Wp.r_cv2 (pc := 63) o_X11_who rfl fk_C_0_0 (⟨rm8_ rfl, ?_⟩))
            refine w_X11_refuse (d := d + 2) _ ?_
            refine oq_bd H (fun r20 s21 H => ?_)
            exact Wp.r_ireturn (pc := 66) o_X11_who rfl (⟨rfl, H⟩)
      · have ek9 := e9
        have H := oq_sel4_1 (i := a1) e9 H
        refine Wp.r_gfi (pc := 30) o_X11_who rfl fk_C_11_1 (Wp.r_if_ne (pc := 33) o_X11_who rfl (fun c9 => ?_) (fun c9 => ?_))
        · have H := oq_t c9 H
          refine Wp.f_al0_iconst (pc := 36) o_X11_who rfl rfl rfl (Wp.r_cv2 (pc := 38) o_X11_who rfl fk_C_0_0 (⟨rm8_ rfl, ?_⟩))
          refine w_X11_refuse (d := d + 2) _ ?_
          refine oq_bd H (fun r22 s23 H => ?_)
          exact Wp.r_ireturn (pc := 41) o_X11_who rfl (⟨rfl, H⟩)
        · have H := oq_f c9 H
          refine Wp.f_al0_gfr (pc := 42) o_X11_who rfl rfl rfl fk_C_0_1 (Wp.r_iload_n1 (pc := 46) o_X11_who rfl rfl (Wp.run 1 (show vp_in a1 4 ∧ (a1 = nI 0 → Y_X11_who d Q 48 [(0, .ref 0), (1, .int a1), (2, .int a2)] [.ref 10] s6) ∧ (a1 = nI 1 → Y_X11_who d Q 48 [(0, .ref 0), (1, .int a1), (2, .int a2)] [.ref 11] s6) ∧ (a1 = nI 2 → Y_X11_who d Q 48 [(0, .ref 0), (1, .int a1), (2, .int a2)] [.ref 12] s6) ∧ (a1 = nI 3 → Y_X11_who d Q 48 [(0, .ref 0), (1, .int a1), (2, .int a2)] [.ref 13] s6) ∧ True from ⟨by rw [ek9]; unfold vp_in; decide, fun z9 => absurd (ek9.symm.trans z9) (by decide), fun _ => ?_, fun z9 => absurd (ek9.symm.trans z9) (by decide), fun z9 => absurd (ek9.symm.trans z9) (by decide), trivial⟩)))
          refine Wp.r_gfi (pc := 48) o_X11_who rfl fk_C_11_3 (Wp.f_al0_gfr (pc := 51) o_X11_who rfl rfl rfl fk_C_0_5 (Wp.r_gfi (pc := 55) o_X11_who rfl fk_C_25_13 (Wp.r_icmp_ge (pc := 58) o_X11_who rfl (fun c9 => ?_) (fun c9 => ?_))))
          · have H := oq_t c9 H
            refine Wp.f_al0_gfr (pc := 67) o_X11_who rfl rfl rfl fk_C_0_9 (Wp.f_al0_gfr (pc := 71) o_X11_who rfl rfl rfl fk_C_0_5 (Wp.f_al0_gfr (pc := 75) o_X11_who rfl rfl rfl fk_C_0_1 (Wp.r_iload_n1 (pc := 79) o_X11_who rfl rfl (Wp.run 1 (show vp_in a1 4 ∧ (a1 = nI 0 → Y_X11_who d Q 81 [(0, .ref 0), (1, .int a1), (2, .int a2)] [.ref 10, .ref 25, .ref 6] s6) ∧ (a1 = nI 1 → Y_X11_who d Q 81 [(0, .ref 0), (1, .int a1), (2, .int a2)] [.ref 11, .ref 25, .ref 6] s6) ∧ (a1 = nI 2 → Y_X11_who d Q 81 [(0, .ref 0), (1, .int a1), (2, .int a2)] [.ref 12, .ref 25, .ref 6] s6) ∧ (a1 = nI 3 → Y_X11_who d Q 81 [(0, .ref 0), (1, .int a1), (2, .int a2)] [.ref 13, .ref 25, .ref 6] s6) ∧ True from ⟨by rw [ek9]; unfold vp_in; decide, fun z9 => absurd (ek9.symm.trans z9) (by decide), fun _ => ?_, fun z9 => absurd (ek9.symm.trans z9) (by decide), fun z9 => absurd (ek9.symm.trans z9) (by decide), trivial⟩)))))
            refine Wp.r_gfr (pc := 81) o_X11_who rfl fk_C_11_0 (Wp.r_cv3 (pc := 84) o_X11_who rfl fk_C_6_0 (⟨rm8_ rfl, ?_⟩))
            refine w_X0_takeMissing_25_15 (d := d + 1)  ?_
            refine oq_bd H (fun r24 s25 H => ?_)
            refine Wp.r_if_ne (pc := 87) o_X11_who rfl (fun c9 => ?_) (fun c9 => ?_)
            · have H := oq_t c9 H
              refine Wp.f_al0_iconst (pc := 90) o_X11_who rfl rfl rfl (Wp.r_cv2 (pc := 92) o_X11_who rfl fk_C_0_0 (⟨rm8_ rfl, ?_⟩))
              refine w_X11_refuse (d := d + 2) _ ?_
              refine oq_bd H (fun r26 s27 H => ?_)
              exact Wp.r_ireturn (pc := 95) o_X11_who rfl (⟨rfl, H⟩)
            · have H := oq_f c9 H
              refine Wp.r_aload_n0 (pc := 96) o_X11_who rfl rfl (Wp.f_al0_gfr (pc := 97) o_X11_who rfl rfl rfl fk_C_0_9 (Wp.f_al0_gfr (pc := 101) o_X11_who rfl rfl rfl fk_C_0_5 (Wp.r_gfi (pc := 105) o_X11_who rfl fk_C_25_13 (Wp.r_iload_n2 (pc := 108) o_X11_who rfl rfl (Wp.r_cv3 (pc := 109) o_X11_who rfl fk_C_6_0 (⟨rm8_ rfl, ?_⟩))))))
              refine w_X0_fewestSweepers (d := d) _ _ ?_
              refine oq_bd H (fun r28 s29 H => ?_)
              refine Wp.r_cv2 (pc := 112) o_X11_who rfl fk_C_0_0 (⟨rm8_ rfl, ?_⟩)
              refine w_X11_answerIfAny (d := d + 1) _ ?_
              refine oq_bd H (fun r30 s31 H => ?_)
              exact Wp.r_ireturn (pc := 115) o_X11_who rfl (⟨rfl, H⟩)
          · have H := oq_f c9 H
            refine Wp.f_al0_iconst (pc := 61) o_X11_who rfl rfl rfl (Wp.r_cv2 (pc := 63) o_X11_who rfl fk_C_0_0 (⟨rm8_ rfl, ?_⟩))
            refine w_X11_refuse (d := d + 2) _ ?_
            refine oq_bd H (fun r32 s33 H => ?_)
            exact Wp.r_ireturn (pc := 66) o_X11_who rfl (⟨rfl, H⟩)
      · have ek9 := e9
        have H := oq_sel4_2 (i := a1) e9 H
        refine Wp.r_gfi (pc := 30) o_X11_who rfl fk_C_12_1 (Wp.r_if_ne (pc := 33) o_X11_who rfl (fun c9 => ?_) (fun c9 => ?_))
        · have H := oq_t c9 H
          refine Wp.f_al0_iconst (pc := 36) o_X11_who rfl rfl rfl (Wp.r_cv2 (pc := 38) o_X11_who rfl fk_C_0_0 (⟨rm8_ rfl, ?_⟩))
          refine w_X11_refuse (d := d + 2) _ ?_
          refine oq_bd H (fun r34 s35 H => ?_)
          exact Wp.r_ireturn (pc := 41) o_X11_who rfl (⟨rfl, H⟩)
        · have H := oq_f c9 H
          refine Wp.f_al0_gfr (pc := 42) o_X11_who rfl rfl rfl fk_C_0_1 (Wp.r_iload_n1 (pc := 46) o_X11_who rfl rfl (Wp.run 1 (show vp_in a1 4 ∧ (a1 = nI 0 → Y_X11_who d Q 48 [(0, .ref 0), (1, .int a1), (2, .int a2)] [.ref 10] s6) ∧ (a1 = nI 1 → Y_X11_who d Q 48 [(0, .ref 0), (1, .int a1), (2, .int a2)] [.ref 11] s6) ∧ (a1 = nI 2 → Y_X11_who d Q 48 [(0, .ref 0), (1, .int a1), (2, .int a2)] [.ref 12] s6) ∧ (a1 = nI 3 → Y_X11_who d Q 48 [(0, .ref 0), (1, .int a1), (2, .int a2)] [.ref 13] s6) ∧ True from ⟨by rw [ek9]; unfold vp_in; decide, fun z9 => absurd (ek9.symm.trans z9) (by decide), fun z9 => absurd (ek9.symm.trans z9) (by decide), fun _ => ?_, fun z9 => absurd (ek9.symm.trans z9) (by decide), trivial⟩)))
          refine Wp.r_gfi (pc := 48) o_X11_who rfl fk_C_12_3 (Wp.f_al0_gfr (pc := 51) o_X11_who rfl rfl rfl fk_C_0_5 (Wp.r_gfi (pc := 55) o_X11_who rfl fk_C_25_13 (Wp.r_icmp_ge (pc := 58) o_X11_who rfl (fun c9 => ?_) (fun c9 => ?_))))
          · have H := oq_t c9 H
            refine Wp.f_al0_gfr (pc := 67) o_X11_who rfl rfl rfl fk_C_0_9 (Wp.f_al0_gfr (pc := 71) o_X11_who rfl rfl rfl fk_C_0_5 (Wp.f_al0_gfr (pc := 75) o_X11_who rfl rfl rfl fk_C_0_1 (Wp.r_iload_n1 (pc := 79) o_X11_who rfl rfl (Wp.run 1 (show vp_in a1 4 ∧ (a1 = nI 0 → Y_X11_who d Q 81 [(0, .ref 0), (1, .int a1), (2, .int a2)] [.ref 10, .ref 25, .ref 6] s6) ∧ (a1 = nI 1 → Y_X11_who d Q 81 [(0, .ref 0), (1, .int a1), (2, .int a2)] [.ref 11, .ref 25, .ref 6] s6) ∧ (a1 = nI 2 → Y_X11_who d Q 81 [(0, .ref 0), (1, .int a1), (2, .int a2)] [.ref 12, .ref 25, .ref 6] s6) ∧ (a1 = nI 3 → Y_X11_who d Q 81 [(0, .ref 0), (1, .int a1), (2, .int a2)] [.ref 13, .ref 25, .ref 6] s6) ∧ True from ⟨by rw [ek9]; unfold vp_in; decide, fun z9 => absurd (ek9.symm.trans z9) (by decide), fun z9 => absurd (ek9.symm.trans z9) (by decide), fun _ => ?_, fun z9 => absurd (ek9.symm.trans z9) (by decide), trivial⟩)))))
            refine Wp.r_gfr (pc := 81) o_X11_who rfl fk_C_12_0 (Wp.r_cv3 (pc := 84) o_X11_who rfl fk_C_6_0 (⟨rm8_ rfl, ?_⟩))
            refine w_X0_takeMissing_25_16 (d := d + 1)  ?_
            refine oq_bd H (fun r36 s37 H => ?_)
            refine Wp.r_if_ne (pc := 87) o_X11_who rfl (fun c9 => ?_) (fun c9 => ?_)
            · have H := oq_t c9 H
              refine Wp.f_al0_iconst (pc := 90) o_X11_who rfl rfl rfl (Wp.r_cv2 (pc := 92) o_X11_who rfl fk_C_0_0 (⟨rm8_ rfl, ?_⟩))
              refine w_X11_refuse (d := d + 2) _ ?_
              refine oq_bd H (fun r38 s39 H => ?_)
              exact Wp.r_ireturn (pc := 95) o_X11_who rfl (⟨rfl, H⟩)
            · have H := oq_f c9 H
              refine Wp.r_aload_n0 (pc := 96) o_X11_who rfl rfl (Wp.f_al0_gfr (pc := 97) o_X11_who rfl rfl rfl fk_C_0_9 (Wp.f_al0_gfr (pc := 101) o_X11_who rfl rfl rfl fk_C_0_5 (Wp.r_gfi (pc := 105) o_X11_who rfl fk_C_25_13 (Wp.r_iload_n2 (pc := 108) o_X11_who rfl rfl (Wp.r_cv3 (pc := 109) o_X11_who rfl fk_C_6_0 (⟨rm8_ rfl, ?_⟩))))))
              refine w_X0_fewestSweepers (d := d) _ _ ?_
              refine oq_bd H (fun r40 s41 H => ?_)
              refine Wp.r_cv2 (pc := 112) o_X11_who rfl fk_C_0_0 (⟨rm8_ rfl, ?_⟩)
              refine w_X11_answerIfAny (d := d + 1) _ ?_
              refine oq_bd H (fun r42 s43 H => ?_)
              exact Wp.r_ireturn (pc := 115) o_X11_who rfl (⟨rfl, H⟩)
          · have H := oq_f c9 H
            refine Wp.f_al0_iconst (pc := 61) o_X11_who rfl rfl rfl (Wp.r_cv2 (pc := 63) o_X11_who rfl fk_C_0_0 (⟨rm8_ rfl, ?_⟩))
            refine w_X11_refuse (d := d + 2) _ ?_
            refine oq_bd H (fun r44 s45 H => ?_)
            exact Wp.r_ireturn (pc := 66) o_X11_who rfl (⟨rfl, H⟩)
      · have ek9 := e9
        have H := oq_sel4_3 (i := a1) e9 H
        refine Wp.r_gfi (pc := 30) o_X11_who rfl fk_C_13_1 (Wp.r_if_ne (pc := 33) o_X11_who rfl (fun c9 => ?_) (fun c9 => ?_))
        · have H := oq_t c9 H
          refine Wp.f_al0_iconst (pc := 36) o_X11_who rfl rfl rfl (Wp.r_cv2 (pc := 38) o_X11_who rfl fk_C_0_0 (⟨rm8_ rfl, ?_⟩))
          refine w_X11_refuse (d := d + 2) _ ?_
          refine oq_bd H (fun r46 s47 H => ?_)
          exact Wp.r_ireturn (pc := 41) o_X11_who rfl (⟨rfl, H⟩)
        · have H := oq_f c9 H
          refine Wp.f_al0_gfr (pc := 42) o_X11_who rfl rfl rfl fk_C_0_1 (Wp.r_iload_n1 (pc := 46) o_X11_who rfl rfl (Wp.run 1 (show vp_in a1 4 ∧ (a1 = nI 0 → Y_X11_who d Q 48 [(0, .ref 0), (1, .int a1), (2, .int a2)] [.ref 10] s6) ∧ (a1 = nI 1 → Y_X11_who d Q 48 [(0, .ref 0), (1, .int a1), (2, .int a2)] [.ref 11] s6) ∧ (a1 = nI 2 → Y_X11_who d Q 48 [(0, .ref 0), (1, .int a1), (2, .int a2)] [.ref 12] s6) ∧ (a1 = nI 3 → Y_X11_who d Q 48 [(0, .ref 0), (1, .int a1), (2, .int a2)] [.ref 13] s6) ∧ True from ⟨by rw [ek9]; unfold vp_in; decide, fun z9 => absurd (ek9.symm.trans z9) (by decide), fun z9 => absurd (ek9.symm.trans z9) (by decide), fun z9 => absurd (ek9.symm.trans z9) (by decide), fun _ => ?_, trivial⟩)))
          refine Wp.r_gfi (pc := 48) o_X11_who rfl fk_C_13_3 (Wp.f_al0_gfr (pc := 51) o_X11_who rfl rfl rfl fk_C_0_5 (Wp.r_gfi (pc := 55) o_X11_who rfl fk_C_25_13 (Wp.r_icmp_ge (pc := 58) o_X11_who rfl (fun c9 => ?_) (fun c9 => ?_))))
          · have H := oq_t c9 H
            refine Wp.f_al0_gfr (pc := 67) o_X11_who rfl rfl rfl fk_C_0_9 (Wp.f_al0_gfr (pc := 71) o_X11_who rfl rfl rfl fk_C_0_5 (Wp.f_al0_gfr (pc := 75) o_X11_who rfl rfl rfl fk_C_0_1 (Wp.r_iload_n1 (pc := 79) o_X11_who rfl rfl (Wp.run 1 (show vp_in a1 4 ∧ (a1 = nI 0 → Y_X11_who d Q 81 [(0, .ref 0), (1, .int a1), (2, .int a2)] [.ref 10, .ref 25, .ref 6] s6) ∧ (a1 = nI 1 → Y_X11_who d Q 81 [(0, .ref 0), (1, .int a1), (2, .int a2)] [.ref 11, .ref 25, .ref 6] s6) ∧ (a1 = nI 2 → Y_X11_who d Q 81 [(0, .ref 0), (1, .int a1), (2, .int a2)] [.ref 12, .ref 25, .ref 6] s6) ∧ (a1 = nI 3 → Y_X11_who d Q 81 [(0, .ref 0), (1, .int a1), (2, .int a2)] [.ref 13, .ref 25, .ref 6] s6) ∧ True from ⟨by rw [ek9]; unfold vp_in; decide, fun z9 => absurd (ek9.symm.trans z9) (by decide), fun z9 => absurd (ek9.symm.trans z9) (by decide), fun z9 => absurd (ek9.symm.trans z9) (by decide), fun _ => ?_, trivial⟩)))))
            refine Wp.r_gfr (pc := 81) o_X11_who rfl fk_C_13_0 (Wp.r_cv3 (pc := 84) o_X11_who rfl fk_C_6_0 (⟨rm8_ rfl, ?_⟩))
            refine w_X0_takeMissing_25_17 (d := d + 1)  ?_
            refine oq_bd H (fun r48 s49 H => ?_)
            refine Wp.r_if_ne (pc := 87) o_X11_who rfl (fun c9 => ?_) (fun c9 => ?_)
            · have H := oq_t c9 H
              refine Wp.f_al0_iconst (pc := 90) o_X11_who rfl rfl rfl (Wp.r_cv2 (pc := 92) o_X11_who rfl fk_C_0_0 (⟨rm8_ rfl, ?_⟩))
              refine w_X11_refuse (d := d + 2) _ ?_
              refine oq_bd H (fun r50 s51 H => ?_)
              exact Wp.r_ireturn (pc := 95) o_X11_who rfl (⟨rfl, H⟩)
            · have H := oq_f c9 H
              refine Wp.r_aload_n0 (pc := 96) o_X11_who rfl rfl (Wp.f_al0_gfr (pc := 97) o_X11_who rfl rfl rfl fk_C_0_9 (Wp.f_al0_gfr (pc := 101) o_X11_who rfl rfl rfl fk_C_0_5 (Wp.r_gfi (pc := 105) o_X11_who rfl fk_C_25_13 (Wp.r_iload_n2 (pc := 108) o_X11_who rfl rfl (Wp.r_cv3 (pc := 109) o_X11_who rfl fk_C_6_0 (⟨rm8_ rfl, ?_⟩))))))
              refine w_X0_fewestSweepers (d := d) _ _ ?_
              refine oq_bd H (fun r52 s53 H => ?_)
              refine Wp.r_cv2 (pc := 112) o_X11_who rfl fk_C_0_0 (⟨rm8_ rfl, ?_⟩)
              refine w_X11_answerIfAny (d := d + 1) _ ?_
              refine oq_bd H (fun r54 s55 H => ?_)
              exact Wp.r_ireturn (pc := 115) o_X11_who rfl (⟨rfl, H⟩)
          · have H := oq_f c9 H
            refine Wp.f_al0_iconst (pc := 61) o_X11_who rfl rfl rfl (Wp.r_cv2 (pc := 63) o_X11_who rfl fk_C_0_0 (⟨rm8_ rfl, ?_⟩))
            refine w_X11_refuse (d := d + 2) _ ?_
            refine oq_bd H (fun r56 s57 H => ?_)
            exact Wp.r_ireturn (pc := 66) o_X11_who rfl (⟨rfl, H⟩)
noncomputable abbrev Y_X11_waysToTaste (d : Nat) (Q : Qt) : Xt := Wp SHC (WpM SHC MT (d + 0)) (flat2 cq_X11_waysToTaste) (some .long) Q
noncomputable def f_X11_waysToTaste_b5 : Nat → Int32 → Int32 → Int64 → Int32 → Sg → Option (Int64 × Sg)
  | 0, _, _, _, _, _ => none
  | n + 1, v0, v1, v2, v4, s =>
    if v1 ≤ v4 then
      some (v2, s)
    else
      nmx (v2 * ((if 0 < (v0 - v4) then (v0 - v4) else 0).toInt64) : Int64) (fun x1 =>
      (f_X11_waysToTaste_b5 n) v0 v1 x1 (v4 + 1) s
      )
set_option maxRecDepth 100000 in
theorem w_X11_waysToTaste_b5 {d : Nat} {Q : Qt} (n : Nat) : ∀ (v0 : Int32) (v1 : Int32) (v2 : Int64) (v4 : Int32) (s : Sg), OQ (f_X11_waysToTaste_b5 n v0 v1 v2 v4 s) (fun r9 s9 => Q (some (.long r9)) s9) → Y_X11_waysToTaste d Q 5 [(0, .int v0), (1, .int v1), (2, .long v2), (4, .int v4)] [] s := by
  induction n with
  | zero => intro v0 v1 v2 v4 s H; exact H.elim
  | succ n ih =>
    intro v0 v1 v2 v4 s H
    unfold f_X11_waysToTaste_b5 at H
    refine Wp.r_iload (pc := 5) o_X11_waysToTaste rfl rfl (Wp.r_iload_n1 (pc := 7) o_X11_waysToTaste rfl rfl (Wp.r_icmp_ge (pc := 8) o_X11_waysToTaste rfl (fun c9 => ?_) (fun c9 => ?_)))
    · have H := oq_t c9 H
      exact Wp.r_lload_n2 (pc := 29) o_X11_waysToTaste rfl rfl (Wp.r_lreturn (pc := 30) o_X11_waysToTaste rfl (H))
    · have H := oq_f c9 H
      refine Wp.r_lload_n2 (pc := 11) o_X11_waysToTaste rfl rfl (Wp.r_iconst (pc := 12) o_X11_waysToTaste rfl (Wp.r_iload_n0 (pc := 13) o_X11_waysToTaste rfl rfl (Wp.r_iload (pc := 14) o_X11_waysToTaste rfl rfl (Wp.r_isub (pc := 16) o_X11_waysToTaste rfl (Wp.r_max (pc := 17) o_X11_waysToTaste rfl (⟨rm8_ rfl, ?_⟩))))))
      refine Wp.r_i2l (pc := 20) o_X11_waysToTaste rfl (Wp.r_lmul (pc := 21) o_X11_waysToTaste rfl (Wp.r_lstore_n2 (pc := 22) o_X11_waysToTaste rfl (show Y_X11_waysToTaste d Q 23 [(2, .long (v2 * ((if 0 < (v0 - v4) then (v0 - v4) else 0).toInt64))), (0, .int v0), (1, .int v1), (4, .int v4)] [] s from ?_)))
      revert H
      generalize (v2 * ((if 0 < (v0 - v4) then (v0 - v4) else 0).toInt64) : Int64) = x1
      intro H
      have H := nmx_e H
      exact Wp.f_iinc_goto (pc := 23) o_X11_waysToTaste rfl rfl rfl (Wp.weak2 [2, 3, 1, 0] (ih _ _ _ _ _ H) rfl)
noncomputable def f_X11_waysToTaste (a0 : Int32) (a1 : Int32) (s : Sg) : Option (Int64 × Sg) :=
  f_X11_waysToTaste_b5 BIG a0 a1 1 0 s
set_option maxRecDepth 100000 in
theorem w_X11_waysToTaste {d : Nat} {s : Sg} {Q : Qt} (a0 : Int32) (a1 : Int32) (H : OQ (f_X11_waysToTaste a0 a1 s) (fun r9 s9 => Q (some (.long r9)) s9)) : WpM SHC MT (d + 1) 182 [.int a0, .int a1] s Q := by
  refine WpM.enter me_X11_waysToTaste rfl rfl ?_
  show Y_X11_waysToTaste d Q 0 [(0, .int a0), (1, .int a1)] [] s
  unfold f_X11_waysToTaste at H
  exact Wp.r_lconst (pc := 0) o_X11_waysToTaste rfl (Wp.r_lstore_n2 (pc := 1) o_X11_waysToTaste rfl (Wp.r_iconst (pc := 2) o_X11_waysToTaste rfl (Wp.r_istore (pc := 3) o_X11_waysToTaste rfl (Wp.weak2 [2, 3, 1, 0] (w_X11_waysToTaste_b5 _ _ _ _ _ _ H) rfl))))
noncomputable abbrev Y_X11_tellFraction (d : Nat) (Q : Qt) : Xt := Wp SHC (WpM SHC MT (d + 0)) (flat2 cq_X11_tellFraction) (none) Q
noncomputable def f_X11_tellFraction_b45 (v1 : Int64) (v3 : Int64) (v5 : Int64) (s : Sg) : Option (Unit × Sg) :=
  if (lg_cmp v5 0) ≤ 0 then
    some ((), s)
  else
    ck (¬ v5 = 0) (
    nmx (pL (pL s 0 16 (v1 / v5)) 0 17 (v3 / v5)) (fun s2 =>
    some ((), s2)
    )
    )
set_option maxRecDepth 100000 in
theorem w_X11_tellFraction_b45 {d : Nat} {Q : Qt} (v1 : Int64) (v3 : Int64) (v5 : Int64) (s : Sg) (H : OQ (f_X11_tellFraction_b45 v1 v3 v5 s) (fun _ s9 => Q none s9)) : Y_X11_tellFraction d Q 45 [(0, .ref 0), (1, .long v1), (3, .long v3), (5, .long v5)] [] s := by
  unfold f_X11_tellFraction_b45 at H
  refine Wp.r_lload (pc := 45) o_X11_tellFraction rfl rfl (Wp.r_lconst (pc := 47) o_X11_tellFraction rfl (Wp.r_lcmp (pc := 48) o_X11_tellFraction rfl (Wp.r_if_le (pc := 49) o_X11_tellFraction rfl (fun c9 => ?_) (fun c9 => ?_))))
  · have H := oq_t c9 H
    exact Wp.r_return (pc := 68) o_X11_tellFraction rfl (H)
  · have H := oq_f c9 H
    obtain ⟨hc1, H⟩ := oq_ck H
    refine Wp.r_aload_n0 (pc := 52) o_X11_tellFraction rfl rfl (Wp.r_lload_n1 (pc := 53) o_X11_tellFraction rfl rfl (Wp.r_lload (pc := 54) o_X11_tellFraction rfl rfl (Wp.r_ldiv (pc := 56) o_X11_tellFraction rfl (⟨hc1, ?_⟩))))
    refine Wp.r_pfl (pc := 57) o_X11_tellFraction rfl fk_C_0_16 (Wp.r_aload_n0 (pc := 60) o_X11_tellFraction rfl rfl (Wp.r_lload_n3 (pc := 61) o_X11_tellFraction rfl rfl (Wp.r_lload (pc := 62) o_X11_tellFraction rfl rfl (Wp.r_ldiv (pc := 64) o_X11_tellFraction rfl (⟨hc1, ?_⟩)))))
    refine Wp.r_pfl (pc := 65) o_X11_tellFraction rfl fk_C_0_17 (show Y_X11_tellFraction d Q 68 [(0, .ref 0), (1, .long v1), (3, .long v3), (5, .long v5)] [] (pL (pL s 0 16 (v1 / v5)) 0 17 (v3 / v5)) from ?_)
    revert H
    generalize pL (pL s 0 16 (v1 / v5)) 0 17 (v3 / v5) = s2
    intro H
    have H := nmx_e H
    exact Wp.r_return (pc := 68) o_X11_tellFraction rfl (H)
noncomputable def f_X11_tellFraction_b9 : Nat → Int64 → Int64 → Int64 → Int64 → Int32 → Sg → Option (Unit × Sg)
  | 0, _, _, _, _, _, _ => none
  | n + 1, v1, v3, v5, v7, v9, s =>
    if 1000 ≤ v9 then
      f_X11_tellFraction_b45 v1 v3 v5 s
    else
      if (lg_cmp v7 0) = 0 then
        f_X11_tellFraction_b45 v1 v3 v5 s
      else
        ck (¬ v7 = 0) (
        (f_X11_tellFraction_b9 n) v1 v3 v7 (v5 - v5 / v7 * v7) (v9 + 1) s
        )
set_option maxRecDepth 100000 in
theorem w_X11_tellFraction_b9 {d : Nat} {Q : Qt} (n : Nat) : ∀ (v1 : Int64) (v3 : Int64) (v5 : Int64) (v7 : Int64) (v9 : Int32) (s : Sg), OQ (f_X11_tellFraction_b9 n v1 v3 v5 v7 v9 s) (fun _ s9 => Q none s9) → Y_X11_tellFraction d Q 9 [(0, .ref 0), (1, .long v1), (3, .long v3), (5, .long v5), (7, .long v7), (9, .int v9)] [] s := by
  induction n with
  | zero => intro v1 v3 v5 v7 v9 s H; exact H.elim
  | succ n ih =>
    intro v1 v3 v5 v7 v9 s H
    unfold f_X11_tellFraction_b9 at H
    refine Wp.r_iload (pc := 9) o_X11_tellFraction rfl rfl (Wp.r_sipush (pc := 11) o_X11_tellFraction rfl (Wp.r_icmp_ge (pc := 14) o_X11_tellFraction rfl (fun c9 => ?_) (fun c9 => ?_)))
    · have H := oq_t c9 H
      exact Wp.weak2 [0, 1, 2, 3] (w_X11_tellFraction_b45 _ _ _ _ H) rfl
    · have H := oq_f c9 H
      refine Wp.r_lload (pc := 17) o_X11_tellFraction rfl rfl (Wp.r_lconst (pc := 19) o_X11_tellFraction rfl (Wp.r_lcmp (pc := 20) o_X11_tellFraction rfl (Wp.r_if_eq (pc := 21) o_X11_tellFraction rfl (fun c9 => ?_) (fun c9 => ?_))))
      · have H := oq_t c9 H
        exact Wp.weak2 [0, 1, 2, 3] (w_X11_tellFraction_b45 _ _ _ _ H) rfl
      · have H := oq_f c9 H
        obtain ⟨hc3, H⟩ := oq_ck H
        refine Wp.r_lload (pc := 24) o_X11_tellFraction rfl rfl (Wp.r_lload (pc := 26) o_X11_tellFraction rfl rfl (Wp.r_lrem (pc := 28) o_X11_tellFraction rfl (⟨hc3, ?_⟩)))
        exact Wp.r_lstore (pc := 29) o_X11_tellFraction rfl (Wp.r_lload (pc := 31) o_X11_tellFraction rfl rfl (Wp.r_lstore (pc := 33) o_X11_tellFraction rfl (Wp.r_lload (pc := 35) o_X11_tellFraction rfl rfl (Wp.r_lstore (pc := 37) o_X11_tellFraction rfl (Wp.f_iinc_goto (pc := 39) o_X11_tellFraction rfl rfl rfl (Wp.weak2 [4, 5, 6, 2, 1, 0] (ih _ _ _ _ _ _ H) rfl))))))
noncomputable def f_X11_tellFraction (a1 : Int64) (a2 : Int64) (s : Sg) : Option (Unit × Sg) :=
  f_X11_tellFraction_b9 BIG a1 a2 a1 a2 0 s
set_option maxRecDepth 100000 in
theorem w_X11_tellFraction {d : Nat} {s : Sg} {Q : Qt} (a1 : Int64) (a2 : Int64) (H : OQ (f_X11_tellFraction a1 a2 s) (fun _ s9 => Q none s9)) : WpM SHC MT (d + 1) 183 [.ref 0, .long a1, .long a2] s Q := by
  refine WpM.enter me_X11_tellFraction rfl rfl ?_
  show Y_X11_tellFraction d Q 0 [(0, .ref 0), (1, .long a1), (3, .long a2)] [] s
  unfold f_X11_tellFraction at H
  exact Wp.r_lload_n1 (pc := 0) o_X11_tellFraction rfl rfl (Wp.r_lstore (pc := 1) o_X11_tellFraction rfl (Wp.r_lload_n3 (pc := 3) o_X11_tellFraction rfl rfl (Wp.r_lstore (pc := 4) o_X11_tellFraction rfl (Wp.r_iconst (pc := 6) o_X11_tellFraction rfl (Wp.r_istore (pc := 7) o_X11_tellFraction rfl (Wp.weak2 [3, 4, 5, 2, 1, 0] (w_X11_tellFraction_b9 _ _ _ _ _ _ _ H) rfl))))))
noncomputable abbrev Y_X11_found (d : Nat) (Q : Qt) : Xt := Wp SHC (WpM SHC MT (d + 3)) (flat2 cq_X11_found) (some .boolean) Q
noncomputable def f_X11_found (a1 : Int32) (a2 : Int32) (s : Sg) : Option (Int32 × Sg) :=
  bd (f_X11_within a2 1 4 s) (fun r1 s2 =>
  bd (f_X11_whyNoStep a1 r1 s2) (fun r3 s4 =>
  if r3 = 0 then
    bd (f_X2_lying a1 s4) (fun r5 s6 =>
    if r5 < a2 then
      bd (f_X11_refused 7 s6) (fun r7 s8 =>
      ck (r7 = 0 ∨ r7 = 1) (some (r7, s8))
      )
    else
      if r5 ≤ 9999 then
        bd (f_X11_waysToTaste r5 a2 s6) (fun r9 s10 =>
        ck (inr a1 8) (
        bd (f_X11_waysToTaste (s10.1 40 a1.toNatClampNeg) a2 s10) (fun r12 s13 =>
        bd (f_X11_tellFraction (r9 - r12) r9 s13) (fun _ s15 =>
        bd (f_X11_granted s15) (fun r16 s17 =>
        ck (r16 = 0 ∨ r16 = 1) (some (r16, s17))
        )
        )
        )
        )
        )
      else
        bd (f_X11_refused 7 s6) (fun r18 s19 =>
        ck (r18 = 0 ∨ r18 = 1) (some (r18, s19))
        )
    )
  else
    bd (f_X11_refused r3 s4) (fun r20 s21 =>
    ck (r20 = 0 ∨ r20 = 1) (some (r20, s21))
    )
  )
  )
set_option maxRecDepth 100000 in
theorem w_X11_found {d : Nat} {s : Sg} {Q : Qt} (a1 : Int32) (a2 : Int32) (H : OQ (f_X11_found a1 a2 s) (fun r9 s9 => Q (some (.int r9)) s9)) : WpM SHC MT (d + 4) 158 [.ref 0, .int a1, .int a2] s Q := by
  refine WpM.enter me_X11_found rfl rfl ?_
  show Y_X11_found d Q 0 [(0, .ref 0), (1, .int a1), (2, .int a2)] [] s
  unfold f_X11_found at H
  refine Wp.r_aload_n0 (pc := 0) o_X11_found rfl rfl (Wp.r_iload_n1 (pc := 1) o_X11_found rfl rfl (Wp.r_iload_n2 (pc := 2) o_X11_found rfl rfl (Wp.r_iconst (pc := 3) o_X11_found rfl (Wp.r_iconst (pc := 4) o_X11_found rfl (Wp.r_cs3 (pc := 5) o_X11_found rfl (⟨rm8_ rfl, ?_⟩))))))
  refine w_X11_within (d := d + 2) _ _ _ ?_
  refine oq_bd H (fun r1 s2 H => ?_)
  refine Wp.r_cv3 (pc := 8) o_X11_found rfl fk_C_0_0 (⟨rm8_ rfl, ?_⟩)
  refine w_X11_whyNoStep (d := d) _ _ ?_
  refine oq_bd H (fun r3 s4 H => ?_)
  refine Wp.r_istore_n3 (pc := 11) o_X11_found rfl (Wp.r_iload_n3 (pc := 12) o_X11_found rfl rfl (Wp.r_if_eq (pc := 13) o_X11_found rfl (fun c9 => ?_) (fun c9 => ?_)))
  · have H := oq_t c9 H
    refine Wp.f_al0_gfr (pc := 22) o_X11_found rfl rfl rfl fk_C_0_6 (Wp.r_iload_n1 (pc := 26) o_X11_found rfl rfl (Wp.r_cv2 (pc := 27) o_X11_found rfl fk_C_26_0 (⟨rm8_ rfl, ?_⟩)))
    refine w_X2_lying (d := d + 2) _ ?_
    refine oq_bd H (fun r5 s6 H => ?_)
    refine Wp.r_istore (pc := 30) o_X11_found rfl (Wp.r_iload (pc := 32) o_X11_found rfl rfl (Wp.r_iload_n2 (pc := 34) o_X11_found rfl rfl (Wp.r_icmp_lt (pc := 35) o_X11_found rfl (fun c9 => ?_) (fun c9 => ?_))))
    · have H := oq_t c9 H
      refine Wp.r_aload_n0 (pc := 46) o_X11_found rfl rfl (Wp.r_bipush (pc := 47) o_X11_found rfl (Wp.r_cv2 (pc := 49) o_X11_found rfl fk_C_0_0 (⟨rm8_ rfl, ?_⟩)))
      refine w_X11_refused (d := d + 2) _ ?_
      refine oq_bd H (fun r7 s8 H => ?_)
      obtain ⟨c9, H⟩ := oq_ck H
      exact Wp.r_ireturn (pc := 52) o_X11_found rfl (⟨b01_n c9, H⟩)
    · have H := oq_f c9 H
      refine Wp.r_iload (pc := 38) o_X11_found rfl rfl (Wp.r_sipush (pc := 40) o_X11_found rfl (Wp.r_icmp_le (pc := 43) o_X11_found rfl (fun c9 => ?_) (fun c9 => ?_)))
      · have H := oq_t c9 H
        refine Wp.r_iload (pc := 53) o_X11_found rfl rfl (Wp.r_iload_n2 (pc := 55) o_X11_found rfl rfl (Wp.r_cs2 (pc := 56) o_X11_found rfl (⟨rm8_ rfl, ?_⟩)))
        refine w_X11_waysToTaste (d := d + 2) _ _ ?_
        refine oq_bd H (fun r9 s10 H => ?_)
        obtain ⟨hc11, H⟩ := oq_ck H
        refine Wp.r_lstore (pc := 59) o_X11_found rfl (Wp.r_aload_n0 (pc := 61) o_X11_found rfl rfl (Wp.r_lload (pc := 62) o_X11_found rfl rfl (Wp.f_al0_gfr (pc := 64) o_X11_found rfl rfl rfl fk_C_0_6 (Wp.r_gfr (pc := 68) o_X11_found rfl fk_C_26_0 (Wp.r_iload_n1 (pc := 71) o_X11_found rfl rfl (Wp.r_iaload (pc := 72) o_X11_found rfl ak_C_40 (⟨hc11, ?_⟩)))))))
        refine Wp.r_iload_n2 (pc := 73) o_X11_found rfl rfl (Wp.r_cs2 (pc := 74) o_X11_found rfl (⟨rm8_ rfl, ?_⟩))
        refine w_X11_waysToTaste (d := d + 2) _ _ ?_
        refine oq_bd H (fun r12 s13 H => ?_)
        refine Wp.r_lsub (pc := 77) o_X11_found rfl (Wp.r_lload (pc := 78) o_X11_found rfl rfl (Wp.r_cv3 (pc := 80) o_X11_found rfl fk_C_0_0 (⟨rm8_ rfl, ?_⟩)))
        refine w_X11_tellFraction (d := d + 2) _ _ ?_
        refine oq_bd H (fun _ s15 H => ?_)
        refine Wp.r_aload_n0 (pc := 83) o_X11_found rfl rfl (Wp.r_cv1 (pc := 84) o_X11_found rfl fk_C_0_0 (⟨rm8_ rfl, ?_⟩))
        refine w_X11_granted (d := d + 2)  ?_
        refine oq_bd H (fun r16 s17 H => ?_)
        obtain ⟨c9, H⟩ := oq_ck H
        exact Wp.r_ireturn (pc := 87) o_X11_found rfl (⟨b01_n c9, H⟩)
      · have H := oq_f c9 H
        refine Wp.r_aload_n0 (pc := 46) o_X11_found rfl rfl (Wp.r_bipush (pc := 47) o_X11_found rfl (Wp.r_cv2 (pc := 49) o_X11_found rfl fk_C_0_0 (⟨rm8_ rfl, ?_⟩)))
        refine w_X11_refused (d := d + 2) _ ?_
        refine oq_bd H (fun r18 s19 H => ?_)
        obtain ⟨c9, H⟩ := oq_ck H
        exact Wp.r_ireturn (pc := 52) o_X11_found rfl (⟨b01_n c9, H⟩)
  · have H := oq_f c9 H
    refine Wp.r_aload_n0 (pc := 16) o_X11_found rfl rfl (Wp.r_iload_n3 (pc := 17) o_X11_found rfl rfl (Wp.r_cv2 (pc := 18) o_X11_found rfl fk_C_0_0 (⟨rm8_ rfl, ?_⟩)))
    refine w_X11_refused (d := d + 2) _ ?_
    refine oq_bd H (fun r20 s21 H => ?_)
    obtain ⟨c9, H⟩ := oq_ck H
    exact Wp.r_ireturn (pc := 21) o_X11_found rfl (⟨b01_n c9, H⟩)
noncomputable abbrev Y_X3_begin (d : Nat) (Q : Qt) : Xt := Wp SHC (WpM SHC MT (d + 0)) (flat2 cq_X3_begin) (none) Q
noncomputable def f_X3_begin (a1 : Int32) (s : Sg) : Option (Unit × Sg) :=
  nmx (pI (pI (pI s 4 1 1) 4 2 a1) 4 3 0) (fun s1 =>
  nmx (pI (pI (pI s1 4 4 0) 4 5 0) 4 6 0) (fun s2 =>
  some ((), pI (pI s2 4 7 0) 4 8 0)
  )
  )
set_option maxRecDepth 100000 in
theorem w_X3_begin {d : Nat} {s : Sg} {Q : Qt} (a1 : Int32) (H : OQ (f_X3_begin a1 s) (fun _ s9 => Q none s9)) : WpM SHC MT (d + 1) 39 [.ref 4, .int a1] s Q := by
  refine WpM.enter me_X3_begin rfl rfl ?_
  show Y_X3_begin d Q 0 [(0, .ref 4), (1, .int a1)] [] s
  unfold f_X3_begin at H
  refine Wp.f_al0_iconst (pc := 0) o_X3_begin rfl rfl rfl (Wp.r_pfz (pc := 2) o_X3_begin rfl fk_C_4_1 (show ((1 : Int32) = 0 ∨ 1 = 1) ∧ Y_X3_begin d Q 5 [(0, .ref 4), (1, .int a1)] [] (pI s 4 1 1) from ⟨Or.inr rfl, ?_⟩))
  refine Wp.r_aload_n0 (pc := 5) o_X3_begin rfl rfl (Wp.r_iload_n1 (pc := 6) o_X3_begin rfl rfl (Wp.r_pfi (pc := 7) o_X3_begin rfl fk_C_4_2 (Wp.f_al0_iconst (pc := 10) o_X3_begin rfl rfl rfl (Wp.r_pfi (pc := 12) o_X3_begin rfl fk_C_4_3 (show Y_X3_begin d Q 15 [(0, .ref 4), (1, .int a1)] [] (pI (pI (pI s 4 1 1) 4 2 a1) 4 3 0) from ?_)))))
  revert H
  generalize pI (pI (pI s 4 1 1) 4 2 a1) 4 3 0 = s1
  intro H
  have H := nmx_e H
  refine Wp.f_al0_iconst (pc := 15) o_X3_begin rfl rfl rfl (Wp.r_pfi (pc := 17) o_X3_begin rfl fk_C_4_4 (Wp.f_al0_iconst (pc := 20) o_X3_begin rfl rfl rfl (Wp.r_pfi (pc := 22) o_X3_begin rfl fk_C_4_5 (Wp.f_al0_iconst (pc := 25) o_X3_begin rfl rfl rfl (Wp.r_pfi (pc := 27) o_X3_begin rfl fk_C_4_6 (show Y_X3_begin d Q 30 [(0, .ref 4), (1, .int a1)] [] (pI (pI (pI s1 4 4 0) 4 5 0) 4 6 0) from ?_))))))
  revert H
  generalize pI (pI (pI s1 4 4 0) 4 5 0) 4 6 0 = s2
  intro H
  have H := nmx_e H
  refine Wp.f_al0_iconst (pc := 30) o_X3_begin rfl rfl rfl (Wp.r_pfi (pc := 32) o_X3_begin rfl fk_C_4_7 (Wp.f_al0_iconst (pc := 35) o_X3_begin rfl rfl rfl (Wp.r_pfz (pc := 37) o_X3_begin rfl fk_C_4_8 (show ((0 : Int32) = 0 ∨ 0 = 1) ∧ Y_X3_begin d Q 40 [(0, .ref 4), (1, .int a1)] [] (pI (pI s2 4 7 0) 4 8 0) from ⟨Or.inl rfl, ?_⟩))))
  exact Wp.r_return (pc := 40) o_X3_begin rfl (H)
noncomputable abbrev Y_X3_behindEnd_27 (d : Nat) (Q : Qt) : Xt := Wp SHC (WpM SHC MT (d + 0)) (flat2 cq_X3_behindEnd) (some .int) Q
noncomputable def f_X3_behindEnd_27 (a2 : Int32) (s : Sg) : Option (Int32 × Sg) :=
  ck (inr a2 60) (
  ck (inr (s.1 50 a2.toNatClampNeg) 60) (
  if (s.1 45 ((s.1 50 a2.toNatClampNeg).toNatClampNeg)) = 128 then
    nmx (pI s 18 ((s.1 50 a2.toNatClampNeg).toNatClampNeg) ((s.1 18 ((s.1 50 a2.toNatClampNeg).toNatClampNeg)) - 1)) (fun s3 =>
    if (s3.1 18 ((s.1 50 a2.toNatClampNeg).toNatClampNeg)) ≤ 0 then
      some (a2 + 1, s3)
    else
      some ((s.1 50 a2.toNatClampNeg) + 1, s3)
    )
  else
    some (a2 + 1, s)
  )
  )
set_option maxRecDepth 100000 in
theorem w_X3_behindEnd_27 {d : Nat} {s : Sg} {Q : Qt} (a2 : Int32) (H : OQ (f_X3_behindEnd_27 a2 s) (fun r9 s9 => Q (some (.int r9)) s9)) : WpM SHC MT (d + 1) 41 [.ref 4, .ref 27, .int a2] s Q := by
  refine WpM.enter me_X3_behindEnd rfl rfl ?_
  show Y_X3_behindEnd_27 d Q 0 [(0, .ref 4), (1, .ref 27), (2, .int a2)] [] s
  unfold f_X3_behindEnd_27 at H
  obtain ⟨hc1, H⟩ := oq_ck H
  refine Wp.f_al1_gfr (pc := 0) o_X3_behindEnd rfl rfl rfl fk_C_27_5 (Wp.r_iload_n2 (pc := 4) o_X3_behindEnd rfl rfl (Wp.r_iaload (pc := 5) o_X3_behindEnd rfl ak_C_50 (⟨hc1, ?_⟩)))
  obtain ⟨hc2, H⟩ := oq_ck H
  refine Wp.r_istore_n3 (pc := 6) o_X3_behindEnd rfl (Wp.f_al1_gfr (pc := 7) o_X3_behindEnd rfl rfl rfl fk_C_27_0 (Wp.r_iload_n3 (pc := 11) o_X3_behindEnd rfl rfl (Wp.r_iaload (pc := 12) o_X3_behindEnd rfl ak_C_45 (⟨hc2, ?_⟩))))
  refine Wp.r_sipush (pc := 13) o_X3_behindEnd rfl (Wp.r_icmp_ne (pc := 16) o_X3_behindEnd rfl (fun c9 => ?_) (fun c9 => ?_))
  · have H := oq_t c9 H
    refine Wp.f_al0_gfr (pc := 19) o_X3_behindEnd rfl rfl rfl fk_C_4_0 (Wp.r_iload_n3 (pc := 23) o_X3_behindEnd rfl rfl (Wp.r_dup2 (pc := 24) o_X3_behindEnd rfl (Wp.r_iaload (pc := 25) o_X3_behindEnd rfl ak_C_18 (⟨hc2, ?_⟩))))
    refine Wp.r_iconst (pc := 26) o_X3_behindEnd rfl (Wp.r_isub (pc := 27) o_X3_behindEnd rfl (Wp.r_iastore (pc := 28) o_X3_behindEnd rfl ak_C_18 (⟨hc2, ?_⟩)))
    revert H
    generalize pI s 18 ((s.1 50 a2.toNatClampNeg).toNatClampNeg) ((s.1 18 ((s.1 50 a2.toNatClampNeg).toNatClampNeg)) - 1) = s3
    intro H
    have H := nmx_e H
    refine Wp.f_al0_gfr (pc := 29) o_X3_behindEnd rfl rfl rfl fk_C_4_0 (Wp.r_iload_n3 (pc := 33) o_X3_behindEnd rfl rfl (Wp.r_iaload (pc := 34) o_X3_behindEnd rfl ak_C_18 (⟨hc2, ?_⟩)))
    refine Wp.r_if_le (pc := 35) o_X3_behindEnd rfl (fun c9 => ?_) (fun c9 => ?_)
    · have H := oq_t c9 H
      exact Wp.r_iload_n2 (pc := 42) o_X3_behindEnd rfl rfl (Wp.r_iconst (pc := 43) o_X3_behindEnd rfl (Wp.r_iadd (pc := 44) o_X3_behindEnd rfl (Wp.r_ireturn (pc := 45) o_X3_behindEnd rfl (⟨rfl, H⟩))))
    · have H := oq_f c9 H
      exact Wp.r_iload_n3 (pc := 38) o_X3_behindEnd rfl rfl (Wp.r_iconst (pc := 39) o_X3_behindEnd rfl (Wp.r_iadd (pc := 40) o_X3_behindEnd rfl (Wp.r_ireturn (pc := 41) o_X3_behindEnd rfl (⟨rfl, H⟩))))
  · have H := oq_f c9 H
    exact Wp.r_iload_n2 (pc := 42) o_X3_behindEnd rfl rfl (Wp.r_iconst (pc := 43) o_X3_behindEnd rfl (Wp.r_iadd (pc := 44) o_X3_behindEnd rfl (Wp.r_ireturn (pc := 45) o_X3_behindEnd rfl (⟨rfl, H⟩))))
noncomputable abbrev Y_X3_maybeRain_25_26 (d : Nat) (Q : Qt) : Xt := Wp SHC (WpM SHC MT (d + 1)) (flat2 cq_X3_maybeRain) (none) Q
noncomputable def f_X3_maybeRain_25_26 (a3 : Int32) (s : Sg) : Option (Unit × Sg) :=
  nmx (pI s 4 2 ((((s.1 4 2) * 2791) + 11003) - (((s.1 4 2) * 2791) + 11003) / 65536 * 65536)) (fun s1 =>
  if a3 ≤ (((s1.1 4 2) / 8) - ((s1.1 4 2) / 8) / 16 * 16) then
    some ((), s1)
  else
    bd (f_X2_letRain_25 s1) (fun r2 s3 =>
    some ((), pI s3 4 5 ((s3.1 4 5) + 1))
    )
  )
set_option maxRecDepth 100000 in
theorem w_X3_maybeRain_25_26 {d : Nat} {s : Sg} {Q : Qt} (a3 : Int32) (H : OQ (f_X3_maybeRain_25_26 a3 s) (fun _ s9 => Q none s9)) : WpM SHC MT (d + 2) 47 [.ref 4, .ref 25, .ref 26, .int a3] s Q := by
  refine WpM.enter me_X3_maybeRain rfl rfl ?_
  show Y_X3_maybeRain_25_26 d Q 0 [(0, .ref 4), (1, .ref 25), (2, .ref 26), (3, .int a3)] [] s
  unfold f_X3_maybeRain_25_26 at H
  refine Wp.r_aload_n0 (pc := 0) o_X3_maybeRain rfl rfl (Wp.f_al0_gfi (pc := 1) o_X3_maybeRain rfl rfl rfl fk_C_4_2 (Wp.r_sipush (pc := 5) o_X3_maybeRain rfl (Wp.r_imul (pc := 8) o_X3_maybeRain rfl (Wp.r_sipush (pc := 9) o_X3_maybeRain rfl (Wp.r_iadd (pc := 12) o_X3_maybeRain rfl (Wp.r_ldc (pc := 13) o_X3_maybeRain rfl (Wp.r_irem (pc := 15) o_X3_maybeRain rfl (show (¬ (65536 : Int32) = 0) ∧ Y_X3_maybeRain_25_26 d Q 16 [(0, .ref 4), (1, .ref 25), (2, .ref 26), (3, .int a3)] [.int ((((s.1 4 2) * 2791) + 11003) - (((s.1 4 2) * 2791) + 11003) / 65536 * 65536), .ref 4] s from ⟨by decide, ?_⟩))))))))
  refine Wp.r_pfi (pc := 16) o_X3_maybeRain rfl fk_C_4_2 (show Y_X3_maybeRain_25_26 d Q 19 [(0, .ref 4), (1, .ref 25), (2, .ref 26), (3, .int a3)] [] (pI s 4 2 ((((s.1 4 2) * 2791) + 11003) - (((s.1 4 2) * 2791) + 11003) / 65536 * 65536)) from ?_)
  revert H
  generalize pI s 4 2 ((((s.1 4 2) * 2791) + 11003) - (((s.1 4 2) * 2791) + 11003) / 65536 * 65536) = s1
  intro H
  have H := nmx_e H
  refine Wp.f_al0_gfi (pc := 19) o_X3_maybeRain rfl rfl rfl fk_C_4_2 (Wp.r_bipush (pc := 23) o_X3_maybeRain rfl (Wp.r_idiv (pc := 25) o_X3_maybeRain rfl (show (¬ (8 : Int32) = 0) ∧ Y_X3_maybeRain_25_26 d Q 26 [(0, .ref 4), (1, .ref 25), (2, .ref 26), (3, .int a3)] [.int ((s1.1 4 2) / 8)] s1 from ⟨by decide, ?_⟩)))
  refine Wp.r_bipush (pc := 26) o_X3_maybeRain rfl (Wp.r_irem (pc := 28) o_X3_maybeRain rfl (show (¬ (16 : Int32) = 0) ∧ Y_X3_maybeRain_25_26 d Q 29 [(0, .ref 4), (1, .ref 25), (2, .ref 26), (3, .int a3)] [.int (((s1.1 4 2) / 8) - ((s1.1 4 2) / 8) / 16 * 16)] s1 from ⟨by decide, ?_⟩))
  refine Wp.r_iload_n3 (pc := 29) o_X3_maybeRain rfl rfl (Wp.r_icmp_ge (pc := 30) o_X3_maybeRain rfl (fun c9 => ?_) (fun c9 => ?_))
  · have H := oq_t c9 H
    exact Wp.r_return (pc := 49) o_X3_maybeRain rfl (H)
  · have H := oq_f c9 H
    refine Wp.r_aload_n2 (pc := 33) o_X3_maybeRain rfl rfl (Wp.r_aload_n1 (pc := 34) o_X3_maybeRain rfl rfl (Wp.r_cv2 (pc := 35) o_X3_maybeRain rfl fk_C_26_0 (⟨rm8_ rfl, ?_⟩)))
    refine w_X2_letRain_25 (d := d)  ?_
    refine oq_bd H (fun r2 s3 H => ?_)
    exact Wp.r_pop_i (pc := 38) o_X3_maybeRain rfl (Wp.r_aload_n0 (pc := 39) o_X3_maybeRain rfl rfl (Wp.r_dup_r (pc := 40) o_X3_maybeRain rfl (Wp.r_gfi (pc := 41) o_X3_maybeRain rfl fk_C_4_5 (Wp.r_iconst (pc := 44) o_X3_maybeRain rfl (Wp.r_iadd (pc := 45) o_X3_maybeRain rfl (Wp.r_pfi (pc := 46) o_X3_maybeRain rfl fk_C_4_5 (Wp.r_return (pc := 49) o_X3_maybeRain rfl (H))))))))
noncomputable abbrev Y_X3_tryBuy_25_26 (d : Nat) (Q : Qt) : Xt := Wp SHC (WpM SHC MT (d + 2)) (flat2 cq_X3_tryBuy) (none) Q
noncomputable def f_X3_tryBuy_25_26 (a3 : Int32) (a4 : Int32) (a5 : Int32) (s : Sg) : Option (Unit × Sg) :=
  bd (f_X2_hasRoom a5 a4 s) (fun r1 s2 =>
  if r1 = 0 then
    some ((), pI s2 4 4 ((s2.1 4 4) + 1))
  else
    ck (inr a3 4) (
    if (s2.1 44 a3.toNatClampNeg) < a4 then
      some ((), pI s2 4 4 ((s2.1 4 4) + 1))
    else
      bd (f_X2_addBought_25 a3 a4 a5 s2) (fun r4 s5 =>
      some ((), s5)
      )
    )
  )
set_option maxRecDepth 100000 in
theorem w_X3_tryBuy_25_26 {d : Nat} {s : Sg} {Q : Qt} (a3 : Int32) (a4 : Int32) (a5 : Int32) (H : OQ (f_X3_tryBuy_25_26 a3 a4 a5 s) (fun _ s9 => Q none s9)) : WpM SHC MT (d + 3) 46 [.ref 4, .ref 25, .ref 26, .int a3, .int a4, .int a5] s Q := by
  refine WpM.enter me_X3_tryBuy rfl rfl ?_
  show Y_X3_tryBuy_25_26 d Q 0 [(0, .ref 4), (1, .ref 25), (2, .ref 26), (3, .int a3), (4, .int a4), (5, .int a5)] [] s
  unfold f_X3_tryBuy_25_26 at H
  refine Wp.r_aload_n2 (pc := 0) o_X3_tryBuy rfl rfl (Wp.r_iload (pc := 1) o_X3_tryBuy rfl rfl (Wp.r_iload (pc := 3) o_X3_tryBuy rfl rfl (Wp.r_cv3 (pc := 5) o_X3_tryBuy rfl fk_C_26_0 (⟨rm8_ rfl, ?_⟩))))
  refine w_X2_hasRoom (d := d) _ _ ?_
  refine oq_bd H (fun r1 s2 H => ?_)
  refine Wp.r_if_eq (pc := 8) o_X3_tryBuy rfl (fun c9 => ?_) (fun c9 => ?_)
  · have H := oq_t c9 H
    exact Wp.r_aload_n0 (pc := 36) o_X3_tryBuy rfl rfl (Wp.r_dup_r (pc := 37) o_X3_tryBuy rfl (Wp.r_gfi (pc := 38) o_X3_tryBuy rfl fk_C_4_4 (Wp.r_iconst (pc := 41) o_X3_tryBuy rfl (Wp.r_iadd (pc := 42) o_X3_tryBuy rfl (Wp.r_pfi (pc := 43) o_X3_tryBuy rfl fk_C_4_4 (Wp.r_return (pc := 46) o_X3_tryBuy rfl (H)))))))
  · have H := oq_f c9 H
    obtain ⟨hc3, H⟩ := oq_ck H
    refine Wp.f_al2_gfr (pc := 11) o_X3_tryBuy rfl rfl rfl fk_C_26_4 (Wp.r_iload_n3 (pc := 15) o_X3_tryBuy rfl rfl (Wp.r_iaload (pc := 16) o_X3_tryBuy rfl ak_C_44 (⟨hc3, ?_⟩)))
    refine Wp.r_iload (pc := 17) o_X3_tryBuy rfl rfl (Wp.r_icmp_lt (pc := 19) o_X3_tryBuy rfl (fun c9 => ?_) (fun c9 => ?_))
    · have H := oq_t c9 H
      exact Wp.r_aload_n0 (pc := 36) o_X3_tryBuy rfl rfl (Wp.r_dup_r (pc := 37) o_X3_tryBuy rfl (Wp.r_gfi (pc := 38) o_X3_tryBuy rfl fk_C_4_4 (Wp.r_iconst (pc := 41) o_X3_tryBuy rfl (Wp.r_iadd (pc := 42) o_X3_tryBuy rfl (Wp.r_pfi (pc := 43) o_X3_tryBuy rfl fk_C_4_4 (Wp.r_return (pc := 46) o_X3_tryBuy rfl (H)))))))
    · have H := oq_f c9 H
      refine Wp.r_aload_n2 (pc := 22) o_X3_tryBuy rfl rfl (Wp.r_aload_n1 (pc := 23) o_X3_tryBuy rfl rfl (Wp.r_iload_n3 (pc := 24) o_X3_tryBuy rfl rfl (Wp.r_iload (pc := 25) o_X3_tryBuy rfl rfl (Wp.r_iload (pc := 27) o_X3_tryBuy rfl rfl (Wp.r_cv5 (pc := 29) o_X3_tryBuy rfl fk_C_26_0 (⟨rm8_ rfl, ?_⟩))))))
      refine w_X2_addBought_25 (d := d) _ _ _ ?_
      refine oq_bd H (fun r4 s5 H => ?_)
      exact Wp.r_pop_i (pc := 32) o_X3_tryBuy rfl (Wp.r_goto (pc := 33) o_X3_tryBuy rfl (Wp.r_return (pc := 46) o_X3_tryBuy rfl (H)))
noncomputable abbrev Y_X3_tryStrew_26 (d : Nat) (Q : Qt) : Xt := Wp SHC (WpM SHC MT (d + 2)) (flat2 cq_X3_tryStrew) (none) Q
noncomputable def f_X3_tryStrew_26 (a2 : Int32) (a3 : Int32) (s : Sg) : Option (Unit × Sg) :=
  bd (f_X2_hasRoom a2 a3 s) (fun r1 s2 =>
  if r1 = 0 then
    some ((), pI s2 4 4 ((s2.1 4 4) + 1))
  else
    bd (f_X2_addSalt a2 a3 s2) (fun _ s4 =>
    some ((), s4)
    )
  )
set_option maxRecDepth 100000 in
theorem w_X3_tryStrew_26 {d : Nat} {s : Sg} {Q : Qt} (a2 : Int32) (a3 : Int32) (H : OQ (f_X3_tryStrew_26 a2 a3 s) (fun _ s9 => Q none s9)) : WpM SHC MT (d + 3) 45 [.ref 4, .ref 26, .int a2, .int a3] s Q := by
  refine WpM.enter me_X3_tryStrew rfl rfl ?_
  show Y_X3_tryStrew_26 d Q 0 [(0, .ref 4), (1, .ref 26), (2, .int a2), (3, .int a3)] [] s
  unfold f_X3_tryStrew_26 at H
  refine Wp.r_aload_n1 (pc := 0) o_X3_tryStrew rfl rfl (Wp.r_iload_n2 (pc := 1) o_X3_tryStrew rfl rfl (Wp.r_iload_n3 (pc := 2) o_X3_tryStrew rfl rfl (Wp.r_cv3 (pc := 3) o_X3_tryStrew rfl fk_C_26_0 (⟨rm8_ rfl, ?_⟩))))
  refine w_X2_hasRoom (d := d) _ _ ?_
  refine oq_bd H (fun r1 s2 H => ?_)
  refine Wp.r_if_eq (pc := 6) o_X3_tryStrew rfl (fun c9 => ?_) (fun c9 => ?_)
  · have H := oq_t c9 H
    exact Wp.r_aload_n0 (pc := 18) o_X3_tryStrew rfl rfl (Wp.r_dup_r (pc := 19) o_X3_tryStrew rfl (Wp.r_gfi (pc := 20) o_X3_tryStrew rfl fk_C_4_4 (Wp.r_iconst (pc := 23) o_X3_tryStrew rfl (Wp.r_iadd (pc := 24) o_X3_tryStrew rfl (Wp.r_pfi (pc := 25) o_X3_tryStrew rfl fk_C_4_4 (Wp.r_return (pc := 28) o_X3_tryStrew rfl (H)))))))
  · have H := oq_f c9 H
    refine Wp.r_aload_n1 (pc := 9) o_X3_tryStrew rfl rfl (Wp.r_iload_n2 (pc := 10) o_X3_tryStrew rfl rfl (Wp.r_iload_n3 (pc := 11) o_X3_tryStrew rfl rfl (Wp.r_cv3 (pc := 12) o_X3_tryStrew rfl fk_C_26_0 (⟨rm8_ rfl, ?_⟩))))
    refine w_X2_addSalt (d := d + 1) _ _ ?_
    refine oq_bd H (fun _ s4 H => ?_)
    exact Wp.r_goto (pc := 15) o_X3_tryStrew rfl (Wp.r_return (pc := 28) o_X3_tryStrew rfl (H))
noncomputable abbrev Y_X3_tryNight_25_26 (d : Nat) (Q : Qt) : Xt := Wp SHC (WpM SHC MT (d + 4)) (flat2 cq_X3_tryNight) (none) Q
noncomputable def f_X3_tryNight_25_26  (s : Sg) : Option (Unit × Sg) :=
  if (s.1 26 6) < 999 then
    bd (f_X2_passNight_25 s) (fun _ s2 =>
    bd (f_bitCount ((s2.1 26 5) &&& ((s.1 26 5) ^^^ (-1))) s2) (fun r3 s4 =>
    bd (f_bitCount ((s.1 26 5) &&& (((pI s4 4 6 ((s2.1 4 6) + r3)).1 26 5) ^^^ (-1))) (pI s4 4 6 ((s2.1 4 6) + r3))) (fun r5 s6 =>
    nmx (pI s6 4 7 (((pI s4 4 6 ((s2.1 4 6) + r3)).1 4 7) + r5)) (fun s7 =>
    some ((), s7)
    )
    )
    )
    )
  else
    some ((), pI s 4 4 ((s.1 4 4) + 1))
set_option maxRecDepth 100000 in
theorem w_X3_tryNight_25_26 {d : Nat} {s : Sg} {Q : Qt}  (H : OQ (f_X3_tryNight_25_26  s) (fun _ s9 => Q none s9)) : WpM SHC MT (d + 5) 48 [.ref 4, .ref 25, .ref 26] s Q := by
  refine WpM.enter me_X3_tryNight rfl rfl ?_
  show Y_X3_tryNight_25_26 d Q 0 [(0, .ref 4), (1, .ref 25), (2, .ref 26)] [] s
  unfold f_X3_tryNight_25_26 at H
  refine Wp.f_al2_gfi (pc := 0) o_X3_tryNight rfl rfl rfl fk_C_26_6 (Wp.r_sipush (pc := 4) o_X3_tryNight rfl (Wp.r_icmp_lt (pc := 7) o_X3_tryNight rfl (fun c9 => ?_) (fun c9 => ?_)))
  · have H := oq_t c9 H
    refine Wp.f_al2_gfi (pc := 21) o_X3_tryNight rfl rfl rfl fk_C_26_5 (Wp.r_istore_n3 (pc := 25) o_X3_tryNight rfl (Wp.r_aload_n2 (pc := 26) o_X3_tryNight rfl rfl (Wp.r_aload_n1 (pc := 27) o_X3_tryNight rfl rfl (Wp.r_cv2 (pc := 28) o_X3_tryNight rfl fk_C_26_0 (⟨rm8_ rfl, ?_⟩)))))
    refine w_X2_passNight_25 (d := d)  ?_
    refine oq_bd H (fun _ s2 H => ?_)
    refine Wp.r_aload_n0 (pc := 31) o_X3_tryNight rfl rfl (Wp.r_dup_r (pc := 32) o_X3_tryNight rfl (Wp.r_gfi (pc := 33) o_X3_tryNight rfl fk_C_4_6 (Wp.f_al2_gfi (pc := 36) o_X3_tryNight rfl rfl rfl fk_C_26_5 (Wp.r_iload_n3 (pc := 40) o_X3_tryNight rfl rfl (Wp.r_iconst (pc := 41) o_X3_tryNight rfl (Wp.r_ixor (pc := 42) o_X3_tryNight rfl (Wp.r_iand (pc := 43) o_X3_tryNight rfl (Wp.r_cs1 (pc := 44) o_X3_tryNight rfl (⟨rm8_ rfl, ?_⟩)))))))))
    refine w_bitCount (d := d + 3) _ ?_
    refine oq_bd H (fun r3 s4 H => ?_)
    refine Wp.r_iadd (pc := 47) o_X3_tryNight rfl (Wp.r_pfi (pc := 48) o_X3_tryNight rfl fk_C_4_6 (Wp.r_aload_n0 (pc := 51) o_X3_tryNight rfl rfl (Wp.r_dup_r (pc := 52) o_X3_tryNight rfl (Wp.r_gfi (pc := 53) o_X3_tryNight rfl fk_C_4_7 (Wp.r_iload_n3 (pc := 56) o_X3_tryNight rfl rfl (Wp.f_al2_gfi (pc := 57) o_X3_tryNight rfl rfl rfl fk_C_26_5 (Wp.r_iconst (pc := 61) o_X3_tryNight rfl (Wp.r_ixor (pc := 62) o_X3_tryNight rfl (Wp.r_iand (pc := 63) o_X3_tryNight rfl (Wp.r_cs1 (pc := 64) o_X3_tryNight rfl (⟨rm8_ rfl, ?_⟩)))))))))))
    refine w_bitCount (d := d + 3) _ ?_
    refine oq_bd H (fun r5 s6 H => ?_)
    refine Wp.r_iadd (pc := 67) o_X3_tryNight rfl (Wp.r_pfi (pc := 68) o_X3_tryNight rfl fk_C_4_7 (show Y_X3_tryNight_25_26 d Q 71 [(3, .int (s.1 26 5)), (0, .ref 4), (1, .ref 25), (2, .ref 26)] [] (pI s6 4 7 (((pI s4 4 6 ((s2.1 4 6) + r3)).1 4 7) + r5)) from ?_))
    revert H
    generalize pI s6 4 7 (((pI s4 4 6 ((s2.1 4 6) + r3)).1 4 7) + r5) = s7
    intro H
    have H := nmx_e H
    exact Wp.r_return (pc := 71) o_X3_tryNight rfl (H)
  · have H := oq_f c9 H
    exact Wp.r_aload_n0 (pc := 10) o_X3_tryNight rfl rfl (Wp.r_dup_r (pc := 11) o_X3_tryNight rfl (Wp.r_gfi (pc := 12) o_X3_tryNight rfl fk_C_4_4 (Wp.r_iconst (pc := 15) o_X3_tryNight rfl (Wp.r_iadd (pc := 16) o_X3_tryNight rfl (Wp.r_pfi (pc := 17) o_X3_tryNight rfl fk_C_4_4 (Wp.r_return (pc := 20) o_X3_tryNight rfl (H)))))))
noncomputable abbrev Y_X3_act_25_26_27 (d : Nat) (Q : Qt) : Xt := Wp SHC (WpM SHC MT (d + 5)) (flat2 cq_X3_act) (none) Q
noncomputable def f_X3_act_25_26_27 (a4 : Int32) (s : Sg) : Option (Unit × Sg) :=
  ck (inr a4 60) (
  if (s.1 45 a4.toNatClampNeg) = 116 then
    bd (f_X3_maybeRain_25_26 (s.1 47 a4.toNatClampNeg) s) (fun _ s3 =>
    some ((), s3)
    )
  else
  if (s.1 45 a4.toNatClampNeg) = 117 then
    some ((), s)
  else
  if (s.1 45 a4.toNatClampNeg) = 118 then
    some ((), s)
  else
  if (s.1 45 a4.toNatClampNeg) = 119 then
    bd (f_X3_tryBuy_25_26 (s.1 46 a4.toNatClampNeg) (s.1 47 a4.toNatClampNeg) (s.1 48 a4.toNatClampNeg) s) (fun _ s5 =>
    some ((), s5)
    )
  else
  if (s.1 45 a4.toNatClampNeg) = 120 then
    bd (f_X3_tryStrew_26 (s.1 46 a4.toNatClampNeg) (s.1 47 a4.toNatClampNeg) s) (fun _ s7 =>
    some ((), s7)
    )
  else
  if (s.1 45 a4.toNatClampNeg) = 121 then
    bd (f_X2_clearStep (s.1 46 a4.toNatClampNeg) s) (fun r8 s9 =>
    some ((), s9)
    )
  else
  if (s.1 45 a4.toNatClampNeg) = 122 then
    bd (f_X2_letSnow_25 (s.1 47 a4.toNatClampNeg) s) (fun _ s11 =>
    some ((), s11)
    )
  else
  if (s.1 45 a4.toNatClampNeg) = 123 then
    bd (f_X3_tryNight_25_26 s) (fun _ s13 =>
    some ((), s13)
    )
  else
    some ((), s)
  )
set_option maxRecDepth 100000 in
theorem w_X3_act_25_26_27 {d : Nat} {s : Sg} {Q : Qt} (a4 : Int32) (H : OQ (f_X3_act_25_26_27 a4 s) (fun _ s9 => Q none s9)) : WpM SHC MT (d + 6) 44 [.ref 4, .ref 25, .ref 26, .ref 27, .int a4] s Q := by
  refine WpM.enter me_X3_act rfl rfl ?_
  show Y_X3_act_25_26_27 d Q 0 [(0, .ref 4), (1, .ref 25), (2, .ref 26), (3, .ref 27), (4, .int a4)] [] s
  unfold f_X3_act_25_26_27 at H
  obtain ⟨hc1, H⟩ := oq_ck H
  refine Wp.f_al3_gfr (pc := 0) o_X3_act rfl rfl rfl fk_C_27_1 (Wp.r_iload (pc := 4) o_X3_act rfl rfl (Wp.r_iaload (pc := 6) o_X3_act rfl ak_C_46 (⟨hc1, ?_⟩)))
  refine Wp.r_istore (pc := 7) o_X3_act rfl (Wp.f_al3_gfr (pc := 9) o_X3_act rfl rfl rfl fk_C_27_2 (Wp.r_iload (pc := 13) o_X3_act rfl rfl (Wp.r_iaload (pc := 15) o_X3_act rfl ak_C_47 (⟨hc1, ?_⟩))))
  refine Wp.r_istore (pc := 16) o_X3_act rfl (Wp.f_al3_gfr (pc := 18) o_X3_act rfl rfl rfl fk_C_27_0 (Wp.r_iload (pc := 22) o_X3_act rfl rfl (Wp.r_iaload (pc := 24) o_X3_act rfl ak_C_45 (⟨hc1, ?_⟩))))
  refine Wp.tsw2 (l := [(116, 114), (117, 144), (118, 144), (119, 84), (120, 72), (121, 104), (122, 125), (123, 135)]) o_X3_act rfl (by decide +kernel) ?_
  show sw [(116, 114), (117, 144), (118, 144), (119, 84), (120, 72), (121, 104), (122, 125), (123, 135)] 144 (s.1 45 a4.toNatClampNeg) (fun t9 => Y_X3_act_25_26_27 d Q t9 [(6, .int (s.1 47 a4.toNatClampNeg)), (5, .int (s.1 46 a4.toNatClampNeg)), (0, .ref 4), (1, .ref 25), (2, .ref 26), (3, .ref 27), (4, .int a4)] [] s)
  refine sw_c (fun e9 => ?_) (fun c9_0 => (sw_c (fun e9 => ?_) (fun c9_1 => (sw_c (fun e9 => ?_) (fun c9_2 => (sw_c (fun e9 => ?_) (fun c9_3 => (sw_c (fun e9 => ?_) (fun c9_4 => (sw_c (fun e9 => ?_) (fun c9_5 => (sw_c (fun e9 => ?_) (fun c9_6 => (sw_c (fun e9 => ?_) (fun c9_7 => ?_)))))))))))))))
  · have H := oq_t e9 H
    refine Wp.r_aload_n0 (pc := 114) o_X3_act rfl rfl (Wp.r_aload_n1 (pc := 115) o_X3_act rfl rfl (Wp.r_aload_n2 (pc := 116) o_X3_act rfl rfl (Wp.r_iload (pc := 117) o_X3_act rfl rfl (Wp.r_cv4 (pc := 119) o_X3_act rfl fk_C_4_0 (⟨rm8_ rfl, ?_⟩)))))
    refine w_X3_maybeRain_25_26 (d := d + 3) _ ?_
    refine oq_bd H (fun _ s3 H => ?_)
    exact Wp.r_goto (pc := 122) o_X3_act rfl (Wp.r_return (pc := 144) o_X3_act rfl (H))
  · have H := oq_f c9_0 H; have H := oq_t e9 H
    exact Wp.r_return (pc := 144) o_X3_act rfl (H)
  · have H := oq_f c9_0 H; have H := oq_f c9_1 H; have H := oq_t e9 H
    exact Wp.r_return (pc := 144) o_X3_act rfl (H)
  · have H := oq_f c9_0 H; have H := oq_f c9_1 H; have H := oq_f c9_2 H; have H := oq_t e9 H
    refine Wp.r_aload_n0 (pc := 84) o_X3_act rfl rfl (Wp.r_aload_n1 (pc := 85) o_X3_act rfl rfl (Wp.r_aload_n2 (pc := 86) o_X3_act rfl rfl (Wp.r_iload (pc := 87) o_X3_act rfl rfl (Wp.r_iload (pc := 89) o_X3_act rfl rfl (Wp.f_al3_gfr (pc := 91) o_X3_act rfl rfl rfl fk_C_27_3 (Wp.r_iload (pc := 95) o_X3_act rfl rfl (Wp.r_iaload (pc := 97) o_X3_act rfl ak_C_48 (⟨hc1, ?_⟩))))))))
    refine Wp.r_cv6 (pc := 98) o_X3_act rfl fk_C_4_0 (⟨rm8_ rfl, ?_⟩)
    refine w_X3_tryBuy_25_26 (d := d + 2) _ _ _ ?_
    refine oq_bd H (fun _ s5 H => ?_)
    exact Wp.r_goto (pc := 101) o_X3_act rfl (Wp.r_return (pc := 144) o_X3_act rfl (H))
  · have H := oq_f c9_0 H; have H := oq_f c9_1 H; have H := oq_f c9_2 H; have H := oq_f c9_3 H; have H := oq_t e9 H
    refine Wp.r_aload_n0 (pc := 72) o_X3_act rfl rfl (Wp.r_aload_n2 (pc := 73) o_X3_act rfl rfl (Wp.r_iload (pc := 74) o_X3_act rfl rfl (Wp.r_iload (pc := 76) o_X3_act rfl rfl (Wp.r_cv4 (pc := 78) o_X3_act rfl fk_C_4_0 (⟨rm8_ rfl, ?_⟩)))))
    refine w_X3_tryStrew_26 (d := d + 2) _ _ ?_
    refine oq_bd H (fun _ s7 H => ?_)
    exact Wp.r_goto (pc := 81) o_X3_act rfl (Wp.r_return (pc := 144) o_X3_act rfl (H))
  · have H := oq_f c9_0 H; have H := oq_f c9_1 H; have H := oq_f c9_2 H; have H := oq_f c9_3 H; have H := oq_f c9_4 H; have H := oq_t e9 H
    refine Wp.r_aload_n2 (pc := 104) o_X3_act rfl rfl (Wp.r_iload (pc := 105) o_X3_act rfl rfl (Wp.r_cv2 (pc := 107) o_X3_act rfl fk_C_26_0 (⟨rm8_ rfl, ?_⟩)))
    refine w_X2_clearStep (d := d + 3) _ ?_
    refine oq_bd H (fun r8 s9 H => ?_)
    exact Wp.r_pop_i (pc := 110) o_X3_act rfl (Wp.r_goto (pc := 111) o_X3_act rfl (Wp.r_return (pc := 144) o_X3_act rfl (H)))
  · have H := oq_f c9_0 H; have H := oq_f c9_1 H; have H := oq_f c9_2 H; have H := oq_f c9_3 H; have H := oq_f c9_4 H; have H := oq_f c9_5 H; have H := oq_t e9 H
    refine Wp.r_aload_n2 (pc := 125) o_X3_act rfl rfl (Wp.r_aload_n1 (pc := 126) o_X3_act rfl rfl (Wp.r_iload (pc := 127) o_X3_act rfl rfl (Wp.r_cv3 (pc := 129) o_X3_act rfl fk_C_26_0 (⟨rm8_ rfl, ?_⟩))))
    refine w_X2_letSnow_25 (d := d + 3) _ ?_
    refine oq_bd H (fun _ s11 H => ?_)
    exact Wp.r_goto (pc := 132) o_X3_act rfl (Wp.r_return (pc := 144) o_X3_act rfl (H))
  · have H := oq_f c9_0 H; have H := oq_f c9_1 H; have H := oq_f c9_2 H; have H := oq_f c9_3 H; have H := oq_f c9_4 H; have H := oq_f c9_5 H; have H := oq_f c9_6 H; have H := oq_t e9 H
    refine Wp.r_aload_n0 (pc := 135) o_X3_act rfl rfl (Wp.r_aload_n1 (pc := 136) o_X3_act rfl rfl (Wp.r_aload_n2 (pc := 137) o_X3_act rfl rfl (Wp.r_cv3 (pc := 138) o_X3_act rfl fk_C_4_0 (⟨rm8_ rfl, ?_⟩))))
    refine w_X3_tryNight_25_26 (d := d)  ?_
    refine oq_bd H (fun _ s13 H => ?_)
    exact Wp.r_goto (pc := 141) o_X3_act rfl (Wp.r_return (pc := 144) o_X3_act rfl (H))
  · have H := oq_f c9_0 H; have H := oq_f c9_1 H; have H := oq_f c9_2 H; have H := oq_f c9_3 H; have H := oq_f c9_4 H; have H := oq_f c9_5 H; have H := oq_f c9_6 H; have H := oq_f c9_7 H
    exact Wp.r_return (pc := 144) o_X3_act rfl (H)
noncomputable abbrev Y_X3_holds_26_27_25 (d : Nat) (Q : Qt) : Xt := Wp SHC (WpM SHC MT (d + 3)) (flat2 cq_X3_holds) (some .boolean) Q
noncomputable def f_X3_holds_26_27_25 (a3 : Int32) (s : Sg) : Option (Int32 × Sg) :=
  ck (inr a3 60) (
  if (s.1 49 a3.toNatClampNeg) = 60 then
    bd (f_X2_lying (s.1 46 a3.toNatClampNeg) s) (fun r2 s3 =>
    if (s3.1 47 a3.toNatClampNeg) ≤ r2 then
      some (0, s3)
    else
      some (1, s3)
    )
  else
  if (s.1 49 a3.toNatClampNeg) = 62 then
    bd (f_X2_lying (s.1 46 a3.toNatClampNeg) s) (fun r4 s5 =>
    if r4 ≤ (s5.1 47 a3.toNatClampNeg) then
      some (0, s5)
    else
      some (1, s5)
    )
  else
  if (s.1 49 a3.toNatClampNeg) = 125 then
    bd (f_X11_has (s.1 26 5) (s.1 46 a3.toNatClampNeg) s) (fun r6 s7 =>
    ck (r6 = 0 ∨ r6 = 1) (some (r6, s7))
    )
  else
  if (s.1 49 a3.toNatClampNeg) = 126 then
    bd (f_X9_inTruce_26_25 s) (fun r8 s9 =>
    bd (f_X11_has r8 (s.1 46 a3.toNatClampNeg) s9) (fun r10 s11 =>
    ck (r10 = 0 ∨ r10 = 1) (some (r10, s11))
    )
    )
  else
    bd (f_X2_lying (s.1 46 a3.toNatClampNeg) s) (fun r12 s13 =>
    if r12 = (s13.1 47 a3.toNatClampNeg) then
      some (1, s13)
    else
      some (0, s13)
    )
  )
set_option maxRecDepth 100000 in
theorem w_X3_holds_26_27_25 {d : Nat} {s : Sg} {Q : Qt} (a3 : Int32) (H : OQ (f_X3_holds_26_27_25 a3 s) (fun r9 s9 => Q (some (.int r9)) s9)) : WpM SHC MT (d + 4) 43 [.ref 25, .ref 26, .ref 27, .int a3] s Q := by
  refine WpM.enter me_X3_holds rfl rfl ?_
  show Y_X3_holds_26_27_25 d Q 0 [(0, .ref 25), (1, .ref 26), (2, .ref 27), (3, .int a3)] [] s
  unfold f_X3_holds_26_27_25 at H
  obtain ⟨hc1, H⟩ := oq_ck H
  refine Wp.f_al2_gfr (pc := 0) o_X3_holds rfl rfl rfl fk_C_27_1 (Wp.r_iload_n3 (pc := 4) o_X3_holds rfl rfl (Wp.r_iaload (pc := 5) o_X3_holds rfl ak_C_46 (⟨hc1, ?_⟩)))
  refine Wp.r_istore (pc := 6) o_X3_holds rfl (Wp.f_al2_gfr (pc := 8) o_X3_holds rfl rfl rfl fk_C_27_4 (Wp.r_iload_n3 (pc := 12) o_X3_holds rfl rfl (Wp.r_iaload (pc := 13) o_X3_holds rfl ak_C_49 (⟨hc1, ?_⟩))))
  refine Wp.lsw2 (l := [(60, 77), (62, 98), (125, 56), (126, 66)]) o_X3_holds rfl (by decide +kernel) ?_
  show sw [(60, 77), (62, 98), (125, 56), (126, 66)] 119 (s.1 49 a3.toNatClampNeg) (fun t9 => Y_X3_holds_26_27_25 d Q t9 [(4, .int (s.1 46 a3.toNatClampNeg)), (0, .ref 25), (1, .ref 26), (2, .ref 27), (3, .int a3)] [] s)
  refine sw_c (fun e9 => ?_) (fun c9_0 => (sw_c (fun e9 => ?_) (fun c9_1 => (sw_c (fun e9 => ?_) (fun c9_2 => (sw_c (fun e9 => ?_) (fun c9_3 => ?_)))))))
  · have H := oq_t e9 H
    refine Wp.r_aload_n1 (pc := 77) o_X3_holds rfl rfl (Wp.r_iload (pc := 78) o_X3_holds rfl rfl (Wp.r_cv2 (pc := 80) o_X3_holds rfl fk_C_26_0 (⟨rm8_ rfl, ?_⟩)))
    refine w_X2_lying (d := d + 2) _ ?_
    refine oq_bd H (fun r2 s3 H => ?_)
    refine Wp.f_al2_gfr (pc := 83) o_X3_holds rfl rfl rfl fk_C_27_2 (Wp.r_iload_n3 (pc := 87) o_X3_holds rfl rfl (Wp.r_iaload (pc := 88) o_X3_holds rfl ak_C_47 (⟨hc1, ?_⟩)))
    refine Wp.r_icmp_ge (pc := 89) o_X3_holds rfl (fun c9 => ?_) (fun c9 => ?_)
    · have H := oq_t c9 H
      exact Wp.r_iconst (pc := 96) o_X3_holds rfl (Wp.r_ireturn (pc := 97) o_X3_holds rfl (⟨rfl, H⟩))
    · have H := oq_f c9 H
      exact Wp.r_iconst (pc := 92) o_X3_holds rfl (Wp.r_goto (pc := 93) o_X3_holds rfl (Wp.r_ireturn (pc := 97) o_X3_holds rfl (⟨rfl, H⟩)))
  · have H := oq_f c9_0 H; have H := oq_t e9 H
    refine Wp.r_aload_n1 (pc := 98) o_X3_holds rfl rfl (Wp.r_iload (pc := 99) o_X3_holds rfl rfl (Wp.r_cv2 (pc := 101) o_X3_holds rfl fk_C_26_0 (⟨rm8_ rfl, ?_⟩)))
    refine w_X2_lying (d := d + 2) _ ?_
    refine oq_bd H (fun r4 s5 H => ?_)
    refine Wp.f_al2_gfr (pc := 104) o_X3_holds rfl rfl rfl fk_C_27_2 (Wp.r_iload_n3 (pc := 108) o_X3_holds rfl rfl (Wp.r_iaload (pc := 109) o_X3_holds rfl ak_C_47 (⟨hc1, ?_⟩)))
    refine Wp.r_icmp_le (pc := 110) o_X3_holds rfl (fun c9 => ?_) (fun c9 => ?_)
    · have H := oq_t c9 H
      exact Wp.r_iconst (pc := 117) o_X3_holds rfl (Wp.r_ireturn (pc := 118) o_X3_holds rfl (⟨rfl, H⟩))
    · have H := oq_f c9 H
      exact Wp.r_iconst (pc := 113) o_X3_holds rfl (Wp.r_goto (pc := 114) o_X3_holds rfl (Wp.r_ireturn (pc := 118) o_X3_holds rfl (⟨rfl, H⟩)))
  · have H := oq_f c9_0 H; have H := oq_f c9_1 H; have H := oq_t e9 H
    refine Wp.f_al1_gfi (pc := 56) o_X3_holds rfl rfl rfl fk_C_26_5 (Wp.r_iload (pc := 60) o_X3_holds rfl rfl (Wp.r_cs2 (pc := 62) o_X3_holds rfl (⟨rm8_ rfl, ?_⟩)))
    refine w_X11_has (d := d + 2) _ _ ?_
    refine oq_bd H (fun r6 s7 H => ?_)
    obtain ⟨c9, H⟩ := oq_ck H
    exact Wp.r_ireturn (pc := 65) o_X3_holds rfl (⟨b01_n c9, H⟩)
  · have H := oq_f c9_0 H; have H := oq_f c9_1 H; have H := oq_f c9_2 H; have H := oq_t e9 H
    refine Wp.r_aload_n0 (pc := 66) o_X3_holds rfl rfl (Wp.r_aload_n1 (pc := 67) o_X3_holds rfl rfl (Wp.r_cs2 (pc := 68) o_X3_holds rfl (⟨rm8_ rfl, ?_⟩)))
    refine w_X9_inTruce_26_25 (d := d)  ?_
    refine oq_bd H (fun r8 s9 H => ?_)
    refine Wp.r_iload (pc := 71) o_X3_holds rfl rfl (Wp.r_cs2 (pc := 73) o_X3_holds rfl (⟨rm8_ rfl, ?_⟩))
    refine w_X11_has (d := d + 2) _ _ ?_
    refine oq_bd H (fun r10 s11 H => ?_)
    obtain ⟨c9, H⟩ := oq_ck H
    exact Wp.r_ireturn (pc := 76) o_X3_holds rfl (⟨b01_n c9, H⟩)
  · have H := oq_f c9_0 H; have H := oq_f c9_1 H; have H := oq_f c9_2 H; have H := oq_f c9_3 H
    refine Wp.r_aload_n1 (pc := 119) o_X3_holds rfl rfl (Wp.r_iload (pc := 120) o_X3_holds rfl rfl (Wp.r_cv2 (pc := 122) o_X3_holds rfl fk_C_26_0 (⟨rm8_ rfl, ?_⟩)))
    refine w_X2_lying (d := d + 2) _ ?_
    refine oq_bd H (fun r12 s13 H => ?_)
    refine Wp.f_al2_gfr (pc := 125) o_X3_holds rfl rfl rfl fk_C_27_2 (Wp.r_iload_n3 (pc := 129) o_X3_holds rfl rfl (Wp.r_iaload (pc := 130) o_X3_holds rfl ak_C_47 (⟨hc1, ?_⟩)))
    refine Wp.r_icmp_ne (pc := 131) o_X3_holds rfl (fun c9 => ?_) (fun c9 => ?_)
    · have H := oq_t c9 H
      exact Wp.r_iconst (pc := 134) o_X3_holds rfl (Wp.r_goto (pc := 135) o_X3_holds rfl (Wp.r_ireturn (pc := 139) o_X3_holds rfl (⟨rfl, H⟩)))
    · have H := oq_f c9 H
      exact Wp.r_iconst (pc := 138) o_X3_holds rfl (Wp.r_ireturn (pc := 139) o_X3_holds rfl (⟨rfl, H⟩))
noncomputable abbrev Y_X3_behindStep_25_26_27 (d : Nat) (Q : Qt) : Xt := Wp SHC (WpM SHC MT (d + 4)) (flat2 cq_X3_behindStep) (some .int) Q
noncomputable def f_X3_behindStep_25_26_27 (a4 : Int32) (s : Sg) : Option (Int32 × Sg) :=
  ck (inr a4 60) (
  if (s.1 45 a4.toNatClampNeg) = 124 then
    bd (f_X3_holds_26_27_25 a4 s) (fun r2 s3 =>
    if r2 = 0 then
      some ((s3.1 50 a4.toNatClampNeg) + 1, s3)
    else
      some (a4 + 1, s3)
    )
  else
  if (s.1 45 a4.toNatClampNeg) = 128 then
    nmx (pI s 18 a4.toNatClampNeg (s.1 47 a4.toNatClampNeg)) (fun s4 =>
    some (a4 + 1, s4)
    )
  else
  if (s.1 45 a4.toNatClampNeg) = 130 then
    some (s.1 27 7, s)
  else
    some (a4 + 1, s)
  )
set_option maxRecDepth 100000 in
theorem w_X3_behindStep_25_26_27 {d : Nat} {s : Sg} {Q : Qt} (a4 : Int32) (H : OQ (f_X3_behindStep_25_26_27 a4 s) (fun r9 s9 => Q (some (.int r9)) s9)) : WpM SHC MT (d + 5) 42 [.ref 4, .ref 25, .ref 26, .ref 27, .int a4] s Q := by
  refine WpM.enter me_X3_behindStep rfl rfl ?_
  show Y_X3_behindStep_25_26_27 d Q 0 [(0, .ref 4), (1, .ref 25), (2, .ref 26), (3, .ref 27), (4, .int a4)] [] s
  unfold f_X3_behindStep_25_26_27 at H
  obtain ⟨hc1, H⟩ := oq_ck H
  refine Wp.f_al3_gfr (pc := 0) o_X3_behindStep rfl rfl rfl fk_C_27_0 (Wp.r_iload (pc := 4) o_X3_behindStep rfl rfl (Wp.r_iaload (pc := 6) o_X3_behindStep rfl ak_C_45 (⟨hc1, ?_⟩)))
  refine Wp.lsw2 (l := [(124, 40), (128, 68), (130, 87)]) o_X3_behindStep rfl (by decide +kernel) ?_
  show sw [(124, 40), (128, 68), (130, 87)] 92 (s.1 45 a4.toNatClampNeg) (fun t9 => Y_X3_behindStep_25_26_27 d Q t9 [(0, .ref 4), (1, .ref 25), (2, .ref 26), (3, .ref 27), (4, .int a4)] [] s)
  refine sw_c (fun e9 => ?_) (fun c9_0 => (sw_c (fun e9 => ?_) (fun c9_1 => (sw_c (fun e9 => ?_) (fun c9_2 => ?_)))))
  · have H := oq_t e9 H
    refine Wp.r_aload_n1 (pc := 40) o_X3_behindStep rfl rfl (Wp.r_aload_n2 (pc := 41) o_X3_behindStep rfl rfl (Wp.r_aload_n3 (pc := 42) o_X3_behindStep rfl rfl (Wp.r_iload (pc := 43) o_X3_behindStep rfl rfl (Wp.r_cs4 (pc := 45) o_X3_behindStep rfl (⟨rm8_ rfl, ?_⟩)))))
    refine w_X3_holds_26_27_25 (d := d) _ ?_
    refine oq_bd H (fun r2 s3 H => ?_)
    refine Wp.r_if_eq (pc := 48) o_X3_behindStep rfl (fun c9 => ?_) (fun c9 => ?_)
    · have H := oq_t c9 H
      refine Wp.f_al3_gfr (pc := 58) o_X3_behindStep rfl rfl rfl fk_C_27_5 (Wp.r_iload (pc := 62) o_X3_behindStep rfl rfl (Wp.r_iaload (pc := 64) o_X3_behindStep rfl ak_C_50 (⟨hc1, ?_⟩)))
      exact Wp.r_iconst (pc := 65) o_X3_behindStep rfl (Wp.r_iadd (pc := 66) o_X3_behindStep rfl (Wp.r_ireturn (pc := 67) o_X3_behindStep rfl (⟨rfl, H⟩)))
    · have H := oq_f c9 H
      exact Wp.r_iload (pc := 51) o_X3_behindStep rfl rfl (Wp.r_iconst (pc := 53) o_X3_behindStep rfl (Wp.r_iadd (pc := 54) o_X3_behindStep rfl (Wp.r_goto (pc := 55) o_X3_behindStep rfl (Wp.r_ireturn (pc := 67) o_X3_behindStep rfl (⟨rfl, H⟩)))))
  · have H := oq_f c9_0 H; have H := oq_t e9 H
    refine Wp.f_al0_gfr (pc := 68) o_X3_behindStep rfl rfl rfl fk_C_4_0 (Wp.r_iload (pc := 72) o_X3_behindStep rfl rfl (Wp.f_al3_gfr (pc := 74) o_X3_behindStep rfl rfl rfl fk_C_27_2 (Wp.r_iload (pc := 78) o_X3_behindStep rfl rfl (Wp.r_iaload (pc := 80) o_X3_behindStep rfl ak_C_47 (⟨hc1, ?_⟩)))))
    refine Wp.r_iastore (pc := 81) o_X3_behindStep rfl ak_C_18 (⟨hc1, ?_⟩)
    revert H
    generalize pI s 18 a4.toNatClampNeg (s.1 47 a4.toNatClampNeg) = s4
    intro H
    have H := nmx_e H
    exact Wp.r_iload (pc := 82) o_X3_behindStep rfl rfl (Wp.r_iconst (pc := 84) o_X3_behindStep rfl (Wp.r_iadd (pc := 85) o_X3_behindStep rfl (Wp.r_ireturn (pc := 86) o_X3_behindStep rfl (⟨rfl, H⟩))))
  · have H := oq_f c9_0 H; have H := oq_f c9_1 H; have H := oq_t e9 H
    exact Wp.f_al3_gfi (pc := 87) o_X3_behindStep rfl rfl rfl fk_C_27_7 (Wp.r_ireturn (pc := 91) o_X3_behindStep rfl (⟨rfl, H⟩))
  · have H := oq_f c9_0 H; have H := oq_f c9_1 H; have H := oq_f c9_2 H
    exact Wp.r_iload (pc := 92) o_X3_behindStep rfl rfl (Wp.r_iconst (pc := 94) o_X3_behindStep rfl (Wp.r_iadd (pc := 95) o_X3_behindStep rfl (Wp.r_ireturn (pc := 96) o_X3_behindStep rfl (⟨rfl, H⟩))))
noncomputable abbrev Y_X3_run_25_26_27 (d : Nat) (Q : Qt) : Xt := Wp SHC (WpM SHC MT (d + 6)) (flat2 cq_X3_run) (none) Q
noncomputable def f_X3_run_25_26_27_b12 : Nat → Int32 → Int32 → Sg → Option (Unit × Sg)
  | 0, _, _, _ => none
  | n + 1, v5, v6, s =>
    if 1000000 ≤ v6 then
      some ((), s)
    else
      if (s.1 27 7) ≤ v5 then
        some ((), s)
      else
        ck (inr v5 60) (
        if (s.1 45 v5.toNatClampNeg) = 129 then
          bd (f_X3_behindEnd_27 v5 s) (fun r4 s5 =>
          (f_X3_run_25_26_27_b12 n) r4 (v6 + 1) s5
          )
        else
          if (s.1 4 3) < 300 then
            bd (f_X3_act_25_26_27 v5 (pI s 4 3 ((s.1 4 3) + 1))) (fun _ s7 =>
            bd (f_X3_behindStep_25_26_27 v5 s7) (fun r8 s9 =>
            (f_X3_run_25_26_27_b12 n) r8 (v6 + 1) s9
            )
            )
          else
            some ((), pI s 4 8 1)
        )
set_option maxRecDepth 100000 in
theorem w_X3_run_25_26_27_b12 {d : Nat} {Q : Qt} (n : Nat) : ∀ (v5 : Int32) (v6 : Int32) (s : Sg), OQ (f_X3_run_25_26_27_b12 n v5 v6 s) (fun _ s9 => Q none s9) → Y_X3_run_25_26_27 d Q 12 [(0, .ref 4), (1, .ref 25), (2, .ref 26), (3, .ref 27), (5, .int v5), (6, .int v6)] [] s := by
  induction n with
  | zero => intro v5 v6 s H; exact H.elim
  | succ n ih =>
    intro v5 v6 s H
    unfold f_X3_run_25_26_27_b12 at H
    refine Wp.r_iload (pc := 12) o_X3_run rfl rfl (Wp.r_ldc (pc := 14) o_X3_run rfl (Wp.r_icmp_ge (pc := 16) o_X3_run rfl (fun c9 => ?_) (fun c9 => ?_)))
    · have H := oq_t c9 H
      exact Wp.r_return (pc := 105) o_X3_run rfl (H)
    · have H := oq_f c9 H
      refine Wp.r_iload (pc := 19) o_X3_run rfl rfl (Wp.f_al3_gfi (pc := 21) o_X3_run rfl rfl rfl fk_C_27_7 (Wp.r_icmp_ge (pc := 25) o_X3_run rfl (fun c9 => ?_) (fun c9 => ?_)))
      · have H := oq_t c9 H
        exact Wp.r_return (pc := 105) o_X3_run rfl (H)
      · have H := oq_f c9 H
        obtain ⟨hc3, H⟩ := oq_ck H
        refine Wp.f_al3_gfr (pc := 28) o_X3_run rfl rfl rfl fk_C_27_0 (Wp.r_iload (pc := 32) o_X3_run rfl rfl (Wp.r_iaload (pc := 34) o_X3_run rfl ak_C_45 (⟨hc3, ?_⟩)))
        refine Wp.r_sipush (pc := 35) o_X3_run rfl (Wp.r_icmp_ne (pc := 38) o_X3_run rfl (fun c9 => ?_) (fun c9 => ?_))
        · have H := oq_t c9 H
          refine Wp.r_aload_n0 (pc := 41) o_X3_run rfl rfl (Wp.r_aload_n3 (pc := 42) o_X3_run rfl rfl (Wp.r_iload (pc := 43) o_X3_run rfl rfl (Wp.r_cv3 (pc := 45) o_X3_run rfl fk_C_4_0 (⟨rm8_ rfl, ?_⟩))))
          refine w_X3_behindEnd_27 (d := d + 5) _ ?_
          refine oq_bd H (fun r4 s5 H => ?_)
          exact Wp.r_istore (pc := 48) o_X3_run rfl (Wp.r_goto (pc := 50) o_X3_run rfl (Wp.f_iinc_goto (pc := 99) o_X3_run rfl rfl rfl (Wp.weak2 [2, 3, 4, 5, 1, 0] (ih _ _ _ H) rfl)))
        · have H := oq_f c9 H
          refine Wp.f_al0_gfi (pc := 53) o_X3_run rfl rfl rfl fk_C_4_3 (Wp.r_sipush (pc := 57) o_X3_run rfl (Wp.r_icmp_lt (pc := 60) o_X3_run rfl (fun c9 => ?_) (fun c9 => ?_)))
          · have H := oq_t c9 H
            refine Wp.r_aload_n0 (pc := 69) o_X3_run rfl rfl (Wp.r_dup_r (pc := 70) o_X3_run rfl (Wp.r_gfi (pc := 71) o_X3_run rfl fk_C_4_3 (Wp.r_iconst (pc := 74) o_X3_run rfl (Wp.r_iadd (pc := 75) o_X3_run rfl (Wp.r_pfi (pc := 76) o_X3_run rfl fk_C_4_3 (Wp.r_aload_n0 (pc := 79) o_X3_run rfl rfl (Wp.r_aload_n1 (pc := 80) o_X3_run rfl rfl (Wp.r_aload_n2 (pc := 81) o_X3_run rfl rfl (Wp.r_aload_n3 (pc := 82) o_X3_run rfl rfl (Wp.r_iload (pc := 83) o_X3_run rfl rfl (Wp.r_cv5 (pc := 85) o_X3_run rfl fk_C_4_0 (⟨rm8_ rfl, ?_⟩))))))))))))
            refine w_X3_act_25_26_27 (d := d) _ ?_
            refine oq_bd H (fun _ s7 H => ?_)
            refine Wp.r_aload_n0 (pc := 88) o_X3_run rfl rfl (Wp.r_aload_n1 (pc := 89) o_X3_run rfl rfl (Wp.r_aload_n2 (pc := 90) o_X3_run rfl rfl (Wp.r_aload_n3 (pc := 91) o_X3_run rfl rfl (Wp.r_iload (pc := 92) o_X3_run rfl rfl (Wp.r_cv5 (pc := 94) o_X3_run rfl fk_C_4_0 (⟨rm8_ rfl, ?_⟩))))))
            refine w_X3_behindStep_25_26_27 (d := d + 1) _ ?_
            refine oq_bd H (fun r8 s9 H => ?_)
            exact Wp.r_istore (pc := 97) o_X3_run rfl (Wp.f_iinc_goto (pc := 99) o_X3_run rfl rfl rfl (Wp.weak2 [2, 3, 4, 5, 1, 0] (ih _ _ _ H) rfl))
          · have H := oq_f c9 H
            refine Wp.f_al0_iconst (pc := 63) o_X3_run rfl rfl rfl (Wp.r_pfz (pc := 65) o_X3_run rfl fk_C_4_8 (show ((1 : Int32) = 0 ∨ 1 = 1) ∧ Y_X3_run_25_26_27 d Q 68 [(0, .ref 4), (1, .ref 25), (2, .ref 26), (3, .ref 27), (5, .int v5), (6, .int v6)] [] (pI s 4 8 1) from ⟨Or.inr rfl, ?_⟩))
            exact Wp.r_return (pc := 68) o_X3_run rfl (H)
noncomputable def f_X3_run_25_26_27 (a4 : Int32) (s : Sg) : Option (Unit × Sg) :=
  bd (f_X3_begin a4 s) (fun _ s2 =>
  f_X3_run_25_26_27_b12 BIG 0 0 s2
  )
set_option maxRecDepth 100000 in
theorem w_X3_run_25_26_27 {d : Nat} {s : Sg} {Q : Qt} (a4 : Int32) (H : OQ (f_X3_run_25_26_27 a4 s) (fun _ s9 => Q none s9)) : WpM SHC MT (d + 7) 38 [.ref 4, .ref 25, .ref 26, .ref 27, .int a4] s Q := by
  refine WpM.enter me_X3_run rfl rfl ?_
  show Y_X3_run_25_26_27 d Q 0 [(0, .ref 4), (1, .ref 25), (2, .ref 26), (3, .ref 27), (4, .int a4)] [] s
  unfold f_X3_run_25_26_27 at H
  refine Wp.r_aload_n0 (pc := 0) o_X3_run rfl rfl (Wp.r_iload (pc := 1) o_X3_run rfl rfl (Wp.r_cv2 (pc := 3) o_X3_run rfl fk_C_4_0 (⟨rm8_ rfl, ?_⟩)))
  refine w_X3_begin (d := d + 5) _ ?_
  refine oq_bd H (fun _ s2 H => ?_)
  exact Wp.r_iconst (pc := 6) o_X3_run rfl (Wp.r_istore (pc := 7) o_X3_run rfl (Wp.r_iconst (pc := 9) o_X3_run rfl (Wp.r_istore (pc := 10) o_X3_run rfl (Wp.weak2 [2, 3, 4, 5, 1, 0] (w_X3_run_25_26_27_b12 _ _ _ _ H) rfl))))
noncomputable abbrev Y_X11_live (d : Nat) (Q : Qt) : Xt := Wp SHC (WpM SHC MT (d + 7)) (flat2 cq_X11_live) (some .int) Q
noncomputable def f_X11_live (a1 : Int32) (s : Sg) : Option (Int32 × Sg) :=
  bd (f_X11_within a1 0 9999 s) (fun r1 s2 =>
  if r1 = 0 then
    bd (f_X11_refuse 1 s2) (fun r3 s4 =>
    some (r3, s4)
    )
  else
    if (s2.1 27 6) = 0 then
      bd (f_X11_refuse 6 s2) (fun r5 s6 =>
      some (r5, s6)
      )
    else
      bd (f_X3_run_25_26_27 a1 s2) (fun _ s8 =>
      bd (f_X11_answer (s8.1 4 3) s8) (fun r9 s10 =>
      some (r9, s10)
      )
      )
  )
set_option maxRecDepth 100000 in
theorem w_X11_live {d : Nat} {s : Sg} {Q : Qt} (a1 : Int32) (H : OQ (f_X11_live a1 s) (fun r9 s9 => Q (some (.int r9)) s9)) : WpM SHC MT (d + 8) 159 [.ref 0, .int a1] s Q := by
  refine WpM.enter me_X11_live rfl rfl ?_
  show Y_X11_live d Q 0 [(0, .ref 0), (1, .int a1)] [] s
  unfold f_X11_live at H
  refine Wp.r_iload_n1 (pc := 0) o_X11_live rfl rfl (Wp.r_iconst (pc := 1) o_X11_live rfl (Wp.r_sipush (pc := 2) o_X11_live rfl (Wp.r_cs3 (pc := 5) o_X11_live rfl (⟨rm8_ rfl, ?_⟩))))
  refine w_X11_within (d := d + 6) _ _ _ ?_
  refine oq_bd H (fun r1 s2 H => ?_)
  refine Wp.r_if_ne (pc := 8) o_X11_live rfl (fun c9 => ?_) (fun c9 => ?_)
  · have H := oq_t c9 H
    refine Wp.f_al0_iconst (pc := 11) o_X11_live rfl rfl rfl (Wp.r_cv2 (pc := 13) o_X11_live rfl fk_C_0_0 (⟨rm8_ rfl, ?_⟩))
    refine w_X11_refuse (d := d + 6) _ ?_
    refine oq_bd H (fun r3 s4 H => ?_)
    exact Wp.r_ireturn (pc := 16) o_X11_live rfl (⟨rfl, H⟩)
  · have H := oq_f c9 H
    refine Wp.f_al0_gfr (pc := 17) o_X11_live rfl rfl rfl fk_C_0_2 (Wp.r_gfr (pc := 21) o_X11_live rfl fk_C_24_2 (Wp.r_gfi (pc := 24) o_X11_live rfl fk_C_27_6 (Wp.r_if_ne (pc := 27) o_X11_live rfl (fun c9 => ?_) (fun c9 => ?_))))
    · have H := oq_t c9 H
      refine Wp.r_aload_n0 (pc := 30) o_X11_live rfl rfl (Wp.r_bipush (pc := 31) o_X11_live rfl (Wp.r_cv2 (pc := 33) o_X11_live rfl fk_C_0_0 (⟨rm8_ rfl, ?_⟩)))
      refine w_X11_refuse (d := d + 6) _ ?_
      refine oq_bd H (fun r5 s6 H => ?_)
      exact Wp.r_ireturn (pc := 36) o_X11_live rfl (⟨rfl, H⟩)
    · have H := oq_f c9 H
      refine Wp.f_al0_gfr (pc := 37) o_X11_live rfl rfl rfl fk_C_0_7 (Wp.f_al0_gfr (pc := 41) o_X11_live rfl rfl rfl fk_C_0_5 (Wp.f_al0_gfr (pc := 45) o_X11_live rfl rfl rfl fk_C_0_6 (Wp.f_al0_gfr (pc := 49) o_X11_live rfl rfl rfl fk_C_0_2 (Wp.r_gfr (pc := 53) o_X11_live rfl fk_C_24_2 (Wp.r_iload_n1 (pc := 56) o_X11_live rfl rfl (Wp.r_cv5 (pc := 57) o_X11_live rfl fk_C_4_0 (⟨rm8_ rfl, ?_⟩)))))))
      refine w_X3_run_25_26_27 (d := d) _ ?_
      refine oq_bd H (fun _ s8 H => ?_)
      refine Wp.r_aload_n0 (pc := 60) o_X11_live rfl rfl (Wp.f_al0_gfr (pc := 61) o_X11_live rfl rfl rfl fk_C_0_7 (Wp.r_gfi (pc := 65) o_X11_live rfl fk_C_4_3 (Wp.r_cv2 (pc := 68) o_X11_live rfl fk_C_0_0 (⟨rm8_ rfl, ?_⟩))))
      refine w_X11_answer (d := d + 6) _ ?_
      refine oq_bd H (fun r9 s10 H => ?_)
      exact Wp.r_ireturn (pc := 71) o_X11_live rfl (⟨rfl, H⟩)
noncomputable abbrev Y_X3_tally (d : Nat) (Q : Qt) : Xt := Wp SHC (WpM SHC MT (d + 0)) (flat2 cq_X3_tally) (some .int) Q
noncomputable def f_X3_tally (a1 : Int32) (s : Sg) : Option (Int32 × Sg) :=
  if a1 = 0 then
    some (s.1 4 4, s)
  else
  if a1 = 1 then
    some (s.1 4 5, s)
  else
  if a1 = 2 then
    some (s.1 4 6, s)
  else
  if a1 = 3 then
    some (s.1 4 7, s)
  else
    if (s.1 4 8) = 0 then
      some (0, s)
    else
      some (1, s)
set_option maxRecDepth 100000 in
theorem w_X3_tally {d : Nat} {s : Sg} {Q : Qt} (a1 : Int32) (H : OQ (f_X3_tally a1 s) (fun r9 s9 => Q (some (.int r9)) s9)) : WpM SHC MT (d + 1) 40 [.ref 4, .int a1] s Q := by
  refine WpM.enter me_X3_tally rfl rfl ?_
  show Y_X3_tally d Q 0 [(0, .ref 4), (1, .int a1)] [] s
  unfold f_X3_tally at H
  refine Wp.r_iload_n1 (pc := 0) o_X3_tally rfl rfl (show Y_X3_tally d Q 1 [(0, .ref 4), (1, .int a1)] [.int a1] s from ?_)
  refine Wp.tsw2 (l := [(0, 32), (1, 37), (2, 42), (3, 47)]) o_X3_tally rfl (by decide +kernel) ?_
  show sw [(0, 32), (1, 37), (2, 42), (3, 47)] 52 a1 (fun t9 => Y_X3_tally d Q t9 [(0, .ref 4), (1, .int a1)] [] s)
  refine sw_c (fun e9 => ?_) (fun c9_0 => (sw_c (fun e9 => ?_) (fun c9_1 => (sw_c (fun e9 => ?_) (fun c9_2 => (sw_c (fun e9 => ?_) (fun c9_3 => ?_)))))))
  · have H := oq_t e9 H
    exact Wp.f_al0_gfi (pc := 32) o_X3_tally rfl rfl rfl fk_C_4_4 (Wp.r_ireturn (pc := 36) o_X3_tally rfl (⟨rfl, H⟩))
  · have H := oq_f c9_0 H; have H := oq_t e9 H
    exact Wp.f_al0_gfi (pc := 37) o_X3_tally rfl rfl rfl fk_C_4_5 (Wp.r_ireturn (pc := 41) o_X3_tally rfl (⟨rfl, H⟩))
  · have H := oq_f c9_0 H; have H := oq_f c9_1 H; have H := oq_t e9 H
    exact Wp.f_al0_gfi (pc := 42) o_X3_tally rfl rfl rfl fk_C_4_6 (Wp.r_ireturn (pc := 46) o_X3_tally rfl (⟨rfl, H⟩))
  · have H := oq_f c9_0 H; have H := oq_f c9_1 H; have H := oq_f c9_2 H; have H := oq_t e9 H
    exact Wp.f_al0_gfi (pc := 47) o_X3_tally rfl rfl rfl fk_C_4_7 (Wp.r_ireturn (pc := 51) o_X3_tally rfl (⟨rfl, H⟩))
  · have H := oq_f c9_0 H; have H := oq_f c9_1 H; have H := oq_f c9_2 H; have H := oq_f c9_3 H
    refine Wp.f_al0_gfi (pc := 52) o_X3_tally rfl rfl rfl fk_C_4_8 (Wp.r_if_eq (pc := 56) o_X3_tally rfl (fun c9 => ?_) (fun c9 => ?_))
    · have H := oq_t c9 H
      exact Wp.r_iconst (pc := 63) o_X3_tally rfl (Wp.r_ireturn (pc := 64) o_X3_tally rfl (⟨rfl, H⟩))
    · have H := oq_f c9 H
      exact Wp.r_iconst (pc := 59) o_X3_tally rfl (Wp.r_goto (pc := 60) o_X3_tally rfl (Wp.r_ireturn (pc := 64) o_X3_tally rfl (⟨rfl, H⟩)))
noncomputable abbrev Y_X11_lived (d : Nat) (Q : Qt) : Xt := Wp SHC (WpM SHC MT (d + 1)) (flat2 cq_X11_lived) (some .int) Q
noncomputable def f_X11_lived (a1 : Int32) (s : Sg) : Option (Int32 × Sg) :=
  bd (f_X11_within a1 0 4 s) (fun r1 s2 =>
  if r1 = 0 then
    bd (f_X11_refuse 1 s2) (fun r3 s4 =>
    some (r3, s4)
    )
  else
    if (s2.1 4 1) = 0 then
      bd (f_X11_refuse 6 s2) (fun r5 s6 =>
      some (r5, s6)
      )
    else
      bd (f_X3_tally a1 s2) (fun r7 s8 =>
      bd (f_X11_answer r7 s8) (fun r9 s10 =>
      some (r9, s10)
      )
      )
  )
set_option maxRecDepth 100000 in
theorem w_X11_lived {d : Nat} {s : Sg} {Q : Qt} (a1 : Int32) (H : OQ (f_X11_lived a1 s) (fun r9 s9 => Q (some (.int r9)) s9)) : WpM SHC MT (d + 2) 160 [.ref 0, .int a1] s Q := by
  refine WpM.enter me_X11_lived rfl rfl ?_
  show Y_X11_lived d Q 0 [(0, .ref 0), (1, .int a1)] [] s
  unfold f_X11_lived at H
  refine Wp.r_iload_n1 (pc := 0) o_X11_lived rfl rfl (Wp.r_iconst (pc := 1) o_X11_lived rfl (Wp.r_iconst (pc := 2) o_X11_lived rfl (Wp.r_cs3 (pc := 3) o_X11_lived rfl (⟨rm8_ rfl, ?_⟩))))
  refine w_X11_within (d := d) _ _ _ ?_
  refine oq_bd H (fun r1 s2 H => ?_)
  refine Wp.r_if_ne (pc := 6) o_X11_lived rfl (fun c9 => ?_) (fun c9 => ?_)
  · have H := oq_t c9 H
    refine Wp.f_al0_iconst (pc := 9) o_X11_lived rfl rfl rfl (Wp.r_cv2 (pc := 11) o_X11_lived rfl fk_C_0_0 (⟨rm8_ rfl, ?_⟩))
    refine w_X11_refuse (d := d) _ ?_
    refine oq_bd H (fun r3 s4 H => ?_)
    exact Wp.r_ireturn (pc := 14) o_X11_lived rfl (⟨rfl, H⟩)
  · have H := oq_f c9 H
    refine Wp.f_al0_gfr (pc := 15) o_X11_lived rfl rfl rfl fk_C_0_7 (Wp.r_gfi (pc := 19) o_X11_lived rfl fk_C_4_1 (Wp.r_if_ne (pc := 22) o_X11_lived rfl (fun c9 => ?_) (fun c9 => ?_)))
    · have H := oq_t c9 H
      refine Wp.r_aload_n0 (pc := 25) o_X11_lived rfl rfl (Wp.r_bipush (pc := 26) o_X11_lived rfl (Wp.r_cv2 (pc := 28) o_X11_lived rfl fk_C_0_0 (⟨rm8_ rfl, ?_⟩)))
      refine w_X11_refuse (d := d) _ ?_
      refine oq_bd H (fun r5 s6 H => ?_)
      exact Wp.r_ireturn (pc := 31) o_X11_lived rfl (⟨rfl, H⟩)
    · have H := oq_f c9 H
      refine Wp.r_aload_n0 (pc := 32) o_X11_lived rfl rfl (Wp.f_al0_gfr (pc := 33) o_X11_lived rfl rfl rfl fk_C_0_7 (Wp.r_iload_n1 (pc := 37) o_X11_lived rfl rfl (Wp.r_cv2 (pc := 38) o_X11_lived rfl fk_C_4_0 (⟨rm8_ rfl, ?_⟩))))
      refine w_X3_tally (d := d) _ ?_
      refine oq_bd H (fun r7 s8 H => ?_)
      refine Wp.r_cv2 (pc := 41) o_X11_lived rfl fk_C_0_0 (⟨rm8_ rfl, ?_⟩)
      refine w_X11_answer (d := d) _ ?_
      refine oq_bd H (fun r9 s10 H => ?_)
      exact Wp.r_ireturn (pc := 44) o_X11_lived rfl (⟨rfl, H⟩)
noncomputable abbrev Y_X3_begin_5 (d : Nat) (Q : Qt) : Xt := Wp SHC (WpM SHC MT (d + 0)) (flat2 cq_X3_begin) (none) Q
noncomputable def f_X3_begin_5 (a1 : Int32) (s : Sg) : Option (Unit × Sg) :=
  nmx (pI (pI (pI s 5 1 1) 5 2 a1) 5 3 0) (fun s1 =>
  nmx (pI (pI (pI s1 5 4 0) 5 5 0) 5 6 0) (fun s2 =>
  some ((), pI (pI s2 5 7 0) 5 8 0)
  )
  )
set_option maxRecDepth 100000 in
theorem w_X3_begin_5 {d : Nat} {s : Sg} {Q : Qt} (a1 : Int32) (H : OQ (f_X3_begin_5 a1 s) (fun _ s9 => Q none s9)) : WpM SHC MT (d + 1) 39 [.ref 5, .int a1] s Q := by
  refine WpM.enter me_X3_begin rfl rfl ?_
  show Y_X3_begin_5 d Q 0 [(0, .ref 5), (1, .int a1)] [] s
  unfold f_X3_begin_5 at H
  refine Wp.f_al0_iconst (pc := 0) o_X3_begin rfl rfl rfl (Wp.r_pfz (pc := 2) o_X3_begin rfl fk_C_5_1 (show ((1 : Int32) = 0 ∨ 1 = 1) ∧ Y_X3_begin_5 d Q 5 [(0, .ref 5), (1, .int a1)] [] (pI s 5 1 1) from ⟨Or.inr rfl, ?_⟩))
  refine Wp.r_aload_n0 (pc := 5) o_X3_begin rfl rfl (Wp.r_iload_n1 (pc := 6) o_X3_begin rfl rfl (Wp.r_pfi (pc := 7) o_X3_begin rfl fk_C_5_2 (Wp.f_al0_iconst (pc := 10) o_X3_begin rfl rfl rfl (Wp.r_pfi (pc := 12) o_X3_begin rfl fk_C_5_3 (show Y_X3_begin_5 d Q 15 [(0, .ref 5), (1, .int a1)] [] (pI (pI (pI s 5 1 1) 5 2 a1) 5 3 0) from ?_)))))
  revert H
  generalize pI (pI (pI s 5 1 1) 5 2 a1) 5 3 0 = s1
  intro H
  have H := nmx_e H
  refine Wp.f_al0_iconst (pc := 15) o_X3_begin rfl rfl rfl (Wp.r_pfi (pc := 17) o_X3_begin rfl fk_C_5_4 (Wp.f_al0_iconst (pc := 20) o_X3_begin rfl rfl rfl (Wp.r_pfi (pc := 22) o_X3_begin rfl fk_C_5_5 (Wp.f_al0_iconst (pc := 25) o_X3_begin rfl rfl rfl (Wp.r_pfi (pc := 27) o_X3_begin rfl fk_C_5_6 (show Y_X3_begin_5 d Q 30 [(0, .ref 5), (1, .int a1)] [] (pI (pI (pI s1 5 4 0) 5 5 0) 5 6 0) from ?_))))))
  revert H
  generalize pI (pI (pI s1 5 4 0) 5 5 0) 5 6 0 = s2
  intro H
  have H := nmx_e H
  refine Wp.f_al0_iconst (pc := 30) o_X3_begin rfl rfl rfl (Wp.r_pfi (pc := 32) o_X3_begin rfl fk_C_5_7 (Wp.f_al0_iconst (pc := 35) o_X3_begin rfl rfl rfl (Wp.r_pfz (pc := 37) o_X3_begin rfl fk_C_5_8 (show ((0 : Int32) = 0 ∨ 0 = 1) ∧ Y_X3_begin_5 d Q 40 [(0, .ref 5), (1, .int a1)] [] (pI (pI s2 5 7 0) 5 8 0) from ⟨Or.inl rfl, ?_⟩))))
  exact Wp.r_return (pc := 40) o_X3_begin rfl (H)
noncomputable abbrev Y_X3_behindEnd_27_5 (d : Nat) (Q : Qt) : Xt := Wp SHC (WpM SHC MT (d + 0)) (flat2 cq_X3_behindEnd) (some .int) Q
noncomputable def f_X3_behindEnd_27_5 (a2 : Int32) (s : Sg) : Option (Int32 × Sg) :=
  ck (inr a2 60) (
  ck (inr (s.1 50 a2.toNatClampNeg) 60) (
  if (s.1 45 ((s.1 50 a2.toNatClampNeg).toNatClampNeg)) = 128 then
    nmx (pI s 19 ((s.1 50 a2.toNatClampNeg).toNatClampNeg) ((s.1 19 ((s.1 50 a2.toNatClampNeg).toNatClampNeg)) - 1)) (fun s3 =>
    if (s3.1 19 ((s.1 50 a2.toNatClampNeg).toNatClampNeg)) ≤ 0 then
      some (a2 + 1, s3)
    else
      some ((s.1 50 a2.toNatClampNeg) + 1, s3)
    )
  else
    some (a2 + 1, s)
  )
  )
set_option maxRecDepth 100000 in
theorem w_X3_behindEnd_27_5 {d : Nat} {s : Sg} {Q : Qt} (a2 : Int32) (H : OQ (f_X3_behindEnd_27_5 a2 s) (fun r9 s9 => Q (some (.int r9)) s9)) : WpM SHC MT (d + 1) 41 [.ref 5, .ref 27, .int a2] s Q := by
  refine WpM.enter me_X3_behindEnd rfl rfl ?_
  show Y_X3_behindEnd_27_5 d Q 0 [(0, .ref 5), (1, .ref 27), (2, .int a2)] [] s
  unfold f_X3_behindEnd_27_5 at H
  obtain ⟨hc1, H⟩ := oq_ck H
  refine Wp.f_al1_gfr (pc := 0) o_X3_behindEnd rfl rfl rfl fk_C_27_5 (Wp.r_iload_n2 (pc := 4) o_X3_behindEnd rfl rfl (Wp.r_iaload (pc := 5) o_X3_behindEnd rfl ak_C_50 (⟨hc1, ?_⟩)))
  obtain ⟨hc2, H⟩ := oq_ck H
  refine Wp.r_istore_n3 (pc := 6) o_X3_behindEnd rfl (Wp.f_al1_gfr (pc := 7) o_X3_behindEnd rfl rfl rfl fk_C_27_0 (Wp.r_iload_n3 (pc := 11) o_X3_behindEnd rfl rfl (Wp.r_iaload (pc := 12) o_X3_behindEnd rfl ak_C_45 (⟨hc2, ?_⟩))))
  refine Wp.r_sipush (pc := 13) o_X3_behindEnd rfl (Wp.r_icmp_ne (pc := 16) o_X3_behindEnd rfl (fun c9 => ?_) (fun c9 => ?_))
  · have H := oq_t c9 H
    refine Wp.f_al0_gfr (pc := 19) o_X3_behindEnd rfl rfl rfl fk_C_5_0 (Wp.r_iload_n3 (pc := 23) o_X3_behindEnd rfl rfl (Wp.r_dup2 (pc := 24) o_X3_behindEnd rfl (Wp.r_iaload (pc := 25) o_X3_behindEnd rfl ak_C_19 (⟨hc2, ?_⟩))))
    refine Wp.r_iconst (pc := 26) o_X3_behindEnd rfl (Wp.r_isub (pc := 27) o_X3_behindEnd rfl (Wp.r_iastore (pc := 28) o_X3_behindEnd rfl ak_C_19 (⟨hc2, ?_⟩)))
    revert H
    generalize pI s 19 ((s.1 50 a2.toNatClampNeg).toNatClampNeg) ((s.1 19 ((s.1 50 a2.toNatClampNeg).toNatClampNeg)) - 1) = s3
    intro H
    have H := nmx_e H
    refine Wp.f_al0_gfr (pc := 29) o_X3_behindEnd rfl rfl rfl fk_C_5_0 (Wp.r_iload_n3 (pc := 33) o_X3_behindEnd rfl rfl (Wp.r_iaload (pc := 34) o_X3_behindEnd rfl ak_C_19 (⟨hc2, ?_⟩)))
    refine Wp.r_if_le (pc := 35) o_X3_behindEnd rfl (fun c9 => ?_) (fun c9 => ?_)
    · have H := oq_t c9 H
      exact Wp.r_iload_n2 (pc := 42) o_X3_behindEnd rfl rfl (Wp.r_iconst (pc := 43) o_X3_behindEnd rfl (Wp.r_iadd (pc := 44) o_X3_behindEnd rfl (Wp.r_ireturn (pc := 45) o_X3_behindEnd rfl (⟨rfl, H⟩))))
    · have H := oq_f c9 H
      exact Wp.r_iload_n3 (pc := 38) o_X3_behindEnd rfl rfl (Wp.r_iconst (pc := 39) o_X3_behindEnd rfl (Wp.r_iadd (pc := 40) o_X3_behindEnd rfl (Wp.r_ireturn (pc := 41) o_X3_behindEnd rfl (⟨rfl, H⟩))))
  · have H := oq_f c9 H
    exact Wp.r_iload_n2 (pc := 42) o_X3_behindEnd rfl rfl (Wp.r_iconst (pc := 43) o_X3_behindEnd rfl (Wp.r_iadd (pc := 44) o_X3_behindEnd rfl (Wp.r_ireturn (pc := 45) o_X3_behindEnd rfl (⟨rfl, H⟩))))
noncomputable abbrev Y_X2_letRain_25_53 (d : Nat) (Q : Qt) : Xt := Wp SHC (WpM SHC MT (d + 0)) (flat2 cq_X2_letRain) (some .int) Q
noncomputable def f_X2_letRain_25_53_b4 : Nat → Int32 → Int32 → Sg → Option (Int32 × Sg)
  | 0, _, _, _ => none
  | n + 1, v2, v3, s =>
    if (s.1 25 13) ≤ v3 then
      some (v2, pI (pI s 53 10 ((s.1 53 10) + v2)) 53 7 1)
    else
      ck (inr v3 8) (
      nmx (if (s.1 67 v3.toNatClampNeg) < (s.1 25 18) then (s.1 67 v3.toNatClampNeg) else (s.1 25 18) : Int32) (fun x2 =>
      nmx (v2 + ((s.1 68 v3.toNatClampNeg) + x2) : Int32) (fun x3 =>
      nmx (pI (pI s 68 v3.toNatClampNeg 0) 67 v3.toNatClampNeg (((pI s 68 v3.toNatClampNeg 0).1 67 v3.toNatClampNeg) - x2)) (fun s4 =>
      (f_X2_letRain_25_53_b4 n) x3 (v3 + 1) s4
      )
      )
      )
      )
set_option maxRecDepth 100000 in
theorem w_X2_letRain_25_53_b4 {d : Nat} {Q : Qt} (n : Nat) : ∀ (v2 : Int32) (v3 : Int32) (s : Sg), OQ (f_X2_letRain_25_53_b4 n v2 v3 s) (fun r9 s9 => Q (some (.int r9)) s9) → Y_X2_letRain_25_53 d Q 4 [(0, .ref 53), (1, .ref 25), (2, .int v2), (3, .int v3)] [] s := by
  induction n with
  | zero => intro v2 v3 s H; exact H.elim
  | succ n ih =>
    intro v2 v3 s H
    unfold f_X2_letRain_25_53_b4 at H
    refine Wp.r_iload_n3 (pc := 4) o_X2_letRain rfl rfl (Wp.f_al1_gfi (pc := 5) o_X2_letRain rfl rfl rfl fk_C_25_13 (Wp.r_icmp_ge (pc := 9) o_X2_letRain rfl (fun c9 => ?_) (fun c9 => ?_)))
    · have H := oq_t c9 H
      refine Wp.r_aload_n0 (pc := 63) o_X2_letRain rfl rfl (Wp.r_dup_r (pc := 64) o_X2_letRain rfl (Wp.r_gfi (pc := 65) o_X2_letRain rfl fk_C_53_10 (Wp.r_iload_n2 (pc := 68) o_X2_letRain rfl rfl (Wp.r_iadd (pc := 69) o_X2_letRain rfl (Wp.r_pfi (pc := 70) o_X2_letRain rfl fk_C_53_10 (Wp.f_al0_iconst (pc := 73) o_X2_letRain rfl rfl rfl (Wp.r_pfz (pc := 75) o_X2_letRain rfl fk_C_53_7 (show ((1 : Int32) = 0 ∨ 1 = 1) ∧ Y_X2_letRain_25_53 d Q 78 [(0, .ref 53), (1, .ref 25), (2, .int v2), (3, .int v3)] [] (pI (pI s 53 10 ((s.1 53 10) + v2)) 53 7 1) from ⟨Or.inr rfl, ?_⟩))))))))
      exact Wp.r_iload_n2 (pc := 78) o_X2_letRain rfl rfl (Wp.r_ireturn (pc := 79) o_X2_letRain rfl (⟨rfl, H⟩))
    · have H := oq_f c9 H
      obtain ⟨hc1, H⟩ := oq_ck H
      refine Wp.f_al1_gfi (pc := 12) o_X2_letRain rfl rfl rfl fk_C_25_18 (Wp.f_al0_gfr (pc := 16) o_X2_letRain rfl rfl rfl fk_C_53_0 (Wp.r_iload_n3 (pc := 20) o_X2_letRain rfl rfl (Wp.r_iaload (pc := 21) o_X2_letRain rfl ak_C_67 (⟨hc1, ?_⟩))))
      refine Wp.r_min (pc := 22) o_X2_letRain rfl (⟨rm8_ rfl, ?_⟩)
      refine Wp.r_istore (pc := 25) o_X2_letRain rfl (show Y_X2_letRain_25_53 d Q 27 [(4, .int (if (s.1 67 v3.toNatClampNeg) < (s.1 25 18) then (s.1 67 v3.toNatClampNeg) else (s.1 25 18))), (0, .ref 53), (1, .ref 25), (2, .int v2), (3, .int v3)] [] s from ?_)
      revert H
      generalize (if (s.1 67 v3.toNatClampNeg) < (s.1 25 18) then (s.1 67 v3.toNatClampNeg) else (s.1 25 18) : Int32) = x2
      intro H
      have H := nmx_e H
      refine Wp.r_iload_n2 (pc := 27) o_X2_letRain rfl rfl (Wp.f_al0_gfr (pc := 28) o_X2_letRain rfl rfl rfl fk_C_53_1 (Wp.r_iload_n3 (pc := 32) o_X2_letRain rfl rfl (Wp.r_iaload (pc := 33) o_X2_letRain rfl ak_C_68 (⟨hc1, ?_⟩))))
      refine Wp.r_iload (pc := 34) o_X2_letRain rfl rfl (Wp.r_iadd (pc := 36) o_X2_letRain rfl (Wp.r_iadd (pc := 37) o_X2_letRain rfl (Wp.r_istore_n2 (pc := 38) o_X2_letRain rfl (show Y_X2_letRain_25_53 d Q 39 [(2, .int (v2 + ((s.1 68 v3.toNatClampNeg) + x2))), (4, .int x2), (0, .ref 53), (1, .ref 25), (3, .int v3)] [] s from ?_))))
      revert H
      generalize (v2 + ((s.1 68 v3.toNatClampNeg) + x2) : Int32) = x3
      intro H
      have H := nmx_e H
      refine Wp.f_al0_gfr (pc := 39) o_X2_letRain rfl rfl rfl fk_C_53_1 (Wp.r_iload_n3 (pc := 43) o_X2_letRain rfl rfl (Wp.r_iconst (pc := 44) o_X2_letRain rfl (Wp.r_iastore (pc := 45) o_X2_letRain rfl ak_C_68 (⟨hc1, ?_⟩))))
      refine Wp.f_al0_gfr (pc := 46) o_X2_letRain rfl rfl rfl fk_C_53_0 (Wp.r_iload_n3 (pc := 50) o_X2_letRain rfl rfl (Wp.r_dup2 (pc := 51) o_X2_letRain rfl (Wp.r_iaload (pc := 52) o_X2_letRain rfl ak_C_67 (⟨hc1, ?_⟩))))
      refine Wp.r_iload (pc := 53) o_X2_letRain rfl rfl (Wp.r_isub (pc := 55) o_X2_letRain rfl (Wp.r_iastore (pc := 56) o_X2_letRain rfl ak_C_67 (⟨hc1, ?_⟩)))
      revert H
      generalize pI (pI s 68 v3.toNatClampNeg 0) 67 v3.toNatClampNeg (((pI s 68 v3.toNatClampNeg 0).1 67 v3.toNatClampNeg) - x2) = s4
      intro H
      have H := nmx_e H
      exact Wp.f_iinc_goto (pc := 57) o_X2_letRain rfl rfl rfl (Wp.weak2 [3, 4, 1, 0] (ih _ _ _ H) rfl)
noncomputable def f_X2_letRain_25_53  (s : Sg) : Option (Int32 × Sg) :=
  f_X2_letRain_25_53_b4 BIG 0 0 s
set_option maxRecDepth 100000 in
theorem w_X2_letRain_25_53 {d : Nat} {s : Sg} {Q : Qt}  (H : OQ (f_X2_letRain_25_53  s) (fun r9 s9 => Q (some (.int r9)) s9)) : WpM SHC MT (d + 1) 32 [.ref 53, .ref 25] s Q := by
  refine WpM.enter me_X2_letRain rfl rfl ?_
  show Y_X2_letRain_25_53 d Q 0 [(0, .ref 53), (1, .ref 25)] [] s
  unfold f_X2_letRain_25_53 at H
  exact Wp.r_iconst (pc := 0) o_X2_letRain rfl (Wp.r_istore_n2 (pc := 1) o_X2_letRain rfl (Wp.r_iconst (pc := 2) o_X2_letRain rfl (Wp.r_istore_n3 (pc := 3) o_X2_letRain rfl (Wp.weak2 [2, 3, 1, 0] (w_X2_letRain_25_53_b4 _ _ _ _ H) rfl))))
noncomputable abbrev Y_X3_maybeRain_25_53_5 (d : Nat) (Q : Qt) : Xt := Wp SHC (WpM SHC MT (d + 1)) (flat2 cq_X3_maybeRain) (none) Q
noncomputable def f_X3_maybeRain_25_53_5 (a3 : Int32) (s : Sg) : Option (Unit × Sg) :=
  nmx (pI s 5 2 ((((s.1 5 2) * 2791) + 11003) - (((s.1 5 2) * 2791) + 11003) / 65536 * 65536)) (fun s1 =>
  if a3 ≤ (((s1.1 5 2) / 8) - ((s1.1 5 2) / 8) / 16 * 16) then
    some ((), s1)
  else
    bd (f_X2_letRain_25_53 s1) (fun r2 s3 =>
    some ((), pI s3 5 5 ((s3.1 5 5) + 1))
    )
  )
set_option maxRecDepth 100000 in
theorem w_X3_maybeRain_25_53_5 {d : Nat} {s : Sg} {Q : Qt} (a3 : Int32) (H : OQ (f_X3_maybeRain_25_53_5 a3 s) (fun _ s9 => Q none s9)) : WpM SHC MT (d + 2) 47 [.ref 5, .ref 25, .ref 53, .int a3] s Q := by
  refine WpM.enter me_X3_maybeRain rfl rfl ?_
  show Y_X3_maybeRain_25_53_5 d Q 0 [(0, .ref 5), (1, .ref 25), (2, .ref 53), (3, .int a3)] [] s
  unfold f_X3_maybeRain_25_53_5 at H
  refine Wp.r_aload_n0 (pc := 0) o_X3_maybeRain rfl rfl (Wp.f_al0_gfi (pc := 1) o_X3_maybeRain rfl rfl rfl fk_C_5_2 (Wp.r_sipush (pc := 5) o_X3_maybeRain rfl (Wp.r_imul (pc := 8) o_X3_maybeRain rfl (Wp.r_sipush (pc := 9) o_X3_maybeRain rfl (Wp.r_iadd (pc := 12) o_X3_maybeRain rfl (Wp.r_ldc (pc := 13) o_X3_maybeRain rfl (Wp.r_irem (pc := 15) o_X3_maybeRain rfl (show (¬ (65536 : Int32) = 0) ∧ Y_X3_maybeRain_25_53_5 d Q 16 [(0, .ref 5), (1, .ref 25), (2, .ref 53), (3, .int a3)] [.int ((((s.1 5 2) * 2791) + 11003) - (((s.1 5 2) * 2791) + 11003) / 65536 * 65536), .ref 5] s from ⟨by decide, ?_⟩))))))))
  refine Wp.r_pfi (pc := 16) o_X3_maybeRain rfl fk_C_5_2 (show Y_X3_maybeRain_25_53_5 d Q 19 [(0, .ref 5), (1, .ref 25), (2, .ref 53), (3, .int a3)] [] (pI s 5 2 ((((s.1 5 2) * 2791) + 11003) - (((s.1 5 2) * 2791) + 11003) / 65536 * 65536)) from ?_)
  revert H
  generalize pI s 5 2 ((((s.1 5 2) * 2791) + 11003) - (((s.1 5 2) * 2791) + 11003) / 65536 * 65536) = s1
  intro H
  have H := nmx_e H
  refine Wp.f_al0_gfi (pc := 19) o_X3_maybeRain rfl rfl rfl fk_C_5_2 (Wp.r_bipush (pc := 23) o_X3_maybeRain rfl (Wp.r_idiv (pc := 25) o_X3_maybeRain rfl (show (¬ (8 : Int32) = 0) ∧ Y_X3_maybeRain_25_53_5 d Q 26 [(0, .ref 5), (1, .ref 25), (2, .ref 53), (3, .int a3)] [.int ((s1.1 5 2) / 8)] s1 from ⟨by decide, ?_⟩)))
  refine Wp.r_bipush (pc := 26) o_X3_maybeRain rfl (Wp.r_irem (pc := 28) o_X3_maybeRain rfl (show (¬ (16 : Int32) = 0) ∧ Y_X3_maybeRain_25_53_5 d Q 29 [(0, .ref 5), (1, .ref 25), (2, .ref 53), (3, .int a3)] [.int (((s1.1 5 2) / 8) - ((s1.1 5 2) / 8) / 16 * 16)] s1 from ⟨by decide, ?_⟩))
  refine Wp.r_iload_n3 (pc := 29) o_X3_maybeRain rfl rfl (Wp.r_icmp_ge (pc := 30) o_X3_maybeRain rfl (fun c9 => ?_) (fun c9 => ?_))
  · have H := oq_t c9 H
    exact Wp.r_return (pc := 49) o_X3_maybeRain rfl (H)
  · have H := oq_f c9 H
    refine Wp.r_aload_n2 (pc := 33) o_X3_maybeRain rfl rfl (Wp.r_aload_n1 (pc := 34) o_X3_maybeRain rfl rfl (Wp.r_cv2 (pc := 35) o_X3_maybeRain rfl fk_C_53_0 (⟨rm8_ rfl, ?_⟩)))
    refine w_X2_letRain_25_53 (d := d)  ?_
    refine oq_bd H (fun r2 s3 H => ?_)
    exact Wp.r_pop_i (pc := 38) o_X3_maybeRain rfl (Wp.r_aload_n0 (pc := 39) o_X3_maybeRain rfl rfl (Wp.r_dup_r (pc := 40) o_X3_maybeRain rfl (Wp.r_gfi (pc := 41) o_X3_maybeRain rfl fk_C_5_5 (Wp.r_iconst (pc := 44) o_X3_maybeRain rfl (Wp.r_iadd (pc := 45) o_X3_maybeRain rfl (Wp.r_pfi (pc := 46) o_X3_maybeRain rfl fk_C_5_5 (Wp.r_return (pc := 49) o_X3_maybeRain rfl (H))))))))
noncomputable abbrev Y_X2_hasRoom_53 (d : Nat) (Q : Qt) : Xt := Wp SHC (WpM SHC MT (d + 1)) (flat2 cq_X2_hasRoom) (some .boolean) Q
noncomputable def f_X2_hasRoom_53 (a1 : Int32) (a2 : Int32) (s : Sg) : Option (Int32 × Sg) :=
  bd (f_X2_lying_53 a1 s) (fun r1 s2 =>
  if 9999 < (r1 + a2) then
    some (0, s2)
  else
    some (1, s2)
  )
set_option maxRecDepth 100000 in
theorem w_X2_hasRoom_53 {d : Nat} {s : Sg} {Q : Qt} (a1 : Int32) (a2 : Int32) (H : OQ (f_X2_hasRoom_53 a1 a2 s) (fun r9 s9 => Q (some (.int r9)) s9)) : WpM SHC MT (d + 2) 25 [.ref 53, .int a1, .int a2] s Q := by
  refine WpM.enter me_X2_hasRoom rfl rfl ?_
  show Y_X2_hasRoom_53 d Q 0 [(0, .ref 53), (1, .int a1), (2, .int a2)] [] s
  unfold f_X2_hasRoom_53 at H
  refine Wp.r_aload_n0 (pc := 0) o_X2_hasRoom rfl rfl (Wp.r_iload_n1 (pc := 1) o_X2_hasRoom rfl rfl (Wp.r_cv2 (pc := 2) o_X2_hasRoom rfl fk_C_53_0 (⟨rm8_ rfl, ?_⟩)))
  refine w_X2_lying_53 (d := d) _ ?_
  refine oq_bd H (fun r1 s2 H => ?_)
  refine Wp.r_iload_n2 (pc := 5) o_X2_hasRoom rfl rfl (Wp.r_iadd (pc := 6) o_X2_hasRoom rfl (Wp.r_sipush (pc := 7) o_X2_hasRoom rfl (Wp.r_icmp_gt (pc := 10) o_X2_hasRoom rfl (fun c9 => ?_) (fun c9 => ?_))))
  · have H := oq_t c9 H
    exact Wp.r_iconst (pc := 17) o_X2_hasRoom rfl (Wp.r_ireturn (pc := 18) o_X2_hasRoom rfl (⟨rfl, H⟩))
  · have H := oq_f c9 H
    exact Wp.r_iconst (pc := 13) o_X2_hasRoom rfl (Wp.r_goto (pc := 14) o_X2_hasRoom rfl (Wp.r_ireturn (pc := 18) o_X2_hasRoom rfl (⟨rfl, H⟩)))
noncomputable abbrev Y_X2_addSalt_53 (d : Nat) (Q : Qt) : Xt := Wp SHC (WpM SHC MT (d + 0)) (flat2 cq_X2_addSalt) (none) Q
noncomputable def f_X2_addSalt_53 (a1 : Int32) (a2 : Int32) (s : Sg) : Option (Unit × Sg) :=
  ck (inr a1 8) (
  nmx (pI s 67 a1.toNatClampNeg ((s.1 67 a1.toNatClampNeg) + a2)) (fun s2 =>
  some ((), pI s2 53 9 ((s2.1 53 9) + a2))
  )
  )
set_option maxRecDepth 100000 in
theorem w_X2_addSalt_53 {d : Nat} {s : Sg} {Q : Qt} (a1 : Int32) (a2 : Int32) (H : OQ (f_X2_addSalt_53 a1 a2 s) (fun _ s9 => Q none s9)) : WpM SHC MT (d + 1) 28 [.ref 53, .int a1, .int a2] s Q := by
  refine WpM.enter me_X2_addSalt rfl rfl ?_
  show Y_X2_addSalt_53 d Q 0 [(0, .ref 53), (1, .int a1), (2, .int a2)] [] s
  unfold f_X2_addSalt_53 at H
  obtain ⟨hc1, H⟩ := oq_ck H
  refine Wp.f_al0_gfr (pc := 0) o_X2_addSalt rfl rfl rfl fk_C_53_0 (Wp.r_iload_n1 (pc := 4) o_X2_addSalt rfl rfl (Wp.r_dup2 (pc := 5) o_X2_addSalt rfl (Wp.r_iaload (pc := 6) o_X2_addSalt rfl ak_C_67 (⟨hc1, ?_⟩))))
  refine Wp.r_iload_n2 (pc := 7) o_X2_addSalt rfl rfl (Wp.r_iadd (pc := 8) o_X2_addSalt rfl (Wp.r_iastore (pc := 9) o_X2_addSalt rfl ak_C_67 (⟨hc1, ?_⟩)))
  revert H
  generalize pI s 67 a1.toNatClampNeg ((s.1 67 a1.toNatClampNeg) + a2) = s2
  intro H
  have H := nmx_e H
  exact Wp.r_aload_n0 (pc := 10) o_X2_addSalt rfl rfl (Wp.r_dup_r (pc := 11) o_X2_addSalt rfl (Wp.r_gfi (pc := 12) o_X2_addSalt rfl fk_C_53_9 (Wp.r_iload_n2 (pc := 15) o_X2_addSalt rfl rfl (Wp.r_iadd (pc := 16) o_X2_addSalt rfl (Wp.r_pfi (pc := 17) o_X2_addSalt rfl fk_C_53_9 (Wp.r_return (pc := 20) o_X2_addSalt rfl (H)))))))
noncomputable abbrev Y_X2_addBought_25_53 (d : Nat) (Q : Qt) : Xt := Wp SHC (WpM SHC MT (d + 1)) (flat2 cq_X2_addBought) (some .int) Q
noncomputable def f_X2_addBought_25_53 (a2 : Int32) (a3 : Int32) (a4 : Int32) (s : Sg) : Option (Int32 × Sg) :=
  ck (inr a2 4) (
  nmx ((a3 * (s.1 39 a2.toNatClampNeg)) / 16 : Int32) (fun x2 =>
  nmx (pI s 71 a2.toNatClampNeg ((s.1 71 a2.toNatClampNeg) - a3)) (fun s3 =>
  nmx (pI s3 53 8 ((s3.1 53 8) - (a3 * (s3.1 38 a2.toNatClampNeg)))) (fun s4 =>
  bd (f_X2_addSalt_53 a4 (a3 - x2) s4) (fun _ s6 =>
  ck (inr a4 8) (
  nmx (pI s6 68 a4.toNatClampNeg ((s6.1 68 a4.toNatClampNeg) + x2)) (fun s8 =>
  some (x2, pI s8 53 9 ((s8.1 53 9) + x2))
  )
  )
  )
  )
  )
  )
  )
set_option maxRecDepth 100000 in
theorem w_X2_addBought_25_53 {d : Nat} {s : Sg} {Q : Qt} (a2 : Int32) (a3 : Int32) (a4 : Int32) (H : OQ (f_X2_addBought_25_53 a2 a3 a4 s) (fun r9 s9 => Q (some (.int r9)) s9)) : WpM SHC MT (d + 2) 29 [.ref 53, .ref 25, .int a2, .int a3, .int a4] s Q := by
  refine WpM.enter me_X2_addBought rfl rfl ?_
  show Y_X2_addBought_25_53 d Q 0 [(0, .ref 53), (1, .ref 25), (2, .int a2), (3, .int a3), (4, .int a4)] [] s
  unfold f_X2_addBought_25_53 at H
  obtain ⟨hc1, H⟩ := oq_ck H
  refine Wp.r_iload_n3 (pc := 0) o_X2_addBought rfl rfl (Wp.f_al1_gfr (pc := 1) o_X2_addBought rfl rfl rfl fk_C_25_11 (Wp.r_iload_n2 (pc := 5) o_X2_addBought rfl rfl (Wp.r_iaload (pc := 6) o_X2_addBought rfl ak_C_39 (⟨hc1, ?_⟩))))
  refine Wp.r_imul (pc := 7) o_X2_addBought rfl (Wp.r_bipush (pc := 8) o_X2_addBought rfl (Wp.r_idiv (pc := 10) o_X2_addBought rfl (show (¬ (16 : Int32) = 0) ∧ Y_X2_addBought_25_53 d Q 11 [(0, .ref 53), (1, .ref 25), (2, .int a2), (3, .int a3), (4, .int a4)] [.int ((a3 * (s.1 39 a2.toNatClampNeg)) / 16)] s from ⟨by decide, ?_⟩)))
  refine Wp.r_istore (pc := 11) o_X2_addBought rfl (show Y_X2_addBought_25_53 d Q 13 [(5, .int ((a3 * (s.1 39 a2.toNatClampNeg)) / 16)), (0, .ref 53), (1, .ref 25), (2, .int a2), (3, .int a3), (4, .int a4)] [] s from ?_)
  revert H
  generalize ((a3 * (s.1 39 a2.toNatClampNeg)) / 16 : Int32) = x2
  intro H
  have H := nmx_e H
  refine Wp.f_al0_gfr (pc := 13) o_X2_addBought rfl rfl rfl fk_C_53_4 (Wp.r_iload_n2 (pc := 17) o_X2_addBought rfl rfl (Wp.r_dup2 (pc := 18) o_X2_addBought rfl (Wp.r_iaload (pc := 19) o_X2_addBought rfl ak_C_71 (⟨hc1, ?_⟩))))
  refine Wp.r_iload_n3 (pc := 20) o_X2_addBought rfl rfl (Wp.r_isub (pc := 21) o_X2_addBought rfl (Wp.r_iastore (pc := 22) o_X2_addBought rfl ak_C_71 (⟨hc1, ?_⟩)))
  revert H
  generalize pI s 71 a2.toNatClampNeg ((s.1 71 a2.toNatClampNeg) - a3) = s3
  intro H
  have H := nmx_e H
  refine Wp.r_aload_n0 (pc := 23) o_X2_addBought rfl rfl (Wp.r_dup_r (pc := 24) o_X2_addBought rfl (Wp.r_gfi (pc := 25) o_X2_addBought rfl fk_C_53_8 (Wp.r_iload_n3 (pc := 28) o_X2_addBought rfl rfl (Wp.f_al1_gfr (pc := 29) o_X2_addBought rfl rfl rfl fk_C_25_10 (Wp.r_iload_n2 (pc := 33) o_X2_addBought rfl rfl (Wp.r_iaload (pc := 34) o_X2_addBought rfl ak_C_38 (⟨hc1, ?_⟩)))))))
  refine Wp.r_imul (pc := 35) o_X2_addBought rfl (Wp.r_isub (pc := 36) o_X2_addBought rfl (Wp.r_pfi (pc := 37) o_X2_addBought rfl fk_C_53_8 (show Y_X2_addBought_25_53 d Q 40 [(5, .int x2), (0, .ref 53), (1, .ref 25), (2, .int a2), (3, .int a3), (4, .int a4)] [] (pI s3 53 8 ((s3.1 53 8) - (a3 * (s3.1 38 a2.toNatClampNeg)))) from ?_)))
  revert H
  generalize pI s3 53 8 ((s3.1 53 8) - (a3 * (s3.1 38 a2.toNatClampNeg))) = s4
  intro H
  have H := nmx_e H
  refine Wp.r_aload_n0 (pc := 40) o_X2_addBought rfl rfl (Wp.r_iload (pc := 41) o_X2_addBought rfl rfl (Wp.r_iload_n3 (pc := 43) o_X2_addBought rfl rfl (Wp.r_iload (pc := 44) o_X2_addBought rfl rfl (Wp.r_isub (pc := 46) o_X2_addBought rfl (Wp.r_cv3 (pc := 47) o_X2_addBought rfl fk_C_53_0 (⟨rm8_ rfl, ?_⟩))))))
  refine w_X2_addSalt_53 (d := d) _ _ ?_
  refine oq_bd H (fun _ s6 H => ?_)
  obtain ⟨hc7, H⟩ := oq_ck H
  refine Wp.f_al0_gfr (pc := 50) o_X2_addBought rfl rfl rfl fk_C_53_1 (Wp.r_iload (pc := 54) o_X2_addBought rfl rfl (Wp.r_dup2 (pc := 56) o_X2_addBought rfl (Wp.r_iaload (pc := 57) o_X2_addBought rfl ak_C_68 (⟨hc7, ?_⟩))))
  refine Wp.r_iload (pc := 58) o_X2_addBought rfl rfl (Wp.r_iadd (pc := 60) o_X2_addBought rfl (Wp.r_iastore (pc := 61) o_X2_addBought rfl ak_C_68 (⟨hc7, ?_⟩)))
  revert H
  generalize pI s6 68 a4.toNatClampNeg ((s6.1 68 a4.toNatClampNeg) + x2) = s8
  intro H
  have H := nmx_e H
  exact Wp.r_aload_n0 (pc := 62) o_X2_addBought rfl rfl (Wp.r_dup_r (pc := 63) o_X2_addBought rfl (Wp.r_gfi (pc := 64) o_X2_addBought rfl fk_C_53_9 (Wp.r_iload (pc := 67) o_X2_addBought rfl rfl (Wp.r_iadd (pc := 69) o_X2_addBought rfl (Wp.r_pfi (pc := 70) o_X2_addBought rfl fk_C_53_9 (Wp.r_iload (pc := 73) o_X2_addBought rfl rfl (Wp.r_ireturn (pc := 75) o_X2_addBought rfl (⟨rfl, H⟩))))))))
noncomputable abbrev Y_X3_tryBuy_25_53_5 (d : Nat) (Q : Qt) : Xt := Wp SHC (WpM SHC MT (d + 2)) (flat2 cq_X3_tryBuy) (none) Q
noncomputable def f_X3_tryBuy_25_53_5 (a3 : Int32) (a4 : Int32) (a5 : Int32) (s : Sg) : Option (Unit × Sg) :=
  bd (f_X2_hasRoom_53 a5 a4 s) (fun r1 s2 =>
  if r1 = 0 then
    some ((), pI s2 5 4 ((s2.1 5 4) + 1))
  else
    ck (inr a3 4) (
    if (s2.1 71 a3.toNatClampNeg) < a4 then
      some ((), pI s2 5 4 ((s2.1 5 4) + 1))
    else
      bd (f_X2_addBought_25_53 a3 a4 a5 s2) (fun r4 s5 =>
      some ((), s5)
      )
    )
  )
set_option maxRecDepth 100000 in
theorem w_X3_tryBuy_25_53_5 {d : Nat} {s : Sg} {Q : Qt} (a3 : Int32) (a4 : Int32) (a5 : Int32) (H : OQ (f_X3_tryBuy_25_53_5 a3 a4 a5 s) (fun _ s9 => Q none s9)) : WpM SHC MT (d + 3) 46 [.ref 5, .ref 25, .ref 53, .int a3, .int a4, .int a5] s Q := by
  refine WpM.enter me_X3_tryBuy rfl rfl ?_
  show Y_X3_tryBuy_25_53_5 d Q 0 [(0, .ref 5), (1, .ref 25), (2, .ref 53), (3, .int a3), (4, .int a4), (5, .int a5)] [] s
  unfold f_X3_tryBuy_25_53_5 at H
  refine Wp.r_aload_n2 (pc := 0) o_X3_tryBuy rfl rfl (Wp.r_iload (pc := 1) o_X3_tryBuy rfl rfl (Wp.r_iload (pc := 3) o_X3_tryBuy rfl rfl (Wp.r_cv3 (pc := 5) o_X3_tryBuy rfl fk_C_53_0 (⟨rm8_ rfl, ?_⟩))))
  refine w_X2_hasRoom_53 (d := d) _ _ ?_
  refine oq_bd H (fun r1 s2 H => ?_)
  refine Wp.r_if_eq (pc := 8) o_X3_tryBuy rfl (fun c9 => ?_) (fun c9 => ?_)
  · have H := oq_t c9 H
    exact Wp.r_aload_n0 (pc := 36) o_X3_tryBuy rfl rfl (Wp.r_dup_r (pc := 37) o_X3_tryBuy rfl (Wp.r_gfi (pc := 38) o_X3_tryBuy rfl fk_C_5_4 (Wp.r_iconst (pc := 41) o_X3_tryBuy rfl (Wp.r_iadd (pc := 42) o_X3_tryBuy rfl (Wp.r_pfi (pc := 43) o_X3_tryBuy rfl fk_C_5_4 (Wp.r_return (pc := 46) o_X3_tryBuy rfl (H)))))))
  · have H := oq_f c9 H
    obtain ⟨hc3, H⟩ := oq_ck H
    refine Wp.f_al2_gfr (pc := 11) o_X3_tryBuy rfl rfl rfl fk_C_53_4 (Wp.r_iload_n3 (pc := 15) o_X3_tryBuy rfl rfl (Wp.r_iaload (pc := 16) o_X3_tryBuy rfl ak_C_71 (⟨hc3, ?_⟩)))
    refine Wp.r_iload (pc := 17) o_X3_tryBuy rfl rfl (Wp.r_icmp_lt (pc := 19) o_X3_tryBuy rfl (fun c9 => ?_) (fun c9 => ?_))
    · have H := oq_t c9 H
      exact Wp.r_aload_n0 (pc := 36) o_X3_tryBuy rfl rfl (Wp.r_dup_r (pc := 37) o_X3_tryBuy rfl (Wp.r_gfi (pc := 38) o_X3_tryBuy rfl fk_C_5_4 (Wp.r_iconst (pc := 41) o_X3_tryBuy rfl (Wp.r_iadd (pc := 42) o_X3_tryBuy rfl (Wp.r_pfi (pc := 43) o_X3_tryBuy rfl fk_C_5_4 (Wp.r_return (pc := 46) o_X3_tryBuy rfl (H)))))))
    · have H := oq_f c9 H
      refine Wp.r_aload_n2 (pc := 22) o_X3_tryBuy rfl rfl (Wp.r_aload_n1 (pc := 23) o_X3_tryBuy rfl rfl (Wp.r_iload_n3 (pc := 24) o_X3_tryBuy rfl rfl (Wp.r_iload (pc := 25) o_X3_tryBuy rfl rfl (Wp.r_iload (pc := 27) o_X3_tryBuy rfl rfl (Wp.r_cv5 (pc := 29) o_X3_tryBuy rfl fk_C_53_0 (⟨rm8_ rfl, ?_⟩))))))
      refine w_X2_addBought_25_53 (d := d) _ _ _ ?_
      refine oq_bd H (fun r4 s5 H => ?_)
      exact Wp.r_pop_i (pc := 32) o_X3_tryBuy rfl (Wp.r_goto (pc := 33) o_X3_tryBuy rfl (Wp.r_return (pc := 46) o_X3_tryBuy rfl (H)))
noncomputable abbrev Y_X3_tryStrew_53_5 (d : Nat) (Q : Qt) : Xt := Wp SHC (WpM SHC MT (d + 2)) (flat2 cq_X3_tryStrew) (none) Q
noncomputable def f_X3_tryStrew_53_5 (a2 : Int32) (a3 : Int32) (s : Sg) : Option (Unit × Sg) :=
  bd (f_X2_hasRoom_53 a2 a3 s) (fun r1 s2 =>
  if r1 = 0 then
    some ((), pI s2 5 4 ((s2.1 5 4) + 1))
  else
    bd (f_X2_addSalt_53 a2 a3 s2) (fun _ s4 =>
    some ((), s4)
    )
  )
set_option maxRecDepth 100000 in
theorem w_X3_tryStrew_53_5 {d : Nat} {s : Sg} {Q : Qt} (a2 : Int32) (a3 : Int32) (H : OQ (f_X3_tryStrew_53_5 a2 a3 s) (fun _ s9 => Q none s9)) : WpM SHC MT (d + 3) 45 [.ref 5, .ref 53, .int a2, .int a3] s Q := by
  refine WpM.enter me_X3_tryStrew rfl rfl ?_
  show Y_X3_tryStrew_53_5 d Q 0 [(0, .ref 5), (1, .ref 53), (2, .int a2), (3, .int a3)] [] s
  unfold f_X3_tryStrew_53_5 at H
  refine Wp.r_aload_n1 (pc := 0) o_X3_tryStrew rfl rfl (Wp.r_iload_n2 (pc := 1) o_X3_tryStrew rfl rfl (Wp.r_iload_n3 (pc := 2) o_X3_tryStrew rfl rfl (Wp.r_cv3 (pc := 3) o_X3_tryStrew rfl fk_C_53_0 (⟨rm8_ rfl, ?_⟩))))
  refine w_X2_hasRoom_53 (d := d) _ _ ?_
  refine oq_bd H (fun r1 s2 H => ?_)
  refine Wp.r_if_eq (pc := 6) o_X3_tryStrew rfl (fun c9 => ?_) (fun c9 => ?_)
  · have H := oq_t c9 H
    exact Wp.r_aload_n0 (pc := 18) o_X3_tryStrew rfl rfl (Wp.r_dup_r (pc := 19) o_X3_tryStrew rfl (Wp.r_gfi (pc := 20) o_X3_tryStrew rfl fk_C_5_4 (Wp.r_iconst (pc := 23) o_X3_tryStrew rfl (Wp.r_iadd (pc := 24) o_X3_tryStrew rfl (Wp.r_pfi (pc := 25) o_X3_tryStrew rfl fk_C_5_4 (Wp.r_return (pc := 28) o_X3_tryStrew rfl (H)))))))
  · have H := oq_f c9 H
    refine Wp.r_aload_n1 (pc := 9) o_X3_tryStrew rfl rfl (Wp.r_iload_n2 (pc := 10) o_X3_tryStrew rfl rfl (Wp.r_iload_n3 (pc := 11) o_X3_tryStrew rfl rfl (Wp.r_cv3 (pc := 12) o_X3_tryStrew rfl fk_C_53_0 (⟨rm8_ rfl, ?_⟩))))
    refine w_X2_addSalt_53 (d := d + 1) _ _ ?_
    refine oq_bd H (fun _ s4 H => ?_)
    exact Wp.r_goto (pc := 15) o_X3_tryStrew rfl (Wp.r_return (pc := 28) o_X3_tryStrew rfl (H))
noncomputable abbrev Y_X2_clearStep_53 (d : Nat) (Q : Qt) : Xt := Wp SHC (WpM SHC MT (d + 1)) (flat2 cq_X2_clearStep) (some .int) Q
noncomputable def f_X2_clearStep_53 (a1 : Int32) (s : Sg) : Option (Int32 × Sg) :=
  bd (f_X2_lying_53 a1 s) (fun r1 s2 =>
  ck (inr a1 8) (
  nmx (pI (pI s2 67 a1.toNatClampNeg 0) 68 a1.toNatClampNeg 0) (fun s4 =>
  nmx (pI s4 53 11 ((s4.1 53 11) + r1)) (fun s5 =>
  some (r1, s5)
  )
  )
  )
  )
set_option maxRecDepth 100000 in
theorem w_X2_clearStep_53 {d : Nat} {s : Sg} {Q : Qt} (a1 : Int32) (H : OQ (f_X2_clearStep_53 a1 s) (fun r9 s9 => Q (some (.int r9)) s9)) : WpM SHC MT (d + 2) 30 [.ref 53, .int a1] s Q := by
  refine WpM.enter me_X2_clearStep rfl rfl ?_
  show Y_X2_clearStep_53 d Q 0 [(0, .ref 53), (1, .int a1)] [] s
  unfold f_X2_clearStep_53 at H
  refine Wp.r_aload_n0 (pc := 0) o_X2_clearStep rfl rfl (Wp.r_iload_n1 (pc := 1) o_X2_clearStep rfl rfl (Wp.r_cv2 (pc := 2) o_X2_clearStep rfl fk_C_53_0 (⟨rm8_ rfl, ?_⟩)))
  refine w_X2_lying_53 (d := d) _ ?_
  refine oq_bd H (fun r1 s2 H => ?_)
  obtain ⟨hc3, H⟩ := oq_ck H
  refine Wp.r_istore_n2 (pc := 5) o_X2_clearStep rfl (Wp.f_al0_gfr (pc := 6) o_X2_clearStep rfl rfl rfl fk_C_53_0 (Wp.r_iload_n1 (pc := 10) o_X2_clearStep rfl rfl (Wp.r_iconst (pc := 11) o_X2_clearStep rfl (Wp.r_iastore (pc := 12) o_X2_clearStep rfl ak_C_67 (⟨hc3, ?_⟩)))))
  refine Wp.f_al0_gfr (pc := 13) o_X2_clearStep rfl rfl rfl fk_C_53_1 (Wp.r_iload_n1 (pc := 17) o_X2_clearStep rfl rfl (Wp.r_iconst (pc := 18) o_X2_clearStep rfl (Wp.r_iastore (pc := 19) o_X2_clearStep rfl ak_C_68 (⟨hc3, ?_⟩))))
  revert H
  generalize pI (pI s2 67 a1.toNatClampNeg 0) 68 a1.toNatClampNeg 0 = s4
  intro H
  have H := nmx_e H
  refine Wp.r_aload_n0 (pc := 20) o_X2_clearStep rfl rfl (Wp.r_dup_r (pc := 21) o_X2_clearStep rfl (Wp.r_gfi (pc := 22) o_X2_clearStep rfl fk_C_53_11 (Wp.r_iload_n2 (pc := 25) o_X2_clearStep rfl rfl (Wp.r_iadd (pc := 26) o_X2_clearStep rfl (Wp.r_pfi (pc := 27) o_X2_clearStep rfl fk_C_53_11 (show Y_X2_clearStep_53 d Q 30 [(2, .int r1), (0, .ref 53), (1, .int a1)] [] (pI s4 53 11 ((s4.1 53 11) + r1)) from ?_))))))
  revert H
  generalize pI s4 53 11 ((s4.1 53 11) + r1) = s5
  intro H
  have H := nmx_e H
  exact Wp.r_iload_n2 (pc := 30) o_X2_clearStep rfl rfl (Wp.r_ireturn (pc := 31) o_X2_clearStep rfl (⟨rfl, H⟩))
noncomputable abbrev Y_X2_letSnow_25_53 (d : Nat) (Q : Qt) : Xt := Wp SHC (WpM SHC MT (d + 1)) (flat2 cq_X2_letSnow) (none) Q
noncomputable def f_X2_letSnow_25_53_b2 : Nat → Int32 → Int32 → Sg → Option (Unit × Sg)
  | 0, _, _, _ => none
  | n + 1, v2, v3, s =>
    if (s.1 25 13) ≤ v3 then
      some ((), s)
    else
      bd (f_X4_isGone v3 s) (fun r1 s2 =>
      if r1 = 0 then
        ck (inr v3 8) (
        nmx (pI s2 69 v3.toNatClampNeg (if ((s2.1 69 v3.toNatClampNeg) + v2) < 99 then ((s2.1 69 v3.toNatClampNeg) + v2) else 99)) (fun s4 =>
        (f_X2_letSnow_25_53_b2 n) v2 (v3 + 1) s4
        )
        )
      else
        (f_X2_letSnow_25_53_b2 n) v2 (v3 + 1) s2
      )
set_option maxRecDepth 100000 in
theorem w_X2_letSnow_25_53_b2 {d : Nat} {Q : Qt} (n : Nat) : ∀ (v2 : Int32) (v3 : Int32) (s : Sg), OQ (f_X2_letSnow_25_53_b2 n v2 v3 s) (fun _ s9 => Q none s9) → Y_X2_letSnow_25_53 d Q 2 [(0, .ref 53), (1, .ref 25), (2, .int v2), (3, .int v3)] [] s := by
  induction n with
  | zero => intro v2 v3 s H; exact H.elim
  | succ n ih =>
    intro v2 v3 s H
    unfold f_X2_letSnow_25_53_b2 at H
    refine Wp.r_iload_n3 (pc := 2) o_X2_letSnow rfl rfl (Wp.f_al1_gfi (pc := 3) o_X2_letSnow rfl rfl rfl fk_C_25_13 (Wp.r_icmp_ge (pc := 7) o_X2_letSnow rfl (fun c9 => ?_) (fun c9 => ?_)))
    · have H := oq_t c9 H
      exact Wp.r_return (pc := 43) o_X2_letSnow rfl (H)
    · have H := oq_f c9 H
      refine Wp.r_aload_n1 (pc := 10) o_X2_letSnow rfl rfl (Wp.r_iload_n3 (pc := 11) o_X2_letSnow rfl rfl (Wp.r_cv2 (pc := 12) o_X2_letSnow rfl fk_C_25_0 (⟨rm8_ rfl, ?_⟩)))
      refine w_X4_isGone (d := d) _ ?_
      refine oq_bd H (fun r1 s2 H => ?_)
      refine Wp.r_if_ne (pc := 15) o_X2_letSnow rfl (fun c9 => ?_) (fun c9 => ?_)
      · have H := oq_t c9 H
        obtain ⟨hc3, H⟩ := oq_ck H
        refine Wp.f_al0_gfr (pc := 18) o_X2_letSnow rfl rfl rfl fk_C_53_2 (Wp.r_iload_n3 (pc := 22) o_X2_letSnow rfl rfl (Wp.r_bipush (pc := 23) o_X2_letSnow rfl (Wp.f_al0_gfr (pc := 25) o_X2_letSnow rfl rfl rfl fk_C_53_2 (Wp.r_iload_n3 (pc := 29) o_X2_letSnow rfl rfl (Wp.r_iaload (pc := 30) o_X2_letSnow rfl ak_C_69 (⟨hc3, ?_⟩))))))
        refine Wp.r_iload_n2 (pc := 31) o_X2_letSnow rfl rfl (Wp.r_iadd (pc := 32) o_X2_letSnow rfl (Wp.r_min (pc := 33) o_X2_letSnow rfl (⟨rm8_ rfl, ?_⟩)))
        refine Wp.r_iastore (pc := 36) o_X2_letSnow rfl ak_C_69 (⟨hc3, ?_⟩)
        revert H
        generalize pI s2 69 v3.toNatClampNeg (if ((s2.1 69 v3.toNatClampNeg) + v2) < 99 then ((s2.1 69 v3.toNatClampNeg) + v2) else 99) = s4
        intro H
        have H := nmx_e H
        exact Wp.f_iinc_goto (pc := 37) o_X2_letSnow rfl rfl rfl (Wp.weak2 [1, 2, 3, 0] (ih _ _ _ H) rfl)
      · have H := oq_f c9 H
        exact Wp.f_iinc_goto (pc := 37) o_X2_letSnow rfl rfl rfl (Wp.weak2 [1, 2, 3, 0] (ih _ _ _ H) rfl)
noncomputable def f_X2_letSnow_25_53 (a2 : Int32) (s : Sg) : Option (Unit × Sg) :=
  f_X2_letSnow_25_53_b2 BIG a2 0 s
set_option maxRecDepth 100000 in
theorem w_X2_letSnow_25_53 {d : Nat} {s : Sg} {Q : Qt} (a2 : Int32) (H : OQ (f_X2_letSnow_25_53 a2 s) (fun _ s9 => Q none s9)) : WpM SHC MT (d + 2) 33 [.ref 53, .ref 25, .int a2] s Q := by
  refine WpM.enter me_X2_letSnow rfl rfl ?_
  show Y_X2_letSnow_25_53 d Q 0 [(0, .ref 53), (1, .ref 25), (2, .int a2)] [] s
  unfold f_X2_letSnow_25_53 at H
  exact Wp.r_iconst (pc := 0) o_X2_letSnow rfl (Wp.r_istore_n3 (pc := 1) o_X2_letSnow rfl (Wp.weak2 [1, 2, 3, 0] (w_X2_letSnow_25_53_b2 _ _ _ _ H) rfl))
noncomputable abbrev Y_X3_tryNight_25_53_5 (d : Nat) (Q : Qt) : Xt := Wp SHC (WpM SHC MT (d + 4)) (flat2 cq_X3_tryNight) (none) Q
noncomputable def f_X3_tryNight_25_53_5  (s : Sg) : Option (Unit × Sg) :=
  if (s.1 53 6) < 999 then
    bd (f_X2_passNight_25_53 s) (fun _ s2 =>
    bd (f_bitCount ((s2.1 53 5) &&& ((s.1 53 5) ^^^ (-1))) s2) (fun r3 s4 =>
    bd (f_bitCount ((s.1 53 5) &&& (((pI s4 5 6 ((s2.1 5 6) + r3)).1 53 5) ^^^ (-1))) (pI s4 5 6 ((s2.1 5 6) + r3))) (fun r5 s6 =>
    nmx (pI s6 5 7 (((pI s4 5 6 ((s2.1 5 6) + r3)).1 5 7) + r5)) (fun s7 =>
    some ((), s7)
    )
    )
    )
    )
  else
    some ((), pI s 5 4 ((s.1 5 4) + 1))
set_option maxRecDepth 100000 in
theorem w_X3_tryNight_25_53_5 {d : Nat} {s : Sg} {Q : Qt}  (H : OQ (f_X3_tryNight_25_53_5  s) (fun _ s9 => Q none s9)) : WpM SHC MT (d + 5) 48 [.ref 5, .ref 25, .ref 53] s Q := by
  refine WpM.enter me_X3_tryNight rfl rfl ?_
  show Y_X3_tryNight_25_53_5 d Q 0 [(0, .ref 5), (1, .ref 25), (2, .ref 53)] [] s
  unfold f_X3_tryNight_25_53_5 at H
  refine Wp.f_al2_gfi (pc := 0) o_X3_tryNight rfl rfl rfl fk_C_53_6 (Wp.r_sipush (pc := 4) o_X3_tryNight rfl (Wp.r_icmp_lt (pc := 7) o_X3_tryNight rfl (fun c9 => ?_) (fun c9 => ?_)))
  · have H := oq_t c9 H
    refine Wp.f_al2_gfi (pc := 21) o_X3_tryNight rfl rfl rfl fk_C_53_5 (Wp.r_istore_n3 (pc := 25) o_X3_tryNight rfl (Wp.r_aload_n2 (pc := 26) o_X3_tryNight rfl rfl (Wp.r_aload_n1 (pc := 27) o_X3_tryNight rfl rfl (Wp.r_cv2 (pc := 28) o_X3_tryNight rfl fk_C_53_0 (⟨rm8_ rfl, ?_⟩)))))
    refine w_X2_passNight_25_53 (d := d)  ?_
    refine oq_bd H (fun _ s2 H => ?_)
    refine Wp.r_aload_n0 (pc := 31) o_X3_tryNight rfl rfl (Wp.r_dup_r (pc := 32) o_X3_tryNight rfl (Wp.r_gfi (pc := 33) o_X3_tryNight rfl fk_C_5_6 (Wp.f_al2_gfi (pc := 36) o_X3_tryNight rfl rfl rfl fk_C_53_5 (Wp.r_iload_n3 (pc := 40) o_X3_tryNight rfl rfl (Wp.r_iconst (pc := 41) o_X3_tryNight rfl (Wp.r_ixor (pc := 42) o_X3_tryNight rfl (Wp.r_iand (pc := 43) o_X3_tryNight rfl (Wp.r_cs1 (pc := 44) o_X3_tryNight rfl (⟨rm8_ rfl, ?_⟩)))))))))
    refine w_bitCount (d := d + 3) _ ?_
    refine oq_bd H (fun r3 s4 H => ?_)
    refine Wp.r_iadd (pc := 47) o_X3_tryNight rfl (Wp.r_pfi (pc := 48) o_X3_tryNight rfl fk_C_5_6 (Wp.r_aload_n0 (pc := 51) o_X3_tryNight rfl rfl (Wp.r_dup_r (pc := 52) o_X3_tryNight rfl (Wp.r_gfi (pc := 53) o_X3_tryNight rfl fk_C_5_7 (Wp.r_iload_n3 (pc := 56) o_X3_tryNight rfl rfl (Wp.f_al2_gfi (pc := 57) o_X3_tryNight rfl rfl rfl fk_C_53_5 (Wp.r_iconst (pc := 61) o_X3_tryNight rfl (Wp.r_ixor (pc := 62) o_X3_tryNight rfl (Wp.r_iand (pc := 63) o_X3_tryNight rfl (Wp.r_cs1 (pc := 64) o_X3_tryNight rfl (⟨rm8_ rfl, ?_⟩)))))))))))
    refine w_bitCount (d := d + 3) _ ?_
    refine oq_bd H (fun r5 s6 H => ?_)
    refine Wp.r_iadd (pc := 67) o_X3_tryNight rfl (Wp.r_pfi (pc := 68) o_X3_tryNight rfl fk_C_5_7 (show Y_X3_tryNight_25_53_5 d Q 71 [(3, .int (s.1 53 5)), (0, .ref 5), (1, .ref 25), (2, .ref 53)] [] (pI s6 5 7 (((pI s4 5 6 ((s2.1 5 6) + r3)).1 5 7) + r5)) from ?_))
    revert H
    generalize pI s6 5 7 (((pI s4 5 6 ((s2.1 5 6) + r3)).1 5 7) + r5) = s7
    intro H
    have H := nmx_e H
    exact Wp.r_return (pc := 71) o_X3_tryNight rfl (H)
  · have H := oq_f c9 H
    exact Wp.r_aload_n0 (pc := 10) o_X3_tryNight rfl rfl (Wp.r_dup_r (pc := 11) o_X3_tryNight rfl (Wp.r_gfi (pc := 12) o_X3_tryNight rfl fk_C_5_4 (Wp.r_iconst (pc := 15) o_X3_tryNight rfl (Wp.r_iadd (pc := 16) o_X3_tryNight rfl (Wp.r_pfi (pc := 17) o_X3_tryNight rfl fk_C_5_4 (Wp.r_return (pc := 20) o_X3_tryNight rfl (H)))))))
noncomputable abbrev Y_X3_act_25_53_27_5 (d : Nat) (Q : Qt) : Xt := Wp SHC (WpM SHC MT (d + 5)) (flat2 cq_X3_act) (none) Q
noncomputable def f_X3_act_25_53_27_5 (a4 : Int32) (s : Sg) : Option (Unit × Sg) :=
  ck (inr a4 60) (
  if (s.1 45 a4.toNatClampNeg) = 116 then
    bd (f_X3_maybeRain_25_53_5 (s.1 47 a4.toNatClampNeg) s) (fun _ s3 =>
    some ((), s3)
    )
  else
  if (s.1 45 a4.toNatClampNeg) = 117 then
    some ((), s)
  else
  if (s.1 45 a4.toNatClampNeg) = 118 then
    some ((), s)
  else
  if (s.1 45 a4.toNatClampNeg) = 119 then
    bd (f_X3_tryBuy_25_53_5 (s.1 46 a4.toNatClampNeg) (s.1 47 a4.toNatClampNeg) (s.1 48 a4.toNatClampNeg) s) (fun _ s5 =>
    some ((), s5)
    )
  else
  if (s.1 45 a4.toNatClampNeg) = 120 then
    bd (f_X3_tryStrew_53_5 (s.1 46 a4.toNatClampNeg) (s.1 47 a4.toNatClampNeg) s) (fun _ s7 =>
    some ((), s7)
    )
  else
  if (s.1 45 a4.toNatClampNeg) = 121 then
    bd (f_X2_clearStep_53 (s.1 46 a4.toNatClampNeg) s) (fun r8 s9 =>
    some ((), s9)
    )
  else
  if (s.1 45 a4.toNatClampNeg) = 122 then
    bd (f_X2_letSnow_25_53 (s.1 47 a4.toNatClampNeg) s) (fun _ s11 =>
    some ((), s11)
    )
  else
  if (s.1 45 a4.toNatClampNeg) = 123 then
    bd (f_X3_tryNight_25_53_5 s) (fun _ s13 =>
    some ((), s13)
    )
  else
    some ((), s)
  )
set_option maxRecDepth 100000 in
theorem w_X3_act_25_53_27_5 {d : Nat} {s : Sg} {Q : Qt} (a4 : Int32) (H : OQ (f_X3_act_25_53_27_5 a4 s) (fun _ s9 => Q none s9)) : WpM SHC MT (d + 6) 44 [.ref 5, .ref 25, .ref 53, .ref 27, .int a4] s Q := by
  refine WpM.enter me_X3_act rfl rfl ?_
  show Y_X3_act_25_53_27_5 d Q 0 [(0, .ref 5), (1, .ref 25), (2, .ref 53), (3, .ref 27), (4, .int a4)] [] s
  unfold f_X3_act_25_53_27_5 at H
  obtain ⟨hc1, H⟩ := oq_ck H
  refine Wp.f_al3_gfr (pc := 0) o_X3_act rfl rfl rfl fk_C_27_1 (Wp.r_iload (pc := 4) o_X3_act rfl rfl (Wp.r_iaload (pc := 6) o_X3_act rfl ak_C_46 (⟨hc1, ?_⟩)))
  refine Wp.r_istore (pc := 7) o_X3_act rfl (Wp.f_al3_gfr (pc := 9) o_X3_act rfl rfl rfl fk_C_27_2 (Wp.r_iload (pc := 13) o_X3_act rfl rfl (Wp.r_iaload (pc := 15) o_X3_act rfl ak_C_47 (⟨hc1, ?_⟩))))
  refine Wp.r_istore (pc := 16) o_X3_act rfl (Wp.f_al3_gfr (pc := 18) o_X3_act rfl rfl rfl fk_C_27_0 (Wp.r_iload (pc := 22) o_X3_act rfl rfl (Wp.r_iaload (pc := 24) o_X3_act rfl ak_C_45 (⟨hc1, ?_⟩))))
  refine Wp.tsw2 (l := [(116, 114), (117, 144), (118, 144), (119, 84), (120, 72), (121, 104), (122, 125), (123, 135)]) o_X3_act rfl (by decide +kernel) ?_
  show sw [(116, 114), (117, 144), (118, 144), (119, 84), (120, 72), (121, 104), (122, 125), (123, 135)] 144 (s.1 45 a4.toNatClampNeg) (fun t9 => Y_X3_act_25_53_27_5 d Q t9 [(6, .int (s.1 47 a4.toNatClampNeg)), (5, .int (s.1 46 a4.toNatClampNeg)), (0, .ref 5), (1, .ref 25), (2, .ref 53), (3, .ref 27), (4, .int a4)] [] s)
  refine sw_c (fun e9 => ?_) (fun c9_0 => (sw_c (fun e9 => ?_) (fun c9_1 => (sw_c (fun e9 => ?_) (fun c9_2 => (sw_c (fun e9 => ?_) (fun c9_3 => (sw_c (fun e9 => ?_) (fun c9_4 => (sw_c (fun e9 => ?_) (fun c9_5 => (sw_c (fun e9 => ?_) (fun c9_6 => (sw_c (fun e9 => ?_) (fun c9_7 => ?_)))))))))))))))
  · have H := oq_t e9 H
    refine Wp.r_aload_n0 (pc := 114) o_X3_act rfl rfl (Wp.r_aload_n1 (pc := 115) o_X3_act rfl rfl (Wp.r_aload_n2 (pc := 116) o_X3_act rfl rfl (Wp.r_iload (pc := 117) o_X3_act rfl rfl (Wp.r_cv4 (pc := 119) o_X3_act rfl fk_C_5_0 (⟨rm8_ rfl, ?_⟩)))))
    refine w_X3_maybeRain_25_53_5 (d := d + 3) _ ?_
    refine oq_bd H (fun _ s3 H => ?_)
    exact Wp.r_goto (pc := 122) o_X3_act rfl (Wp.r_return (pc := 144) o_X3_act rfl (H))
  · have H := oq_f c9_0 H; have H := oq_t e9 H
    exact Wp.r_return (pc := 144) o_X3_act rfl (H)
  · have H := oq_f c9_0 H; have H := oq_f c9_1 H; have H := oq_t e9 H
    exact Wp.r_return (pc := 144) o_X3_act rfl (H)
  · have H := oq_f c9_0 H; have H := oq_f c9_1 H; have H := oq_f c9_2 H; have H := oq_t e9 H
    refine Wp.r_aload_n0 (pc := 84) o_X3_act rfl rfl (Wp.r_aload_n1 (pc := 85) o_X3_act rfl rfl (Wp.r_aload_n2 (pc := 86) o_X3_act rfl rfl (Wp.r_iload (pc := 87) o_X3_act rfl rfl (Wp.r_iload (pc := 89) o_X3_act rfl rfl (Wp.f_al3_gfr (pc := 91) o_X3_act rfl rfl rfl fk_C_27_3 (Wp.r_iload (pc := 95) o_X3_act rfl rfl (Wp.r_iaload (pc := 97) o_X3_act rfl ak_C_48 (⟨hc1, ?_⟩))))))))
    refine Wp.r_cv6 (pc := 98) o_X3_act rfl fk_C_5_0 (⟨rm8_ rfl, ?_⟩)
    refine w_X3_tryBuy_25_53_5 (d := d + 2) _ _ _ ?_
    refine oq_bd H (fun _ s5 H => ?_)
    exact Wp.r_goto (pc := 101) o_X3_act rfl (Wp.r_return (pc := 144) o_X3_act rfl (H))
  · have H := oq_f c9_0 H; have H := oq_f c9_1 H; have H := oq_f c9_2 H; have H := oq_f c9_3 H; have H := oq_t e9 H
    refine Wp.r_aload_n0 (pc := 72) o_X3_act rfl rfl (Wp.r_aload_n2 (pc := 73) o_X3_act rfl rfl (Wp.r_iload (pc := 74) o_X3_act rfl rfl (Wp.r_iload (pc := 76) o_X3_act rfl rfl (Wp.r_cv4 (pc := 78) o_X3_act rfl fk_C_5_0 (⟨rm8_ rfl, ?_⟩)))))
    refine w_X3_tryStrew_53_5 (d := d + 2) _ _ ?_
    refine oq_bd H (fun _ s7 H => ?_)
    exact Wp.r_goto (pc := 81) o_X3_act rfl (Wp.r_return (pc := 144) o_X3_act rfl (H))
  · have H := oq_f c9_0 H; have H := oq_f c9_1 H; have H := oq_f c9_2 H; have H := oq_f c9_3 H; have H := oq_f c9_4 H; have H := oq_t e9 H
    refine Wp.r_aload_n2 (pc := 104) o_X3_act rfl rfl (Wp.r_iload (pc := 105) o_X3_act rfl rfl (Wp.r_cv2 (pc := 107) o_X3_act rfl fk_C_53_0 (⟨rm8_ rfl, ?_⟩)))
    refine w_X2_clearStep_53 (d := d + 3) _ ?_
    refine oq_bd H (fun r8 s9 H => ?_)
    exact Wp.r_pop_i (pc := 110) o_X3_act rfl (Wp.r_goto (pc := 111) o_X3_act rfl (Wp.r_return (pc := 144) o_X3_act rfl (H)))
  · have H := oq_f c9_0 H; have H := oq_f c9_1 H; have H := oq_f c9_2 H; have H := oq_f c9_3 H; have H := oq_f c9_4 H; have H := oq_f c9_5 H; have H := oq_t e9 H
    refine Wp.r_aload_n2 (pc := 125) o_X3_act rfl rfl (Wp.r_aload_n1 (pc := 126) o_X3_act rfl rfl (Wp.r_iload (pc := 127) o_X3_act rfl rfl (Wp.r_cv3 (pc := 129) o_X3_act rfl fk_C_53_0 (⟨rm8_ rfl, ?_⟩))))
    refine w_X2_letSnow_25_53 (d := d + 3) _ ?_
    refine oq_bd H (fun _ s11 H => ?_)
    exact Wp.r_goto (pc := 132) o_X3_act rfl (Wp.r_return (pc := 144) o_X3_act rfl (H))
  · have H := oq_f c9_0 H; have H := oq_f c9_1 H; have H := oq_f c9_2 H; have H := oq_f c9_3 H; have H := oq_f c9_4 H; have H := oq_f c9_5 H; have H := oq_f c9_6 H; have H := oq_t e9 H
    refine Wp.r_aload_n0 (pc := 135) o_X3_act rfl rfl (Wp.r_aload_n1 (pc := 136) o_X3_act rfl rfl (Wp.r_aload_n2 (pc := 137) o_X3_act rfl rfl (Wp.r_cv3 (pc := 138) o_X3_act rfl fk_C_5_0 (⟨rm8_ rfl, ?_⟩))))
    refine w_X3_tryNight_25_53_5 (d := d)  ?_
    refine oq_bd H (fun _ s13 H => ?_)
    exact Wp.r_goto (pc := 141) o_X3_act rfl (Wp.r_return (pc := 144) o_X3_act rfl (H))
  · have H := oq_f c9_0 H; have H := oq_f c9_1 H; have H := oq_f c9_2 H; have H := oq_f c9_3 H; have H := oq_f c9_4 H; have H := oq_f c9_5 H; have H := oq_f c9_6 H; have H := oq_f c9_7 H
    exact Wp.r_return (pc := 144) o_X3_act rfl (H)
noncomputable abbrev Y_X9_inTruce_53_25 (d : Nat) (Q : Qt) : Xt := Wp SHC (WpM SHC MT (d + 2)) (flat2 cq_X9_inTruce) (some .int) Q
noncomputable def f_X9_inTruce_53_25_b7 : Nat → Int32 → Int32 → Sg → Option (Int32 × Sg)
  | 0, _, _, _ => none
  | n + 1, v2, v3, s =>
    if (s.1 25 13) ≤ v3 then
      some (v2, s)
    else
      ck (inr v3 8) (
      bd (f_X2_inSight_53 v3 s) (fun r4 s5 =>
      bd (f_X9_calmAt_25 v3 r4 s5) (fun r6 s7 =>
      nmx (v2 &&& (((s.1 34 v3.toNatClampNeg) ^^^ (-1)) ||| r6) : Int32) (fun x8 =>
      (f_X9_inTruce_53_25_b7 n) x8 (v3 + 1) s7
      )
      )
      )
      )
set_option maxRecDepth 100000 in
theorem w_X9_inTruce_53_25_b7 {d : Nat} {Q : Qt} (n : Nat) : ∀ (v2 : Int32) (v3 : Int32) (s : Sg), OQ (f_X9_inTruce_53_25_b7 n v2 v3 s) (fun r9 s9 => Q (some (.int r9)) s9) → Y_X9_inTruce_53_25 d Q 7 [(0, .ref 25), (1, .ref 53), (2, .int v2), (3, .int v3)] [] s := by
  induction n with
  | zero => intro v2 v3 s H; exact H.elim
  | succ n ih =>
    intro v2 v3 s H
    unfold f_X9_inTruce_53_25_b7 at H
    refine Wp.r_iload_n3 (pc := 7) o_X9_inTruce rfl rfl (Wp.f_al0_gfi (pc := 8) o_X9_inTruce rfl rfl rfl fk_C_25_13 (Wp.r_icmp_ge (pc := 12) o_X9_inTruce rfl (fun c9 => ?_) (fun c9 => ?_)))
    · have H := oq_t c9 H
      exact Wp.r_iload_n2 (pc := 43) o_X9_inTruce rfl rfl (Wp.r_ireturn (pc := 44) o_X9_inTruce rfl (⟨rfl, H⟩))
    · have H := oq_f c9 H
      obtain ⟨hc3, H⟩ := oq_ck H
      refine Wp.r_iload_n2 (pc := 15) o_X9_inTruce rfl rfl (Wp.f_al0_gfr (pc := 16) o_X9_inTruce rfl rfl rfl fk_C_25_6 (Wp.r_iload_n3 (pc := 20) o_X9_inTruce rfl rfl (Wp.r_iaload (pc := 21) o_X9_inTruce rfl ak_C_34 (⟨hc3, ?_⟩))))
      refine Wp.r_iconst (pc := 22) o_X9_inTruce rfl (Wp.r_ixor (pc := 23) o_X9_inTruce rfl (Wp.r_aload_n0 (pc := 24) o_X9_inTruce rfl rfl (Wp.r_iload_n3 (pc := 25) o_X9_inTruce rfl rfl (Wp.r_aload_n1 (pc := 26) o_X9_inTruce rfl rfl (Wp.r_iload_n3 (pc := 27) o_X9_inTruce rfl rfl (Wp.r_cv2 (pc := 28) o_X9_inTruce rfl fk_C_53_0 (⟨rm8_ rfl, ?_⟩)))))))
      refine w_X2_inSight_53 (d := d) _ ?_
      refine oq_bd H (fun r4 s5 H => ?_)
      refine Wp.r_cs3 (pc := 31) o_X9_inTruce rfl (⟨rm8_ rfl, ?_⟩)
      refine w_X9_calmAt_25 (d := d) _ _ ?_
      refine oq_bd H (fun r6 s7 H => ?_)
      refine Wp.r_ior (pc := 34) o_X9_inTruce rfl (Wp.r_iand (pc := 35) o_X9_inTruce rfl (Wp.r_istore_n2 (pc := 36) o_X9_inTruce rfl (show Y_X9_inTruce_53_25 d Q 37 [(2, .int (v2 &&& (((s.1 34 v3.toNatClampNeg) ^^^ (-1)) ||| r6))), (0, .ref 25), (1, .ref 53), (3, .int v3)] [] s7 from ?_)))
      revert H
      generalize (v2 &&& (((s.1 34 v3.toNatClampNeg) ^^^ (-1)) ||| r6) : Int32) = x8
      intro H
      have H := nmx_e H
      exact Wp.f_iinc_goto (pc := 37) o_X9_inTruce rfl rfl rfl (Wp.weak2 [2, 3, 1, 0] (ih _ _ _ H) rfl)
noncomputable def f_X9_inTruce_53_25  (s : Sg) : Option (Int32 × Sg) :=
  bd (f_X4_allQuarrels s) (fun r1 s2 =>
  f_X9_inTruce_53_25_b7 BIG r1 0 s2
  )
set_option maxRecDepth 100000 in
theorem w_X9_inTruce_53_25 {d : Nat} {s : Sg} {Q : Qt}  (H : OQ (f_X9_inTruce_53_25  s) (fun r9 s9 => Q (some (.int r9)) s9)) : WpM SHC MT (d + 3) 94 [.ref 25, .ref 53] s Q := by
  refine WpM.enter me_X9_inTruce rfl rfl ?_
  show Y_X9_inTruce_53_25 d Q 0 [(0, .ref 25), (1, .ref 53)] [] s
  unfold f_X9_inTruce_53_25 at H
  refine Wp.r_aload_n0 (pc := 0) o_X9_inTruce rfl rfl (Wp.r_cv1 (pc := 1) o_X9_inTruce rfl fk_C_25_0 (⟨rm8_ rfl, ?_⟩))
  refine w_X4_allQuarrels (d := d + 1)  ?_
  refine oq_bd H (fun r1 s2 H => ?_)
  exact Wp.r_istore_n2 (pc := 4) o_X9_inTruce rfl (Wp.r_iconst (pc := 5) o_X9_inTruce rfl (Wp.r_istore_n3 (pc := 6) o_X9_inTruce rfl (Wp.weak2 [2, 3, 1, 0] (w_X9_inTruce_53_25_b7 _ _ _ _ H) rfl)))
noncomputable abbrev Y_X3_holds_53_27_25 (d : Nat) (Q : Qt) : Xt := Wp SHC (WpM SHC MT (d + 3)) (flat2 cq_X3_holds) (some .boolean) Q
noncomputable def f_X3_holds_53_27_25 (a3 : Int32) (s : Sg) : Option (Int32 × Sg) :=
  ck (inr a3 60) (
  if (s.1 49 a3.toNatClampNeg) = 60 then
    bd (f_X2_lying_53 (s.1 46 a3.toNatClampNeg) s) (fun r2 s3 =>
    if (s3.1 47 a3.toNatClampNeg) ≤ r2 then
      some (0, s3)
    else
      some (1, s3)
    )
  else
  if (s.1 49 a3.toNatClampNeg) = 62 then
    bd (f_X2_lying_53 (s.1 46 a3.toNatClampNeg) s) (fun r4 s5 =>
    if r4 ≤ (s5.1 47 a3.toNatClampNeg) then
      some (0, s5)
    else
      some (1, s5)
    )
  else
  if (s.1 49 a3.toNatClampNeg) = 125 then
    bd (f_X11_has (s.1 53 5) (s.1 46 a3.toNatClampNeg) s) (fun r6 s7 =>
    ck (r6 = 0 ∨ r6 = 1) (some (r6, s7))
    )
  else
  if (s.1 49 a3.toNatClampNeg) = 126 then
    bd (f_X9_inTruce_53_25 s) (fun r8 s9 =>
    bd (f_X11_has r8 (s.1 46 a3.toNatClampNeg) s9) (fun r10 s11 =>
    ck (r10 = 0 ∨ r10 = 1) (some (r10, s11))
    )
    )
  else
    bd (f_X2_lying_53 (s.1 46 a3.toNatClampNeg) s) (fun r12 s13 =>
    if r12 = (s13.1 47 a3.toNatClampNeg) then
      some (1, s13)
    else
      some (0, s13)
    )
  )
set_option maxRecDepth 100000 in
theorem w_X3_holds_53_27_25 {d : Nat} {s : Sg} {Q : Qt} (a3 : Int32) (H : OQ (f_X3_holds_53_27_25 a3 s) (fun r9 s9 => Q (some (.int r9)) s9)) : WpM SHC MT (d + 4) 43 [.ref 25, .ref 53, .ref 27, .int a3] s Q := by
  refine WpM.enter me_X3_holds rfl rfl ?_
  show Y_X3_holds_53_27_25 d Q 0 [(0, .ref 25), (1, .ref 53), (2, .ref 27), (3, .int a3)] [] s
  unfold f_X3_holds_53_27_25 at H
  obtain ⟨hc1, H⟩ := oq_ck H
  refine Wp.f_al2_gfr (pc := 0) o_X3_holds rfl rfl rfl fk_C_27_1 (Wp.r_iload_n3 (pc := 4) o_X3_holds rfl rfl (Wp.r_iaload (pc := 5) o_X3_holds rfl ak_C_46 (⟨hc1, ?_⟩)))
  refine Wp.r_istore (pc := 6) o_X3_holds rfl (Wp.f_al2_gfr (pc := 8) o_X3_holds rfl rfl rfl fk_C_27_4 (Wp.r_iload_n3 (pc := 12) o_X3_holds rfl rfl (Wp.r_iaload (pc := 13) o_X3_holds rfl ak_C_49 (⟨hc1, ?_⟩))))
  refine Wp.lsw2 (l := [(60, 77), (62, 98), (125, 56), (126, 66)]) o_X3_holds rfl (by decide +kernel) ?_
  show sw [(60, 77), (62, 98), (125, 56), (126, 66)] 119 (s.1 49 a3.toNatClampNeg) (fun t9 => Y_X3_holds_53_27_25 d Q t9 [(4, .int (s.1 46 a3.toNatClampNeg)), (0, .ref 25), (1, .ref 53), (2, .ref 27), (3, .int a3)] [] s)
  refine sw_c (fun e9 => ?_) (fun c9_0 => (sw_c (fun e9 => ?_) (fun c9_1 => (sw_c (fun e9 => ?_) (fun c9_2 => (sw_c (fun e9 => ?_) (fun c9_3 => ?_)))))))
  · have H := oq_t e9 H
    refine Wp.r_aload_n1 (pc := 77) o_X3_holds rfl rfl (Wp.r_iload (pc := 78) o_X3_holds rfl rfl (Wp.r_cv2 (pc := 80) o_X3_holds rfl fk_C_53_0 (⟨rm8_ rfl, ?_⟩)))
    refine w_X2_lying_53 (d := d + 2) _ ?_
    refine oq_bd H (fun r2 s3 H => ?_)
    refine Wp.f_al2_gfr (pc := 83) o_X3_holds rfl rfl rfl fk_C_27_2 (Wp.r_iload_n3 (pc := 87) o_X3_holds rfl rfl (Wp.r_iaload (pc := 88) o_X3_holds rfl ak_C_47 (⟨hc1, ?_⟩)))
    refine Wp.r_icmp_ge (pc := 89) o_X3_holds rfl (fun c9 => ?_) (fun c9 => ?_)
    · have H := oq_t c9 H
      exact Wp.r_iconst (pc := 96) o_X3_holds rfl (Wp.r_ireturn (pc := 97) o_X3_holds rfl (⟨rfl, H⟩))
    · have H := oq_f c9 H
      exact Wp.r_iconst (pc := 92) o_X3_holds rfl (Wp.r_goto (pc := 93) o_X3_holds rfl (Wp.r_ireturn (pc := 97) o_X3_holds rfl (⟨rfl, H⟩)))
  · have H := oq_f c9_0 H; have H := oq_t e9 H
    refine Wp.r_aload_n1 (pc := 98) o_X3_holds rfl rfl (Wp.r_iload (pc := 99) o_X3_holds rfl rfl (Wp.r_cv2 (pc := 101) o_X3_holds rfl fk_C_53_0 (⟨rm8_ rfl, ?_⟩)))
    refine w_X2_lying_53 (d := d + 2) _ ?_
    refine oq_bd H (fun r4 s5 H => ?_)
    refine Wp.f_al2_gfr (pc := 104) o_X3_holds rfl rfl rfl fk_C_27_2 (Wp.r_iload_n3 (pc := 108) o_X3_holds rfl rfl (Wp.r_iaload (pc := 109) o_X3_holds rfl ak_C_47 (⟨hc1, ?_⟩)))
    refine Wp.r_icmp_le (pc := 110) o_X3_holds rfl (fun c9 => ?_) (fun c9 => ?_)
    · have H := oq_t c9 H
      exact Wp.r_iconst (pc := 117) o_X3_holds rfl (Wp.r_ireturn (pc := 118) o_X3_holds rfl (⟨rfl, H⟩))
    · have H := oq_f c9 H
      exact Wp.r_iconst (pc := 113) o_X3_holds rfl (Wp.r_goto (pc := 114) o_X3_holds rfl (Wp.r_ireturn (pc := 118) o_X3_holds rfl (⟨rfl, H⟩)))
  · have H := oq_f c9_0 H; have H := oq_f c9_1 H; have H := oq_t e9 H
    refine Wp.f_al1_gfi (pc := 56) o_X3_holds rfl rfl rfl fk_C_53_5 (Wp.r_iload (pc := 60) o_X3_holds rfl rfl (Wp.r_cs2 (pc := 62) o_X3_holds rfl (⟨rm8_ rfl, ?_⟩)))
    refine w_X11_has (d := d + 2) _ _ ?_
    refine oq_bd H (fun r6 s7 H => ?_)
    obtain ⟨c9, H⟩ := oq_ck H
    exact Wp.r_ireturn (pc := 65) o_X3_holds rfl (⟨b01_n c9, H⟩)
  · have H := oq_f c9_0 H; have H := oq_f c9_1 H; have H := oq_f c9_2 H; have H := oq_t e9 H
    refine Wp.r_aload_n0 (pc := 66) o_X3_holds rfl rfl (Wp.r_aload_n1 (pc := 67) o_X3_holds rfl rfl (Wp.r_cs2 (pc := 68) o_X3_holds rfl (⟨rm8_ rfl, ?_⟩)))
    refine w_X9_inTruce_53_25 (d := d)  ?_
    refine oq_bd H (fun r8 s9 H => ?_)
    refine Wp.r_iload (pc := 71) o_X3_holds rfl rfl (Wp.r_cs2 (pc := 73) o_X3_holds rfl (⟨rm8_ rfl, ?_⟩))
    refine w_X11_has (d := d + 2) _ _ ?_
    refine oq_bd H (fun r10 s11 H => ?_)
    obtain ⟨c9, H⟩ := oq_ck H
    exact Wp.r_ireturn (pc := 76) o_X3_holds rfl (⟨b01_n c9, H⟩)
  · have H := oq_f c9_0 H; have H := oq_f c9_1 H; have H := oq_f c9_2 H; have H := oq_f c9_3 H
    refine Wp.r_aload_n1 (pc := 119) o_X3_holds rfl rfl (Wp.r_iload (pc := 120) o_X3_holds rfl rfl (Wp.r_cv2 (pc := 122) o_X3_holds rfl fk_C_53_0 (⟨rm8_ rfl, ?_⟩)))
    refine w_X2_lying_53 (d := d + 2) _ ?_
    refine oq_bd H (fun r12 s13 H => ?_)
    refine Wp.f_al2_gfr (pc := 125) o_X3_holds rfl rfl rfl fk_C_27_2 (Wp.r_iload_n3 (pc := 129) o_X3_holds rfl rfl (Wp.r_iaload (pc := 130) o_X3_holds rfl ak_C_47 (⟨hc1, ?_⟩)))
    refine Wp.r_icmp_ne (pc := 131) o_X3_holds rfl (fun c9 => ?_) (fun c9 => ?_)
    · have H := oq_t c9 H
      exact Wp.r_iconst (pc := 134) o_X3_holds rfl (Wp.r_goto (pc := 135) o_X3_holds rfl (Wp.r_ireturn (pc := 139) o_X3_holds rfl (⟨rfl, H⟩)))
    · have H := oq_f c9 H
      exact Wp.r_iconst (pc := 138) o_X3_holds rfl (Wp.r_ireturn (pc := 139) o_X3_holds rfl (⟨rfl, H⟩))
noncomputable abbrev Y_X3_behindStep_25_53_27_5 (d : Nat) (Q : Qt) : Xt := Wp SHC (WpM SHC MT (d + 4)) (flat2 cq_X3_behindStep) (some .int) Q
noncomputable def f_X3_behindStep_25_53_27_5 (a4 : Int32) (s : Sg) : Option (Int32 × Sg) :=
  ck (inr a4 60) (
  if (s.1 45 a4.toNatClampNeg) = 124 then
    bd (f_X3_holds_53_27_25 a4 s) (fun r2 s3 =>
    if r2 = 0 then
      some ((s3.1 50 a4.toNatClampNeg) + 1, s3)
    else
      some (a4 + 1, s3)
    )
  else
  if (s.1 45 a4.toNatClampNeg) = 128 then
    nmx (pI s 19 a4.toNatClampNeg (s.1 47 a4.toNatClampNeg)) (fun s4 =>
    some (a4 + 1, s4)
    )
  else
  if (s.1 45 a4.toNatClampNeg) = 130 then
    some (s.1 27 7, s)
  else
    some (a4 + 1, s)
  )
set_option maxRecDepth 100000 in
theorem w_X3_behindStep_25_53_27_5 {d : Nat} {s : Sg} {Q : Qt} (a4 : Int32) (H : OQ (f_X3_behindStep_25_53_27_5 a4 s) (fun r9 s9 => Q (some (.int r9)) s9)) : WpM SHC MT (d + 5) 42 [.ref 5, .ref 25, .ref 53, .ref 27, .int a4] s Q := by
  refine WpM.enter me_X3_behindStep rfl rfl ?_
  show Y_X3_behindStep_25_53_27_5 d Q 0 [(0, .ref 5), (1, .ref 25), (2, .ref 53), (3, .ref 27), (4, .int a4)] [] s
  unfold f_X3_behindStep_25_53_27_5 at H
  obtain ⟨hc1, H⟩ := oq_ck H
  refine Wp.f_al3_gfr (pc := 0) o_X3_behindStep rfl rfl rfl fk_C_27_0 (Wp.r_iload (pc := 4) o_X3_behindStep rfl rfl (Wp.r_iaload (pc := 6) o_X3_behindStep rfl ak_C_45 (⟨hc1, ?_⟩)))
  refine Wp.lsw2 (l := [(124, 40), (128, 68), (130, 87)]) o_X3_behindStep rfl (by decide +kernel) ?_
  show sw [(124, 40), (128, 68), (130, 87)] 92 (s.1 45 a4.toNatClampNeg) (fun t9 => Y_X3_behindStep_25_53_27_5 d Q t9 [(0, .ref 5), (1, .ref 25), (2, .ref 53), (3, .ref 27), (4, .int a4)] [] s)
  refine sw_c (fun e9 => ?_) (fun c9_0 => (sw_c (fun e9 => ?_) (fun c9_1 => (sw_c (fun e9 => ?_) (fun c9_2 => ?_)))))
  · have H := oq_t e9 H
    refine Wp.r_aload_n1 (pc := 40) o_X3_behindStep rfl rfl (Wp.r_aload_n2 (pc := 41) o_X3_behindStep rfl rfl (Wp.r_aload_n3 (pc := 42) o_X3_behindStep rfl rfl (Wp.r_iload (pc := 43) o_X3_behindStep rfl rfl (Wp.r_cs4 (pc := 45) o_X3_behindStep rfl (⟨rm8_ rfl, ?_⟩)))))
    refine w_X3_holds_53_27_25 (d := d) _ ?_
    refine oq_bd H (fun r2 s3 H => ?_)
    refine Wp.r_if_eq (pc := 48) o_X3_behindStep rfl (fun c9 => ?_) (fun c9 => ?_)
    · have H := oq_t c9 H
      refine Wp.f_al3_gfr (pc := 58) o_X3_behindStep rfl rfl rfl fk_C_27_5 (Wp.r_iload (pc := 62) o_X3_behindStep rfl rfl (Wp.r_iaload (pc := 64) o_X3_behindStep rfl ak_C_50 (⟨hc1, ?_⟩)))
      exact Wp.r_iconst (pc := 65) o_X3_behindStep rfl (Wp.r_iadd (pc := 66) o_X3_behindStep rfl (Wp.r_ireturn (pc := 67) o_X3_behindStep rfl (⟨rfl, H⟩)))
    · have H := oq_f c9 H
      exact Wp.r_iload (pc := 51) o_X3_behindStep rfl rfl (Wp.r_iconst (pc := 53) o_X3_behindStep rfl (Wp.r_iadd (pc := 54) o_X3_behindStep rfl (Wp.r_goto (pc := 55) o_X3_behindStep rfl (Wp.r_ireturn (pc := 67) o_X3_behindStep rfl (⟨rfl, H⟩)))))
  · have H := oq_f c9_0 H; have H := oq_t e9 H
    refine Wp.f_al0_gfr (pc := 68) o_X3_behindStep rfl rfl rfl fk_C_5_0 (Wp.r_iload (pc := 72) o_X3_behindStep rfl rfl (Wp.f_al3_gfr (pc := 74) o_X3_behindStep rfl rfl rfl fk_C_27_2 (Wp.r_iload (pc := 78) o_X3_behindStep rfl rfl (Wp.r_iaload (pc := 80) o_X3_behindStep rfl ak_C_47 (⟨hc1, ?_⟩)))))
    refine Wp.r_iastore (pc := 81) o_X3_behindStep rfl ak_C_19 (⟨hc1, ?_⟩)
    revert H
    generalize pI s 19 a4.toNatClampNeg (s.1 47 a4.toNatClampNeg) = s4
    intro H
    have H := nmx_e H
    exact Wp.r_iload (pc := 82) o_X3_behindStep rfl rfl (Wp.r_iconst (pc := 84) o_X3_behindStep rfl (Wp.r_iadd (pc := 85) o_X3_behindStep rfl (Wp.r_ireturn (pc := 86) o_X3_behindStep rfl (⟨rfl, H⟩))))
  · have H := oq_f c9_0 H; have H := oq_f c9_1 H; have H := oq_t e9 H
    exact Wp.f_al3_gfi (pc := 87) o_X3_behindStep rfl rfl rfl fk_C_27_7 (Wp.r_ireturn (pc := 91) o_X3_behindStep rfl (⟨rfl, H⟩))
  · have H := oq_f c9_0 H; have H := oq_f c9_1 H; have H := oq_f c9_2 H
    exact Wp.r_iload (pc := 92) o_X3_behindStep rfl rfl (Wp.r_iconst (pc := 94) o_X3_behindStep rfl (Wp.r_iadd (pc := 95) o_X3_behindStep rfl (Wp.r_ireturn (pc := 96) o_X3_behindStep rfl (⟨rfl, H⟩))))
noncomputable abbrev Y_X3_run_25_53_27_5 (d : Nat) (Q : Qt) : Xt := Wp SHC (WpM SHC MT (d + 6)) (flat2 cq_X3_run) (none) Q
noncomputable def f_X3_run_25_53_27_5_b12 : Nat → Int32 → Int32 → Sg → Option (Unit × Sg)
  | 0, _, _, _ => none
  | n + 1, v5, v6, s =>
    if 1000000 ≤ v6 then
      some ((), s)
    else
      if (s.1 27 7) ≤ v5 then
        some ((), s)
      else
        ck (inr v5 60) (
        if (s.1 45 v5.toNatClampNeg) = 129 then
          bd (f_X3_behindEnd_27_5 v5 s) (fun r4 s5 =>
          (f_X3_run_25_53_27_5_b12 n) r4 (v6 + 1) s5
          )
        else
          if (s.1 5 3) < 300 then
            bd (f_X3_act_25_53_27_5 v5 (pI s 5 3 ((s.1 5 3) + 1))) (fun _ s7 =>
            bd (f_X3_behindStep_25_53_27_5 v5 s7) (fun r8 s9 =>
            (f_X3_run_25_53_27_5_b12 n) r8 (v6 + 1) s9
            )
            )
          else
            some ((), pI s 5 8 1)
        )
set_option maxRecDepth 100000 in
theorem w_X3_run_25_53_27_5_b12 {d : Nat} {Q : Qt} (n : Nat) : ∀ (v5 : Int32) (v6 : Int32) (s : Sg), OQ (f_X3_run_25_53_27_5_b12 n v5 v6 s) (fun _ s9 => Q none s9) → Y_X3_run_25_53_27_5 d Q 12 [(0, .ref 5), (1, .ref 25), (2, .ref 53), (3, .ref 27), (5, .int v5), (6, .int v6)] [] s := by
  induction n with
  | zero => intro v5 v6 s H; exact H.elim
  | succ n ih =>
    intro v5 v6 s H
    unfold f_X3_run_25_53_27_5_b12 at H
    refine Wp.r_iload (pc := 12) o_X3_run rfl rfl (Wp.r_ldc (pc := 14) o_X3_run rfl (Wp.r_icmp_ge (pc := 16) o_X3_run rfl (fun c9 => ?_) (fun c9 => ?_)))
    · have H := oq_t c9 H
      exact Wp.r_return (pc := 105) o_X3_run rfl (H)
    · have H := oq_f c9 H
      refine Wp.r_iload (pc := 19) o_X3_run rfl rfl (Wp.f_al3_gfi (pc := 21) o_X3_run rfl rfl rfl fk_C_27_7 (Wp.r_icmp_ge (pc := 25) o_X3_run rfl (fun c9 => ?_) (fun c9 => ?_)))
      · have H := oq_t c9 H
        exact Wp.r_return (pc := 105) o_X3_run rfl (H)
      · have H := oq_f c9 H
        obtain ⟨hc3, H⟩ := oq_ck H
        refine Wp.f_al3_gfr (pc := 28) o_X3_run rfl rfl rfl fk_C_27_0 (Wp.r_iload (pc := 32) o_X3_run rfl rfl (Wp.r_iaload (pc := 34) o_X3_run rfl ak_C_45 (⟨hc3, ?_⟩)))
        refine Wp.r_sipush (pc := 35) o_X3_run rfl (Wp.r_icmp_ne (pc := 38) o_X3_run rfl (fun c9 => ?_) (fun c9 => ?_))
        · have H := oq_t c9 H
          refine Wp.r_aload_n0 (pc := 41) o_X3_run rfl rfl (Wp.r_aload_n3 (pc := 42) o_X3_run rfl rfl (Wp.r_iload (pc := 43) o_X3_run rfl rfl (Wp.r_cv3 (pc := 45) o_X3_run rfl fk_C_5_0 (⟨rm8_ rfl, ?_⟩))))
          refine w_X3_behindEnd_27_5 (d := d + 5) _ ?_
          refine oq_bd H (fun r4 s5 H => ?_)
          exact Wp.r_istore (pc := 48) o_X3_run rfl (Wp.r_goto (pc := 50) o_X3_run rfl (Wp.f_iinc_goto (pc := 99) o_X3_run rfl rfl rfl (Wp.weak2 [2, 3, 4, 5, 1, 0] (ih _ _ _ H) rfl)))
        · have H := oq_f c9 H
          refine Wp.f_al0_gfi (pc := 53) o_X3_run rfl rfl rfl fk_C_5_3 (Wp.r_sipush (pc := 57) o_X3_run rfl (Wp.r_icmp_lt (pc := 60) o_X3_run rfl (fun c9 => ?_) (fun c9 => ?_)))
          · have H := oq_t c9 H
            refine Wp.r_aload_n0 (pc := 69) o_X3_run rfl rfl (Wp.r_dup_r (pc := 70) o_X3_run rfl (Wp.r_gfi (pc := 71) o_X3_run rfl fk_C_5_3 (Wp.r_iconst (pc := 74) o_X3_run rfl (Wp.r_iadd (pc := 75) o_X3_run rfl (Wp.r_pfi (pc := 76) o_X3_run rfl fk_C_5_3 (Wp.r_aload_n0 (pc := 79) o_X3_run rfl rfl (Wp.r_aload_n1 (pc := 80) o_X3_run rfl rfl (Wp.r_aload_n2 (pc := 81) o_X3_run rfl rfl (Wp.r_aload_n3 (pc := 82) o_X3_run rfl rfl (Wp.r_iload (pc := 83) o_X3_run rfl rfl (Wp.r_cv5 (pc := 85) o_X3_run rfl fk_C_5_0 (⟨rm8_ rfl, ?_⟩))))))))))))
            refine w_X3_act_25_53_27_5 (d := d) _ ?_
            refine oq_bd H (fun _ s7 H => ?_)
            refine Wp.r_aload_n0 (pc := 88) o_X3_run rfl rfl (Wp.r_aload_n1 (pc := 89) o_X3_run rfl rfl (Wp.r_aload_n2 (pc := 90) o_X3_run rfl rfl (Wp.r_aload_n3 (pc := 91) o_X3_run rfl rfl (Wp.r_iload (pc := 92) o_X3_run rfl rfl (Wp.r_cv5 (pc := 94) o_X3_run rfl fk_C_5_0 (⟨rm8_ rfl, ?_⟩))))))
            refine w_X3_behindStep_25_53_27_5 (d := d + 1) _ ?_
            refine oq_bd H (fun r8 s9 H => ?_)
            exact Wp.r_istore (pc := 97) o_X3_run rfl (Wp.f_iinc_goto (pc := 99) o_X3_run rfl rfl rfl (Wp.weak2 [2, 3, 4, 5, 1, 0] (ih _ _ _ H) rfl))
          · have H := oq_f c9 H
            refine Wp.f_al0_iconst (pc := 63) o_X3_run rfl rfl rfl (Wp.r_pfz (pc := 65) o_X3_run rfl fk_C_5_8 (show ((1 : Int32) = 0 ∨ 1 = 1) ∧ Y_X3_run_25_53_27_5 d Q 68 [(0, .ref 5), (1, .ref 25), (2, .ref 53), (3, .ref 27), (5, .int v5), (6, .int v6)] [] (pI s 5 8 1) from ⟨Or.inr rfl, ?_⟩))
            exact Wp.r_return (pc := 68) o_X3_run rfl (H)
noncomputable def f_X3_run_25_53_27_5 (a4 : Int32) (s : Sg) : Option (Unit × Sg) :=
  bd (f_X3_begin_5 a4 s) (fun _ s2 =>
  f_X3_run_25_53_27_5_b12 BIG 0 0 s2
  )
set_option maxRecDepth 100000 in
theorem w_X3_run_25_53_27_5 {d : Nat} {s : Sg} {Q : Qt} (a4 : Int32) (H : OQ (f_X3_run_25_53_27_5 a4 s) (fun _ s9 => Q none s9)) : WpM SHC MT (d + 7) 38 [.ref 5, .ref 25, .ref 53, .ref 27, .int a4] s Q := by
  refine WpM.enter me_X3_run rfl rfl ?_
  show Y_X3_run_25_53_27_5 d Q 0 [(0, .ref 5), (1, .ref 25), (2, .ref 53), (3, .ref 27), (4, .int a4)] [] s
  unfold f_X3_run_25_53_27_5 at H
  refine Wp.r_aload_n0 (pc := 0) o_X3_run rfl rfl (Wp.r_iload (pc := 1) o_X3_run rfl rfl (Wp.r_cv2 (pc := 3) o_X3_run rfl fk_C_5_0 (⟨rm8_ rfl, ?_⟩)))
  refine w_X3_begin_5 (d := d + 5) _ ?_
  refine oq_bd H (fun _ s2 H => ?_)
  exact Wp.r_iconst (pc := 6) o_X3_run rfl (Wp.r_istore (pc := 7) o_X3_run rfl (Wp.r_iconst (pc := 9) o_X3_run rfl (Wp.r_istore (pc := 10) o_X3_run rfl (Wp.weak2 [2, 3, 4, 5, 1, 0] (w_X3_run_25_53_27_5_b12 _ _ _ _ H) rfl))))
noncomputable abbrev Y_X11_odds (d : Nat) (Q : Qt) : Xt := Wp SHC (WpM SHC MT (d + 7)) (flat2 cq_X11_odds) (some .boolean) Q
noncomputable def f_X11_odds_b72 : Nat → Int32 → Int32 → Int32 → Int32 → Int32 → Sg → Option (Int32 × Sg)
  | 0, _, _, _, _, _, _ => none
  | n + 1, v1, v2, v3, v4, v5, s =>
    if v3 ≤ v5 then
      bd (f_X11_tellFraction v4.toInt64 v3.toInt64 s) (fun _ s16 =>
      bd (f_X11_granted s16) (fun r17 s18 =>
      ck (r17 = 0 ∨ r17 = 1) (some (r17, s18))
      )
      )
    else
      bd (f_X2_copyFrom_26_53 s) (fun _ s20 =>
      bd (f_X3_run_25_53_27_5 (v2 + v5) s20) (fun _ s22 =>
      if ((s22.1 53 5) &&& v1) = v1 then
        (f_X11_odds_b72 n) v1 v2 v3 (v4 + 1) (v5 + 1) s22
      else
        (f_X11_odds_b72 n) v1 v2 v3 v4 (v5 + 1) s22
      )
      )
set_option maxRecDepth 100000 in
theorem w_X11_odds_b72 {d : Nat} {Q : Qt} (n : Nat) : ∀ (v1 : Int32) (v2 : Int32) (v3 : Int32) (v4 : Int32) (v5 : Int32) (s : Sg), OQ (f_X11_odds_b72 n v1 v2 v3 v4 v5 s) (fun r9 s9 => Q (some (.int r9)) s9) → Y_X11_odds d Q 72 [(0, .ref 0), (1, .int v1), (2, .int v2), (3, .int v3), (4, .int v4), (5, .int v5)] [] s := by
  induction n with
  | zero => intro v1 v2 v3 v4 v5 s H; exact H.elim
  | succ n ih =>
    intro v1 v2 v3 v4 v5 s H
    unfold f_X11_odds_b72 at H
    refine Wp.r_iload (pc := 72) o_X11_odds rfl rfl (Wp.r_iload_n3 (pc := 74) o_X11_odds rfl rfl (Wp.r_icmp_ge (pc := 75) o_X11_odds rfl (fun c9 => ?_) (fun c9 => ?_)))
    · have H := oq_t c9 H
      refine Wp.r_aload_n0 (pc := 128) o_X11_odds rfl rfl (Wp.r_iload (pc := 129) o_X11_odds rfl rfl (Wp.r_i2l (pc := 131) o_X11_odds rfl (Wp.r_iload_n3 (pc := 132) o_X11_odds rfl rfl (Wp.r_i2l (pc := 133) o_X11_odds rfl (Wp.r_cv3 (pc := 134) o_X11_odds rfl fk_C_0_0 (⟨rm8_ rfl, ?_⟩))))))
      refine w_X11_tellFraction (d := d + 6) _ _ ?_
      refine oq_bd H (fun _ s16 H => ?_)
      refine Wp.r_aload_n0 (pc := 137) o_X11_odds rfl rfl (Wp.r_cv1 (pc := 138) o_X11_odds rfl fk_C_0_0 (⟨rm8_ rfl, ?_⟩))
      refine w_X11_granted (d := d + 6)  ?_
      refine oq_bd H (fun r17 s18 H => ?_)
      obtain ⟨c9, H⟩ := oq_ck H
      exact Wp.r_ireturn (pc := 141) o_X11_odds rfl (⟨b01_n c9, H⟩)
    · have H := oq_f c9 H
      refine Wp.r_aload_n0 (pc := 78) o_X11_odds rfl rfl (Wp.r_cv1 (pc := 79) o_X11_odds rfl fk_C_0_0 (⟨rm8_ rfl, ?_⟩))
      refine WpM.enter me_X11_foresee rfl rfl ?_
      show Wp SHC _ (flat2 cq_X11_foresee) _ _ 0 [(0, .ref 0)] [] _
      refine Wp.f_al0_gfr (pc := 0) o_X11_foresee rfl rfl rfl fk_C_0_3 (Wp.r_gfr (pc := 4) o_X11_foresee rfl fk_C_51_1 (Wp.f_al0_gfr (pc := 7) o_X11_foresee rfl rfl rfl fk_C_0_6 (Wp.r_cv2 (pc := 11) o_X11_foresee rfl fk_C_53_0 (⟨rm8_ rfl, ?_⟩))))
      refine w_X2_copyFrom_26_53 (d := d + 4)  ?_
      refine oq_bd H (fun _ s20 H => ?_)
      refine Wp.f_al0_gfr (pc := 14) o_X11_foresee rfl rfl rfl fk_C_0_3 (Wp.r_gfr (pc := 18) o_X11_foresee rfl fk_C_51_1 (Wp.r_areto (pc := 21) o_X11_foresee rfl (show Y_X11_odds d Q 82 [(0, .ref 0), (1, .int v1), (2, .int v2), (3, .int v3), (4, .int v4), (5, .int v5)] [.ref 53] s20 from ?_)))
      refine Wp.r_astore (pc := 82) o_X11_odds rfl (Wp.f_al0_gfr (pc := 84) o_X11_odds rfl rfl rfl fk_C_0_8 (Wp.f_al0_gfr (pc := 88) o_X11_odds rfl rfl rfl fk_C_0_5 (Wp.r_aload (pc := 92) o_X11_odds rfl rfl (Wp.f_al0_gfr (pc := 94) o_X11_odds rfl rfl rfl fk_C_0_2 (Wp.r_gfr (pc := 98) o_X11_odds rfl fk_C_24_2 (Wp.r_iload_n2 (pc := 101) o_X11_odds rfl rfl (Wp.r_iload (pc := 102) o_X11_odds rfl rfl (Wp.r_iadd (pc := 104) o_X11_odds rfl (Wp.r_cv5 (pc := 105) o_X11_odds rfl fk_C_5_0 (⟨rm8_ rfl, ?_⟩))))))))))
      refine w_X3_run_25_53_27_5 (d := d) _ ?_
      refine oq_bd H (fun _ s22 H => ?_)
      refine Wp.r_aload (pc := 108) o_X11_odds rfl rfl (Wp.r_gfi (pc := 110) o_X11_odds rfl fk_C_53_5 (Wp.r_iload_n1 (pc := 113) o_X11_odds rfl rfl (Wp.r_iand (pc := 114) o_X11_odds rfl (Wp.r_iload_n1 (pc := 115) o_X11_odds rfl rfl (Wp.r_icmp_ne (pc := 116) o_X11_odds rfl (fun c9 => ?_) (fun c9 => ?_))))))
      · have H := oq_t c9 H
        exact Wp.r_iinc (pc := 119) o_X11_odds rfl rfl (Wp.f_iinc_goto (pc := 122) o_X11_odds rfl rfl rfl (Wp.weak2 [3, 4, 5, 6, 1, 0] (ih _ _ _ _ _ _ H) rfl))
      · have H := oq_f c9 H
        exact Wp.f_iinc_goto (pc := 122) o_X11_odds rfl rfl rfl (Wp.weak2 [2, 3, 4, 5, 6, 0] (ih _ _ _ _ _ _ H) rfl)
noncomputable def f_X11_odds (a1 : Int32) (a2 : Int32) (a3 : Int32) (s : Sg) : Option (Int32 × Sg) :=
  bd (f_X11_isSet a1 s) (fun r1 s2 =>
  if r1 = 0 then
    bd (f_X11_refused 1 s2) (fun r3 s4 =>
    ck (r3 = 0 ∨ r3 = 1) (some (r3, s4))
    )
  else
    bd (f_X11_within a2 0 9999 s2) (fun r5 s6 =>
    if r5 = 0 then
      bd (f_X11_refused 1 s6) (fun r7 s8 =>
      ck (r7 = 0 ∨ r7 = 1) (some (r7, s8))
      )
    else
      bd (f_X11_within a3 1 20 s6) (fun r9 s10 =>
      if r9 = 0 then
        bd (f_X11_refused 1 s10) (fun r11 s12 =>
        ck (r11 = 0 ∨ r11 = 1) (some (r11, s12))
        )
      else
        if ((a2 + a3) - 1) ≤ 9999 then
          if (s10.1 27 6) = 0 then
            bd (f_X11_refused 6 s10) (fun r13 s14 =>
            ck (r13 = 0 ∨ r13 = 1) (some (r13, s14))
            )
          else
            f_X11_odds_b72 BIG a1 a2 a3 0 0 s10
        else
          bd (f_X11_refused 1 s10) (fun r23 s24 =>
          ck (r23 = 0 ∨ r23 = 1) (some (r23, s24))
          )
      )
    )
  )
set_option maxRecDepth 100000 in
theorem w_X11_odds {d : Nat} {s : Sg} {Q : Qt} (a1 : Int32) (a2 : Int32) (a3 : Int32) (H : OQ (f_X11_odds a1 a2 a3 s) (fun r9 s9 => Q (some (.int r9)) s9)) : WpM SHC MT (d + 8) 161 [.ref 0, .int a1, .int a2, .int a3] s Q := by
  refine WpM.enter me_X11_odds rfl rfl ?_
  show Y_X11_odds d Q 0 [(0, .ref 0), (1, .int a1), (2, .int a2), (3, .int a3)] [] s
  unfold f_X11_odds at H
  refine Wp.r_aload_n0 (pc := 0) o_X11_odds rfl rfl (Wp.r_iload_n1 (pc := 1) o_X11_odds rfl rfl (Wp.r_cv2 (pc := 2) o_X11_odds rfl fk_C_0_0 (⟨rm8_ rfl, ?_⟩)))
  refine w_X11_isSet (d := d + 5) _ ?_
  refine oq_bd H (fun r1 s2 H => ?_)
  refine Wp.r_if_eq (pc := 5) o_X11_odds rfl (fun c9 => ?_) (fun c9 => ?_)
  · have H := oq_t c9 H
    refine Wp.f_al0_iconst (pc := 40) o_X11_odds rfl rfl rfl (Wp.r_cv2 (pc := 42) o_X11_odds rfl fk_C_0_0 (⟨rm8_ rfl, ?_⟩))
    refine w_X11_refused (d := d + 6) _ ?_
    refine oq_bd H (fun r3 s4 H => ?_)
    obtain ⟨c9, H⟩ := oq_ck H
    exact Wp.r_ireturn (pc := 45) o_X11_odds rfl (⟨b01_n c9, H⟩)
  · have H := oq_f c9 H
    refine Wp.r_iload_n2 (pc := 8) o_X11_odds rfl rfl (Wp.r_iconst (pc := 9) o_X11_odds rfl (Wp.r_sipush (pc := 10) o_X11_odds rfl (Wp.r_cs3 (pc := 13) o_X11_odds rfl (⟨rm8_ rfl, ?_⟩))))
    refine w_X11_within (d := d + 6) _ _ _ ?_
    refine oq_bd H (fun r5 s6 H => ?_)
    refine Wp.r_if_eq (pc := 16) o_X11_odds rfl (fun c9 => ?_) (fun c9 => ?_)
    · have H := oq_t c9 H
      refine Wp.f_al0_iconst (pc := 40) o_X11_odds rfl rfl rfl (Wp.r_cv2 (pc := 42) o_X11_odds rfl fk_C_0_0 (⟨rm8_ rfl, ?_⟩))
      refine w_X11_refused (d := d + 6) _ ?_
      refine oq_bd H (fun r7 s8 H => ?_)
      obtain ⟨c9, H⟩ := oq_ck H
      exact Wp.r_ireturn (pc := 45) o_X11_odds rfl (⟨b01_n c9, H⟩)
    · have H := oq_f c9 H
      refine Wp.r_iload_n3 (pc := 19) o_X11_odds rfl rfl (Wp.r_iconst (pc := 20) o_X11_odds rfl (Wp.r_bipush (pc := 21) o_X11_odds rfl (Wp.r_cs3 (pc := 23) o_X11_odds rfl (⟨rm8_ rfl, ?_⟩))))
      refine w_X11_within (d := d + 6) _ _ _ ?_
      refine oq_bd H (fun r9 s10 H => ?_)
      refine Wp.r_if_eq (pc := 26) o_X11_odds rfl (fun c9 => ?_) (fun c9 => ?_)
      · have H := oq_t c9 H
        refine Wp.f_al0_iconst (pc := 40) o_X11_odds rfl rfl rfl (Wp.r_cv2 (pc := 42) o_X11_odds rfl fk_C_0_0 (⟨rm8_ rfl, ?_⟩))
        refine w_X11_refused (d := d + 6) _ ?_
        refine oq_bd H (fun r11 s12 H => ?_)
        obtain ⟨c9, H⟩ := oq_ck H
        exact Wp.r_ireturn (pc := 45) o_X11_odds rfl (⟨b01_n c9, H⟩)
      · have H := oq_f c9 H
        refine Wp.r_iload_n2 (pc := 29) o_X11_odds rfl rfl (Wp.r_iload_n3 (pc := 30) o_X11_odds rfl rfl (Wp.r_iadd (pc := 31) o_X11_odds rfl (Wp.r_iconst (pc := 32) o_X11_odds rfl (Wp.r_isub (pc := 33) o_X11_odds rfl (Wp.r_sipush (pc := 34) o_X11_odds rfl (Wp.r_icmp_le (pc := 37) o_X11_odds rfl (fun c9 => ?_) (fun c9 => ?_)))))))
        · have H := oq_t c9 H
          refine Wp.f_al0_gfr (pc := 46) o_X11_odds rfl rfl rfl fk_C_0_2 (Wp.r_gfr (pc := 50) o_X11_odds rfl fk_C_24_2 (Wp.r_gfi (pc := 53) o_X11_odds rfl fk_C_27_6 (Wp.r_if_ne (pc := 56) o_X11_odds rfl (fun c9 => ?_) (fun c9 => ?_))))
          · have H := oq_t c9 H
            refine Wp.r_aload_n0 (pc := 59) o_X11_odds rfl rfl (Wp.r_bipush (pc := 60) o_X11_odds rfl (Wp.r_cv2 (pc := 62) o_X11_odds rfl fk_C_0_0 (⟨rm8_ rfl, ?_⟩)))
            refine w_X11_refused (d := d + 6) _ ?_
            refine oq_bd H (fun r13 s14 H => ?_)
            obtain ⟨c9, H⟩ := oq_ck H
            exact Wp.r_ireturn (pc := 65) o_X11_odds rfl (⟨b01_n c9, H⟩)
          · have H := oq_f c9 H
            exact Wp.r_iconst (pc := 66) o_X11_odds rfl (Wp.r_istore (pc := 67) o_X11_odds rfl (Wp.r_iconst (pc := 69) o_X11_odds rfl (Wp.r_istore (pc := 70) o_X11_odds rfl (Wp.weak2 [2, 3, 4, 5, 1, 0] (w_X11_odds_b72 _ _ _ _ _ _ _ H) rfl))))
        · have H := oq_f c9 H
          refine Wp.f_al0_iconst (pc := 40) o_X11_odds rfl rfl rfl (Wp.r_cv2 (pc := 42) o_X11_odds rfl fk_C_0_0 (⟨rm8_ rfl, ?_⟩))
          refine w_X11_refused (d := d + 6) _ ?_
          refine oq_bd H (fun r23 s24 H => ?_)
          obtain ⟨c9, H⟩ := oq_ck H
          exact Wp.r_ireturn (pc := 45) o_X11_odds rfl (⟨b01_n c9, H⟩)
noncomputable abbrev Y_X11_copyRow_83_29 (d : Nat) (Q : Qt) : Xt := Wp SHC (WpM SHC MT (d + 0)) (flat2 cq_X11_copyRow) (none) Q
noncomputable def f_X11_copyRow_83_29  (s : Sg) : Option (Unit × Sg) :=
  ck (¬ (0 : Int32) < 0 ∧ ¬ (0 : Int32) < 0 ∧ ¬ (if 24 < (24 : Int32) then 24 else (24 : Int32)) < 0 ∧ 0 + (if 24 < (24 : Int32) then 24 else (24 : Int32)).toNatClampNeg ≤ 24 ∧ 0 + (if 24 < (24 : Int32) then 24 else (24 : Int32)).toNatClampNeg ≤ 24) (
  some ((), pA s 83 (va_cpy (s.1 29) (s.1 83) 0 0 (if 24 < (24 : Int32) then 24 else (24 : Int32)).toNatClampNeg))
  )
set_option maxRecDepth 100000 in
theorem w_X11_copyRow_83_29 {d : Nat} {s : Sg} {Q : Qt}  (H : OQ (f_X11_copyRow_83_29  s) (fun _ s9 => Q none s9)) : WpM SHC MT (d + 1) 184 [.ref 29, .ref 83] s Q := by
  refine WpM.enter me_X11_copyRow rfl rfl ?_
  show Y_X11_copyRow_83_29 d Q 0 [(0, .ref 29), (1, .ref 83)] [] s
  unfold f_X11_copyRow_83_29 at H
  refine Wp.f_al0_iconst (pc := 0) o_X11_copyRow rfl rfl rfl (Wp.f_al1_iconst (pc := 2) o_X11_copyRow rfl rfl rfl (Wp.f_al0_alen (pc := 4) o_X11_copyRow rfl rfl rfl lk_C_29 (Wp.f_al1_alen (pc := 6) o_X11_copyRow rfl rfl rfl lk_C_83 (Wp.r_min (pc := 8) o_X11_copyRow rfl (⟨rm8_ rfl, ?_⟩)))))
  obtain ⟨c9, H⟩ := oq_ck H
  refine Wp.run 1 (show room8 [] ∧ (¬ (0 : Int32) < 0 ∧ ¬ (0 : Int32) < 0 ∧ ¬ (if 24 < (24 : Int32) then 24 else (24 : Int32)) < 0 ∧ 0 + (if 24 < (24 : Int32) then 24 else (24 : Int32)).toNatClampNeg ≤ 24 ∧ 0 + (if 24 < (24 : Int32) then 24 else (24 : Int32)).toNatClampNeg ≤ 24) ∧ Y_X11_copyRow_83_29 d Q 14 [(0, .ref 29), (1, .ref 83)] [] (pA s 83 (va_cpy (s.1 29) (s.1 83) 0 0 (if 24 < (24 : Int32) then 24 else (24 : Int32)).toNatClampNeg)) from ⟨rm8_ rfl, c9, ?_⟩)
  exact Wp.r_return (pc := 14) o_X11_copyRow rfl (H)
