noncomputable abbrev Y_X3_tryStrew_53_5 (d : Nat) (Q : Qt) : Xt := Wp SHC (WpM SHC MT (d + 2)) (flat2 cq_X3_tryStrew) (none) Q
noncomputable def f_X3_tryStrew_53_5 (a2 : Int32) (a3 : Int32) (s : Sg) : Option (Unit × Sg) :=
  bd (f_X2_hasRoom_53 a2 a3 s) (fun r1 s2 =>
  if r1 = 0 then
    some ((), pI s2 5 4 ((s2.1 5 4) + 1))
  else
    bd (f_X2_addSalt_53 a2 a3 s2) (fun _ s4 =>
    some ((), s4)
    )
  )
set_option maxRecDepth 100000 in
theorem w_X3_tryStrew_53_5 {d : Nat} {s : Sg} {Q : Qt} (a2 : Int32) (a3 : Int32) (H : OQ (f_X3_tryStrew_53_5 a2 a3 s) (fun _ s9 => Q none s9)) : WpM SHC MT (d + 3) 45 [.ref 5, .ref 53, .int a2, .int a3] s Q := by
  refine WpM.enter me_X3_tryStrew rfl rfl ?_
  show Y_X3_tryStrew_53_5 d Q 0 [(0, .ref 5), (1, .ref 53), (2, .int a2), (3, .int a3)] [] s
  unfold f_X3_tryStrew_53_5 at H
  refine Wp.r_aload_n o_X3_tryStrew rfl rfl (Wp.r_iload_n o_X3_tryStrew rfl rfl (Wp.r_iload_n o_X3_tryStrew rfl rfl (Wp.r_cv3 o_X3_tryStrew rfl fk_C_53_0 (⟨rm8_ rfl, ?_⟩))))
  refine w_X2_hasRoom_53 (d := d) _ _ ?_
  refine oq_bd H (fun r1 s2 H => ?_)
  show Y_X3_tryStrew_53_5 d Q 6 [(0, .ref 5), (1, .ref 53), (2, .int a2), (3, .int a3)] [.int r1] s2
  refine Wp.r_if_eq o_X3_tryStrew rfl (fun c9 => ?_) (fun c9 => ?_)
  · have H := oq_t c9 H
    exact Wp.r_aload_n o_X3_tryStrew rfl rfl (Wp.r_dup_r o_X3_tryStrew rfl (Wp.r_gfi o_X3_tryStrew rfl fk_C_5_4 (Wp.r_iconst o_X3_tryStrew rfl (Wp.r_iadd o_X3_tryStrew rfl (Wp.r_pfi o_X3_tryStrew rfl fk_C_5_4 (Wp.r_return o_X3_tryStrew rfl (H)))))))
  · have H := oq_f c9 H
    refine Wp.r_aload_n o_X3_tryStrew rfl rfl (Wp.r_iload_n o_X3_tryStrew rfl rfl (Wp.r_iload_n o_X3_tryStrew rfl rfl (Wp.r_cv3 o_X3_tryStrew rfl fk_C_53_0 (⟨rm8_ rfl, ?_⟩))))
    refine w_X2_addSalt_53 (d := d + 1) _ _ ?_
    refine oq_bd H (fun _ s4 H => ?_)
    show Y_X3_tryStrew_53_5 d Q 15 [(0, .ref 5), (1, .ref 53), (2, .int a2), (3, .int a3)] [] s4
    exact Wp.r_goto o_X3_tryStrew rfl (Wp.r_return o_X3_tryStrew rfl (H))
noncomputable abbrev Y_X2_clearStep_53 (d : Nat) (Q : Qt) : Xt := Wp SHC (WpM SHC MT (d + 1)) (flat2 cq_X2_clearStep) (some .int) Q
noncomputable def f_X2_clearStep_53 (a1 : Int32) (s : Sg) : Option (Int32 × Sg) :=
  bd (f_X2_lying_53 a1 s) (fun r1 s2 =>
  ck (inr a1 8) (
  nmx (pI (pI s2 67 a1.toNatClampNeg 0) 68 a1.toNatClampNeg 0) (fun s4 =>
  nmx (pI s4 53 11 ((s4.1 53 11) + r1)) (fun s5 =>
  some (r1, s5)
  )
  )
  )
  )
set_option maxRecDepth 100000 in
theorem w_X2_clearStep_53 {d : Nat} {s : Sg} {Q : Qt} (a1 : Int32) (H : OQ (f_X2_clearStep_53 a1 s) (fun r9 s9 => Q (some (.int r9)) s9)) : WpM SHC MT (d + 2) 30 [.ref 53, .int a1] s Q := by
  refine WpM.enter me_X2_clearStep rfl rfl ?_
  show Y_X2_clearStep_53 d Q 0 [(0, .ref 53), (1, .int a1)] [] s
  unfold f_X2_clearStep_53 at H
  refine Wp.r_aload_n o_X2_clearStep rfl rfl (Wp.r_iload_n o_X2_clearStep rfl rfl (Wp.r_cv2 o_X2_clearStep rfl fk_C_53_0 (⟨rm8_ rfl, ?_⟩)))
  refine w_X2_lying_53 (d := d) _ ?_
  refine oq_bd H (fun r1 s2 H => ?_)
  show Y_X2_clearStep_53 d Q 5 [(0, .ref 53), (1, .int a1)] [.int r1] s2
  obtain ⟨hc3, H⟩ := oq_ck H
  refine Wp.r_istore_n o_X2_clearStep rfl (Wp.r_aload_n o_X2_clearStep rfl rfl (Wp.r_gfr o_X2_clearStep rfl fk_C_53_0 (Wp.r_iload_n o_X2_clearStep rfl rfl (Wp.r_iconst o_X2_clearStep rfl (Wp.r_iastore o_X2_clearStep rfl ak_C_67 (⟨hc3, ?_⟩))))))
  refine Wp.r_aload_n o_X2_clearStep rfl rfl (Wp.r_gfr o_X2_clearStep rfl fk_C_53_1 (Wp.r_iload_n o_X2_clearStep rfl rfl (Wp.r_iconst o_X2_clearStep rfl (Wp.r_iastore o_X2_clearStep rfl ak_C_68 (⟨hc3, ?_⟩)))))
  revert H
  generalize pI (pI s2 67 a1.toNatClampNeg 0) 68 a1.toNatClampNeg 0 = s4
  intro H
  have H := nmx_e H
  refine Wp.r_aload_n o_X2_clearStep rfl rfl (Wp.r_dup_r o_X2_clearStep rfl (Wp.r_gfi o_X2_clearStep rfl fk_C_53_11 (Wp.r_iload_n o_X2_clearStep rfl rfl (Wp.r_iadd o_X2_clearStep rfl (Wp.r_pfi o_X2_clearStep rfl fk_C_53_11 (show Y_X2_clearStep_53 d Q 30 [(2, .int r1), (0, .ref 53), (1, .int a1)] [] (pI s4 53 11 ((s4.1 53 11) + r1)) from ?_))))))
  revert H
  generalize pI s4 53 11 ((s4.1 53 11) + r1) = s5
  intro H
  have H := nmx_e H
  exact Wp.r_iload_n o_X2_clearStep rfl rfl (Wp.r_ireturn o_X2_clearStep rfl (⟨rfl, H⟩))
noncomputable abbrev Y_X2_letSnow_25_53 (d : Nat) (Q : Qt) : Xt := Wp SHC (WpM SHC MT (d + 1)) (flat2 cq_X2_letSnow) (none) Q
noncomputable def f_X2_letSnow_25_53_b2 : Nat → Int32 → Int32 → Sg → Option (Unit × Sg)
  | 0, _, _, _ => none
  | n + 1, v2, v3, s =>
    if (s.1 25 13) ≤ v3 then
      some ((), s)
    else
      bd (f_X4_isGone v3 s) (fun r1 s2 =>
      if r1 = 0 then
        ck (inr v3 8) (
        nmx (pI s2 69 v3.toNatClampNeg (if ((s2.1 69 v3.toNatClampNeg) + v2) < 99 then ((s2.1 69 v3.toNatClampNeg) + v2) else 99)) (fun s4 =>
        (f_X2_letSnow_25_53_b2 n) v2 (v3 + 1) s4
        )
        )
      else
        (f_X2_letSnow_25_53_b2 n) v2 (v3 + 1) s2
      )
set_option maxRecDepth 100000 in
theorem w_X2_letSnow_25_53_b2 {d : Nat} {Q : Qt} (n : Nat) : ∀ (v2 : Int32) (v3 : Int32) (s : Sg), OQ (f_X2_letSnow_25_53_b2 n v2 v3 s) (fun _ s9 => Q none s9) → Y_X2_letSnow_25_53 d Q 2 [(0, .ref 53), (1, .ref 25), (2, .int v2), (3, .int v3)] [] s := by
  induction n with
  | zero => intro v2 v3 s H; exact H.elim
  | succ n ih =>
    intro v2 v3 s H
    unfold f_X2_letSnow_25_53_b2 at H
    refine Wp.r_iload_n o_X2_letSnow rfl rfl (Wp.r_aload_n o_X2_letSnow rfl rfl (Wp.r_gfi o_X2_letSnow rfl fk_C_25_13 (Wp.r_icmp_ge o_X2_letSnow rfl (fun c9 => ?_) (fun c9 => ?_))))
    · have H := oq_t c9 H
      exact Wp.r_return o_X2_letSnow rfl (H)
    · have H := oq_f c9 H
      refine Wp.r_aload_n o_X2_letSnow rfl rfl (Wp.r_iload_n o_X2_letSnow rfl rfl (Wp.r_cv2 o_X2_letSnow rfl fk_C_25_0 (⟨rm8_ rfl, ?_⟩)))
      refine w_X4_isGone (d := d) _ ?_
      refine oq_bd H (fun r1 s2 H => ?_)
      show Y_X2_letSnow_25_53 d Q 15 [(0, .ref 53), (1, .ref 25), (2, .int v2), (3, .int v3)] [.int r1] s2
      refine Wp.r_if_ne o_X2_letSnow rfl (fun c9 => ?_) (fun c9 => ?_)
      · have H := oq_t c9 H
        obtain ⟨hc3, H⟩ := oq_ck H
        refine Wp.r_aload_n o_X2_letSnow rfl rfl (Wp.r_gfr o_X2_letSnow rfl fk_C_53_2 (Wp.r_iload_n o_X2_letSnow rfl rfl (Wp.r_bipush o_X2_letSnow rfl (Wp.r_aload_n o_X2_letSnow rfl rfl (Wp.r_gfr o_X2_letSnow rfl fk_C_53_2 (Wp.r_iload_n o_X2_letSnow rfl rfl (Wp.r_iaload o_X2_letSnow rfl ak_C_69 (⟨hc3, ?_⟩))))))))
        refine Wp.r_iload_n o_X2_letSnow rfl rfl (Wp.r_iadd o_X2_letSnow rfl (Wp.r_min o_X2_letSnow rfl (⟨rm8_ rfl, ?_⟩)))
        refine Wp.r_iastore o_X2_letSnow rfl ak_C_69 (⟨hc3, ?_⟩)
        revert H
        generalize pI s2 69 v3.toNatClampNeg (if ((s2.1 69 v3.toNatClampNeg) + v2) < 99 then ((s2.1 69 v3.toNatClampNeg) + v2) else 99) = s4
        intro H
        have H := nmx_e H
        exact Wp.r_iinc o_X2_letSnow rfl rfl (Wp.r_goto o_X2_letSnow rfl (Wp.weak2 [1, 2, 3, 0] (ih _ _ _ H) rfl))
      · have H := oq_f c9 H
        exact Wp.r_iinc o_X2_letSnow rfl rfl (Wp.r_goto o_X2_letSnow rfl (Wp.weak2 [1, 2, 3, 0] (ih _ _ _ H) rfl))
noncomputable def f_X2_letSnow_25_53 (a2 : Int32) (s : Sg) : Option (Unit × Sg) :=
  f_X2_letSnow_25_53_b2 BIG a2 0 s
set_option maxRecDepth 100000 in
theorem w_X2_letSnow_25_53 {d : Nat} {s : Sg} {Q : Qt} (a2 : Int32) (H : OQ (f_X2_letSnow_25_53 a2 s) (fun _ s9 => Q none s9)) : WpM SHC MT (d + 2) 33 [.ref 53, .ref 25, .int a2] s Q := by
  refine WpM.enter me_X2_letSnow rfl rfl ?_
  show Y_X2_letSnow_25_53 d Q 0 [(0, .ref 53), (1, .ref 25), (2, .int a2)] [] s
  unfold f_X2_letSnow_25_53 at H
  exact Wp.r_iconst o_X2_letSnow rfl (Wp.r_istore_n o_X2_letSnow rfl (Wp.weak2 [1, 2, 3, 0] (w_X2_letSnow_25_53_b2 _ _ _ _ H) rfl))
noncomputable abbrev Y_X3_tryNight_25_53_5 (d : Nat) (Q : Qt) : Xt := Wp SHC (WpM SHC MT (d + 4)) (flat2 cq_X3_tryNight) (none) Q
noncomputable def f_X3_tryNight_25_53_5  (s : Sg) : Option (Unit × Sg) :=
  if (s.1 53 6) < 999 then
    bd (f_X2_passNight_25_53 s) (fun _ s2 =>
    bd (f_bitCount ((s2.1 53 5) &&& ((s.1 53 5) ^^^ (-1))) s2) (fun r3 s4 =>
    bd (f_bitCount ((s.1 53 5) &&& (((pI s4 5 6 ((s2.1 5 6) + r3)).1 53 5) ^^^ (-1))) (pI s4 5 6 ((s2.1 5 6) + r3))) (fun r5 s6 =>
    nmx (pI s6 5 7 (((pI s4 5 6 ((s2.1 5 6) + r3)).1 5 7) + r5)) (fun s7 =>
    some ((), s7)
    )
    )
    )
    )
  else
    some ((), pI s 5 4 ((s.1 5 4) + 1))
set_option maxRecDepth 100000 in
theorem w_X3_tryNight_25_53_5 {d : Nat} {s : Sg} {Q : Qt}  (H : OQ (f_X3_tryNight_25_53_5  s) (fun _ s9 => Q none s9)) : WpM SHC MT (d + 5) 48 [.ref 5, .ref 25, .ref 53] s Q := by
  refine WpM.enter me_X3_tryNight rfl rfl ?_
  show Y_X3_tryNight_25_53_5 d Q 0 [(0, .ref 5), (1, .ref 25), (2, .ref 53)] [] s
  unfold f_X3_tryNight_25_53_5 at H
  refine Wp.r_aload_n o_X3_tryNight rfl rfl (Wp.r_gfi o_X3_tryNight rfl fk_C_53_6 (Wp.r_sipush o_X3_tryNight rfl (Wp.r_icmp_lt o_X3_tryNight rfl (fun c9 => ?_) (fun c9 => ?_))))
  · have H := oq_t c9 H
    refine Wp.r_aload_n o_X3_tryNight rfl rfl (Wp.r_gfi o_X3_tryNight rfl fk_C_53_5 (Wp.r_istore_n o_X3_tryNight rfl (Wp.r_aload_n o_X3_tryNight rfl rfl (Wp.r_aload_n o_X3_tryNight rfl rfl (Wp.r_cv2 o_X3_tryNight rfl fk_C_53_0 (⟨rm8_ rfl, ?_⟩))))))
    refine w_X2_passNight_25_53 (d := d)  ?_
    refine oq_bd H (fun _ s2 H => ?_)
    show Y_X3_tryNight_25_53_5 d Q 31 [(3, .int (s.1 53 5)), (0, .ref 5), (1, .ref 25), (2, .ref 53)] [] s2
    refine Wp.r_aload_n o_X3_tryNight rfl rfl (Wp.r_dup_r o_X3_tryNight rfl (Wp.r_gfi o_X3_tryNight rfl fk_C_5_6 (Wp.r_aload_n o_X3_tryNight rfl rfl (Wp.r_gfi o_X3_tryNight rfl fk_C_53_5 (Wp.r_iload_n o_X3_tryNight rfl rfl (Wp.r_iconst o_X3_tryNight rfl (Wp.r_ixor o_X3_tryNight rfl (Wp.r_iand o_X3_tryNight rfl (Wp.r_cs1 o_X3_tryNight rfl (⟨rm8_ rfl, ?_⟩))))))))))
    refine w_bitCount (d := d + 3) _ ?_
    refine oq_bd H (fun r3 s4 H => ?_)
    show Y_X3_tryNight_25_53_5 d Q 47 [(3, .int (s.1 53 5)), (0, .ref 5), (1, .ref 25), (2, .ref 53)] [.int r3, .int (s2.1 5 6), .ref 5] s4
    refine Wp.r_iadd o_X3_tryNight rfl (Wp.r_pfi o_X3_tryNight rfl fk_C_5_6 (Wp.r_aload_n o_X3_tryNight rfl rfl (Wp.r_dup_r o_X3_tryNight rfl (Wp.r_gfi o_X3_tryNight rfl fk_C_5_7 (Wp.r_iload_n o_X3_tryNight rfl rfl (Wp.r_aload_n o_X3_tryNight rfl rfl (Wp.r_gfi o_X3_tryNight rfl fk_C_53_5 (Wp.r_iconst o_X3_tryNight rfl (Wp.r_ixor o_X3_tryNight rfl (Wp.r_iand o_X3_tryNight rfl (Wp.r_cs1 o_X3_tryNight rfl (⟨rm8_ rfl, ?_⟩))))))))))))
    refine w_bitCount (d := d + 3) _ ?_
    refine oq_bd H (fun r5 s6 H => ?_)
    show Y_X3_tryNight_25_53_5 d Q 67 [(3, .int (s.1 53 5)), (0, .ref 5), (1, .ref 25), (2, .ref 53)] [.int r5, .int ((pI s4 5 6 ((s2.1 5 6) + r3)).1 5 7), .ref 5] s6
    refine Wp.r_iadd o_X3_tryNight rfl (Wp.r_pfi o_X3_tryNight rfl fk_C_5_7 (show Y_X3_tryNight_25_53_5 d Q 71 [(3, .int (s.1 53 5)), (0, .ref 5), (1, .ref 25), (2, .ref 53)] [] (pI s6 5 7 (((pI s4 5 6 ((s2.1 5 6) + r3)).1 5 7) + r5)) from ?_))
    revert H
    generalize pI s6 5 7 (((pI s4 5 6 ((s2.1 5 6) + r3)).1 5 7) + r5) = s7
    intro H
    have H := nmx_e H
    exact Wp.r_return o_X3_tryNight rfl (H)
  · have H := oq_f c9 H
    exact Wp.r_aload_n o_X3_tryNight rfl rfl (Wp.r_dup_r o_X3_tryNight rfl (Wp.r_gfi o_X3_tryNight rfl fk_C_5_4 (Wp.r_iconst o_X3_tryNight rfl (Wp.r_iadd o_X3_tryNight rfl (Wp.r_pfi o_X3_tryNight rfl fk_C_5_4 (Wp.r_return o_X3_tryNight rfl (H)))))))
noncomputable abbrev Y_X3_act_25_53_27_5 (d : Nat) (Q : Qt) : Xt := Wp SHC (WpM SHC MT (d + 5)) (flat2 cq_X3_act) (none) Q
noncomputable def f_X3_act_25_53_27_5 (a4 : Int32) (s : Sg) : Option (Unit × Sg) :=
  ck (inr a4 60) (
  if (s.1 45 a4.toNatClampNeg) = 116 then
    bd (f_X3_maybeRain_25_53_5 (s.1 47 a4.toNatClampNeg) s) (fun _ s3 =>
    some ((), s3)
    )
  else
  if (s.1 45 a4.toNatClampNeg) = 117 then
    some ((), s)
  else
  if (s.1 45 a4.toNatClampNeg) = 118 then
    some ((), s)
  else
  if (s.1 45 a4.toNatClampNeg) = 119 then
    bd (f_X3_tryBuy_25_53_5 (s.1 46 a4.toNatClampNeg) (s.1 47 a4.toNatClampNeg) (s.1 48 a4.toNatClampNeg) s) (fun _ s5 =>
    some ((), s5)
    )
  else
  if (s.1 45 a4.toNatClampNeg) = 120 then
    bd (f_X3_tryStrew_53_5 (s.1 46 a4.toNatClampNeg) (s.1 47 a4.toNatClampNeg) s) (fun _ s7 =>
    some ((), s7)
    )
  else
  if (s.1 45 a4.toNatClampNeg) = 121 then
    bd (f_X2_clearStep_53 (s.1 46 a4.toNatClampNeg) s) (fun r8 s9 =>
    some ((), s9)
    )
  else
  if (s.1 45 a4.toNatClampNeg) = 122 then
    bd (f_X2_letSnow_25_53 (s.1 47 a4.toNatClampNeg) s) (fun _ s11 =>
    some ((), s11)
    )
  else
  if (s.1 45 a4.toNatClampNeg) = 123 then
    bd (f_X3_tryNight_25_53_5 s) (fun _ s13 =>
    some ((), s13)
    )
  else
    some ((), s)
  )
set_option maxRecDepth 100000 in
theorem w_X3_act_25_53_27_5 {d : Nat} {s : Sg} {Q : Qt} (a4 : Int32) (H : OQ (f_X3_act_25_53_27_5 a4 s) (fun _ s9 => Q none s9)) : WpM SHC MT (d + 6) 44 [.ref 5, .ref 25, .ref 53, .ref 27, .int a4] s Q := by
  refine WpM.enter me_X3_act rfl rfl ?_
  show Y_X3_act_25_53_27_5 d Q 0 [(0, .ref 5), (1, .ref 25), (2, .ref 53), (3, .ref 27), (4, .int a4)] [] s
  unfold f_X3_act_25_53_27_5 at H
  obtain ⟨hc1, H⟩ := oq_ck H
  refine Wp.r_aload_n o_X3_act rfl rfl (Wp.r_gfr o_X3_act rfl fk_C_27_1 (Wp.r_iload o_X3_act rfl rfl (Wp.r_iaload o_X3_act rfl ak_C_46 (⟨hc1, ?_⟩))))
  refine Wp.r_istore o_X3_act rfl (Wp.r_aload_n o_X3_act rfl rfl (Wp.r_gfr o_X3_act rfl fk_C_27_2 (Wp.r_iload o_X3_act rfl rfl (Wp.r_iaload o_X3_act rfl ak_C_47 (⟨hc1, ?_⟩)))))
  refine Wp.r_istore o_X3_act rfl (Wp.r_aload_n o_X3_act rfl rfl (Wp.r_gfr o_X3_act rfl fk_C_27_0 (Wp.r_iload o_X3_act rfl rfl (Wp.r_iaload o_X3_act rfl ak_C_45 (⟨hc1, ?_⟩)))))
  refine Wp.r_tsw o_X3_act rfl (show ((s.1 45 a4.toNatClampNeg) = 116 → Y_X3_act_25_53_27_5 d Q 114 [(6, .int (s.1 47 a4.toNatClampNeg)), (5, .int (s.1 46 a4.toNatClampNeg)), (0, .ref 5), (1, .ref 25), (2, .ref 53), (3, .ref 27), (4, .int a4)] [] s) ∧ (¬ (s.1 45 a4.toNatClampNeg) = 116 → ((s.1 45 a4.toNatClampNeg) = 117 → Y_X3_act_25_53_27_5 d Q 144 [(6, .int (s.1 47 a4.toNatClampNeg)), (5, .int (s.1 46 a4.toNatClampNeg)), (0, .ref 5), (1, .ref 25), (2, .ref 53), (3, .ref 27), (4, .int a4)] [] s) ∧ (¬ (s.1 45 a4.toNatClampNeg) = 117 → ((s.1 45 a4.toNatClampNeg) = 118 → Y_X3_act_25_53_27_5 d Q 144 [(6, .int (s.1 47 a4.toNatClampNeg)), (5, .int (s.1 46 a4.toNatClampNeg)), (0, .ref 5), (1, .ref 25), (2, .ref 53), (3, .ref 27), (4, .int a4)] [] s) ∧ (¬ (s.1 45 a4.toNatClampNeg) = 118 → ((s.1 45 a4.toNatClampNeg) = 119 → Y_X3_act_25_53_27_5 d Q 84 [(6, .int (s.1 47 a4.toNatClampNeg)), (5, .int (s.1 46 a4.toNatClampNeg)), (0, .ref 5), (1, .ref 25), (2, .ref 53), (3, .ref 27), (4, .int a4)] [] s) ∧ (¬ (s.1 45 a4.toNatClampNeg) = 119 → ((s.1 45 a4.toNatClampNeg) = 120 → Y_X3_act_25_53_27_5 d Q 72 [(6, .int (s.1 47 a4.toNatClampNeg)), (5, .int (s.1 46 a4.toNatClampNeg)), (0, .ref 5), (1, .ref 25), (2, .ref 53), (3, .ref 27), (4, .int a4)] [] s) ∧ (¬ (s.1 45 a4.toNatClampNeg) = 120 → ((s.1 45 a4.toNatClampNeg) = 121 → Y_X3_act_25_53_27_5 d Q 104 [(6, .int (s.1 47 a4.toNatClampNeg)), (5, .int (s.1 46 a4.toNatClampNeg)), (0, .ref 5), (1, .ref 25), (2, .ref 53), (3, .ref 27), (4, .int a4)] [] s) ∧ (¬ (s.1 45 a4.toNatClampNeg) = 121 → ((s.1 45 a4.toNatClampNeg) = 122 → Y_X3_act_25_53_27_5 d Q 125 [(6, .int (s.1 47 a4.toNatClampNeg)), (5, .int (s.1 46 a4.toNatClampNeg)), (0, .ref 5), (1, .ref 25), (2, .ref 53), (3, .ref 27), (4, .int a4)] [] s) ∧ (¬ (s.1 45 a4.toNatClampNeg) = 122 → ((s.1 45 a4.toNatClampNeg) = 123 → Y_X3_act_25_53_27_5 d Q 135 [(6, .int (s.1 47 a4.toNatClampNeg)), (5, .int (s.1 46 a4.toNatClampNeg)), (0, .ref 5), (1, .ref 25), (2, .ref 53), (3, .ref 27), (4, .int a4)] [] s) ∧ (¬ (s.1 45 a4.toNatClampNeg) = 123 → Y_X3_act_25_53_27_5 d Q 144 [(6, .int (s.1 47 a4.toNatClampNeg)), (5, .int (s.1 46 a4.toNatClampNeg)), (0, .ref 5), (1, .ref 25), (2, .ref 53), (3, .ref 27), (4, .int a4)] [] s)))))))) from ⟨fun e9 => ?_, fun c9_0 => ⟨fun e9 => ?_, fun c9_1 => ⟨fun e9 => ?_, fun c9_2 => ⟨fun e9 => ?_, fun c9_3 => ⟨fun e9 => ?_, fun c9_4 => ⟨fun e9 => ?_, fun c9_5 => ⟨fun e9 => ?_, fun c9_6 => ⟨fun e9 => ?_, fun c9_7 => ?_⟩⟩⟩⟩⟩⟩⟩⟩)
  · have H := oq_t e9 H
    refine Wp.r_aload_n o_X3_act rfl rfl (Wp.r_aload_n o_X3_act rfl rfl (Wp.r_aload_n o_X3_act rfl rfl (Wp.r_iload o_X3_act rfl rfl (Wp.r_cv4 o_X3_act rfl fk_C_5_0 (⟨rm8_ rfl, ?_⟩)))))
    refine w_X3_maybeRain_25_53_5 (d := d + 3) _ ?_
    refine oq_bd H (fun _ s3 H => ?_)
    show Y_X3_act_25_53_27_5 d Q 122 [(6, .int (s.1 47 a4.toNatClampNeg)), (5, .int (s.1 46 a4.toNatClampNeg)), (0, .ref 5), (1, .ref 25), (2, .ref 53), (3, .ref 27), (4, .int a4)] [] s3
    exact Wp.r_goto o_X3_act rfl (Wp.r_return o_X3_act rfl (H))
  · have H := oq_f c9_0 H; have H := oq_t e9 H
    exact Wp.r_return o_X3_act rfl (H)
  · have H := oq_f c9_0 H; have H := oq_f c9_1 H; have H := oq_t e9 H
    exact Wp.r_return o_X3_act rfl (H)
  · have H := oq_f c9_0 H; have H := oq_f c9_1 H; have H := oq_f c9_2 H; have H := oq_t e9 H
    refine Wp.r_aload_n o_X3_act rfl rfl (Wp.r_aload_n o_X3_act rfl rfl (Wp.r_aload_n o_X3_act rfl rfl (Wp.r_iload o_X3_act rfl rfl (Wp.r_iload o_X3_act rfl rfl (Wp.r_aload_n o_X3_act rfl rfl (Wp.r_gfr o_X3_act rfl fk_C_27_3 (Wp.r_iload o_X3_act rfl rfl (Wp.r_iaload o_X3_act rfl ak_C_48 (⟨hc1, ?_⟩)))))))))
    refine Wp.r_cv6 o_X3_act rfl fk_C_5_0 (⟨rm8_ rfl, ?_⟩)
    refine w_X3_tryBuy_25_53_5 (d := d + 2) _ _ _ ?_
    refine oq_bd H (fun _ s5 H => ?_)
    show Y_X3_act_25_53_27_5 d Q 101 [(6, .int (s.1 47 a4.toNatClampNeg)), (5, .int (s.1 46 a4.toNatClampNeg)), (0, .ref 5), (1, .ref 25), (2, .ref 53), (3, .ref 27), (4, .int a4)] [] s5
    exact Wp.r_goto o_X3_act rfl (Wp.r_return o_X3_act rfl (H))
  · have H := oq_f c9_0 H; have H := oq_f c9_1 H; have H := oq_f c9_2 H; have H := oq_f c9_3 H; have H := oq_t e9 H
    refine Wp.r_aload_n o_X3_act rfl rfl (Wp.r_aload_n o_X3_act rfl rfl (Wp.r_iload o_X3_act rfl rfl (Wp.r_iload o_X3_act rfl rfl (Wp.r_cv4 o_X3_act rfl fk_C_5_0 (⟨rm8_ rfl, ?_⟩)))))
    refine w_X3_tryStrew_53_5 (d := d + 2) _ _ ?_
    refine oq_bd H (fun _ s7 H => ?_)
    show Y_X3_act_25_53_27_5 d Q 81 [(6, .int (s.1 47 a4.toNatClampNeg)), (5, .int (s.1 46 a4.toNatClampNeg)), (0, .ref 5), (1, .ref 25), (2, .ref 53), (3, .ref 27), (4, .int a4)] [] s7
    exact Wp.r_goto o_X3_act rfl (Wp.r_return o_X3_act rfl (H))
  · have H := oq_f c9_0 H; have H := oq_f c9_1 H; have H := oq_f c9_2 H; have H := oq_f c9_3 H; have H := oq_f c9_4 H; have H := oq_t e9 H
    refine Wp.r_aload_n o_X3_act rfl rfl (Wp.r_iload o_X3_act rfl rfl (Wp.r_cv2 o_X3_act rfl fk_C_53_0 (⟨rm8_ rfl, ?_⟩)))
    refine w_X2_clearStep_53 (d := d + 3) _ ?_
    refine oq_bd H (fun r8 s9 H => ?_)
    show Y_X3_act_25_53_27_5 d Q 110 [(6, .int (s.1 47 a4.toNatClampNeg)), (5, .int (s.1 46 a4.toNatClampNeg)), (0, .ref 5), (1, .ref 25), (2, .ref 53), (3, .ref 27), (4, .int a4)] [.int r8] s9
    exact Wp.r_pop_i o_X3_act rfl (Wp.r_goto o_X3_act rfl (Wp.r_return o_X3_act rfl (H)))
  · have H := oq_f c9_0 H; have H := oq_f c9_1 H; have H := oq_f c9_2 H; have H := oq_f c9_3 H; have H := oq_f c9_4 H; have H := oq_f c9_5 H; have H := oq_t e9 H
    refine Wp.r_aload_n o_X3_act rfl rfl (Wp.r_aload_n o_X3_act rfl rfl (Wp.r_iload o_X3_act rfl rfl (Wp.r_cv3 o_X3_act rfl fk_C_53_0 (⟨rm8_ rfl, ?_⟩))))
    refine w_X2_letSnow_25_53 (d := d + 3) _ ?_
    refine oq_bd H (fun _ s11 H => ?_)
    show Y_X3_act_25_53_27_5 d Q 132 [(6, .int (s.1 47 a4.toNatClampNeg)), (5, .int (s.1 46 a4.toNatClampNeg)), (0, .ref 5), (1, .ref 25), (2, .ref 53), (3, .ref 27), (4, .int a4)] [] s11
    exact Wp.r_goto o_X3_act rfl (Wp.r_return o_X3_act rfl (H))
  · have H := oq_f c9_0 H; have H := oq_f c9_1 H; have H := oq_f c9_2 H; have H := oq_f c9_3 H; have H := oq_f c9_4 H; have H := oq_f c9_5 H; have H := oq_f c9_6 H; have H := oq_t e9 H
    refine Wp.r_aload_n o_X3_act rfl rfl (Wp.r_aload_n o_X3_act rfl rfl (Wp.r_aload_n o_X3_act rfl rfl (Wp.r_cv3 o_X3_act rfl fk_C_5_0 (⟨rm8_ rfl, ?_⟩))))
    refine w_X3_tryNight_25_53_5 (d := d)  ?_
    refine oq_bd H (fun _ s13 H => ?_)
    show Y_X3_act_25_53_27_5 d Q 141 [(6, .int (s.1 47 a4.toNatClampNeg)), (5, .int (s.1 46 a4.toNatClampNeg)), (0, .ref 5), (1, .ref 25), (2, .ref 53), (3, .ref 27), (4, .int a4)] [] s13
    exact Wp.r_goto o_X3_act rfl (Wp.r_return o_X3_act rfl (H))
  · have H := oq_f c9_0 H; have H := oq_f c9_1 H; have H := oq_f c9_2 H; have H := oq_f c9_3 H; have H := oq_f c9_4 H; have H := oq_f c9_5 H; have H := oq_f c9_6 H; have H := oq_f c9_7 H
    exact Wp.r_return o_X3_act rfl (H)
noncomputable abbrev Y_X9_inTruce_53_25 (d : Nat) (Q : Qt) : Xt := Wp SHC (WpM SHC MT (d + 2)) (flat2 cq_X9_inTruce) (some .int) Q
noncomputable def f_X9_inTruce_53_25_b7 : Nat → Int32 → Int32 → Sg → Option (Int32 × Sg)
  | 0, _, _, _ => none
  | n + 1, v2, v3, s =>
    if (s.1 25 13) ≤ v3 then
      some (v2, s)
    else
      ck (inr v3 8) (
      bd (f_X2_inSight_53 v3 s) (fun r4 s5 =>
      bd (f_X9_calmAt_25 v3 r4 s5) (fun r6 s7 =>
      nmx (v2 &&& (((s.1 34 v3.toNatClampNeg) ^^^ (-1)) ||| r6) : Int32) (fun x8 =>
      (f_X9_inTruce_53_25_b7 n) x8 (v3 + 1) s7
      )
      )
      )
      )
set_option maxRecDepth 100000 in
theorem w_X9_inTruce_53_25_b7 {d : Nat} {Q : Qt} (n : Nat) : ∀ (v2 : Int32) (v3 : Int32) (s : Sg), OQ (f_X9_inTruce_53_25_b7 n v2 v3 s) (fun r9 s9 => Q (some (.int r9)) s9) → Y_X9_inTruce_53_25 d Q 7 [(0, .ref 25), (1, .ref 53), (2, .int v2), (3, .int v3)] [] s := by
  induction n with
  | zero => intro v2 v3 s H; exact H.elim
  | succ n ih =>
    intro v2 v3 s H
    unfold f_X9_inTruce_53_25_b7 at H
    refine Wp.r_iload_n o_X9_inTruce rfl rfl (Wp.r_aload_n o_X9_inTruce rfl rfl (Wp.r_gfi o_X9_inTruce rfl fk_C_25_13 (Wp.r_icmp_ge o_X9_inTruce rfl (fun c9 => ?_) (fun c9 => ?_))))
    · have H := oq_t c9 H
      exact Wp.r_iload_n o_X9_inTruce rfl rfl (Wp.r_ireturn o_X9_inTruce rfl (⟨rfl, H⟩))
    · have H := oq_f c9 H
      obtain ⟨hc3, H⟩ := oq_ck H
      refine Wp.r_iload_n o_X9_inTruce rfl rfl (Wp.r_aload_n o_X9_inTruce rfl rfl (Wp.r_gfr o_X9_inTruce rfl fk_C_25_6 (Wp.r_iload_n o_X9_inTruce rfl rfl (Wp.r_iaload o_X9_inTruce rfl ak_C_34 (⟨hc3, ?_⟩)))))
      refine Wp.r_iconst o_X9_inTruce rfl (Wp.r_ixor o_X9_inTruce rfl (Wp.r_aload_n o_X9_inTruce rfl rfl (Wp.r_iload_n o_X9_inTruce rfl rfl (Wp.r_aload_n o_X9_inTruce rfl rfl (Wp.r_iload_n o_X9_inTruce rfl rfl (Wp.r_cv2 o_X9_inTruce rfl fk_C_53_0 (⟨rm8_ rfl, ?_⟩)))))))
      refine w_X2_inSight_53 (d := d) _ ?_
      refine oq_bd H (fun r4 s5 H => ?_)
      show Y_X9_inTruce_53_25 d Q 31 [(0, .ref 25), (1, .ref 53), (2, .int v2), (3, .int v3)] [.int r4, .int v3, .ref 25, .int ((s.1 34 v3.toNatClampNeg) ^^^ (-1)), .int v2] s5
      refine Wp.r_cs3 o_X9_inTruce rfl (⟨rm8_ rfl, ?_⟩)
      refine w_X9_calmAt_25 (d := d) _ _ ?_
      refine oq_bd H (fun r6 s7 H => ?_)
      show Y_X9_inTruce_53_25 d Q 34 [(0, .ref 25), (1, .ref 53), (2, .int v2), (3, .int v3)] [.int r6, .int ((s.1 34 v3.toNatClampNeg) ^^^ (-1)), .int v2] s7
      refine Wp.r_ior o_X9_inTruce rfl (Wp.r_iand o_X9_inTruce rfl (Wp.r_istore_n o_X9_inTruce rfl (show Y_X9_inTruce_53_25 d Q 37 [(2, .int (v2 &&& (((s.1 34 v3.toNatClampNeg) ^^^ (-1)) ||| r6))), (0, .ref 25), (1, .ref 53), (3, .int v3)] [] s7 from ?_)))
      revert H
      generalize (v2 &&& (((s.1 34 v3.toNatClampNeg) ^^^ (-1)) ||| r6) : Int32) = x8
      intro H
      have H := nmx_e H
      exact Wp.r_iinc o_X9_inTruce rfl rfl (Wp.r_goto o_X9_inTruce rfl (Wp.weak2 [2, 3, 1, 0] (ih _ _ _ H) rfl))
noncomputable def f_X9_inTruce_53_25  (s : Sg) : Option (Int32 × Sg) :=
  bd (f_X4_allQuarrels s) (fun r1 s2 =>
  f_X9_inTruce_53_25_b7 BIG r1 0 s2
  )
set_option maxRecDepth 100000 in
theorem w_X9_inTruce_53_25 {d : Nat} {s : Sg} {Q : Qt}  (H : OQ (f_X9_inTruce_53_25  s) (fun r9 s9 => Q (some (.int r9)) s9)) : WpM SHC MT (d + 3) 94 [.ref 25, .ref 53] s Q := by
  refine WpM.enter me_X9_inTruce rfl rfl ?_
  show Y_X9_inTruce_53_25 d Q 0 [(0, .ref 25), (1, .ref 53)] [] s
  unfold f_X9_inTruce_53_25 at H
  refine Wp.r_aload_n o_X9_inTruce rfl rfl (Wp.r_cv1 o_X9_inTruce rfl fk_C_25_0 (⟨rm8_ rfl, ?_⟩))
  refine w_X4_allQuarrels (d := d + 1)  ?_
  refine oq_bd H (fun r1 s2 H => ?_)
  show Y_X9_inTruce_53_25 d Q 4 [(0, .ref 25), (1, .ref 53)] [.int r1] s2
  exact Wp.r_istore_n o_X9_inTruce rfl (Wp.r_iconst o_X9_inTruce rfl (Wp.r_istore_n o_X9_inTruce rfl (Wp.weak2 [2, 3, 1, 0] (w_X9_inTruce_53_25_b7 _ _ _ _ H) rfl)))
noncomputable abbrev Y_X3_holds_53_27_25 (d : Nat) (Q : Qt) : Xt := Wp SHC (WpM SHC MT (d + 3)) (flat2 cq_X3_holds) (some .boolean) Q
noncomputable def f_X3_holds_53_27_25 (a3 : Int32) (s : Sg) : Option (Int32 × Sg) :=
  ck (inr a3 60) (
  if (s.1 49 a3.toNatClampNeg) = 60 then
    bd (f_X2_lying_53 (s.1 46 a3.toNatClampNeg) s) (fun r2 s3 =>
    if (s3.1 47 a3.toNatClampNeg) ≤ r2 then
      some (0, s3)
    else
      some (1, s3)
    )
  else
  if (s.1 49 a3.toNatClampNeg) = 62 then
    bd (f_X2_lying_53 (s.1 46 a3.toNatClampNeg) s) (fun r4 s5 =>
    if r4 ≤ (s5.1 47 a3.toNatClampNeg) then
      some (0, s5)
    else
      some (1, s5)
    )
  else
  if (s.1 49 a3.toNatClampNeg) = 125 then
    bd (f_X11_has (s.1 53 5) (s.1 46 a3.toNatClampNeg) s) (fun r6 s7 =>
    ck (r6 = 0 ∨ r6 = 1) (some (r6, s7))
    )
  else
  if (s.1 49 a3.toNatClampNeg) = 126 then
    bd (f_X9_inTruce_53_25 s) (fun r8 s9 =>
    bd (f_X11_has r8 (s.1 46 a3.toNatClampNeg) s9) (fun r10 s11 =>
    ck (r10 = 0 ∨ r10 = 1) (some (r10, s11))
    )
    )
  else
    bd (f_X2_lying_53 (s.1 46 a3.toNatClampNeg) s) (fun r12 s13 =>
    if r12 = (s13.1 47 a3.toNatClampNeg) then
      some (1, s13)
    else
      some (0, s13)
    )
  )
set_option maxRecDepth 100000 in
theorem w_X3_holds_53_27_25 {d : Nat} {s : Sg} {Q : Qt} (a3 : Int32) (H : OQ (f_X3_holds_53_27_25 a3 s) (fun r9 s9 => Q (some (.int r9)) s9)) : WpM SHC MT (d + 4) 43 [.ref 25, .ref 53, .ref 27, .int a3] s Q := by
  refine WpM.enter me_X3_holds rfl rfl ?_
  show Y_X3_holds_53_27_25 d Q 0 [(0, .ref 25), (1, .ref 53), (2, .ref 27), (3, .int a3)] [] s
  unfold f_X3_holds_53_27_25 at H
  obtain ⟨hc1, H⟩ := oq_ck H
  refine Wp.r_aload_n o_X3_holds rfl rfl (Wp.r_gfr o_X3_holds rfl fk_C_27_1 (Wp.r_iload_n o_X3_holds rfl rfl (Wp.r_iaload o_X3_holds rfl ak_C_46 (⟨hc1, ?_⟩))))
  refine Wp.r_istore o_X3_holds rfl (Wp.r_aload_n o_X3_holds rfl rfl (Wp.r_gfr o_X3_holds rfl fk_C_27_4 (Wp.r_iload_n o_X3_holds rfl rfl (Wp.r_iaload o_X3_holds rfl ak_C_49 (⟨hc1, ?_⟩)))))
  refine Wp.r_lsw o_X3_holds rfl (show ((s.1 49 a3.toNatClampNeg) = 60 → Y_X3_holds_53_27_25 d Q 77 [(4, .int (s.1 46 a3.toNatClampNeg)), (0, .ref 25), (1, .ref 53), (2, .ref 27), (3, .int a3)] [] s) ∧ (¬ (s.1 49 a3.toNatClampNeg) = 60 → ((s.1 49 a3.toNatClampNeg) = 62 → Y_X3_holds_53_27_25 d Q 98 [(4, .int (s.1 46 a3.toNatClampNeg)), (0, .ref 25), (1, .ref 53), (2, .ref 27), (3, .int a3)] [] s) ∧ (¬ (s.1 49 a3.toNatClampNeg) = 62 → ((s.1 49 a3.toNatClampNeg) = 125 → Y_X3_holds_53_27_25 d Q 56 [(4, .int (s.1 46 a3.toNatClampNeg)), (0, .ref 25), (1, .ref 53), (2, .ref 27), (3, .int a3)] [] s) ∧ (¬ (s.1 49 a3.toNatClampNeg) = 125 → ((s.1 49 a3.toNatClampNeg) = 126 → Y_X3_holds_53_27_25 d Q 66 [(4, .int (s.1 46 a3.toNatClampNeg)), (0, .ref 25), (1, .ref 53), (2, .ref 27), (3, .int a3)] [] s) ∧ (¬ (s.1 49 a3.toNatClampNeg) = 126 → Y_X3_holds_53_27_25 d Q 119 [(4, .int (s.1 46 a3.toNatClampNeg)), (0, .ref 25), (1, .ref 53), (2, .ref 27), (3, .int a3)] [] s)))) from ⟨fun e9 => ?_, fun c9_0 => ⟨fun e9 => ?_, fun c9_1 => ⟨fun e9 => ?_, fun c9_2 => ⟨fun e9 => ?_, fun c9_3 => ?_⟩⟩⟩⟩)
  · have H := oq_t e9 H
    refine Wp.r_aload_n o_X3_holds rfl rfl (Wp.r_iload o_X3_holds rfl rfl (Wp.r_cv2 o_X3_holds rfl fk_C_53_0 (⟨rm8_ rfl, ?_⟩)))
    refine w_X2_lying_53 (d := d + 2) _ ?_
    refine oq_bd H (fun r2 s3 H => ?_)
    show Y_X3_holds_53_27_25 d Q 83 [(4, .int (s.1 46 a3.toNatClampNeg)), (0, .ref 25), (1, .ref 53), (2, .ref 27), (3, .int a3)] [.int r2] s3
    refine Wp.r_aload_n o_X3_holds rfl rfl (Wp.r_gfr o_X3_holds rfl fk_C_27_2 (Wp.r_iload_n o_X3_holds rfl rfl (Wp.r_iaload o_X3_holds rfl ak_C_47 (⟨hc1, ?_⟩))))
    refine Wp.r_icmp_ge o_X3_holds rfl (fun c9 => ?_) (fun c9 => ?_)
    · have H := oq_t c9 H
      exact Wp.r_iconst o_X3_holds rfl (Wp.r_ireturn o_X3_holds rfl (⟨rfl, H⟩))
    · have H := oq_f c9 H
      exact Wp.r_iconst o_X3_holds rfl (Wp.r_goto o_X3_holds rfl (Wp.r_ireturn o_X3_holds rfl (⟨rfl, H⟩)))
  · have H := oq_f c9_0 H; have H := oq_t e9 H
    refine Wp.r_aload_n o_X3_holds rfl rfl (Wp.r_iload o_X3_holds rfl rfl (Wp.r_cv2 o_X3_holds rfl fk_C_53_0 (⟨rm8_ rfl, ?_⟩)))
    refine w_X2_lying_53 (d := d + 2) _ ?_
    refine oq_bd H (fun r4 s5 H => ?_)
    show Y_X3_holds_53_27_25 d Q 104 [(4, .int (s.1 46 a3.toNatClampNeg)), (0, .ref 25), (1, .ref 53), (2, .ref 27), (3, .int a3)] [.int r4] s5
    refine Wp.r_aload_n o_X3_holds rfl rfl (Wp.r_gfr o_X3_holds rfl fk_C_27_2 (Wp.r_iload_n o_X3_holds rfl rfl (Wp.r_iaload o_X3_holds rfl ak_C_47 (⟨hc1, ?_⟩))))
    refine Wp.r_icmp_le o_X3_holds rfl (fun c9 => ?_) (fun c9 => ?_)
    · have H := oq_t c9 H
      exact Wp.r_iconst o_X3_holds rfl (Wp.r_ireturn o_X3_holds rfl (⟨rfl, H⟩))
    · have H := oq_f c9 H
      exact Wp.r_iconst o_X3_holds rfl (Wp.r_goto o_X3_holds rfl (Wp.r_ireturn o_X3_holds rfl (⟨rfl, H⟩)))
  · have H := oq_f c9_0 H; have H := oq_f c9_1 H; have H := oq_t e9 H
    refine Wp.r_aload_n o_X3_holds rfl rfl (Wp.r_gfi o_X3_holds rfl fk_C_53_5 (Wp.r_iload o_X3_holds rfl rfl (Wp.r_cs2 o_X3_holds rfl (⟨rm8_ rfl, ?_⟩))))
    refine w_X11_has (d := d + 2) _ _ ?_
    refine oq_bd H (fun r6 s7 H => ?_)
    show Y_X3_holds_53_27_25 d Q 65 [(4, .int (s.1 46 a3.toNatClampNeg)), (0, .ref 25), (1, .ref 53), (2, .ref 27), (3, .int a3)] [.int r6] s7
    obtain ⟨c9, H⟩ := oq_ck H
    exact Wp.r_ireturn o_X3_holds rfl (⟨b01_n c9, H⟩)
  · have H := oq_f c9_0 H; have H := oq_f c9_1 H; have H := oq_f c9_2 H; have H := oq_t e9 H
    refine Wp.r_aload_n o_X3_holds rfl rfl (Wp.r_aload_n o_X3_holds rfl rfl (Wp.r_cs2 o_X3_holds rfl (⟨rm8_ rfl, ?_⟩)))
    refine w_X9_inTruce_53_25 (d := d)  ?_
    refine oq_bd H (fun r8 s9 H => ?_)
    show Y_X3_holds_53_27_25 d Q 71 [(4, .int (s.1 46 a3.toNatClampNeg)), (0, .ref 25), (1, .ref 53), (2, .ref 27), (3, .int a3)] [.int r8] s9
    refine Wp.r_iload o_X3_holds rfl rfl (Wp.r_cs2 o_X3_holds rfl (⟨rm8_ rfl, ?_⟩))
    refine w_X11_has (d := d + 2) _ _ ?_
    refine oq_bd H (fun r10 s11 H => ?_)
    show Y_X3_holds_53_27_25 d Q 76 [(4, .int (s.1 46 a3.toNatClampNeg)), (0, .ref 25), (1, .ref 53), (2, .ref 27), (3, .int a3)] [.int r10] s11
    obtain ⟨c9, H⟩ := oq_ck H
    exact Wp.r_ireturn o_X3_holds rfl (⟨b01_n c9, H⟩)
  · have H := oq_f c9_0 H; have H := oq_f c9_1 H; have H := oq_f c9_2 H; have H := oq_f c9_3 H
    refine Wp.r_aload_n o_X3_holds rfl rfl (Wp.r_iload o_X3_holds rfl rfl (Wp.r_cv2 o_X3_holds rfl fk_C_53_0 (⟨rm8_ rfl, ?_⟩)))
    refine w_X2_lying_53 (d := d + 2) _ ?_
    refine oq_bd H (fun r12 s13 H => ?_)
    show Y_X3_holds_53_27_25 d Q 125 [(4, .int (s.1 46 a3.toNatClampNeg)), (0, .ref 25), (1, .ref 53), (2, .ref 27), (3, .int a3)] [.int r12] s13
    refine Wp.r_aload_n o_X3_holds rfl rfl (Wp.r_gfr o_X3_holds rfl fk_C_27_2 (Wp.r_iload_n o_X3_holds rfl rfl (Wp.r_iaload o_X3_holds rfl ak_C_47 (⟨hc1, ?_⟩))))
    refine Wp.r_icmp_ne o_X3_holds rfl (fun c9 => ?_) (fun c9 => ?_)
    · have H := oq_t c9 H
      exact Wp.r_iconst o_X3_holds rfl (Wp.r_goto o_X3_holds rfl (Wp.r_ireturn o_X3_holds rfl (⟨rfl, H⟩)))
    · have H := oq_f c9 H
      exact Wp.r_iconst o_X3_holds rfl (Wp.r_ireturn o_X3_holds rfl (⟨rfl, H⟩))
noncomputable abbrev Y_X3_behindStep_25_53_27_5 (d : Nat) (Q : Qt) : Xt := Wp SHC (WpM SHC MT (d + 4)) (flat2 cq_X3_behindStep) (some .int) Q
noncomputable def f_X3_behindStep_25_53_27_5 (a4 : Int32) (s : Sg) : Option (Int32 × Sg) :=
  ck (inr a4 60) (
  if (s.1 45 a4.toNatClampNeg) = 124 then
    bd (f_X3_holds_53_27_25 a4 s) (fun r2 s3 =>
    if r2 = 0 then
      some ((s3.1 50 a4.toNatClampNeg) + 1, s3)
    else
      some (a4 + 1, s3)
    )
  else
  if (s.1 45 a4.toNatClampNeg) = 128 then
    nmx (pI s 19 a4.toNatClampNeg (s.1 47 a4.toNatClampNeg)) (fun s4 =>
    some (a4 + 1, s4)
    )
  else
  if (s.1 45 a4.toNatClampNeg) = 130 then
    some (s.1 27 7, s)
  else
    some (a4 + 1, s)
  )
set_option maxRecDepth 100000 in
theorem w_X3_behindStep_25_53_27_5 {d : Nat} {s : Sg} {Q : Qt} (a4 : Int32) (H : OQ (f_X3_behindStep_25_53_27_5 a4 s) (fun r9 s9 => Q (some (.int r9)) s9)) : WpM SHC MT (d + 5) 42 [.ref 5, .ref 25, .ref 53, .ref 27, .int a4] s Q := by
  refine WpM.enter me_X3_behindStep rfl rfl ?_
  show Y_X3_behindStep_25_53_27_5 d Q 0 [(0, .ref 5), (1, .ref 25), (2, .ref 53), (3, .ref 27), (4, .int a4)] [] s
  unfold f_X3_behindStep_25_53_27_5 at H
  obtain ⟨hc1, H⟩ := oq_ck H
  refine Wp.r_aload_n o_X3_behindStep rfl rfl (Wp.r_gfr o_X3_behindStep rfl fk_C_27_0 (Wp.r_iload o_X3_behindStep rfl rfl (Wp.r_iaload o_X3_behindStep rfl ak_C_45 (⟨hc1, ?_⟩))))
  refine Wp.r_lsw o_X3_behindStep rfl (show ((s.1 45 a4.toNatClampNeg) = 124 → Y_X3_behindStep_25_53_27_5 d Q 40 [(0, .ref 5), (1, .ref 25), (2, .ref 53), (3, .ref 27), (4, .int a4)] [] s) ∧ (¬ (s.1 45 a4.toNatClampNeg) = 124 → ((s.1 45 a4.toNatClampNeg) = 128 → Y_X3_behindStep_25_53_27_5 d Q 68 [(0, .ref 5), (1, .ref 25), (2, .ref 53), (3, .ref 27), (4, .int a4)] [] s) ∧ (¬ (s.1 45 a4.toNatClampNeg) = 128 → ((s.1 45 a4.toNatClampNeg) = 130 → Y_X3_behindStep_25_53_27_5 d Q 87 [(0, .ref 5), (1, .ref 25), (2, .ref 53), (3, .ref 27), (4, .int a4)] [] s) ∧ (¬ (s.1 45 a4.toNatClampNeg) = 130 → Y_X3_behindStep_25_53_27_5 d Q 92 [(0, .ref 5), (1, .ref 25), (2, .ref 53), (3, .ref 27), (4, .int a4)] [] s))) from ⟨fun e9 => ?_, fun c9_0 => ⟨fun e9 => ?_, fun c9_1 => ⟨fun e9 => ?_, fun c9_2 => ?_⟩⟩⟩)
  · have H := oq_t e9 H
    refine Wp.r_aload_n o_X3_behindStep rfl rfl (Wp.r_aload_n o_X3_behindStep rfl rfl (Wp.r_aload_n o_X3_behindStep rfl rfl (Wp.r_iload o_X3_behindStep rfl rfl (Wp.r_cs4 o_X3_behindStep rfl (⟨rm8_ rfl, ?_⟩)))))
    refine w_X3_holds_53_27_25 (d := d) _ ?_
    refine oq_bd H (fun r2 s3 H => ?_)
    show Y_X3_behindStep_25_53_27_5 d Q 48 [(0, .ref 5), (1, .ref 25), (2, .ref 53), (3, .ref 27), (4, .int a4)] [.int r2] s3
    refine Wp.r_if_eq o_X3_behindStep rfl (fun c9 => ?_) (fun c9 => ?_)
    · have H := oq_t c9 H
      refine Wp.r_aload_n o_X3_behindStep rfl rfl (Wp.r_gfr o_X3_behindStep rfl fk_C_27_5 (Wp.r_iload o_X3_behindStep rfl rfl (Wp.r_iaload o_X3_behindStep rfl ak_C_50 (⟨hc1, ?_⟩))))
      exact Wp.r_iconst o_X3_behindStep rfl (Wp.r_iadd o_X3_behindStep rfl (Wp.r_ireturn o_X3_behindStep rfl (⟨rfl, H⟩)))
    · have H := oq_f c9 H
      exact Wp.r_iload o_X3_behindStep rfl rfl (Wp.r_iconst o_X3_behindStep rfl (Wp.r_iadd o_X3_behindStep rfl (Wp.r_goto o_X3_behindStep rfl (Wp.r_ireturn o_X3_behindStep rfl (⟨rfl, H⟩)))))
  · have H := oq_f c9_0 H; have H := oq_t e9 H
    refine Wp.r_aload_n o_X3_behindStep rfl rfl (Wp.r_gfr o_X3_behindStep rfl fk_C_5_0 (Wp.r_iload o_X3_behindStep rfl rfl (Wp.r_aload_n o_X3_behindStep rfl rfl (Wp.r_gfr o_X3_behindStep rfl fk_C_27_2 (Wp.r_iload o_X3_behindStep rfl rfl (Wp.r_iaload o_X3_behindStep rfl ak_C_47 (⟨hc1, ?_⟩)))))))
    refine Wp.r_iastore o_X3_behindStep rfl ak_C_19 (⟨hc1, ?_⟩)
    revert H
    generalize pI s 19 a4.toNatClampNeg (s.1 47 a4.toNatClampNeg) = s4
    intro H
    have H := nmx_e H
    exact Wp.r_iload o_X3_behindStep rfl rfl (Wp.r_iconst o_X3_behindStep rfl (Wp.r_iadd o_X3_behindStep rfl (Wp.r_ireturn o_X3_behindStep rfl (⟨rfl, H⟩))))
  · have H := oq_f c9_0 H; have H := oq_f c9_1 H; have H := oq_t e9 H
    exact Wp.r_aload_n o_X3_behindStep rfl rfl (Wp.r_gfi o_X3_behindStep rfl fk_C_27_7 (Wp.r_ireturn o_X3_behindStep rfl (⟨rfl, H⟩)))
  · have H := oq_f c9_0 H; have H := oq_f c9_1 H; have H := oq_f c9_2 H
    exact Wp.r_iload o_X3_behindStep rfl rfl (Wp.r_iconst o_X3_behindStep rfl (Wp.r_iadd o_X3_behindStep rfl (Wp.r_ireturn o_X3_behindStep rfl (⟨rfl, H⟩))))
noncomputable abbrev Y_X3_run_25_53_27_5 (d : Nat) (Q : Qt) : Xt := Wp SHC (WpM SHC MT (d + 6)) (flat2 cq_X3_run) (none) Q
noncomputable def f_X3_run_25_53_27_5_b12 : Nat → Int32 → Int32 → Sg → Option (Unit × Sg)
  | 0, _, _, _ => none
  | n + 1, v5, v6, s =>
    if 1000000 ≤ v6 then
      some ((), s)
    else
      if (s.1 27 7) ≤ v5 then
        some ((), s)
      else
        ck (inr v5 60) (
        if (s.1 45 v5.toNatClampNeg) = 129 then
          bd (f_X3_behindEnd_27_5 v5 s) (fun r4 s5 =>
          (f_X3_run_25_53_27_5_b12 n) r4 (v6 + 1) s5
          )
        else
          if (s.1 5 3) < 300 then
            bd (f_X3_act_25_53_27_5 v5 (pI s 5 3 ((s.1 5 3) + 1))) (fun _ s7 =>
            bd (f_X3_behindStep_25_53_27_5 v5 s7) (fun r8 s9 =>
            (f_X3_run_25_53_27_5_b12 n) r8 (v6 + 1) s9
            )
            )
          else
            some ((), pI s 5 8 1)
        )
set_option maxRecDepth 100000 in
theorem w_X3_run_25_53_27_5_b12 {d : Nat} {Q : Qt} (n : Nat) : ∀ (v5 : Int32) (v6 : Int32) (s : Sg), OQ (f_X3_run_25_53_27_5_b12 n v5 v6 s) (fun _ s9 => Q none s9) → Y_X3_run_25_53_27_5 d Q 12 [(0, .ref 5), (1, .ref 25), (2, .ref 53), (3, .ref 27), (5, .int v5), (6, .int v6)] [] s := by
  induction n with
  | zero => intro v5 v6 s H; exact H.elim
  | succ n ih =>
    intro v5 v6 s H
    unfold f_X3_run_25_53_27_5_b12 at H
    refine Wp.r_iload o_X3_run rfl rfl (Wp.r_ldc o_X3_run rfl (Wp.r_icmp_ge o_X3_run rfl (fun c9 => ?_) (fun c9 => ?_)))
    · have H := oq_t c9 H
      exact Wp.r_return o_X3_run rfl (H)
    · have H := oq_f c9 H
      refine Wp.r_iload o_X3_run rfl rfl (Wp.r_aload_n o_X3_run rfl rfl (Wp.r_gfi o_X3_run rfl fk_C_27_7 (Wp.r_icmp_ge o_X3_run rfl (fun c9 => ?_) (fun c9 => ?_))))
      · have H := oq_t c9 H
        exact Wp.r_return o_X3_run rfl (H)
      · have H := oq_f c9 H
        obtain ⟨hc3, H⟩ := oq_ck H
        refine Wp.r_aload_n o_X3_run rfl rfl (Wp.r_gfr o_X3_run rfl fk_C_27_0 (Wp.r_iload o_X3_run rfl rfl (Wp.r_iaload o_X3_run rfl ak_C_45 (⟨hc3, ?_⟩))))
        refine Wp.r_sipush o_X3_run rfl (Wp.r_icmp_ne o_X3_run rfl (fun c9 => ?_) (fun c9 => ?_))
        · have H := oq_t c9 H
          refine Wp.r_aload_n o_X3_run rfl rfl (Wp.r_aload_n o_X3_run rfl rfl (Wp.r_iload o_X3_run rfl rfl (Wp.r_cv3 o_X3_run rfl fk_C_5_0 (⟨rm8_ rfl, ?_⟩))))
          refine w_X3_behindEnd_27_5 (d := d + 5) _ ?_
          refine oq_bd H (fun r4 s5 H => ?_)
          show Y_X3_run_25_53_27_5 d Q 48 [(0, .ref 5), (1, .ref 25), (2, .ref 53), (3, .ref 27), (5, .int v5), (6, .int v6)] [.int r4] s5
          exact Wp.r_istore o_X3_run rfl (Wp.r_goto o_X3_run rfl (Wp.r_iinc o_X3_run rfl rfl (Wp.r_goto o_X3_run rfl (Wp.weak2 [2, 3, 4, 5, 1, 0] (ih _ _ _ H) rfl))))
        · have H := oq_f c9 H
          refine Wp.r_aload_n o_X3_run rfl rfl (Wp.r_gfi o_X3_run rfl fk_C_5_3 (Wp.r_sipush o_X3_run rfl (Wp.r_icmp_lt o_X3_run rfl (fun c9 => ?_) (fun c9 => ?_))))
          · have H := oq_t c9 H
            refine Wp.r_aload_n o_X3_run rfl rfl (Wp.r_dup_r o_X3_run rfl (Wp.r_gfi o_X3_run rfl fk_C_5_3 (Wp.r_iconst o_X3_run rfl (Wp.r_iadd o_X3_run rfl (Wp.r_pfi o_X3_run rfl fk_C_5_3 (Wp.r_aload_n o_X3_run rfl rfl (Wp.r_aload_n o_X3_run rfl rfl (Wp.r_aload_n o_X3_run rfl rfl (Wp.r_aload_n o_X3_run rfl rfl (Wp.r_iload o_X3_run rfl rfl (Wp.r_cv5 o_X3_run rfl fk_C_5_0 (⟨rm8_ rfl, ?_⟩))))))))))))
            refine w_X3_act_25_53_27_5 (d := d) _ ?_
            refine oq_bd H (fun _ s7 H => ?_)
            show Y_X3_run_25_53_27_5 d Q 88 [(0, .ref 5), (1, .ref 25), (2, .ref 53), (3, .ref 27), (5, .int v5), (6, .int v6)] [] s7
            refine Wp.r_aload_n o_X3_run rfl rfl (Wp.r_aload_n o_X3_run rfl rfl (Wp.r_aload_n o_X3_run rfl rfl (Wp.r_aload_n o_X3_run rfl rfl (Wp.r_iload o_X3_run rfl rfl (Wp.r_cv5 o_X3_run rfl fk_C_5_0 (⟨rm8_ rfl, ?_⟩))))))
            refine w_X3_behindStep_25_53_27_5 (d := d + 1) _ ?_
            refine oq_bd H (fun r8 s9 H => ?_)
            show Y_X3_run_25_53_27_5 d Q 97 [(0, .ref 5), (1, .ref 25), (2, .ref 53), (3, .ref 27), (5, .int v5), (6, .int v6)] [.int r8] s9
            exact Wp.r_istore o_X3_run rfl (Wp.r_iinc o_X3_run rfl rfl (Wp.r_goto o_X3_run rfl (Wp.weak2 [2, 3, 4, 5, 1, 0] (ih _ _ _ H) rfl)))
          · have H := oq_f c9 H
            refine Wp.r_aload_n o_X3_run rfl rfl (Wp.r_iconst o_X3_run rfl (Wp.r_pfz o_X3_run rfl fk_C_5_8 (show ((1 : Int32) = 0 ∨ 1 = 1) ∧ Y_X3_run_25_53_27_5 d Q 68 [(0, .ref 5), (1, .ref 25), (2, .ref 53), (3, .ref 27), (5, .int v5), (6, .int v6)] [] (pI s 5 8 1) from ⟨Or.inr rfl, ?_⟩)))
            exact Wp.r_return o_X3_run rfl (H)
noncomputable def f_X3_run_25_53_27_5 (a4 : Int32) (s : Sg) : Option (Unit × Sg) :=
  bd (f_X3_begin_5 a4 s) (fun _ s2 =>
  f_X3_run_25_53_27_5_b12 BIG 0 0 s2
  )
set_option maxRecDepth 100000 in
theorem w_X3_run_25_53_27_5 {d : Nat} {s : Sg} {Q : Qt} (a4 : Int32) (H : OQ (f_X3_run_25_53_27_5 a4 s) (fun _ s9 => Q none s9)) : WpM SHC MT (d + 7) 38 [.ref 5, .ref 25, .ref 53, .ref 27, .int a4] s Q := by
  refine WpM.enter me_X3_run rfl rfl ?_
  show Y_X3_run_25_53_27_5 d Q 0 [(0, .ref 5), (1, .ref 25), (2, .ref 53), (3, .ref 27), (4, .int a4)] [] s
  unfold f_X3_run_25_53_27_5 at H
  refine Wp.r_aload_n o_X3_run rfl rfl (Wp.r_iload o_X3_run rfl rfl (Wp.r_cv2 o_X3_run rfl fk_C_5_0 (⟨rm8_ rfl, ?_⟩)))
  refine w_X3_begin_5 (d := d + 5) _ ?_
  refine oq_bd H (fun _ s2 H => ?_)
  show Y_X3_run_25_53_27_5 d Q 6 [(0, .ref 5), (1, .ref 25), (2, .ref 53), (3, .ref 27), (4, .int a4)] [] s2
  exact Wp.r_iconst o_X3_run rfl (Wp.r_istore o_X3_run rfl (Wp.r_iconst o_X3_run rfl (Wp.r_istore o_X3_run rfl (Wp.weak2 [2, 3, 4, 5, 1, 0] (w_X3_run_25_53_27_5_b12 _ _ _ _ H) rfl))))
noncomputable abbrev Y_X11_odds (d : Nat) (Q : Qt) : Xt := Wp SHC (WpM SHC MT (d + 7)) (flat2 cq_X11_odds) (some .boolean) Q
noncomputable def f_X11_odds_b72 : Nat → Int32 → Int32 → Int32 → Int32 → Int32 → Sg → Option (Int32 × Sg)
  | 0, _, _, _, _, _, _ => none
  | n + 1, v1, v2, v3, v4, v5, s =>
    if v3 ≤ v5 then
      bd (f_X11_tellFraction v4.toInt64 v3.toInt64 s) (fun _ s16 =>
      bd (f_X11_granted s16) (fun r17 s18 =>
      ck (r17 = 0 ∨ r17 = 1) (some (r17, s18))
      )
      )
    else
      bd (f_X2_copyFrom_26_53 s) (fun _ s20 =>
      bd (f_X3_run_25_53_27_5 (v2 + v5) s20) (fun _ s22 =>
      if ((s22.1 53 5) &&& v1) = v1 then
        (f_X11_odds_b72 n) v1 v2 v3 (v4 + 1) (v5 + 1) s22
      else
        (f_X11_odds_b72 n) v1 v2 v3 v4 (v5 + 1) s22
      )
      )
set_option maxRecDepth 100000 in
theorem w_X11_odds_b72 {d : Nat} {Q : Qt} (n : Nat) : ∀ (v1 : Int32) (v2 : Int32) (v3 : Int32) (v4 : Int32) (v5 : Int32) (s : Sg), OQ (f_X11_odds_b72 n v1 v2 v3 v4 v5 s) (fun r9 s9 => Q (some (.int r9)) s9) → Y_X11_odds d Q 72 [(0, .ref 0), (1, .int v1), (2, .int v2), (3, .int v3), (4, .int v4), (5, .int v5)] [] s := by
  induction n with
  | zero => intro v1 v2 v3 v4 v5 s H; exact H.elim
  | succ n ih =>
    intro v1 v2 v3 v4 v5 s H
    unfold f_X11_odds_b72 at H
    refine Wp.r_iload o_X11_odds rfl rfl (Wp.r_iload_n o_X11_odds rfl rfl (Wp.r_icmp_ge o_X11_odds rfl (fun c9 => ?_) (fun c9 => ?_)))
    · have H := oq_t c9 H
      refine Wp.r_aload_n o_X11_odds rfl rfl (Wp.r_iload o_X11_odds rfl rfl (Wp.r_i2l o_X11_odds rfl (Wp.r_iload_n o_X11_odds rfl rfl (Wp.r_i2l o_X11_odds rfl (Wp.r_cv3 o_X11_odds rfl fk_C_0_0 (⟨rm8_ rfl, ?_⟩))))))
      refine w_X11_tellFraction (d := d + 6) _ _ ?_
      refine oq_bd H (fun _ s16 H => ?_)
      show Y_X11_odds d Q 137 [(0, .ref 0), (1, .int v1), (2, .int v2), (3, .int v3), (4, .int v4), (5, .int v5)] [] s16
      refine Wp.r_aload_n o_X11_odds rfl rfl (Wp.r_cv1 o_X11_odds rfl fk_C_0_0 (⟨rm8_ rfl, ?_⟩))
      refine w_X11_granted (d := d + 6)  ?_
      refine oq_bd H (fun r17 s18 H => ?_)
      show Y_X11_odds d Q 141 [(0, .ref 0), (1, .int v1), (2, .int v2), (3, .int v3), (4, .int v4), (5, .int v5)] [.int r17] s18
      obtain ⟨c9, H⟩ := oq_ck H
      exact Wp.r_ireturn o_X11_odds rfl (⟨b01_n c9, H⟩)
    · have H := oq_f c9 H
      refine Wp.r_aload_n o_X11_odds rfl rfl (Wp.r_cv1 o_X11_odds rfl fk_C_0_0 (⟨rm8_ rfl, ?_⟩))
      refine WpM.enter me_X11_foresee rfl rfl ?_
      show Wp SHC _ (flat2 cq_X11_foresee) _ _ 0 [(0, .ref 0)] [] _
      refine Wp.r_aload_n o_X11_foresee rfl rfl (Wp.r_gfr o_X11_foresee rfl fk_C_0_3 (Wp.r_gfr o_X11_foresee rfl fk_C_51_1 (Wp.r_aload_n o_X11_foresee rfl rfl (Wp.r_gfr o_X11_foresee rfl fk_C_0_6 (Wp.r_cv2 o_X11_foresee rfl fk_C_53_0 (⟨rm8_ rfl, ?_⟩))))))
      refine w_X2_copyFrom_26_53 (d := d + 4)  ?_
      refine oq_bd H (fun _ s20 H => ?_)
      show Wp SHC _ (flat2 cq_X11_foresee) _ _ 14 [(0, .ref 0)] [] s20
      refine Wp.r_aload_n o_X11_foresee rfl rfl (Wp.r_gfr o_X11_foresee rfl fk_C_0_3 (Wp.r_gfr o_X11_foresee rfl fk_C_51_1 (Wp.r_areto o_X11_foresee rfl (show Y_X11_odds d Q 82 [(0, .ref 0), (1, .int v1), (2, .int v2), (3, .int v3), (4, .int v4), (5, .int v5)] [.ref 53] s20 from ?_))))
      refine Wp.r_astore o_X11_odds rfl (Wp.r_aload_n o_X11_odds rfl rfl (Wp.r_gfr o_X11_odds rfl fk_C_0_8 (Wp.r_aload_n o_X11_odds rfl rfl (Wp.r_gfr o_X11_odds rfl fk_C_0_5 (Wp.r_aload o_X11_odds rfl rfl (Wp.r_aload_n o_X11_odds rfl rfl (Wp.r_gfr o_X11_odds rfl fk_C_0_2 (Wp.r_gfr o_X11_odds rfl fk_C_24_2 (Wp.r_iload_n o_X11_odds rfl rfl (Wp.r_iload o_X11_odds rfl rfl (Wp.r_iadd o_X11_odds rfl (Wp.r_cv5 o_X11_odds rfl fk_C_5_0 (⟨rm8_ rfl, ?_⟩)))))))))))))
      refine w_X3_run_25_53_27_5 (d := d) _ ?_
      refine oq_bd H (fun _ s22 H => ?_)
      show Y_X11_odds d Q 108 [(6, .ref 53), (0, .ref 0), (1, .int v1), (2, .int v2), (3, .int v3), (4, .int v4), (5, .int v5)] [] s22
      refine Wp.r_aload o_X11_odds rfl rfl (Wp.r_gfi o_X11_odds rfl fk_C_53_5 (Wp.r_iload_n o_X11_odds rfl rfl (Wp.r_iand o_X11_odds rfl (Wp.r_iload_n o_X11_odds rfl rfl (Wp.r_icmp_ne o_X11_odds rfl (fun c9 => ?_) (fun c9 => ?_))))))
      · have H := oq_t c9 H
        exact Wp.r_iinc o_X11_odds rfl rfl (Wp.r_iinc o_X11_odds rfl rfl (Wp.r_goto o_X11_odds rfl (Wp.weak2 [3, 4, 5, 6, 1, 0] (ih _ _ _ _ _ _ H) rfl)))
      · have H := oq_f c9 H
        exact Wp.r_iinc o_X11_odds rfl rfl (Wp.r_goto o_X11_odds rfl (Wp.weak2 [2, 3, 4, 5, 6, 0] (ih _ _ _ _ _ _ H) rfl))
noncomputable def f_X11_odds (a1 : Int32) (a2 : Int32) (a3 : Int32) (s : Sg) : Option (Int32 × Sg) :=
  bd (f_X11_isSet a1 s) (fun r1 s2 =>
  if r1 = 0 then
    bd (f_X11_refused 1 s2) (fun r3 s4 =>
    ck (r3 = 0 ∨ r3 = 1) (some (r3, s4))
    )
  else
    bd (f_X11_within a2 0 9999 s2) (fun r5 s6 =>
    if r5 = 0 then
      bd (f_X11_refused 1 s6) (fun r7 s8 =>
      ck (r7 = 0 ∨ r7 = 1) (some (r7, s8))
      )
    else
      bd (f_X11_within a3 1 20 s6) (fun r9 s10 =>
      if r9 = 0 then
        bd (f_X11_refused 1 s10) (fun r11 s12 =>
        ck (r11 = 0 ∨ r11 = 1) (some (r11, s12))
        )
      else
        if ((a2 + a3) - 1) ≤ 9999 then
          if (s10.1 27 6) = 0 then
            bd (f_X11_refused 6 s10) (fun r13 s14 =>
            ck (r13 = 0 ∨ r13 = 1) (some (r13, s14))
            )
          else
            f_X11_odds_b72 BIG a1 a2 a3 0 0 s10
        else
          bd (f_X11_refused 1 s10) (fun r23 s24 =>
          ck (r23 = 0 ∨ r23 = 1) (some (r23, s24))
          )
      )
    )
  )
set_option maxRecDepth 100000 in
theorem w_X11_odds {d : Nat} {s : Sg} {Q : Qt} (a1 : Int32) (a2 : Int32) (a3 : Int32) (H : OQ (f_X11_odds a1 a2 a3 s) (fun r9 s9 => Q (some (.int r9)) s9)) : WpM SHC MT (d + 8) 161 [.ref 0, .int a1, .int a2, .int a3] s Q := by
  refine WpM.enter me_X11_odds rfl rfl ?_
  show Y_X11_odds d Q 0 [(0, .ref 0), (1, .int a1), (2, .int a2), (3, .int a3)] [] s
  unfold f_X11_odds at H
  refine Wp.r_aload_n o_X11_odds rfl rfl (Wp.r_iload_n o_X11_odds rfl rfl (Wp.r_cv2 o_X11_odds rfl fk_C_0_0 (⟨rm8_ rfl, ?_⟩)))
  refine w_X11_isSet (d := d + 5) _ ?_
  refine oq_bd H (fun r1 s2 H => ?_)
  show Y_X11_odds d Q 5 [(0, .ref 0), (1, .int a1), (2, .int a2), (3, .int a3)] [.int r1] s2
  refine Wp.r_if_eq o_X11_odds rfl (fun c9 => ?_) (fun c9 => ?_)
  · have H := oq_t c9 H
    refine Wp.r_aload_n o_X11_odds rfl rfl (Wp.r_iconst o_X11_odds rfl (Wp.r_cv2 o_X11_odds rfl fk_C_0_0 (⟨rm8_ rfl, ?_⟩)))
    refine w_X11_refused (d := d + 6) _ ?_
    refine oq_bd H (fun r3 s4 H => ?_)
    show Y_X11_odds d Q 45 [(0, .ref 0), (1, .int a1), (2, .int a2), (3, .int a3)] [.int r3] s4
    obtain ⟨c9, H⟩ := oq_ck H
    exact Wp.r_ireturn o_X11_odds rfl (⟨b01_n c9, H⟩)
  · have H := oq_f c9 H
    refine Wp.r_iload_n o_X11_odds rfl rfl (Wp.r_iconst o_X11_odds rfl (Wp.r_sipush o_X11_odds rfl (Wp.r_cs3 o_X11_odds rfl (⟨rm8_ rfl, ?_⟩))))
    refine w_X11_within (d := d + 6) _ _ _ ?_
    refine oq_bd H (fun r5 s6 H => ?_)
    show Y_X11_odds d Q 16 [(0, .ref 0), (1, .int a1), (2, .int a2), (3, .int a3)] [.int r5] s6
    refine Wp.r_if_eq o_X11_odds rfl (fun c9 => ?_) (fun c9 => ?_)
    · have H := oq_t c9 H
      refine Wp.r_aload_n o_X11_odds rfl rfl (Wp.r_iconst o_X11_odds rfl (Wp.r_cv2 o_X11_odds rfl fk_C_0_0 (⟨rm8_ rfl, ?_⟩)))
      refine w_X11_refused (d := d + 6) _ ?_
      refine oq_bd H (fun r7 s8 H => ?_)
      show Y_X11_odds d Q 45 [(0, .ref 0), (1, .int a1), (2, .int a2), (3, .int a3)] [.int r7] s8
      obtain ⟨c9, H⟩ := oq_ck H
      exact Wp.r_ireturn o_X11_odds rfl (⟨b01_n c9, H⟩)
    · have H := oq_f c9 H
      refine Wp.r_iload_n o_X11_odds rfl rfl (Wp.r_iconst o_X11_odds rfl (Wp.r_bipush o_X11_odds rfl (Wp.r_cs3 o_X11_odds rfl (⟨rm8_ rfl, ?_⟩))))
      refine w_X11_within (d := d + 6) _ _ _ ?_
      refine oq_bd H (fun r9 s10 H => ?_)
      show Y_X11_odds d Q 26 [(0, .ref 0), (1, .int a1), (2, .int a2), (3, .int a3)] [.int r9] s10
      refine Wp.r_if_eq o_X11_odds rfl (fun c9 => ?_) (fun c9 => ?_)
      · have H := oq_t c9 H
        refine Wp.r_aload_n o_X11_odds rfl rfl (Wp.r_iconst o_X11_odds rfl (Wp.r_cv2 o_X11_odds rfl fk_C_0_0 (⟨rm8_ rfl, ?_⟩)))
        refine w_X11_refused (d := d + 6) _ ?_
        refine oq_bd H (fun r11 s12 H => ?_)
        show Y_X11_odds d Q 45 [(0, .ref 0), (1, .int a1), (2, .int a2), (3, .int a3)] [.int r11] s12
        obtain ⟨c9, H⟩ := oq_ck H
        exact Wp.r_ireturn o_X11_odds rfl (⟨b01_n c9, H⟩)
      · have H := oq_f c9 H
        refine Wp.r_iload_n o_X11_odds rfl rfl (Wp.r_iload_n o_X11_odds rfl rfl (Wp.r_iadd o_X11_odds rfl (Wp.r_iconst o_X11_odds rfl (Wp.r_isub o_X11_odds rfl (Wp.r_sipush o_X11_odds rfl (Wp.r_icmp_le o_X11_odds rfl (fun c9 => ?_) (fun c9 => ?_)))))))
        · have H := oq_t c9 H
          refine Wp.r_aload_n o_X11_odds rfl rfl (Wp.r_gfr o_X11_odds rfl fk_C_0_2 (Wp.r_gfr o_X11_odds rfl fk_C_24_2 (Wp.r_gfi o_X11_odds rfl fk_C_27_6 (Wp.r_if_ne o_X11_odds rfl (fun c9 => ?_) (fun c9 => ?_)))))
          · have H := oq_t c9 H
            refine Wp.r_aload_n o_X11_odds rfl rfl (Wp.r_bipush o_X11_odds rfl (Wp.r_cv2 o_X11_odds rfl fk_C_0_0 (⟨rm8_ rfl, ?_⟩)))
            refine w_X11_refused (d := d + 6) _ ?_
            refine oq_bd H (fun r13 s14 H => ?_)
            show Y_X11_odds d Q 65 [(0, .ref 0), (1, .int a1), (2, .int a2), (3, .int a3)] [.int r13] s14
            obtain ⟨c9, H⟩ := oq_ck H
            exact Wp.r_ireturn o_X11_odds rfl (⟨b01_n c9, H⟩)
          · have H := oq_f c9 H
            exact Wp.r_iconst o_X11_odds rfl (Wp.r_istore o_X11_odds rfl (Wp.r_iconst o_X11_odds rfl (Wp.r_istore o_X11_odds rfl (Wp.weak2 [2, 3, 4, 5, 1, 0] (w_X11_odds_b72 _ _ _ _ _ _ _ H) rfl))))
        · have H := oq_f c9 H
          refine Wp.r_aload_n o_X11_odds rfl rfl (Wp.r_iconst o_X11_odds rfl (Wp.r_cv2 o_X11_odds rfl fk_C_0_0 (⟨rm8_ rfl, ?_⟩)))
          refine w_X11_refused (d := d + 6) _ ?_
          refine oq_bd H (fun r23 s24 H => ?_)
          show Y_X11_odds d Q 45 [(0, .ref 0), (1, .int a1), (2, .int a2), (3, .int a3)] [.int r23] s24
          obtain ⟨c9, H⟩ := oq_ck H
          exact Wp.r_ireturn o_X11_odds rfl (⟨b01_n c9, H⟩)
noncomputable abbrev Y_X11_copyRow_83_29 (d : Nat) (Q : Qt) : Xt := Wp SHC (WpM SHC MT (d + 0)) (flat2 cq_X11_copyRow) (none) Q
noncomputable def f_X11_copyRow_83_29  (s : Sg) : Option (Unit × Sg) :=
  ck (¬ (0 : Int32) < 0 ∧ ¬ (0 : Int32) < 0 ∧ ¬ (if 24 < (24 : Int32) then 24 else (24 : Int32)) < 0 ∧ 0 + (if 24 < (24 : Int32) then 24 else (24 : Int32)).toNatClampNeg ≤ 24 ∧ 0 + (if 24 < (24 : Int32) then 24 else (24 : Int32)).toNatClampNeg ≤ 24) (
  some ((), pA s 83 (va_cpy (s.1 29) (s.1 83) 0 0 (if 24 < (24 : Int32) then 24 else (24 : Int32)).toNatClampNeg))
  )
set_option maxRecDepth 100000 in
theorem w_X11_copyRow_83_29 {d : Nat} {s : Sg} {Q : Qt}  (H : OQ (f_X11_copyRow_83_29  s) (fun _ s9 => Q none s9)) : WpM SHC MT (d + 1) 184 [.ref 29, .ref 83] s Q := by
  refine WpM.enter me_X11_copyRow rfl rfl ?_
  show Y_X11_copyRow_83_29 d Q 0 [(0, .ref 29), (1, .ref 83)] [] s
  unfold f_X11_copyRow_83_29 at H
  refine Wp.r_aload_n o_X11_copyRow rfl rfl (Wp.r_iconst o_X11_copyRow rfl (Wp.r_aload_n o_X11_copyRow rfl rfl (Wp.r_iconst o_X11_copyRow rfl (Wp.r_aload_n o_X11_copyRow rfl rfl (Wp.r_alen o_X11_copyRow rfl lk_C_29 (Wp.r_aload_n o_X11_copyRow rfl rfl (Wp.r_alen o_X11_copyRow rfl lk_C_83 (Wp.r_min o_X11_copyRow rfl (⟨rm8_ rfl, ?_⟩)))))))))
  obtain ⟨c9, H⟩ := oq_ck H
  refine Wp.run 1 (show room8 [] ∧ (¬ (0 : Int32) < 0 ∧ ¬ (0 : Int32) < 0 ∧ ¬ (if 24 < (24 : Int32) then 24 else (24 : Int32)) < 0 ∧ 0 + (if 24 < (24 : Int32) then 24 else (24 : Int32)).toNatClampNeg ≤ 24 ∧ 0 + (if 24 < (24 : Int32) then 24 else (24 : Int32)).toNatClampNeg ≤ 24) ∧ Y_X11_copyRow_83_29 d Q 14 [(0, .ref 29), (1, .ref 83)] [] (pA s 83 (va_cpy (s.1 29) (s.1 83) 0 0 (if 24 < (24 : Int32) then 24 else (24 : Int32)).toNatClampNeg)) from ⟨rm8_ rfl, c9, ?_⟩)
  exact Wp.r_return o_X11_copyRow rfl (H)
noncomputable abbrev Y_X11_copyRow_84_30 (d : Nat) (Q : Qt) : Xt := Wp SHC (WpM SHC MT (d + 0)) (flat2 cq_X11_copyRow) (none) Q
noncomputable def f_X11_copyRow_84_30  (s : Sg) : Option (Unit × Sg) :=
  ck (¬ (0 : Int32) < 0 ∧ ¬ (0 : Int32) < 0 ∧ ¬ (if 24 < (24 : Int32) then 24 else (24 : Int32)) < 0 ∧ 0 + (if 24 < (24 : Int32) then 24 else (24 : Int32)).toNatClampNeg ≤ 24 ∧ 0 + (if 24 < (24 : Int32) then 24 else (24 : Int32)).toNatClampNeg ≤ 24) (
  some ((), pA s 84 (va_cpy (s.1 30) (s.1 84) 0 0 (if 24 < (24 : Int32) then 24 else (24 : Int32)).toNatClampNeg))
  )
set_option maxRecDepth 100000 in
theorem w_X11_copyRow_84_30 {d : Nat} {s : Sg} {Q : Qt}  (H : OQ (f_X11_copyRow_84_30  s) (fun _ s9 => Q none s9)) : WpM SHC MT (d + 1) 184 [.ref 30, .ref 84] s Q := by
  refine WpM.enter me_X11_copyRow rfl rfl ?_
  show Y_X11_copyRow_84_30 d Q 0 [(0, .ref 30), (1, .ref 84)] [] s
  unfold f_X11_copyRow_84_30 at H
  refine Wp.r_aload_n o_X11_copyRow rfl rfl (Wp.r_iconst o_X11_copyRow rfl (Wp.r_aload_n o_X11_copyRow rfl rfl (Wp.r_iconst o_X11_copyRow rfl (Wp.r_aload_n o_X11_copyRow rfl rfl (Wp.r_alen o_X11_copyRow rfl lk_C_30 (Wp.r_aload_n o_X11_copyRow rfl rfl (Wp.r_alen o_X11_copyRow rfl lk_C_84 (Wp.r_min o_X11_copyRow rfl (⟨rm8_ rfl, ?_⟩)))))))))
  obtain ⟨c9, H⟩ := oq_ck H
  refine Wp.run 1 (show room8 [] ∧ (¬ (0 : Int32) < 0 ∧ ¬ (0 : Int32) < 0 ∧ ¬ (if 24 < (24 : Int32) then 24 else (24 : Int32)) < 0 ∧ 0 + (if 24 < (24 : Int32) then 24 else (24 : Int32)).toNatClampNeg ≤ 24 ∧ 0 + (if 24 < (24 : Int32) then 24 else (24 : Int32)).toNatClampNeg ≤ 24) ∧ Y_X11_copyRow_84_30 d Q 14 [(0, .ref 30), (1, .ref 84)] [] (pA s 84 (va_cpy (s.1 30) (s.1 84) 0 0 (if 24 < (24 : Int32) then 24 else (24 : Int32)).toNatClampNeg)) from ⟨rm8_ rfl, c9, ?_⟩)
  exact Wp.r_return o_X11_copyRow rfl (H)
noncomputable abbrev Y_X11_copyRow_85_31 (d : Nat) (Q : Qt) : Xt := Wp SHC (WpM SHC MT (d + 0)) (flat2 cq_X11_copyRow) (none) Q
noncomputable def f_X11_copyRow_85_31  (s : Sg) : Option (Unit × Sg) :=
  ck (¬ (0 : Int32) < 0 ∧ ¬ (0 : Int32) < 0 ∧ ¬ (if 8 < (8 : Int32) then 8 else (8 : Int32)) < 0 ∧ 0 + (if 8 < (8 : Int32) then 8 else (8 : Int32)).toNatClampNeg ≤ 8 ∧ 0 + (if 8 < (8 : Int32) then 8 else (8 : Int32)).toNatClampNeg ≤ 8) (
  some ((), pA s 85 (va_cpy (s.1 31) (s.1 85) 0 0 (if 8 < (8 : Int32) then 8 else (8 : Int32)).toNatClampNeg))
  )
set_option maxRecDepth 100000 in
theorem w_X11_copyRow_85_31 {d : Nat} {s : Sg} {Q : Qt}  (H : OQ (f_X11_copyRow_85_31  s) (fun _ s9 => Q none s9)) : WpM SHC MT (d + 1) 184 [.ref 31, .ref 85] s Q := by
  refine WpM.enter me_X11_copyRow rfl rfl ?_
  show Y_X11_copyRow_85_31 d Q 0 [(0, .ref 31), (1, .ref 85)] [] s
  unfold f_X11_copyRow_85_31 at H
  refine Wp.r_aload_n o_X11_copyRow rfl rfl (Wp.r_iconst o_X11_copyRow rfl (Wp.r_aload_n o_X11_copyRow rfl rfl (Wp.r_iconst o_X11_copyRow rfl (Wp.r_aload_n o_X11_copyRow rfl rfl (Wp.r_alen o_X11_copyRow rfl lk_C_31 (Wp.r_aload_n o_X11_copyRow rfl rfl (Wp.r_alen o_X11_copyRow rfl lk_C_85 (Wp.r_min o_X11_copyRow rfl (⟨rm8_ rfl, ?_⟩)))))))))
  obtain ⟨c9, H⟩ := oq_ck H
  refine Wp.run 1 (show room8 [] ∧ (¬ (0 : Int32) < 0 ∧ ¬ (0 : Int32) < 0 ∧ ¬ (if 8 < (8 : Int32) then 8 else (8 : Int32)) < 0 ∧ 0 + (if 8 < (8 : Int32) then 8 else (8 : Int32)).toNatClampNeg ≤ 8 ∧ 0 + (if 8 < (8 : Int32) then 8 else (8 : Int32)).toNatClampNeg ≤ 8) ∧ Y_X11_copyRow_85_31 d Q 14 [(0, .ref 31), (1, .ref 85)] [] (pA s 85 (va_cpy (s.1 31) (s.1 85) 0 0 (if 8 < (8 : Int32) then 8 else (8 : Int32)).toNatClampNeg)) from ⟨rm8_ rfl, c9, ?_⟩)
  exact Wp.r_return o_X11_copyRow rfl (H)
noncomputable abbrev Y_X11_copyRow_86_32 (d : Nat) (Q : Qt) : Xt := Wp SHC (WpM SHC MT (d + 0)) (flat2 cq_X11_copyRow) (none) Q
noncomputable def f_X11_copyRow_86_32  (s : Sg) : Option (Unit × Sg) :=
  ck (¬ (0 : Int32) < 0 ∧ ¬ (0 : Int32) < 0 ∧ ¬ (if 8 < (8 : Int32) then 8 else (8 : Int32)) < 0 ∧ 0 + (if 8 < (8 : Int32) then 8 else (8 : Int32)).toNatClampNeg ≤ 8 ∧ 0 + (if 8 < (8 : Int32) then 8 else (8 : Int32)).toNatClampNeg ≤ 8) (
  some ((), pA s 86 (va_cpy (s.1 32) (s.1 86) 0 0 (if 8 < (8 : Int32) then 8 else (8 : Int32)).toNatClampNeg))
  )
set_option maxRecDepth 100000 in
theorem w_X11_copyRow_86_32 {d : Nat} {s : Sg} {Q : Qt}  (H : OQ (f_X11_copyRow_86_32  s) (fun _ s9 => Q none s9)) : WpM SHC MT (d + 1) 184 [.ref 32, .ref 86] s Q := by
  refine WpM.enter me_X11_copyRow rfl rfl ?_
  show Y_X11_copyRow_86_32 d Q 0 [(0, .ref 32), (1, .ref 86)] [] s
  unfold f_X11_copyRow_86_32 at H
  refine Wp.r_aload_n o_X11_copyRow rfl rfl (Wp.r_iconst o_X11_copyRow rfl (Wp.r_aload_n o_X11_copyRow rfl rfl (Wp.r_iconst o_X11_copyRow rfl (Wp.r_aload_n o_X11_copyRow rfl rfl (Wp.r_alen o_X11_copyRow rfl lk_C_32 (Wp.r_aload_n o_X11_copyRow rfl rfl (Wp.r_alen o_X11_copyRow rfl lk_C_86 (Wp.r_min o_X11_copyRow rfl (⟨rm8_ rfl, ?_⟩)))))))))
  obtain ⟨c9, H⟩ := oq_ck H
  refine Wp.run 1 (show room8 [] ∧ (¬ (0 : Int32) < 0 ∧ ¬ (0 : Int32) < 0 ∧ ¬ (if 8 < (8 : Int32) then 8 else (8 : Int32)) < 0 ∧ 0 + (if 8 < (8 : Int32) then 8 else (8 : Int32)).toNatClampNeg ≤ 8 ∧ 0 + (if 8 < (8 : Int32) then 8 else (8 : Int32)).toNatClampNeg ≤ 8) ∧ Y_X11_copyRow_86_32 d Q 14 [(0, .ref 32), (1, .ref 86)] [] (pA s 86 (va_cpy (s.1 32) (s.1 86) 0 0 (if 8 < (8 : Int32) then 8 else (8 : Int32)).toNatClampNeg)) from ⟨rm8_ rfl, c9, ?_⟩)
  exact Wp.r_return o_X11_copyRow rfl (H)
noncomputable abbrev Y_X11_copyRow_87_33 (d : Nat) (Q : Qt) : Xt := Wp SHC (WpM SHC MT (d + 0)) (flat2 cq_X11_copyRow) (none) Q
noncomputable def f_X11_copyRow_87_33  (s : Sg) : Option (Unit × Sg) :=
  ck (¬ (0 : Int32) < 0 ∧ ¬ (0 : Int32) < 0 ∧ ¬ (if 8 < (8 : Int32) then 8 else (8 : Int32)) < 0 ∧ 0 + (if 8 < (8 : Int32) then 8 else (8 : Int32)).toNatClampNeg ≤ 8 ∧ 0 + (if 8 < (8 : Int32) then 8 else (8 : Int32)).toNatClampNeg ≤ 8) (
  some ((), pA s 87 (va_cpy (s.1 33) (s.1 87) 0 0 (if 8 < (8 : Int32) then 8 else (8 : Int32)).toNatClampNeg))
  )
set_option maxRecDepth 100000 in
theorem w_X11_copyRow_87_33 {d : Nat} {s : Sg} {Q : Qt}  (H : OQ (f_X11_copyRow_87_33  s) (fun _ s9 => Q none s9)) : WpM SHC MT (d + 1) 184 [.ref 33, .ref 87] s Q := by
  refine WpM.enter me_X11_copyRow rfl rfl ?_
  show Y_X11_copyRow_87_33 d Q 0 [(0, .ref 33), (1, .ref 87)] [] s
  unfold f_X11_copyRow_87_33 at H
  refine Wp.r_aload_n o_X11_copyRow rfl rfl (Wp.r_iconst o_X11_copyRow rfl (Wp.r_aload_n o_X11_copyRow rfl rfl (Wp.r_iconst o_X11_copyRow rfl (Wp.r_aload_n o_X11_copyRow rfl rfl (Wp.r_alen o_X11_copyRow rfl lk_C_33 (Wp.r_aload_n o_X11_copyRow rfl rfl (Wp.r_alen o_X11_copyRow rfl lk_C_87 (Wp.r_min o_X11_copyRow rfl (⟨rm8_ rfl, ?_⟩)))))))))
  obtain ⟨c9, H⟩ := oq_ck H
  refine Wp.run 1 (show room8 [] ∧ (¬ (0 : Int32) < 0 ∧ ¬ (0 : Int32) < 0 ∧ ¬ (if 8 < (8 : Int32) then 8 else (8 : Int32)) < 0 ∧ 0 + (if 8 < (8 : Int32) then 8 else (8 : Int32)).toNatClampNeg ≤ 8 ∧ 0 + (if 8 < (8 : Int32) then 8 else (8 : Int32)).toNatClampNeg ≤ 8) ∧ Y_X11_copyRow_87_33 d Q 14 [(0, .ref 33), (1, .ref 87)] [] (pA s 87 (va_cpy (s.1 33) (s.1 87) 0 0 (if 8 < (8 : Int32) then 8 else (8 : Int32)).toNatClampNeg)) from ⟨rm8_ rfl, c9, ?_⟩)
  exact Wp.r_return o_X11_copyRow rfl (H)
noncomputable abbrev Y_X11_copyRow_88_34 (d : Nat) (Q : Qt) : Xt := Wp SHC (WpM SHC MT (d + 0)) (flat2 cq_X11_copyRow) (none) Q
noncomputable def f_X11_copyRow_88_34  (s : Sg) : Option (Unit × Sg) :=
  ck (¬ (0 : Int32) < 0 ∧ ¬ (0 : Int32) < 0 ∧ ¬ (if 8 < (8 : Int32) then 8 else (8 : Int32)) < 0 ∧ 0 + (if 8 < (8 : Int32) then 8 else (8 : Int32)).toNatClampNeg ≤ 8 ∧ 0 + (if 8 < (8 : Int32) then 8 else (8 : Int32)).toNatClampNeg ≤ 8) (
  some ((), pA s 88 (va_cpy (s.1 34) (s.1 88) 0 0 (if 8 < (8 : Int32) then 8 else (8 : Int32)).toNatClampNeg))
  )
set_option maxRecDepth 100000 in
theorem w_X11_copyRow_88_34 {d : Nat} {s : Sg} {Q : Qt}  (H : OQ (f_X11_copyRow_88_34  s) (fun _ s9 => Q none s9)) : WpM SHC MT (d + 1) 184 [.ref 34, .ref 88] s Q := by
  refine WpM.enter me_X11_copyRow rfl rfl ?_
  show Y_X11_copyRow_88_34 d Q 0 [(0, .ref 34), (1, .ref 88)] [] s
  unfold f_X11_copyRow_88_34 at H
  refine Wp.r_aload_n o_X11_copyRow rfl rfl (Wp.r_iconst o_X11_copyRow rfl (Wp.r_aload_n o_X11_copyRow rfl rfl (Wp.r_iconst o_X11_copyRow rfl (Wp.r_aload_n o_X11_copyRow rfl rfl (Wp.r_alen o_X11_copyRow rfl lk_C_34 (Wp.r_aload_n o_X11_copyRow rfl rfl (Wp.r_alen o_X11_copyRow rfl lk_C_88 (Wp.r_min o_X11_copyRow rfl (⟨rm8_ rfl, ?_⟩)))))))))
  obtain ⟨c9, H⟩ := oq_ck H
  refine Wp.run 1 (show room8 [] ∧ (¬ (0 : Int32) < 0 ∧ ¬ (0 : Int32) < 0 ∧ ¬ (if 8 < (8 : Int32) then 8 else (8 : Int32)) < 0 ∧ 0 + (if 8 < (8 : Int32) then 8 else (8 : Int32)).toNatClampNeg ≤ 8 ∧ 0 + (if 8 < (8 : Int32) then 8 else (8 : Int32)).toNatClampNeg ≤ 8) ∧ Y_X11_copyRow_88_34 d Q 14 [(0, .ref 34), (1, .ref 88)] [] (pA s 88 (va_cpy (s.1 34) (s.1 88) 0 0 (if 8 < (8 : Int32) then 8 else (8 : Int32)).toNatClampNeg)) from ⟨rm8_ rfl, c9, ?_⟩)
  exact Wp.r_return o_X11_copyRow rfl (H)
noncomputable abbrev Y_X11_copyRow_89_35 (d : Nat) (Q : Qt) : Xt := Wp SHC (WpM SHC MT (d + 0)) (flat2 cq_X11_copyRow) (none) Q
noncomputable def f_X11_copyRow_89_35  (s : Sg) : Option (Unit × Sg) :=
  ck (¬ (0 : Int32) < 0 ∧ ¬ (0 : Int32) < 0 ∧ ¬ (if 4 < (4 : Int32) then 4 else (4 : Int32)) < 0 ∧ 0 + (if 4 < (4 : Int32) then 4 else (4 : Int32)).toNatClampNeg ≤ 4 ∧ 0 + (if 4 < (4 : Int32) then 4 else (4 : Int32)).toNatClampNeg ≤ 4) (
  some ((), pA s 89 (va_cpy (s.1 35) (s.1 89) 0 0 (if 4 < (4 : Int32) then 4 else (4 : Int32)).toNatClampNeg))
  )
set_option maxRecDepth 100000 in
theorem w_X11_copyRow_89_35 {d : Nat} {s : Sg} {Q : Qt}  (H : OQ (f_X11_copyRow_89_35  s) (fun _ s9 => Q none s9)) : WpM SHC MT (d + 1) 184 [.ref 35, .ref 89] s Q := by
  refine WpM.enter me_X11_copyRow rfl rfl ?_
  show Y_X11_copyRow_89_35 d Q 0 [(0, .ref 35), (1, .ref 89)] [] s
  unfold f_X11_copyRow_89_35 at H
  refine Wp.r_aload_n o_X11_copyRow rfl rfl (Wp.r_iconst o_X11_copyRow rfl (Wp.r_aload_n o_X11_copyRow rfl rfl (Wp.r_iconst o_X11_copyRow rfl (Wp.r_aload_n o_X11_copyRow rfl rfl (Wp.r_alen o_X11_copyRow rfl lk_C_35 (Wp.r_aload_n o_X11_copyRow rfl rfl (Wp.r_alen o_X11_copyRow rfl lk_C_89 (Wp.r_min o_X11_copyRow rfl (⟨rm8_ rfl, ?_⟩)))))))))
  obtain ⟨c9, H⟩ := oq_ck H
  refine Wp.run 1 (show room8 [] ∧ (¬ (0 : Int32) < 0 ∧ ¬ (0 : Int32) < 0 ∧ ¬ (if 4 < (4 : Int32) then 4 else (4 : Int32)) < 0 ∧ 0 + (if 4 < (4 : Int32) then 4 else (4 : Int32)).toNatClampNeg ≤ 4 ∧ 0 + (if 4 < (4 : Int32) then 4 else (4 : Int32)).toNatClampNeg ≤ 4) ∧ Y_X11_copyRow_89_35 d Q 14 [(0, .ref 35), (1, .ref 89)] [] (pA s 89 (va_cpy (s.1 35) (s.1 89) 0 0 (if 4 < (4 : Int32) then 4 else (4 : Int32)).toNatClampNeg)) from ⟨rm8_ rfl, c9, ?_⟩)
  exact Wp.r_return o_X11_copyRow rfl (H)
noncomputable abbrev Y_X11_copyRow_90_36 (d : Nat) (Q : Qt) : Xt := Wp SHC (WpM SHC MT (d + 0)) (flat2 cq_X11_copyRow) (none) Q
noncomputable def f_X11_copyRow_90_36  (s : Sg) : Option (Unit × Sg) :=
  ck (¬ (0 : Int32) < 0 ∧ ¬ (0 : Int32) < 0 ∧ ¬ (if 4 < (4 : Int32) then 4 else (4 : Int32)) < 0 ∧ 0 + (if 4 < (4 : Int32) then 4 else (4 : Int32)).toNatClampNeg ≤ 4 ∧ 0 + (if 4 < (4 : Int32) then 4 else (4 : Int32)).toNatClampNeg ≤ 4) (
  some ((), pA s 90 (va_cpy (s.1 36) (s.1 90) 0 0 (if 4 < (4 : Int32) then 4 else (4 : Int32)).toNatClampNeg))
  )
set_option maxRecDepth 100000 in
theorem w_X11_copyRow_90_36 {d : Nat} {s : Sg} {Q : Qt}  (H : OQ (f_X11_copyRow_90_36  s) (fun _ s9 => Q none s9)) : WpM SHC MT (d + 1) 184 [.ref 36, .ref 90] s Q := by
  refine WpM.enter me_X11_copyRow rfl rfl ?_
  show Y_X11_copyRow_90_36 d Q 0 [(0, .ref 36), (1, .ref 90)] [] s
  unfold f_X11_copyRow_90_36 at H
  refine Wp.r_aload_n o_X11_copyRow rfl rfl (Wp.r_iconst o_X11_copyRow rfl (Wp.r_aload_n o_X11_copyRow rfl rfl (Wp.r_iconst o_X11_copyRow rfl (Wp.r_aload_n o_X11_copyRow rfl rfl (Wp.r_alen o_X11_copyRow rfl lk_C_36 (Wp.r_aload_n o_X11_copyRow rfl rfl (Wp.r_alen o_X11_copyRow rfl lk_C_90 (Wp.r_min o_X11_copyRow rfl (⟨rm8_ rfl, ?_⟩)))))))))
  obtain ⟨c9, H⟩ := oq_ck H
  refine Wp.run 1 (show room8 [] ∧ (¬ (0 : Int32) < 0 ∧ ¬ (0 : Int32) < 0 ∧ ¬ (if 4 < (4 : Int32) then 4 else (4 : Int32)) < 0 ∧ 0 + (if 4 < (4 : Int32) then 4 else (4 : Int32)).toNatClampNeg ≤ 4 ∧ 0 + (if 4 < (4 : Int32) then 4 else (4 : Int32)).toNatClampNeg ≤ 4) ∧ Y_X11_copyRow_90_36 d Q 14 [(0, .ref 36), (1, .ref 90)] [] (pA s 90 (va_cpy (s.1 36) (s.1 90) 0 0 (if 4 < (4 : Int32) then 4 else (4 : Int32)).toNatClampNeg)) from ⟨rm8_ rfl, c9, ?_⟩)
  exact Wp.r_return o_X11_copyRow rfl (H)
noncomputable abbrev Y_X11_copyRow_91_37 (d : Nat) (Q : Qt) : Xt := Wp SHC (WpM SHC MT (d + 0)) (flat2 cq_X11_copyRow) (none) Q
noncomputable def f_X11_copyRow_91_37  (s : Sg) : Option (Unit × Sg) :=
  ck (¬ (0 : Int32) < 0 ∧ ¬ (0 : Int32) < 0 ∧ ¬ (if 4 < (4 : Int32) then 4 else (4 : Int32)) < 0 ∧ 0 + (if 4 < (4 : Int32) then 4 else (4 : Int32)).toNatClampNeg ≤ 4 ∧ 0 + (if 4 < (4 : Int32) then 4 else (4 : Int32)).toNatClampNeg ≤ 4) (
  some ((), pA s 91 (va_cpy (s.1 37) (s.1 91) 0 0 (if 4 < (4 : Int32) then 4 else (4 : Int32)).toNatClampNeg))
  )
set_option maxRecDepth 100000 in
theorem w_X11_copyRow_91_37 {d : Nat} {s : Sg} {Q : Qt}  (H : OQ (f_X11_copyRow_91_37  s) (fun _ s9 => Q none s9)) : WpM SHC MT (d + 1) 184 [.ref 37, .ref 91] s Q := by
  refine WpM.enter me_X11_copyRow rfl rfl ?_
  show Y_X11_copyRow_91_37 d Q 0 [(0, .ref 37), (1, .ref 91)] [] s
  unfold f_X11_copyRow_91_37 at H
  refine Wp.r_aload_n o_X11_copyRow rfl rfl (Wp.r_iconst o_X11_copyRow rfl (Wp.r_aload_n o_X11_copyRow rfl rfl (Wp.r_iconst o_X11_copyRow rfl (Wp.r_aload_n o_X11_copyRow rfl rfl (Wp.r_alen o_X11_copyRow rfl lk_C_37 (Wp.r_aload_n o_X11_copyRow rfl rfl (Wp.r_alen o_X11_copyRow rfl lk_C_91 (Wp.r_min o_X11_copyRow rfl (⟨rm8_ rfl, ?_⟩)))))))))
  obtain ⟨c9, H⟩ := oq_ck H
  refine Wp.run 1 (show room8 [] ∧ (¬ (0 : Int32) < 0 ∧ ¬ (0 : Int32) < 0 ∧ ¬ (if 4 < (4 : Int32) then 4 else (4 : Int32)) < 0 ∧ 0 + (if 4 < (4 : Int32) then 4 else (4 : Int32)).toNatClampNeg ≤ 4 ∧ 0 + (if 4 < (4 : Int32) then 4 else (4 : Int32)).toNatClampNeg ≤ 4) ∧ Y_X11_copyRow_91_37 d Q 14 [(0, .ref 37), (1, .ref 91)] [] (pA s 91 (va_cpy (s.1 37) (s.1 91) 0 0 (if 4 < (4 : Int32) then 4 else (4 : Int32)).toNatClampNeg)) from ⟨rm8_ rfl, c9, ?_⟩)
  exact Wp.r_return o_X11_copyRow rfl (H)
noncomputable abbrev Y_X11_copyRow_92_38 (d : Nat) (Q : Qt) : Xt := Wp SHC (WpM SHC MT (d + 0)) (flat2 cq_X11_copyRow) (none) Q
noncomputable def f_X11_copyRow_92_38  (s : Sg) : Option (Unit × Sg) :=
  ck (¬ (0 : Int32) < 0 ∧ ¬ (0 : Int32) < 0 ∧ ¬ (if 4 < (4 : Int32) then 4 else (4 : Int32)) < 0 ∧ 0 + (if 4 < (4 : Int32) then 4 else (4 : Int32)).toNatClampNeg ≤ 4 ∧ 0 + (if 4 < (4 : Int32) then 4 else (4 : Int32)).toNatClampNeg ≤ 4) (
  some ((), pA s 92 (va_cpy (s.1 38) (s.1 92) 0 0 (if 4 < (4 : Int32) then 4 else (4 : Int32)).toNatClampNeg))
  )
set_option maxRecDepth 100000 in
theorem w_X11_copyRow_92_38 {d : Nat} {s : Sg} {Q : Qt}  (H : OQ (f_X11_copyRow_92_38  s) (fun _ s9 => Q none s9)) : WpM SHC MT (d + 1) 184 [.ref 38, .ref 92] s Q := by
  refine WpM.enter me_X11_copyRow rfl rfl ?_
  show Y_X11_copyRow_92_38 d Q 0 [(0, .ref 38), (1, .ref 92)] [] s
  unfold f_X11_copyRow_92_38 at H
  refine Wp.r_aload_n o_X11_copyRow rfl rfl (Wp.r_iconst o_X11_copyRow rfl (Wp.r_aload_n o_X11_copyRow rfl rfl (Wp.r_iconst o_X11_copyRow rfl (Wp.r_aload_n o_X11_copyRow rfl rfl (Wp.r_alen o_X11_copyRow rfl lk_C_38 (Wp.r_aload_n o_X11_copyRow rfl rfl (Wp.r_alen o_X11_copyRow rfl lk_C_92 (Wp.r_min o_X11_copyRow rfl (⟨rm8_ rfl, ?_⟩)))))))))
  obtain ⟨c9, H⟩ := oq_ck H
  refine Wp.run 1 (show room8 [] ∧ (¬ (0 : Int32) < 0 ∧ ¬ (0 : Int32) < 0 ∧ ¬ (if 4 < (4 : Int32) then 4 else (4 : Int32)) < 0 ∧ 0 + (if 4 < (4 : Int32) then 4 else (4 : Int32)).toNatClampNeg ≤ 4 ∧ 0 + (if 4 < (4 : Int32) then 4 else (4 : Int32)).toNatClampNeg ≤ 4) ∧ Y_X11_copyRow_92_38 d Q 14 [(0, .ref 38), (1, .ref 92)] [] (pA s 92 (va_cpy (s.1 38) (s.1 92) 0 0 (if 4 < (4 : Int32) then 4 else (4 : Int32)).toNatClampNeg)) from ⟨rm8_ rfl, c9, ?_⟩)
  exact Wp.r_return o_X11_copyRow rfl (H)
noncomputable abbrev Y_X11_copyRow_93_39 (d : Nat) (Q : Qt) : Xt := Wp SHC (WpM SHC MT (d + 0)) (flat2 cq_X11_copyRow) (none) Q
noncomputable def f_X11_copyRow_93_39  (s : Sg) : Option (Unit × Sg) :=
  ck (¬ (0 : Int32) < 0 ∧ ¬ (0 : Int32) < 0 ∧ ¬ (if 4 < (4 : Int32) then 4 else (4 : Int32)) < 0 ∧ 0 + (if 4 < (4 : Int32) then 4 else (4 : Int32)).toNatClampNeg ≤ 4 ∧ 0 + (if 4 < (4 : Int32) then 4 else (4 : Int32)).toNatClampNeg ≤ 4) (
  some ((), pA s 93 (va_cpy (s.1 39) (s.1 93) 0 0 (if 4 < (4 : Int32) then 4 else (4 : Int32)).toNatClampNeg))
  )
set_option maxRecDepth 100000 in
theorem w_X11_copyRow_93_39 {d : Nat} {s : Sg} {Q : Qt}  (H : OQ (f_X11_copyRow_93_39  s) (fun _ s9 => Q none s9)) : WpM SHC MT (d + 1) 184 [.ref 39, .ref 93] s Q := by
  refine WpM.enter me_X11_copyRow rfl rfl ?_
  show Y_X11_copyRow_93_39 d Q 0 [(0, .ref 39), (1, .ref 93)] [] s
  unfold f_X11_copyRow_93_39 at H
  refine Wp.r_aload_n o_X11_copyRow rfl rfl (Wp.r_iconst o_X11_copyRow rfl (Wp.r_aload_n o_X11_copyRow rfl rfl (Wp.r_iconst o_X11_copyRow rfl (Wp.r_aload_n o_X11_copyRow rfl rfl (Wp.r_alen o_X11_copyRow rfl lk_C_39 (Wp.r_aload_n o_X11_copyRow rfl rfl (Wp.r_alen o_X11_copyRow rfl lk_C_93 (Wp.r_min o_X11_copyRow rfl (⟨rm8_ rfl, ?_⟩)))))))))
  obtain ⟨c9, H⟩ := oq_ck H
  refine Wp.run 1 (show room8 [] ∧ (¬ (0 : Int32) < 0 ∧ ¬ (0 : Int32) < 0 ∧ ¬ (if 4 < (4 : Int32) then 4 else (4 : Int32)) < 0 ∧ 0 + (if 4 < (4 : Int32) then 4 else (4 : Int32)).toNatClampNeg ≤ 4 ∧ 0 + (if 4 < (4 : Int32) then 4 else (4 : Int32)).toNatClampNeg ≤ 4) ∧ Y_X11_copyRow_93_39 d Q 14 [(0, .ref 39), (1, .ref 93)] [] (pA s 93 (va_cpy (s.1 39) (s.1 93) 0 0 (if 4 < (4 : Int32) then 4 else (4 : Int32)).toNatClampNeg)) from ⟨rm8_ rfl, c9, ?_⟩)
  exact Wp.r_return o_X11_copyRow rfl (H)
noncomputable abbrev Y_X4_copyFrom_25_79 (d : Nat) (Q : Qt) : Xt := Wp SHC (WpM SHC MT (d + 1)) (flat2 cq_X4_copyFrom) (none) Q
noncomputable def f_X4_copyFrom_25_79  (s : Sg) : Option (Unit × Sg) :=
  bd (f_X11_copyRow_83_29 (pB s 82 (va_cpy (s.2 28) (s.2 82) 0 0 24))) (fun _ s2 =>
  bd (f_X11_copyRow_84_30 s2) (fun _ s4 =>
  bd (f_X11_copyRow_85_31 s4) (fun _ s6 =>
  bd (f_X11_copyRow_86_32 s6) (fun _ s8 =>
  bd (f_X11_copyRow_87_33 s8) (fun _ s10 =>
  bd (f_X11_copyRow_88_34 s10) (fun _ s12 =>
  bd (f_X11_copyRow_89_35 s12) (fun _ s14 =>
  bd (f_X11_copyRow_90_36 s14) (fun _ s16 =>
  bd (f_X11_copyRow_91_37 s16) (fun _ s18 =>
  bd (f_X11_copyRow_92_38 s18) (fun _ s20 =>
  bd (f_X11_copyRow_93_39 s20) (fun _ s22 =>
  nmx (pI (pI s22 79 12 (s22.1 25 12)) 79 13 ((pI s22 79 12 (s22.1 25 12)).1 25 13)) (fun s23 =>
  nmx (pI (pI s23 79 14 (s23.1 25 14)) 79 15 ((pI s23 79 14 (s23.1 25 14)).1 25 15)) (fun s24 =>
  nmx (pI (pI s24 79 16 (s24.1 25 16)) 79 17 ((pI s24 79 16 (s24.1 25 16)).1 25 17)) (fun s25 =>
  ck (((pI s25 79 18 (s25.1 25 18)).1 25 19) = 0 ∨ ((pI s25 79 18 (s25.1 25 18)).1 25 19) = 1) (
  some ((), pI (pI s25 79 18 (s25.1 25 18)) 79 19 ((pI s25 79 18 (s25.1 25 18)).1 25 19))
  )
  )
  )
  )
  )
  )
  )
  )
  )
  )
  )
  )
  )
  )
  )
set_option maxRecDepth 100000 in
theorem w_X4_copyFrom_25_79 {d : Nat} {s : Sg} {Q : Qt}  (H : OQ (f_X4_copyFrom_25_79  s) (fun _ s9 => Q none s9)) : WpM SHC MT (d + 2) 50 [.ref 79, .ref 25] s Q := by
  refine WpM.enter me_X4_copyFrom rfl rfl ?_
  show Y_X4_copyFrom_25_79 d Q 0 [(0, .ref 79), (1, .ref 25)] [] s
  unfold f_X4_copyFrom_25_79 at H
  refine Wp.r_aload_n o_X4_copyFrom rfl rfl (Wp.r_gfr o_X4_copyFrom rfl fk_C_25_0 (Wp.r_iconst o_X4_copyFrom rfl (Wp.r_aload_n o_X4_copyFrom rfl rfl (Wp.r_gfr o_X4_copyFrom rfl fk_C_79_0 (Wp.r_iconst o_X4_copyFrom rfl (Wp.r_bipush o_X4_copyFrom rfl (Wp.run 1 (show room8 [] ∧ (¬ (0 : Int32) < 0 ∧ ¬ (0 : Int32) < 0 ∧ ¬ (24 : Int32) < 0 ∧ 0 + 24 ≤ 24 ∧ 0 + 24 ≤ 24) ∧ Y_X4_copyFrom_25_79 d Q 15 [(0, .ref 79), (1, .ref 25)] [] (pB s 82 (va_cpy (s.2 28) (s.2 82) 0 0 24)) from ⟨rm8_ rfl, by decide, ?_⟩))))))))
  refine Wp.r_aload_n o_X4_copyFrom rfl rfl (Wp.r_gfr o_X4_copyFrom rfl fk_C_25_1 (Wp.r_aload_n o_X4_copyFrom rfl rfl (Wp.r_gfr o_X4_copyFrom rfl fk_C_79_1 (Wp.r_cs2 o_X4_copyFrom rfl (⟨rm8_ rfl, ?_⟩)))))
  refine w_X11_copyRow_83_29 (d := d)  ?_
  refine oq_bd H (fun _ s2 H => ?_)
  show Y_X4_copyFrom_25_79 d Q 26 [(0, .ref 79), (1, .ref 25)] [] s2
  refine Wp.r_aload_n o_X4_copyFrom rfl rfl (Wp.r_gfr o_X4_copyFrom rfl fk_C_25_2 (Wp.r_aload_n o_X4_copyFrom rfl rfl (Wp.r_gfr o_X4_copyFrom rfl fk_C_79_2 (Wp.r_cs2 o_X4_copyFrom rfl (⟨rm8_ rfl, ?_⟩)))))
  refine w_X11_copyRow_84_30 (d := d)  ?_
  refine oq_bd H (fun _ s4 H => ?_)
  show Y_X4_copyFrom_25_79 d Q 37 [(0, .ref 79), (1, .ref 25)] [] s4
  refine Wp.r_aload_n o_X4_copyFrom rfl rfl (Wp.r_gfr o_X4_copyFrom rfl fk_C_25_3 (Wp.r_aload_n o_X4_copyFrom rfl rfl (Wp.r_gfr o_X4_copyFrom rfl fk_C_79_3 (Wp.r_cs2 o_X4_copyFrom rfl (⟨rm8_ rfl, ?_⟩)))))
  refine w_X11_copyRow_85_31 (d := d)  ?_
  refine oq_bd H (fun _ s6 H => ?_)
  show Y_X4_copyFrom_25_79 d Q 48 [(0, .ref 79), (1, .ref 25)] [] s6
  refine Wp.r_aload_n o_X4_copyFrom rfl rfl (Wp.r_gfr o_X4_copyFrom rfl fk_C_25_4 (Wp.r_aload_n o_X4_copyFrom rfl rfl (Wp.r_gfr o_X4_copyFrom rfl fk_C_79_4 (Wp.r_cs2 o_X4_copyFrom rfl (⟨rm8_ rfl, ?_⟩)))))
  refine w_X11_copyRow_86_32 (d := d)  ?_
  refine oq_bd H (fun _ s8 H => ?_)
  show Y_X4_copyFrom_25_79 d Q 59 [(0, .ref 79), (1, .ref 25)] [] s8
  refine Wp.r_aload_n o_X4_copyFrom rfl rfl (Wp.r_gfr o_X4_copyFrom rfl fk_C_25_5 (Wp.r_aload_n o_X4_copyFrom rfl rfl (Wp.r_gfr o_X4_copyFrom rfl fk_C_79_5 (Wp.r_cs2 o_X4_copyFrom rfl (⟨rm8_ rfl, ?_⟩)))))
  refine w_X11_copyRow_87_33 (d := d)  ?_
  refine oq_bd H (fun _ s10 H => ?_)
  show Y_X4_copyFrom_25_79 d Q 70 [(0, .ref 79), (1, .ref 25)] [] s10
  refine Wp.r_aload_n o_X4_copyFrom rfl rfl (Wp.r_gfr o_X4_copyFrom rfl fk_C_25_6 (Wp.r_aload_n o_X4_copyFrom rfl rfl (Wp.r_gfr o_X4_copyFrom rfl fk_C_79_6 (Wp.r_cs2 o_X4_copyFrom rfl (⟨rm8_ rfl, ?_⟩)))))
  refine w_X11_copyRow_88_34 (d := d)  ?_
  refine oq_bd H (fun _ s12 H => ?_)
  show Y_X4_copyFrom_25_79 d Q 81 [(0, .ref 79), (1, .ref 25)] [] s12
  refine Wp.r_aload_n o_X4_copyFrom rfl rfl (Wp.r_gfr o_X4_copyFrom rfl fk_C_25_7 (Wp.r_aload_n o_X4_copyFrom rfl rfl (Wp.r_gfr o_X4_copyFrom rfl fk_C_79_7 (Wp.r_cs2 o_X4_copyFrom rfl (⟨rm8_ rfl, ?_⟩)))))
  refine w_X11_copyRow_89_35 (d := d)  ?_
  refine oq_bd H (fun _ s14 H => ?_)
  show Y_X4_copyFrom_25_79 d Q 92 [(0, .ref 79), (1, .ref 25)] [] s14
  refine Wp.r_aload_n o_X4_copyFrom rfl rfl (Wp.r_gfr o_X4_copyFrom rfl fk_C_25_8 (Wp.r_aload_n o_X4_copyFrom rfl rfl (Wp.r_gfr o_X4_copyFrom rfl fk_C_79_8 (Wp.r_cs2 o_X4_copyFrom rfl (⟨rm8_ rfl, ?_⟩)))))
  refine w_X11_copyRow_90_36 (d := d)  ?_
  refine oq_bd H (fun _ s16 H => ?_)
  show Y_X4_copyFrom_25_79 d Q 103 [(0, .ref 79), (1, .ref 25)] [] s16
  refine Wp.r_aload_n o_X4_copyFrom rfl rfl (Wp.r_gfr o_X4_copyFrom rfl fk_C_25_9 (Wp.r_aload_n o_X4_copyFrom rfl rfl (Wp.r_gfr o_X4_copyFrom rfl fk_C_79_9 (Wp.r_cs2 o_X4_copyFrom rfl (⟨rm8_ rfl, ?_⟩)))))
  refine w_X11_copyRow_91_37 (d := d)  ?_
  refine oq_bd H (fun _ s18 H => ?_)
  show Y_X4_copyFrom_25_79 d Q 114 [(0, .ref 79), (1, .ref 25)] [] s18
  refine Wp.r_aload_n o_X4_copyFrom rfl rfl (Wp.r_gfr o_X4_copyFrom rfl fk_C_25_10 (Wp.r_aload_n o_X4_copyFrom rfl rfl (Wp.r_gfr o_X4_copyFrom rfl fk_C_79_10 (Wp.r_cs2 o_X4_copyFrom rfl (⟨rm8_ rfl, ?_⟩)))))
  refine w_X11_copyRow_92_38 (d := d)  ?_
  refine oq_bd H (fun _ s20 H => ?_)
  show Y_X4_copyFrom_25_79 d Q 125 [(0, .ref 79), (1, .ref 25)] [] s20
  refine Wp.r_aload_n o_X4_copyFrom rfl rfl (Wp.r_gfr o_X4_copyFrom rfl fk_C_25_11 (Wp.r_aload_n o_X4_copyFrom rfl rfl (Wp.r_gfr o_X4_copyFrom rfl fk_C_79_11 (Wp.r_cs2 o_X4_copyFrom rfl (⟨rm8_ rfl, ?_⟩)))))
  refine w_X11_copyRow_93_39 (d := d)  ?_
  refine oq_bd H (fun _ s22 H => ?_)
  show Y_X4_copyFrom_25_79 d Q 136 [(0, .ref 79), (1, .ref 25)] [] s22
  refine Wp.r_aload_n o_X4_copyFrom rfl rfl (Wp.r_aload_n o_X4_copyFrom rfl rfl (Wp.r_gfi o_X4_copyFrom rfl fk_C_25_12 (Wp.r_pfi o_X4_copyFrom rfl fk_C_79_12 (Wp.r_aload_n o_X4_copyFrom rfl rfl (Wp.r_aload_n o_X4_copyFrom rfl rfl (Wp.r_gfi o_X4_copyFrom rfl fk_C_25_13 (Wp.r_pfi o_X4_copyFrom rfl fk_C_79_13 (show Y_X4_copyFrom_25_79 d Q 152 [(0, .ref 79), (1, .ref 25)] [] (pI (pI s22 79 12 (s22.1 25 12)) 79 13 ((pI s22 79 12 (s22.1 25 12)).1 25 13)) from ?_))))))))
  revert H
  generalize pI (pI s22 79 12 (s22.1 25 12)) 79 13 ((pI s22 79 12 (s22.1 25 12)).1 25 13) = s23
  intro H
  have H := nmx_e H
  refine Wp.r_aload_n o_X4_copyFrom rfl rfl (Wp.r_aload_n o_X4_copyFrom rfl rfl (Wp.r_gfi o_X4_copyFrom rfl fk_C_25_14 (Wp.r_pfi o_X4_copyFrom rfl fk_C_79_14 (Wp.r_aload_n o_X4_copyFrom rfl rfl (Wp.r_aload_n o_X4_copyFrom rfl rfl (Wp.r_gfi o_X4_copyFrom rfl fk_C_25_15 (Wp.r_pfi o_X4_copyFrom rfl fk_C_79_15 (show Y_X4_copyFrom_25_79 d Q 168 [(0, .ref 79), (1, .ref 25)] [] (pI (pI s23 79 14 (s23.1 25 14)) 79 15 ((pI s23 79 14 (s23.1 25 14)).1 25 15)) from ?_))))))))
  revert H
  generalize pI (pI s23 79 14 (s23.1 25 14)) 79 15 ((pI s23 79 14 (s23.1 25 14)).1 25 15) = s24
  intro H
  have H := nmx_e H
  refine Wp.r_aload_n o_X4_copyFrom rfl rfl (Wp.r_aload_n o_X4_copyFrom rfl rfl (Wp.r_gfi o_X4_copyFrom rfl fk_C_25_16 (Wp.r_pfi o_X4_copyFrom rfl fk_C_79_16 (Wp.r_aload_n o_X4_copyFrom rfl rfl (Wp.r_aload_n o_X4_copyFrom rfl rfl (Wp.r_gfi o_X4_copyFrom rfl fk_C_25_17 (Wp.r_pfi o_X4_copyFrom rfl fk_C_79_17 (show Y_X4_copyFrom_25_79 d Q 184 [(0, .ref 79), (1, .ref 25)] [] (pI (pI s24 79 16 (s24.1 25 16)) 79 17 ((pI s24 79 16 (s24.1 25 16)).1 25 17)) from ?_))))))))
  revert H
  generalize pI (pI s24 79 16 (s24.1 25 16)) 79 17 ((pI s24 79 16 (s24.1 25 16)).1 25 17) = s25
  intro H
  have H := nmx_e H
  obtain ⟨hc26, H⟩ := oq_ck H
  refine Wp.r_aload_n o_X4_copyFrom rfl rfl (Wp.r_aload_n o_X4_copyFrom rfl rfl (Wp.r_gfi o_X4_copyFrom rfl fk_C_25_18 (Wp.r_pfi o_X4_copyFrom rfl fk_C_79_18 (Wp.r_aload_n o_X4_copyFrom rfl rfl (Wp.r_aload_n o_X4_copyFrom rfl rfl (Wp.r_gfi o_X4_copyFrom rfl fk_C_25_19 (Wp.r_pfz o_X4_copyFrom rfl fk_C_79_19 (⟨hc26, ?_⟩))))))))
  exact Wp.r_return o_X4_copyFrom rfl (H)
noncomputable abbrev Y_X11_copyRow_94_40 (d : Nat) (Q : Qt) : Xt := Wp SHC (WpM SHC MT (d + 0)) (flat2 cq_X11_copyRow) (none) Q
noncomputable def f_X11_copyRow_94_40  (s : Sg) : Option (Unit × Sg) :=
  ck (¬ (0 : Int32) < 0 ∧ ¬ (0 : Int32) < 0 ∧ ¬ (if 8 < (8 : Int32) then 8 else (8 : Int32)) < 0 ∧ 0 + (if 8 < (8 : Int32) then 8 else (8 : Int32)).toNatClampNeg ≤ 8 ∧ 0 + (if 8 < (8 : Int32) then 8 else (8 : Int32)).toNatClampNeg ≤ 8) (
  some ((), pA s 94 (va_cpy (s.1 40) (s.1 94) 0 0 (if 8 < (8 : Int32) then 8 else (8 : Int32)).toNatClampNeg))
  )
set_option maxRecDepth 100000 in
theorem w_X11_copyRow_94_40 {d : Nat} {s : Sg} {Q : Qt}  (H : OQ (f_X11_copyRow_94_40  s) (fun _ s9 => Q none s9)) : WpM SHC MT (d + 1) 184 [.ref 40, .ref 94] s Q := by
  refine WpM.enter me_X11_copyRow rfl rfl ?_
  show Y_X11_copyRow_94_40 d Q 0 [(0, .ref 40), (1, .ref 94)] [] s
  unfold f_X11_copyRow_94_40 at H
  refine Wp.r_aload_n o_X11_copyRow rfl rfl (Wp.r_iconst o_X11_copyRow rfl (Wp.r_aload_n o_X11_copyRow rfl rfl (Wp.r_iconst o_X11_copyRow rfl (Wp.r_aload_n o_X11_copyRow rfl rfl (Wp.r_alen o_X11_copyRow rfl lk_C_40 (Wp.r_aload_n o_X11_copyRow rfl rfl (Wp.r_alen o_X11_copyRow rfl lk_C_94 (Wp.r_min o_X11_copyRow rfl (⟨rm8_ rfl, ?_⟩)))))))))
  obtain ⟨c9, H⟩ := oq_ck H
  refine Wp.run 1 (show room8 [] ∧ (¬ (0 : Int32) < 0 ∧ ¬ (0 : Int32) < 0 ∧ ¬ (if 8 < (8 : Int32) then 8 else (8 : Int32)) < 0 ∧ 0 + (if 8 < (8 : Int32) then 8 else (8 : Int32)).toNatClampNeg ≤ 8 ∧ 0 + (if 8 < (8 : Int32) then 8 else (8 : Int32)).toNatClampNeg ≤ 8) ∧ Y_X11_copyRow_94_40 d Q 14 [(0, .ref 40), (1, .ref 94)] [] (pA s 94 (va_cpy (s.1 40) (s.1 94) 0 0 (if 8 < (8 : Int32) then 8 else (8 : Int32)).toNatClampNeg)) from ⟨rm8_ rfl, c9, ?_⟩)
  exact Wp.r_return o_X11_copyRow rfl (H)
noncomputable abbrev Y_X11_copyRow_95_41 (d : Nat) (Q : Qt) : Xt := Wp SHC (WpM SHC MT (d + 0)) (flat2 cq_X11_copyRow) (none) Q
noncomputable def f_X11_copyRow_95_41  (s : Sg) : Option (Unit × Sg) :=
  ck (¬ (0 : Int32) < 0 ∧ ¬ (0 : Int32) < 0 ∧ ¬ (if 8 < (8 : Int32) then 8 else (8 : Int32)) < 0 ∧ 0 + (if 8 < (8 : Int32) then 8 else (8 : Int32)).toNatClampNeg ≤ 8 ∧ 0 + (if 8 < (8 : Int32) then 8 else (8 : Int32)).toNatClampNeg ≤ 8) (
  some ((), pA s 95 (va_cpy (s.1 41) (s.1 95) 0 0 (if 8 < (8 : Int32) then 8 else (8 : Int32)).toNatClampNeg))
  )
set_option maxRecDepth 100000 in
theorem w_X11_copyRow_95_41 {d : Nat} {s : Sg} {Q : Qt}  (H : OQ (f_X11_copyRow_95_41  s) (fun _ s9 => Q none s9)) : WpM SHC MT (d + 1) 184 [.ref 41, .ref 95] s Q := by
  refine WpM.enter me_X11_copyRow rfl rfl ?_
  show Y_X11_copyRow_95_41 d Q 0 [(0, .ref 41), (1, .ref 95)] [] s
  unfold f_X11_copyRow_95_41 at H
  refine Wp.r_aload_n o_X11_copyRow rfl rfl (Wp.r_iconst o_X11_copyRow rfl (Wp.r_aload_n o_X11_copyRow rfl rfl (Wp.r_iconst o_X11_copyRow rfl (Wp.r_aload_n o_X11_copyRow rfl rfl (Wp.r_alen o_X11_copyRow rfl lk_C_41 (Wp.r_aload_n o_X11_copyRow rfl rfl (Wp.r_alen o_X11_copyRow rfl lk_C_95 (Wp.r_min o_X11_copyRow rfl (⟨rm8_ rfl, ?_⟩)))))))))
  obtain ⟨c9, H⟩ := oq_ck H
  refine Wp.run 1 (show room8 [] ∧ (¬ (0 : Int32) < 0 ∧ ¬ (0 : Int32) < 0 ∧ ¬ (if 8 < (8 : Int32) then 8 else (8 : Int32)) < 0 ∧ 0 + (if 8 < (8 : Int32) then 8 else (8 : Int32)).toNatClampNeg ≤ 8 ∧ 0 + (if 8 < (8 : Int32) then 8 else (8 : Int32)).toNatClampNeg ≤ 8) ∧ Y_X11_copyRow_95_41 d Q 14 [(0, .ref 41), (1, .ref 95)] [] (pA s 95 (va_cpy (s.1 41) (s.1 95) 0 0 (if 8 < (8 : Int32) then 8 else (8 : Int32)).toNatClampNeg)) from ⟨rm8_ rfl, c9, ?_⟩)
  exact Wp.r_return o_X11_copyRow rfl (H)
noncomputable abbrev Y_X11_copyRow_96_42 (d : Nat) (Q : Qt) : Xt := Wp SHC (WpM SHC MT (d + 0)) (flat2 cq_X11_copyRow) (none) Q
noncomputable def f_X11_copyRow_96_42  (s : Sg) : Option (Unit × Sg) :=
  ck (¬ (0 : Int32) < 0 ∧ ¬ (0 : Int32) < 0 ∧ ¬ (if 8 < (8 : Int32) then 8 else (8 : Int32)) < 0 ∧ 0 + (if 8 < (8 : Int32) then 8 else (8 : Int32)).toNatClampNeg ≤ 8 ∧ 0 + (if 8 < (8 : Int32) then 8 else (8 : Int32)).toNatClampNeg ≤ 8) (
  some ((), pA s 96 (va_cpy (s.1 42) (s.1 96) 0 0 (if 8 < (8 : Int32) then 8 else (8 : Int32)).toNatClampNeg))
  )
set_option maxRecDepth 100000 in
theorem w_X11_copyRow_96_42 {d : Nat} {s : Sg} {Q : Qt}  (H : OQ (f_X11_copyRow_96_42  s) (fun _ s9 => Q none s9)) : WpM SHC MT (d + 1) 184 [.ref 42, .ref 96] s Q := by
  refine WpM.enter me_X11_copyRow rfl rfl ?_
  show Y_X11_copyRow_96_42 d Q 0 [(0, .ref 42), (1, .ref 96)] [] s
  unfold f_X11_copyRow_96_42 at H
  refine Wp.r_aload_n o_X11_copyRow rfl rfl (Wp.r_iconst o_X11_copyRow rfl (Wp.r_aload_n o_X11_copyRow rfl rfl (Wp.r_iconst o_X11_copyRow rfl (Wp.r_aload_n o_X11_copyRow rfl rfl (Wp.r_alen o_X11_copyRow rfl lk_C_42 (Wp.r_aload_n o_X11_copyRow rfl rfl (Wp.r_alen o_X11_copyRow rfl lk_C_96 (Wp.r_min o_X11_copyRow rfl (⟨rm8_ rfl, ?_⟩)))))))))
  obtain ⟨c9, H⟩ := oq_ck H
  refine Wp.run 1 (show room8 [] ∧ (¬ (0 : Int32) < 0 ∧ ¬ (0 : Int32) < 0 ∧ ¬ (if 8 < (8 : Int32) then 8 else (8 : Int32)) < 0 ∧ 0 + (if 8 < (8 : Int32) then 8 else (8 : Int32)).toNatClampNeg ≤ 8 ∧ 0 + (if 8 < (8 : Int32) then 8 else (8 : Int32)).toNatClampNeg ≤ 8) ∧ Y_X11_copyRow_96_42 d Q 14 [(0, .ref 42), (1, .ref 96)] [] (pA s 96 (va_cpy (s.1 42) (s.1 96) 0 0 (if 8 < (8 : Int32) then 8 else (8 : Int32)).toNatClampNeg)) from ⟨rm8_ rfl, c9, ?_⟩)
  exact Wp.r_return o_X11_copyRow rfl (H)
noncomputable abbrev Y_X11_copyRow_97_43 (d : Nat) (Q : Qt) : Xt := Wp SHC (WpM SHC MT (d + 0)) (flat2 cq_X11_copyRow) (none) Q
noncomputable def f_X11_copyRow_97_43  (s : Sg) : Option (Unit × Sg) :=
  ck (¬ (0 : Int32) < 0 ∧ ¬ (0 : Int32) < 0 ∧ ¬ (if 8 < (8 : Int32) then 8 else (8 : Int32)) < 0 ∧ 0 + (if 8 < (8 : Int32) then 8 else (8 : Int32)).toNatClampNeg ≤ 8 ∧ 0 + (if 8 < (8 : Int32) then 8 else (8 : Int32)).toNatClampNeg ≤ 8) (
  some ((), pA s 97 (va_cpy (s.1 43) (s.1 97) 0 0 (if 8 < (8 : Int32) then 8 else (8 : Int32)).toNatClampNeg))
  )
set_option maxRecDepth 100000 in
theorem w_X11_copyRow_97_43 {d : Nat} {s : Sg} {Q : Qt}  (H : OQ (f_X11_copyRow_97_43  s) (fun _ s9 => Q none s9)) : WpM SHC MT (d + 1) 184 [.ref 43, .ref 97] s Q := by
  refine WpM.enter me_X11_copyRow rfl rfl ?_
  show Y_X11_copyRow_97_43 d Q 0 [(0, .ref 43), (1, .ref 97)] [] s
  unfold f_X11_copyRow_97_43 at H
  refine Wp.r_aload_n o_X11_copyRow rfl rfl (Wp.r_iconst o_X11_copyRow rfl (Wp.r_aload_n o_X11_copyRow rfl rfl (Wp.r_iconst o_X11_copyRow rfl (Wp.r_aload_n o_X11_copyRow rfl rfl (Wp.r_alen o_X11_copyRow rfl lk_C_43 (Wp.r_aload_n o_X11_copyRow rfl rfl (Wp.r_alen o_X11_copyRow rfl lk_C_97 (Wp.r_min o_X11_copyRow rfl (⟨rm8_ rfl, ?_⟩)))))))))
  obtain ⟨c9, H⟩ := oq_ck H
  refine Wp.run 1 (show room8 [] ∧ (¬ (0 : Int32) < 0 ∧ ¬ (0 : Int32) < 0 ∧ ¬ (if 8 < (8 : Int32) then 8 else (8 : Int32)) < 0 ∧ 0 + (if 8 < (8 : Int32) then 8 else (8 : Int32)).toNatClampNeg ≤ 8 ∧ 0 + (if 8 < (8 : Int32) then 8 else (8 : Int32)).toNatClampNeg ≤ 8) ∧ Y_X11_copyRow_97_43 d Q 14 [(0, .ref 43), (1, .ref 97)] [] (pA s 97 (va_cpy (s.1 43) (s.1 97) 0 0 (if 8 < (8 : Int32) then 8 else (8 : Int32)).toNatClampNeg)) from ⟨rm8_ rfl, c9, ?_⟩)
  exact Wp.r_return o_X11_copyRow rfl (H)
noncomputable abbrev Y_X11_copyRow_98_44 (d : Nat) (Q : Qt) : Xt := Wp SHC (WpM SHC MT (d + 0)) (flat2 cq_X11_copyRow) (none) Q
noncomputable def f_X11_copyRow_98_44  (s : Sg) : Option (Unit × Sg) :=
  ck (¬ (0 : Int32) < 0 ∧ ¬ (0 : Int32) < 0 ∧ ¬ (if 4 < (4 : Int32) then 4 else (4 : Int32)) < 0 ∧ 0 + (if 4 < (4 : Int32) then 4 else (4 : Int32)).toNatClampNeg ≤ 4 ∧ 0 + (if 4 < (4 : Int32) then 4 else (4 : Int32)).toNatClampNeg ≤ 4) (
  some ((), pA s 98 (va_cpy (s.1 44) (s.1 98) 0 0 (if 4 < (4 : Int32) then 4 else (4 : Int32)).toNatClampNeg))
  )
set_option maxRecDepth 100000 in
theorem w_X11_copyRow_98_44 {d : Nat} {s : Sg} {Q : Qt}  (H : OQ (f_X11_copyRow_98_44  s) (fun _ s9 => Q none s9)) : WpM SHC MT (d + 1) 184 [.ref 44, .ref 98] s Q := by
  refine WpM.enter me_X11_copyRow rfl rfl ?_
  show Y_X11_copyRow_98_44 d Q 0 [(0, .ref 44), (1, .ref 98)] [] s
  unfold f_X11_copyRow_98_44 at H
  refine Wp.r_aload_n o_X11_copyRow rfl rfl (Wp.r_iconst o_X11_copyRow rfl (Wp.r_aload_n o_X11_copyRow rfl rfl (Wp.r_iconst o_X11_copyRow rfl (Wp.r_aload_n o_X11_copyRow rfl rfl (Wp.r_alen o_X11_copyRow rfl lk_C_44 (Wp.r_aload_n o_X11_copyRow rfl rfl (Wp.r_alen o_X11_copyRow rfl lk_C_98 (Wp.r_min o_X11_copyRow rfl (⟨rm8_ rfl, ?_⟩)))))))))
  obtain ⟨c9, H⟩ := oq_ck H
  refine Wp.run 1 (show room8 [] ∧ (¬ (0 : Int32) < 0 ∧ ¬ (0 : Int32) < 0 ∧ ¬ (if 4 < (4 : Int32) then 4 else (4 : Int32)) < 0 ∧ 0 + (if 4 < (4 : Int32) then 4 else (4 : Int32)).toNatClampNeg ≤ 4 ∧ 0 + (if 4 < (4 : Int32) then 4 else (4 : Int32)).toNatClampNeg ≤ 4) ∧ Y_X11_copyRow_98_44 d Q 14 [(0, .ref 44), (1, .ref 98)] [] (pA s 98 (va_cpy (s.1 44) (s.1 98) 0 0 (if 4 < (4 : Int32) then 4 else (4 : Int32)).toNatClampNeg)) from ⟨rm8_ rfl, c9, ?_⟩)
  exact Wp.r_return o_X11_copyRow rfl (H)
noncomputable abbrev Y_X2_copyFrom_26_80 (d : Nat) (Q : Qt) : Xt := Wp SHC (WpM SHC MT (d + 1)) (flat2 cq_X2_copyFrom) (none) Q
noncomputable def f_X2_copyFrom_26_80  (s : Sg) : Option (Unit × Sg) :=
  bd (f_X11_copyRow_94_40 s) (fun _ s2 =>
  bd (f_X11_copyRow_95_41 s2) (fun _ s4 =>
  bd (f_X11_copyRow_96_42 s4) (fun _ s6 =>
  bd (f_X11_copyRow_97_43 s6) (fun _ s8 =>
  bd (f_X11_copyRow_98_44 s8) (fun _ s10 =>
  nmx (pI (pI s10 80 5 (s10.1 26 5)) 80 6 ((pI s10 80 5 (s10.1 26 5)).1 26 6)) (fun s11 =>
  ck ((s11.1 26 7) = 0 ∨ (s11.1 26 7) = 1) (
  nmx (pI (pI s11 80 7 (s11.1 26 7)) 80 8 ((pI s11 80 7 (s11.1 26 7)).1 26 8)) (fun s13 =>
  nmx (pI (pI s13 80 9 (s13.1 26 9)) 80 10 ((pI s13 80 9 (s13.1 26 9)).1 26 10)) (fun s14 =>
  nmx (pI (pI s14 80 11 (s14.1 26 11)) 80 12 ((pI s14 80 11 (s14.1 26 11)).1 26 12)) (fun s15 =>
  some ((), s15)
  )
  )
  )
  )
  )
  )
  )
  )
  )
  )
set_option maxRecDepth 100000 in
theorem w_X2_copyFrom_26_80 {d : Nat} {s : Sg} {Q : Qt}  (H : OQ (f_X2_copyFrom_26_80  s) (fun _ s9 => Q none s9)) : WpM SHC MT (d + 2) 21 [.ref 80, .ref 26] s Q := by
  refine WpM.enter me_X2_copyFrom rfl rfl ?_
  show Y_X2_copyFrom_26_80 d Q 0 [(0, .ref 80), (1, .ref 26)] [] s
  unfold f_X2_copyFrom_26_80 at H
  refine Wp.r_aload_n o_X2_copyFrom rfl rfl (Wp.r_gfr o_X2_copyFrom rfl fk_C_26_0 (Wp.r_aload_n o_X2_copyFrom rfl rfl (Wp.r_gfr o_X2_copyFrom rfl fk_C_80_0 (Wp.r_cs2 o_X2_copyFrom rfl (⟨rm8_ rfl, ?_⟩)))))
  refine w_X11_copyRow_94_40 (d := d)  ?_
  refine oq_bd H (fun _ s2 H => ?_)
  show Y_X2_copyFrom_26_80 d Q 11 [(0, .ref 80), (1, .ref 26)] [] s2
  refine Wp.r_aload_n o_X2_copyFrom rfl rfl (Wp.r_gfr o_X2_copyFrom rfl fk_C_26_1 (Wp.r_aload_n o_X2_copyFrom rfl rfl (Wp.r_gfr o_X2_copyFrom rfl fk_C_80_1 (Wp.r_cs2 o_X2_copyFrom rfl (⟨rm8_ rfl, ?_⟩)))))
  refine w_X11_copyRow_95_41 (d := d)  ?_
  refine oq_bd H (fun _ s4 H => ?_)
  show Y_X2_copyFrom_26_80 d Q 22 [(0, .ref 80), (1, .ref 26)] [] s4
  refine Wp.r_aload_n o_X2_copyFrom rfl rfl (Wp.r_gfr o_X2_copyFrom rfl fk_C_26_2 (Wp.r_aload_n o_X2_copyFrom rfl rfl (Wp.r_gfr o_X2_copyFrom rfl fk_C_80_2 (Wp.r_cs2 o_X2_copyFrom rfl (⟨rm8_ rfl, ?_⟩)))))
  refine w_X11_copyRow_96_42 (d := d)  ?_
  refine oq_bd H (fun _ s6 H => ?_)
  show Y_X2_copyFrom_26_80 d Q 33 [(0, .ref 80), (1, .ref 26)] [] s6
  refine Wp.r_aload_n o_X2_copyFrom rfl rfl (Wp.r_gfr o_X2_copyFrom rfl fk_C_26_3 (Wp.r_aload_n o_X2_copyFrom rfl rfl (Wp.r_gfr o_X2_copyFrom rfl fk_C_80_3 (Wp.r_cs2 o_X2_copyFrom rfl (⟨rm8_ rfl, ?_⟩)))))
  refine w_X11_copyRow_97_43 (d := d)  ?_
  refine oq_bd H (fun _ s8 H => ?_)
  show Y_X2_copyFrom_26_80 d Q 44 [(0, .ref 80), (1, .ref 26)] [] s8
  refine Wp.r_aload_n o_X2_copyFrom rfl rfl (Wp.r_gfr o_X2_copyFrom rfl fk_C_26_4 (Wp.r_aload_n o_X2_copyFrom rfl rfl (Wp.r_gfr o_X2_copyFrom rfl fk_C_80_4 (Wp.r_cs2 o_X2_copyFrom rfl (⟨rm8_ rfl, ?_⟩)))))
  refine w_X11_copyRow_98_44 (d := d)  ?_
  refine oq_bd H (fun _ s10 H => ?_)
  show Y_X2_copyFrom_26_80 d Q 55 [(0, .ref 80), (1, .ref 26)] [] s10
  refine Wp.r_aload_n o_X2_copyFrom rfl rfl (Wp.r_aload_n o_X2_copyFrom rfl rfl (Wp.r_gfi o_X2_copyFrom rfl fk_C_26_5 (Wp.r_pfi o_X2_copyFrom rfl fk_C_80_5 (Wp.r_aload_n o_X2_copyFrom rfl rfl (Wp.r_aload_n o_X2_copyFrom rfl rfl (Wp.r_gfi o_X2_copyFrom rfl fk_C_26_6 (Wp.r_pfi o_X2_copyFrom rfl fk_C_80_6 (show Y_X2_copyFrom_26_80 d Q 71 [(0, .ref 80), (1, .ref 26)] [] (pI (pI s10 80 5 (s10.1 26 5)) 80 6 ((pI s10 80 5 (s10.1 26 5)).1 26 6)) from ?_))))))))
  revert H
  generalize pI (pI s10 80 5 (s10.1 26 5)) 80 6 ((pI s10 80 5 (s10.1 26 5)).1 26 6) = s11
  intro H
  have H := nmx_e H
  obtain ⟨hc12, H⟩ := oq_ck H
  refine Wp.r_aload_n o_X2_copyFrom rfl rfl (Wp.r_aload_n o_X2_copyFrom rfl rfl (Wp.r_gfi o_X2_copyFrom rfl fk_C_26_7 (Wp.r_pfz o_X2_copyFrom rfl fk_C_80_7 (⟨hc12, ?_⟩))))
  refine Wp.r_aload_n o_X2_copyFrom rfl rfl (Wp.r_aload_n o_X2_copyFrom rfl rfl (Wp.r_gfi o_X2_copyFrom rfl fk_C_26_8 (Wp.r_pfi o_X2_copyFrom rfl fk_C_80_8 (show Y_X2_copyFrom_26_80 d Q 87 [(0, .ref 80), (1, .ref 26)] [] (pI (pI s11 80 7 (s11.1 26 7)) 80 8 ((pI s11 80 7 (s11.1 26 7)).1 26 8)) from ?_))))
  revert H
  generalize pI (pI s11 80 7 (s11.1 26 7)) 80 8 ((pI s11 80 7 (s11.1 26 7)).1 26 8) = s13
  intro H
  have H := nmx_e H
  refine Wp.r_aload_n o_X2_copyFrom rfl rfl (Wp.r_aload_n o_X2_copyFrom rfl rfl (Wp.r_gfi o_X2_copyFrom rfl fk_C_26_9 (Wp.r_pfi o_X2_copyFrom rfl fk_C_80_9 (Wp.r_aload_n o_X2_copyFrom rfl rfl (Wp.r_aload_n o_X2_copyFrom rfl rfl (Wp.r_gfi o_X2_copyFrom rfl fk_C_26_10 (Wp.r_pfi o_X2_copyFrom rfl fk_C_80_10 (show Y_X2_copyFrom_26_80 d Q 103 [(0, .ref 80), (1, .ref 26)] [] (pI (pI s13 80 9 (s13.1 26 9)) 80 10 ((pI s13 80 9 (s13.1 26 9)).1 26 10)) from ?_))))))))
  revert H
  generalize pI (pI s13 80 9 (s13.1 26 9)) 80 10 ((pI s13 80 9 (s13.1 26 9)).1 26 10) = s14
  intro H
  have H := nmx_e H
  refine Wp.r_aload_n o_X2_copyFrom rfl rfl (Wp.r_aload_n o_X2_copyFrom rfl rfl (Wp.r_gfi o_X2_copyFrom rfl fk_C_26_11 (Wp.r_pfi o_X2_copyFrom rfl fk_C_80_11 (Wp.r_aload_n o_X2_copyFrom rfl rfl (Wp.r_aload_n o_X2_copyFrom rfl rfl (Wp.r_gfi o_X2_copyFrom rfl fk_C_26_12 (Wp.r_pfi o_X2_copyFrom rfl fk_C_80_12 (show Y_X2_copyFrom_26_80 d Q 119 [(0, .ref 80), (1, .ref 26)] [] (pI (pI s14 80 11 (s14.1 26 11)) 80 12 ((pI s14 80 11 (s14.1 26 11)).1 26 12)) from ?_))))))))
  revert H
  generalize pI (pI s14 80 11 (s14.1 26 11)) 80 12 ((pI s14 80 11 (s14.1 26 11)).1 26 12) = s15
  intro H
  have H := nmx_e H
  exact Wp.r_return o_X2_copyFrom rfl (H)
noncomputable abbrev Y_X11_copyRow_99_45 (d : Nat) (Q : Qt) : Xt := Wp SHC (WpM SHC MT (d + 0)) (flat2 cq_X11_copyRow) (none) Q
noncomputable def f_X11_copyRow_99_45  (s : Sg) : Option (Unit × Sg) :=
  ck (¬ (0 : Int32) < 0 ∧ ¬ (0 : Int32) < 0 ∧ ¬ (if 60 < (60 : Int32) then 60 else (60 : Int32)) < 0 ∧ 0 + (if 60 < (60 : Int32) then 60 else (60 : Int32)).toNatClampNeg ≤ 60 ∧ 0 + (if 60 < (60 : Int32) then 60 else (60 : Int32)).toNatClampNeg ≤ 60) (
  some ((), pA s 99 (va_cpy (s.1 45) (s.1 99) 0 0 (if 60 < (60 : Int32) then 60 else (60 : Int32)).toNatClampNeg))
  )
set_option maxRecDepth 100000 in
theorem w_X11_copyRow_99_45 {d : Nat} {s : Sg} {Q : Qt}  (H : OQ (f_X11_copyRow_99_45  s) (fun _ s9 => Q none s9)) : WpM SHC MT (d + 1) 184 [.ref 45, .ref 99] s Q := by
  refine WpM.enter me_X11_copyRow rfl rfl ?_
  show Y_X11_copyRow_99_45 d Q 0 [(0, .ref 45), (1, .ref 99)] [] s
  unfold f_X11_copyRow_99_45 at H
  refine Wp.r_aload_n o_X11_copyRow rfl rfl (Wp.r_iconst o_X11_copyRow rfl (Wp.r_aload_n o_X11_copyRow rfl rfl (Wp.r_iconst o_X11_copyRow rfl (Wp.r_aload_n o_X11_copyRow rfl rfl (Wp.r_alen o_X11_copyRow rfl lk_C_45 (Wp.r_aload_n o_X11_copyRow rfl rfl (Wp.r_alen o_X11_copyRow rfl lk_C_99 (Wp.r_min o_X11_copyRow rfl (⟨rm8_ rfl, ?_⟩)))))))))
  obtain ⟨c9, H⟩ := oq_ck H
  refine Wp.run 1 (show room8 [] ∧ (¬ (0 : Int32) < 0 ∧ ¬ (0 : Int32) < 0 ∧ ¬ (if 60 < (60 : Int32) then 60 else (60 : Int32)) < 0 ∧ 0 + (if 60 < (60 : Int32) then 60 else (60 : Int32)).toNatClampNeg ≤ 60 ∧ 0 + (if 60 < (60 : Int32) then 60 else (60 : Int32)).toNatClampNeg ≤ 60) ∧ Y_X11_copyRow_99_45 d Q 14 [(0, .ref 45), (1, .ref 99)] [] (pA s 99 (va_cpy (s.1 45) (s.1 99) 0 0 (if 60 < (60 : Int32) then 60 else (60 : Int32)).toNatClampNeg)) from ⟨rm8_ rfl, c9, ?_⟩)
  exact Wp.r_return o_X11_copyRow rfl (H)
noncomputable abbrev Y_X11_copyRow_100_46 (d : Nat) (Q : Qt) : Xt := Wp SHC (WpM SHC MT (d + 0)) (flat2 cq_X11_copyRow) (none) Q
noncomputable def f_X11_copyRow_100_46  (s : Sg) : Option (Unit × Sg) :=
  ck (¬ (0 : Int32) < 0 ∧ ¬ (0 : Int32) < 0 ∧ ¬ (if 60 < (60 : Int32) then 60 else (60 : Int32)) < 0 ∧ 0 + (if 60 < (60 : Int32) then 60 else (60 : Int32)).toNatClampNeg ≤ 60 ∧ 0 + (if 60 < (60 : Int32) then 60 else (60 : Int32)).toNatClampNeg ≤ 60) (
  some ((), pA s 100 (va_cpy (s.1 46) (s.1 100) 0 0 (if 60 < (60 : Int32) then 60 else (60 : Int32)).toNatClampNeg))
  )
set_option maxRecDepth 100000 in
theorem w_X11_copyRow_100_46 {d : Nat} {s : Sg} {Q : Qt}  (H : OQ (f_X11_copyRow_100_46  s) (fun _ s9 => Q none s9)) : WpM SHC MT (d + 1) 184 [.ref 46, .ref 100] s Q := by
  refine WpM.enter me_X11_copyRow rfl rfl ?_
  show Y_X11_copyRow_100_46 d Q 0 [(0, .ref 46), (1, .ref 100)] [] s
  unfold f_X11_copyRow_100_46 at H
  refine Wp.r_aload_n o_X11_copyRow rfl rfl (Wp.r_iconst o_X11_copyRow rfl (Wp.r_aload_n o_X11_copyRow rfl rfl (Wp.r_iconst o_X11_copyRow rfl (Wp.r_aload_n o_X11_copyRow rfl rfl (Wp.r_alen o_X11_copyRow rfl lk_C_46 (Wp.r_aload_n o_X11_copyRow rfl rfl (Wp.r_alen o_X11_copyRow rfl lk_C_100 (Wp.r_min o_X11_copyRow rfl (⟨rm8_ rfl, ?_⟩)))))))))
  obtain ⟨c9, H⟩ := oq_ck H
  refine Wp.run 1 (show room8 [] ∧ (¬ (0 : Int32) < 0 ∧ ¬ (0 : Int32) < 0 ∧ ¬ (if 60 < (60 : Int32) then 60 else (60 : Int32)) < 0 ∧ 0 + (if 60 < (60 : Int32) then 60 else (60 : Int32)).toNatClampNeg ≤ 60 ∧ 0 + (if 60 < (60 : Int32) then 60 else (60 : Int32)).toNatClampNeg ≤ 60) ∧ Y_X11_copyRow_100_46 d Q 14 [(0, .ref 46), (1, .ref 100)] [] (pA s 100 (va_cpy (s.1 46) (s.1 100) 0 0 (if 60 < (60 : Int32) then 60 else (60 : Int32)).toNatClampNeg)) from ⟨rm8_ rfl, c9, ?_⟩)
  exact Wp.r_return o_X11_copyRow rfl (H)
noncomputable abbrev Y_X11_copyRow_101_47 (d : Nat) (Q : Qt) : Xt := Wp SHC (WpM SHC MT (d + 0)) (flat2 cq_X11_copyRow) (none) Q
noncomputable def f_X11_copyRow_101_47  (s : Sg) : Option (Unit × Sg) :=
  ck (¬ (0 : Int32) < 0 ∧ ¬ (0 : Int32) < 0 ∧ ¬ (if 60 < (60 : Int32) then 60 else (60 : Int32)) < 0 ∧ 0 + (if 60 < (60 : Int32) then 60 else (60 : Int32)).toNatClampNeg ≤ 60 ∧ 0 + (if 60 < (60 : Int32) then 60 else (60 : Int32)).toNatClampNeg ≤ 60) (
  some ((), pA s 101 (va_cpy (s.1 47) (s.1 101) 0 0 (if 60 < (60 : Int32) then 60 else (60 : Int32)).toNatClampNeg))
  )
set_option maxRecDepth 100000 in
theorem w_X11_copyRow_101_47 {d : Nat} {s : Sg} {Q : Qt}  (H : OQ (f_X11_copyRow_101_47  s) (fun _ s9 => Q none s9)) : WpM SHC MT (d + 1) 184 [.ref 47, .ref 101] s Q := by
  refine WpM.enter me_X11_copyRow rfl rfl ?_
  show Y_X11_copyRow_101_47 d Q 0 [(0, .ref 47), (1, .ref 101)] [] s
  unfold f_X11_copyRow_101_47 at H
  refine Wp.r_aload_n o_X11_copyRow rfl rfl (Wp.r_iconst o_X11_copyRow rfl (Wp.r_aload_n o_X11_copyRow rfl rfl (Wp.r_iconst o_X11_copyRow rfl (Wp.r_aload_n o_X11_copyRow rfl rfl (Wp.r_alen o_X11_copyRow rfl lk_C_47 (Wp.r_aload_n o_X11_copyRow rfl rfl (Wp.r_alen o_X11_copyRow rfl lk_C_101 (Wp.r_min o_X11_copyRow rfl (⟨rm8_ rfl, ?_⟩)))))))))
  obtain ⟨c9, H⟩ := oq_ck H
  refine Wp.run 1 (show room8 [] ∧ (¬ (0 : Int32) < 0 ∧ ¬ (0 : Int32) < 0 ∧ ¬ (if 60 < (60 : Int32) then 60 else (60 : Int32)) < 0 ∧ 0 + (if 60 < (60 : Int32) then 60 else (60 : Int32)).toNatClampNeg ≤ 60 ∧ 0 + (if 60 < (60 : Int32) then 60 else (60 : Int32)).toNatClampNeg ≤ 60) ∧ Y_X11_copyRow_101_47 d Q 14 [(0, .ref 47), (1, .ref 101)] [] (pA s 101 (va_cpy (s.1 47) (s.1 101) 0 0 (if 60 < (60 : Int32) then 60 else (60 : Int32)).toNatClampNeg)) from ⟨rm8_ rfl, c9, ?_⟩)
  exact Wp.r_return o_X11_copyRow rfl (H)
noncomputable abbrev Y_X11_copyRow_102_48 (d : Nat) (Q : Qt) : Xt := Wp SHC (WpM SHC MT (d + 0)) (flat2 cq_X11_copyRow) (none) Q
noncomputable def f_X11_copyRow_102_48  (s : Sg) : Option (Unit × Sg) :=
  ck (¬ (0 : Int32) < 0 ∧ ¬ (0 : Int32) < 0 ∧ ¬ (if 60 < (60 : Int32) then 60 else (60 : Int32)) < 0 ∧ 0 + (if 60 < (60 : Int32) then 60 else (60 : Int32)).toNatClampNeg ≤ 60 ∧ 0 + (if 60 < (60 : Int32) then 60 else (60 : Int32)).toNatClampNeg ≤ 60) (
  some ((), pA s 102 (va_cpy (s.1 48) (s.1 102) 0 0 (if 60 < (60 : Int32) then 60 else (60 : Int32)).toNatClampNeg))
  )
set_option maxRecDepth 100000 in
theorem w_X11_copyRow_102_48 {d : Nat} {s : Sg} {Q : Qt}  (H : OQ (f_X11_copyRow_102_48  s) (fun _ s9 => Q none s9)) : WpM SHC MT (d + 1) 184 [.ref 48, .ref 102] s Q := by
  refine WpM.enter me_X11_copyRow rfl rfl ?_
  show Y_X11_copyRow_102_48 d Q 0 [(0, .ref 48), (1, .ref 102)] [] s
  unfold f_X11_copyRow_102_48 at H
  refine Wp.r_aload_n o_X11_copyRow rfl rfl (Wp.r_iconst o_X11_copyRow rfl (Wp.r_aload_n o_X11_copyRow rfl rfl (Wp.r_iconst o_X11_copyRow rfl (Wp.r_aload_n o_X11_copyRow rfl rfl (Wp.r_alen o_X11_copyRow rfl lk_C_48 (Wp.r_aload_n o_X11_copyRow rfl rfl (Wp.r_alen o_X11_copyRow rfl lk_C_102 (Wp.r_min o_X11_copyRow rfl (⟨rm8_ rfl, ?_⟩)))))))))
  obtain ⟨c9, H⟩ := oq_ck H
  refine Wp.run 1 (show room8 [] ∧ (¬ (0 : Int32) < 0 ∧ ¬ (0 : Int32) < 0 ∧ ¬ (if 60 < (60 : Int32) then 60 else (60 : Int32)) < 0 ∧ 0 + (if 60 < (60 : Int32) then 60 else (60 : Int32)).toNatClampNeg ≤ 60 ∧ 0 + (if 60 < (60 : Int32) then 60 else (60 : Int32)).toNatClampNeg ≤ 60) ∧ Y_X11_copyRow_102_48 d Q 14 [(0, .ref 48), (1, .ref 102)] [] (pA s 102 (va_cpy (s.1 48) (s.1 102) 0 0 (if 60 < (60 : Int32) then 60 else (60 : Int32)).toNatClampNeg)) from ⟨rm8_ rfl, c9, ?_⟩)
  exact Wp.r_return o_X11_copyRow rfl (H)
noncomputable abbrev Y_X11_copyRow_103_49 (d : Nat) (Q : Qt) : Xt := Wp SHC (WpM SHC MT (d + 0)) (flat2 cq_X11_copyRow) (none) Q
noncomputable def f_X11_copyRow_103_49  (s : Sg) : Option (Unit × Sg) :=
  ck (¬ (0 : Int32) < 0 ∧ ¬ (0 : Int32) < 0 ∧ ¬ (if 60 < (60 : Int32) then 60 else (60 : Int32)) < 0 ∧ 0 + (if 60 < (60 : Int32) then 60 else (60 : Int32)).toNatClampNeg ≤ 60 ∧ 0 + (if 60 < (60 : Int32) then 60 else (60 : Int32)).toNatClampNeg ≤ 60) (
  some ((), pA s 103 (va_cpy (s.1 49) (s.1 103) 0 0 (if 60 < (60 : Int32) then 60 else (60 : Int32)).toNatClampNeg))
  )
set_option maxRecDepth 100000 in
theorem w_X11_copyRow_103_49 {d : Nat} {s : Sg} {Q : Qt}  (H : OQ (f_X11_copyRow_103_49  s) (fun _ s9 => Q none s9)) : WpM SHC MT (d + 1) 184 [.ref 49, .ref 103] s Q := by
  refine WpM.enter me_X11_copyRow rfl rfl ?_
  show Y_X11_copyRow_103_49 d Q 0 [(0, .ref 49), (1, .ref 103)] [] s
  unfold f_X11_copyRow_103_49 at H
  refine Wp.r_aload_n o_X11_copyRow rfl rfl (Wp.r_iconst o_X11_copyRow rfl (Wp.r_aload_n o_X11_copyRow rfl rfl (Wp.r_iconst o_X11_copyRow rfl (Wp.r_aload_n o_X11_copyRow rfl rfl (Wp.r_alen o_X11_copyRow rfl lk_C_49 (Wp.r_aload_n o_X11_copyRow rfl rfl (Wp.r_alen o_X11_copyRow rfl lk_C_103 (Wp.r_min o_X11_copyRow rfl (⟨rm8_ rfl, ?_⟩)))))))))
  obtain ⟨c9, H⟩ := oq_ck H
  refine Wp.run 1 (show room8 [] ∧ (¬ (0 : Int32) < 0 ∧ ¬ (0 : Int32) < 0 ∧ ¬ (if 60 < (60 : Int32) then 60 else (60 : Int32)) < 0 ∧ 0 + (if 60 < (60 : Int32) then 60 else (60 : Int32)).toNatClampNeg ≤ 60 ∧ 0 + (if 60 < (60 : Int32) then 60 else (60 : Int32)).toNatClampNeg ≤ 60) ∧ Y_X11_copyRow_103_49 d Q 14 [(0, .ref 49), (1, .ref 103)] [] (pA s 103 (va_cpy (s.1 49) (s.1 103) 0 0 (if 60 < (60 : Int32) then 60 else (60 : Int32)).toNatClampNeg)) from ⟨rm8_ rfl, c9, ?_⟩)
  exact Wp.r_return o_X11_copyRow rfl (H)
noncomputable abbrev Y_X11_copyRow_104_50 (d : Nat) (Q : Qt) : Xt := Wp SHC (WpM SHC MT (d + 0)) (flat2 cq_X11_copyRow) (none) Q
noncomputable def f_X11_copyRow_104_50  (s : Sg) : Option (Unit × Sg) :=
  ck (¬ (0 : Int32) < 0 ∧ ¬ (0 : Int32) < 0 ∧ ¬ (if 60 < (60 : Int32) then 60 else (60 : Int32)) < 0 ∧ 0 + (if 60 < (60 : Int32) then 60 else (60 : Int32)).toNatClampNeg ≤ 60 ∧ 0 + (if 60 < (60 : Int32) then 60 else (60 : Int32)).toNatClampNeg ≤ 60) (
  some ((), pA s 104 (va_cpy (s.1 50) (s.1 104) 0 0 (if 60 < (60 : Int32) then 60 else (60 : Int32)).toNatClampNeg))
  )
set_option maxRecDepth 100000 in
theorem w_X11_copyRow_104_50 {d : Nat} {s : Sg} {Q : Qt}  (H : OQ (f_X11_copyRow_104_50  s) (fun _ s9 => Q none s9)) : WpM SHC MT (d + 1) 184 [.ref 50, .ref 104] s Q := by
  refine WpM.enter me_X11_copyRow rfl rfl ?_
  show Y_X11_copyRow_104_50 d Q 0 [(0, .ref 50), (1, .ref 104)] [] s
  unfold f_X11_copyRow_104_50 at H
  refine Wp.r_aload_n o_X11_copyRow rfl rfl (Wp.r_iconst o_X11_copyRow rfl (Wp.r_aload_n o_X11_copyRow rfl rfl (Wp.r_iconst o_X11_copyRow rfl (Wp.r_aload_n o_X11_copyRow rfl rfl (Wp.r_alen o_X11_copyRow rfl lk_C_50 (Wp.r_aload_n o_X11_copyRow rfl rfl (Wp.r_alen o_X11_copyRow rfl lk_C_104 (Wp.r_min o_X11_copyRow rfl (⟨rm8_ rfl, ?_⟩)))))))))
  obtain ⟨c9, H⟩ := oq_ck H
  refine Wp.run 1 (show room8 [] ∧ (¬ (0 : Int32) < 0 ∧ ¬ (0 : Int32) < 0 ∧ ¬ (if 60 < (60 : Int32) then 60 else (60 : Int32)) < 0 ∧ 0 + (if 60 < (60 : Int32) then 60 else (60 : Int32)).toNatClampNeg ≤ 60 ∧ 0 + (if 60 < (60 : Int32) then 60 else (60 : Int32)).toNatClampNeg ≤ 60) ∧ Y_X11_copyRow_104_50 d Q 14 [(0, .ref 50), (1, .ref 104)] [] (pA s 104 (va_cpy (s.1 50) (s.1 104) 0 0 (if 60 < (60 : Int32) then 60 else (60 : Int32)).toNatClampNeg)) from ⟨rm8_ rfl, c9, ?_⟩)
  exact Wp.r_return o_X11_copyRow rfl (H)
noncomputable abbrev Y_X5_copyFrom_27_81 (d : Nat) (Q : Qt) : Xt := Wp SHC (WpM SHC MT (d + 1)) (flat2 cq_X5_copyFrom) (none) Q
noncomputable def f_X5_copyFrom_27_81  (s : Sg) : Option (Unit × Sg) :=
  bd (f_X11_copyRow_99_45 s) (fun _ s2 =>
  bd (f_X11_copyRow_100_46 s2) (fun _ s4 =>
  bd (f_X11_copyRow_101_47 s4) (fun _ s6 =>
  bd (f_X11_copyRow_102_48 s6) (fun _ s8 =>
  bd (f_X11_copyRow_103_49 s8) (fun _ s10 =>
  bd (f_X11_copyRow_104_50 s10) (fun _ s12 =>
  ck ((s12.1 27 6) = 0 ∨ (s12.1 27 6) = 1) (
  nmx (pI (pI s12 81 6 (s12.1 27 6)) 81 7 ((pI s12 81 6 (s12.1 27 6)).1 27 7)) (fun s14 =>
  some ((), pI s14 81 8 (s14.1 27 8))
  )
  )
  )
  )
  )
  )
  )
  )
set_option maxRecDepth 100000 in
theorem w_X5_copyFrom_27_81 {d : Nat} {s : Sg} {Q : Qt}  (H : OQ (f_X5_copyFrom_27_81  s) (fun _ s9 => Q none s9)) : WpM SHC MT (d + 2) 62 [.ref 81, .ref 27] s Q := by
  refine WpM.enter me_X5_copyFrom rfl rfl ?_
  show Y_X5_copyFrom_27_81 d Q 0 [(0, .ref 81), (1, .ref 27)] [] s
  unfold f_X5_copyFrom_27_81 at H
  refine Wp.r_aload_n o_X5_copyFrom rfl rfl (Wp.r_gfr o_X5_copyFrom rfl fk_C_27_0 (Wp.r_aload_n o_X5_copyFrom rfl rfl (Wp.r_gfr o_X5_copyFrom rfl fk_C_81_0 (Wp.r_cs2 o_X5_copyFrom rfl (⟨rm8_ rfl, ?_⟩)))))
  refine w_X11_copyRow_99_45 (d := d)  ?_
  refine oq_bd H (fun _ s2 H => ?_)
  show Y_X5_copyFrom_27_81 d Q 11 [(0, .ref 81), (1, .ref 27)] [] s2
  refine Wp.r_aload_n o_X5_copyFrom rfl rfl (Wp.r_gfr o_X5_copyFrom rfl fk_C_27_1 (Wp.r_aload_n o_X5_copyFrom rfl rfl (Wp.r_gfr o_X5_copyFrom rfl fk_C_81_1 (Wp.r_cs2 o_X5_copyFrom rfl (⟨rm8_ rfl, ?_⟩)))))
  refine w_X11_copyRow_100_46 (d := d)  ?_
  refine oq_bd H (fun _ s4 H => ?_)
  show Y_X5_copyFrom_27_81 d Q 22 [(0, .ref 81), (1, .ref 27)] [] s4
  refine Wp.r_aload_n o_X5_copyFrom rfl rfl (Wp.r_gfr o_X5_copyFrom rfl fk_C_27_2 (Wp.r_aload_n o_X5_copyFrom rfl rfl (Wp.r_gfr o_X5_copyFrom rfl fk_C_81_2 (Wp.r_cs2 o_X5_copyFrom rfl (⟨rm8_ rfl, ?_⟩)))))
  refine w_X11_copyRow_101_47 (d := d)  ?_
  refine oq_bd H (fun _ s6 H => ?_)
  show Y_X5_copyFrom_27_81 d Q 33 [(0, .ref 81), (1, .ref 27)] [] s6
  refine Wp.r_aload_n o_X5_copyFrom rfl rfl (Wp.r_gfr o_X5_copyFrom rfl fk_C_27_3 (Wp.r_aload_n o_X5_copyFrom rfl rfl (Wp.r_gfr o_X5_copyFrom rfl fk_C_81_3 (Wp.r_cs2 o_X5_copyFrom rfl (⟨rm8_ rfl, ?_⟩)))))
  refine w_X11_copyRow_102_48 (d := d)  ?_
  refine oq_bd H (fun _ s8 H => ?_)
  show Y_X5_copyFrom_27_81 d Q 44 [(0, .ref 81), (1, .ref 27)] [] s8
  refine Wp.r_aload_n o_X5_copyFrom rfl rfl (Wp.r_gfr o_X5_copyFrom rfl fk_C_27_4 (Wp.r_aload_n o_X5_copyFrom rfl rfl (Wp.r_gfr o_X5_copyFrom rfl fk_C_81_4 (Wp.r_cs2 o_X5_copyFrom rfl (⟨rm8_ rfl, ?_⟩)))))
  refine w_X11_copyRow_103_49 (d := d)  ?_
  refine oq_bd H (fun _ s10 H => ?_)
  show Y_X5_copyFrom_27_81 d Q 55 [(0, .ref 81), (1, .ref 27)] [] s10
  refine Wp.r_aload_n o_X5_copyFrom rfl rfl (Wp.r_gfr o_X5_copyFrom rfl fk_C_27_5 (Wp.r_aload_n o_X5_copyFrom rfl rfl (Wp.r_gfr o_X5_copyFrom rfl fk_C_81_5 (Wp.r_cs2 o_X5_copyFrom rfl (⟨rm8_ rfl, ?_⟩)))))
  refine w_X11_copyRow_104_50 (d := d)  ?_
  refine oq_bd H (fun _ s12 H => ?_)
  show Y_X5_copyFrom_27_81 d Q 66 [(0, .ref 81), (1, .ref 27)] [] s12
  obtain ⟨hc13, H⟩ := oq_ck H
  refine Wp.r_aload_n o_X5_copyFrom rfl rfl (Wp.r_aload_n o_X5_copyFrom rfl rfl (Wp.r_gfi o_X5_copyFrom rfl fk_C_27_6 (Wp.r_pfz o_X5_copyFrom rfl fk_C_81_6 (⟨hc13, ?_⟩))))
  refine Wp.r_aload_n o_X5_copyFrom rfl rfl (Wp.r_aload_n o_X5_copyFrom rfl rfl (Wp.r_gfi o_X5_copyFrom rfl fk_C_27_7 (Wp.r_pfi o_X5_copyFrom rfl fk_C_81_7 (show Y_X5_copyFrom_27_81 d Q 82 [(0, .ref 81), (1, .ref 27)] [] (pI (pI s12 81 6 (s12.1 27 6)) 81 7 ((pI s12 81 6 (s12.1 27 6)).1 27 7)) from ?_))))
  revert H
  generalize pI (pI s12 81 6 (s12.1 27 6)) 81 7 ((pI s12 81 6 (s12.1 27 6)).1 27 7) = s14
  intro H
  have H := nmx_e H
  exact Wp.r_aload_n o_X5_copyFrom rfl rfl (Wp.r_aload_n o_X5_copyFrom rfl rfl (Wp.r_gfi o_X5_copyFrom rfl fk_C_27_8 (Wp.r_pfi o_X5_copyFrom rfl fk_C_81_8 (Wp.r_return o_X5_copyFrom rfl (H)))))
noncomputable abbrev Y_X10_copyFrom_24_78 (d : Nat) (Q : Qt) : Xt := Wp SHC (WpM SHC MT (d + 2)) (flat2 cq_X10_copyFrom) (none) Q
noncomputable def f_X10_copyFrom_24_78  (s : Sg) : Option (Unit × Sg) :=
  bd (f_X4_copyFrom_25_79 s) (fun _ s2 =>
  bd (f_X2_copyFrom_26_80 s2) (fun _ s4 =>
  bd (f_X5_copyFrom_27_81 s4) (fun _ s6 =>
  some ((), s6)
  )
  )
  )
set_option maxRecDepth 100000 in
theorem w_X10_copyFrom_24_78 {d : Nat} {s : Sg} {Q : Qt}  (H : OQ (f_X10_copyFrom_24_78  s) (fun _ s9 => Q none s9)) : WpM SHC MT (d + 3) 101 [.ref 78, .ref 24] s Q := by
  refine WpM.enter me_X10_copyFrom rfl rfl ?_
  show Y_X10_copyFrom_24_78 d Q 0 [(0, .ref 78), (1, .ref 24)] [] s
  unfold f_X10_copyFrom_24_78 at H
  refine Wp.r_aload_n o_X10_copyFrom rfl rfl (Wp.r_gfr o_X10_copyFrom rfl fk_C_78_0 (Wp.r_aload_n o_X10_copyFrom rfl rfl (Wp.r_gfr o_X10_copyFrom rfl fk_C_24_0 (Wp.r_cv2 o_X10_copyFrom rfl fk_C_79_0 (⟨rm8_ rfl, ?_⟩)))))
  refine w_X4_copyFrom_25_79 (d := d)  ?_
  refine oq_bd H (fun _ s2 H => ?_)
  show Y_X10_copyFrom_24_78 d Q 11 [(0, .ref 78), (1, .ref 24)] [] s2
  refine Wp.r_aload_n o_X10_copyFrom rfl rfl (Wp.r_gfr o_X10_copyFrom rfl fk_C_78_1 (Wp.r_aload_n o_X10_copyFrom rfl rfl (Wp.r_gfr o_X10_copyFrom rfl fk_C_24_1 (Wp.r_cv2 o_X10_copyFrom rfl fk_C_80_0 (⟨rm8_ rfl, ?_⟩)))))
  refine w_X2_copyFrom_26_80 (d := d)  ?_
  refine oq_bd H (fun _ s4 H => ?_)
  show Y_X10_copyFrom_24_78 d Q 22 [(0, .ref 78), (1, .ref 24)] [] s4
  refine Wp.r_aload_n o_X10_copyFrom rfl rfl (Wp.r_gfr o_X10_copyFrom rfl fk_C_78_2 (Wp.r_aload_n o_X10_copyFrom rfl rfl (Wp.r_gfr o_X10_copyFrom rfl fk_C_24_2 (Wp.r_cv2 o_X10_copyFrom rfl fk_C_81_0 (⟨rm8_ rfl, ?_⟩)))))
  refine w_X5_copyFrom_27_81 (d := d)  ?_
  refine oq_bd H (fun _ s6 H => ?_)
  show Y_X10_copyFrom_24_78 d Q 33 [(0, .ref 78), (1, .ref 24)] [] s6
  exact Wp.r_return o_X10_copyFrom rfl (H)
noncomputable abbrev Y_X11_copyRow_110_29 (d : Nat) (Q : Qt) : Xt := Wp SHC (WpM SHC MT (d + 0)) (flat2 cq_X11_copyRow) (none) Q
noncomputable def f_X11_copyRow_110_29  (s : Sg) : Option (Unit × Sg) :=
  ck (¬ (0 : Int32) < 0 ∧ ¬ (0 : Int32) < 0 ∧ ¬ (if 24 < (24 : Int32) then 24 else (24 : Int32)) < 0 ∧ 0 + (if 24 < (24 : Int32) then 24 else (24 : Int32)).toNatClampNeg ≤ 24 ∧ 0 + (if 24 < (24 : Int32) then 24 else (24 : Int32)).toNatClampNeg ≤ 24) (
  some ((), pA s 110 (va_cpy (s.1 29) (s.1 110) 0 0 (if 24 < (24 : Int32) then 24 else (24 : Int32)).toNatClampNeg))
  )
set_option maxRecDepth 100000 in
theorem w_X11_copyRow_110_29 {d : Nat} {s : Sg} {Q : Qt}  (H : OQ (f_X11_copyRow_110_29  s) (fun _ s9 => Q none s9)) : WpM SHC MT (d + 1) 184 [.ref 29, .ref 110] s Q := by
  refine WpM.enter me_X11_copyRow rfl rfl ?_
  show Y_X11_copyRow_110_29 d Q 0 [(0, .ref 29), (1, .ref 110)] [] s
  unfold f_X11_copyRow_110_29 at H
  refine Wp.r_aload_n o_X11_copyRow rfl rfl (Wp.r_iconst o_X11_copyRow rfl (Wp.r_aload_n o_X11_copyRow rfl rfl (Wp.r_iconst o_X11_copyRow rfl (Wp.r_aload_n o_X11_copyRow rfl rfl (Wp.r_alen o_X11_copyRow rfl lk_C_29 (Wp.r_aload_n o_X11_copyRow rfl rfl (Wp.r_alen o_X11_copyRow rfl lk_C_110 (Wp.r_min o_X11_copyRow rfl (⟨rm8_ rfl, ?_⟩)))))))))
  obtain ⟨c9, H⟩ := oq_ck H
  refine Wp.run 1 (show room8 [] ∧ (¬ (0 : Int32) < 0 ∧ ¬ (0 : Int32) < 0 ∧ ¬ (if 24 < (24 : Int32) then 24 else (24 : Int32)) < 0 ∧ 0 + (if 24 < (24 : Int32) then 24 else (24 : Int32)).toNatClampNeg ≤ 24 ∧ 0 + (if 24 < (24 : Int32) then 24 else (24 : Int32)).toNatClampNeg ≤ 24) ∧ Y_X11_copyRow_110_29 d Q 14 [(0, .ref 29), (1, .ref 110)] [] (pA s 110 (va_cpy (s.1 29) (s.1 110) 0 0 (if 24 < (24 : Int32) then 24 else (24 : Int32)).toNatClampNeg)) from ⟨rm8_ rfl, c9, ?_⟩)
  exact Wp.r_return o_X11_copyRow rfl (H)
noncomputable abbrev Y_X11_copyRow_111_30 (d : Nat) (Q : Qt) : Xt := Wp SHC (WpM SHC MT (d + 0)) (flat2 cq_X11_copyRow) (none) Q
noncomputable def f_X11_copyRow_111_30  (s : Sg) : Option (Unit × Sg) :=
  ck (¬ (0 : Int32) < 0 ∧ ¬ (0 : Int32) < 0 ∧ ¬ (if 24 < (24 : Int32) then 24 else (24 : Int32)) < 0 ∧ 0 + (if 24 < (24 : Int32) then 24 else (24 : Int32)).toNatClampNeg ≤ 24 ∧ 0 + (if 24 < (24 : Int32) then 24 else (24 : Int32)).toNatClampNeg ≤ 24) (
  some ((), pA s 111 (va_cpy (s.1 30) (s.1 111) 0 0 (if 24 < (24 : Int32) then 24 else (24 : Int32)).toNatClampNeg))
  )
set_option maxRecDepth 100000 in
theorem w_X11_copyRow_111_30 {d : Nat} {s : Sg} {Q : Qt}  (H : OQ (f_X11_copyRow_111_30  s) (fun _ s9 => Q none s9)) : WpM SHC MT (d + 1) 184 [.ref 30, .ref 111] s Q := by
  refine WpM.enter me_X11_copyRow rfl rfl ?_
  show Y_X11_copyRow_111_30 d Q 0 [(0, .ref 30), (1, .ref 111)] [] s
  unfold f_X11_copyRow_111_30 at H
  refine Wp.r_aload_n o_X11_copyRow rfl rfl (Wp.r_iconst o_X11_copyRow rfl (Wp.r_aload_n o_X11_copyRow rfl rfl (Wp.r_iconst o_X11_copyRow rfl (Wp.r_aload_n o_X11_copyRow rfl rfl (Wp.r_alen o_X11_copyRow rfl lk_C_30 (Wp.r_aload_n o_X11_copyRow rfl rfl (Wp.r_alen o_X11_copyRow rfl lk_C_111 (Wp.r_min o_X11_copyRow rfl (⟨rm8_ rfl, ?_⟩)))))))))
  obtain ⟨c9, H⟩ := oq_ck H
  refine Wp.run 1 (show room8 [] ∧ (¬ (0 : Int32) < 0 ∧ ¬ (0 : Int32) < 0 ∧ ¬ (if 24 < (24 : Int32) then 24 else (24 : Int32)) < 0 ∧ 0 + (if 24 < (24 : Int32) then 24 else (24 : Int32)).toNatClampNeg ≤ 24 ∧ 0 + (if 24 < (24 : Int32) then 24 else (24 : Int32)).toNatClampNeg ≤ 24) ∧ Y_X11_copyRow_111_30 d Q 14 [(0, .ref 30), (1, .ref 111)] [] (pA s 111 (va_cpy (s.1 30) (s.1 111) 0 0 (if 24 < (24 : Int32) then 24 else (24 : Int32)).toNatClampNeg)) from ⟨rm8_ rfl, c9, ?_⟩)
  exact Wp.r_return o_X11_copyRow rfl (H)
noncomputable abbrev Y_X11_copyRow_112_31 (d : Nat) (Q : Qt) : Xt := Wp SHC (WpM SHC MT (d + 0)) (flat2 cq_X11_copyRow) (none) Q
noncomputable def f_X11_copyRow_112_31  (s : Sg) : Option (Unit × Sg) :=
  ck (¬ (0 : Int32) < 0 ∧ ¬ (0 : Int32) < 0 ∧ ¬ (if 8 < (8 : Int32) then 8 else (8 : Int32)) < 0 ∧ 0 + (if 8 < (8 : Int32) then 8 else (8 : Int32)).toNatClampNeg ≤ 8 ∧ 0 + (if 8 < (8 : Int32) then 8 else (8 : Int32)).toNatClampNeg ≤ 8) (
  some ((), pA s 112 (va_cpy (s.1 31) (s.1 112) 0 0 (if 8 < (8 : Int32) then 8 else (8 : Int32)).toNatClampNeg))
  )
set_option maxRecDepth 100000 in
theorem w_X11_copyRow_112_31 {d : Nat} {s : Sg} {Q : Qt}  (H : OQ (f_X11_copyRow_112_31  s) (fun _ s9 => Q none s9)) : WpM SHC MT (d + 1) 184 [.ref 31, .ref 112] s Q := by
  refine WpM.enter me_X11_copyRow rfl rfl ?_
  show Y_X11_copyRow_112_31 d Q 0 [(0, .ref 31), (1, .ref 112)] [] s
  unfold f_X11_copyRow_112_31 at H
  refine Wp.r_aload_n o_X11_copyRow rfl rfl (Wp.r_iconst o_X11_copyRow rfl (Wp.r_aload_n o_X11_copyRow rfl rfl (Wp.r_iconst o_X11_copyRow rfl (Wp.r_aload_n o_X11_copyRow rfl rfl (Wp.r_alen o_X11_copyRow rfl lk_C_31 (Wp.r_aload_n o_X11_copyRow rfl rfl (Wp.r_alen o_X11_copyRow rfl lk_C_112 (Wp.r_min o_X11_copyRow rfl (⟨rm8_ rfl, ?_⟩)))))))))
  obtain ⟨c9, H⟩ := oq_ck H
  refine Wp.run 1 (show room8 [] ∧ (¬ (0 : Int32) < 0 ∧ ¬ (0 : Int32) < 0 ∧ ¬ (if 8 < (8 : Int32) then 8 else (8 : Int32)) < 0 ∧ 0 + (if 8 < (8 : Int32) then 8 else (8 : Int32)).toNatClampNeg ≤ 8 ∧ 0 + (if 8 < (8 : Int32) then 8 else (8 : Int32)).toNatClampNeg ≤ 8) ∧ Y_X11_copyRow_112_31 d Q 14 [(0, .ref 31), (1, .ref 112)] [] (pA s 112 (va_cpy (s.1 31) (s.1 112) 0 0 (if 8 < (8 : Int32) then 8 else (8 : Int32)).toNatClampNeg)) from ⟨rm8_ rfl, c9, ?_⟩)
  exact Wp.r_return o_X11_copyRow rfl (H)
noncomputable abbrev Y_X11_copyRow_113_32 (d : Nat) (Q : Qt) : Xt := Wp SHC (WpM SHC MT (d + 0)) (flat2 cq_X11_copyRow) (none) Q
noncomputable def f_X11_copyRow_113_32  (s : Sg) : Option (Unit × Sg) :=
  ck (¬ (0 : Int32) < 0 ∧ ¬ (0 : Int32) < 0 ∧ ¬ (if 8 < (8 : Int32) then 8 else (8 : Int32)) < 0 ∧ 0 + (if 8 < (8 : Int32) then 8 else (8 : Int32)).toNatClampNeg ≤ 8 ∧ 0 + (if 8 < (8 : Int32) then 8 else (8 : Int32)).toNatClampNeg ≤ 8) (
  some ((), pA s 113 (va_cpy (s.1 32) (s.1 113) 0 0 (if 8 < (8 : Int32) then 8 else (8 : Int32)).toNatClampNeg))
  )
set_option maxRecDepth 100000 in
theorem w_X11_copyRow_113_32 {d : Nat} {s : Sg} {Q : Qt}  (H : OQ (f_X11_copyRow_113_32  s) (fun _ s9 => Q none s9)) : WpM SHC MT (d + 1) 184 [.ref 32, .ref 113] s Q := by
  refine WpM.enter me_X11_copyRow rfl rfl ?_
  show Y_X11_copyRow_113_32 d Q 0 [(0, .ref 32), (1, .ref 113)] [] s
  unfold f_X11_copyRow_113_32 at H
  refine Wp.r_aload_n o_X11_copyRow rfl rfl (Wp.r_iconst o_X11_copyRow rfl (Wp.r_aload_n o_X11_copyRow rfl rfl (Wp.r_iconst o_X11_copyRow rfl (Wp.r_aload_n o_X11_copyRow rfl rfl (Wp.r_alen o_X11_copyRow rfl lk_C_32 (Wp.r_aload_n o_X11_copyRow rfl rfl (Wp.r_alen o_X11_copyRow rfl lk_C_113 (Wp.r_min o_X11_copyRow rfl (⟨rm8_ rfl, ?_⟩)))))))))
  obtain ⟨c9, H⟩ := oq_ck H
  refine Wp.run 1 (show room8 [] ∧ (¬ (0 : Int32) < 0 ∧ ¬ (0 : Int32) < 0 ∧ ¬ (if 8 < (8 : Int32) then 8 else (8 : Int32)) < 0 ∧ 0 + (if 8 < (8 : Int32) then 8 else (8 : Int32)).toNatClampNeg ≤ 8 ∧ 0 + (if 8 < (8 : Int32) then 8 else (8 : Int32)).toNatClampNeg ≤ 8) ∧ Y_X11_copyRow_113_32 d Q 14 [(0, .ref 32), (1, .ref 113)] [] (pA s 113 (va_cpy (s.1 32) (s.1 113) 0 0 (if 8 < (8 : Int32) then 8 else (8 : Int32)).toNatClampNeg)) from ⟨rm8_ rfl, c9, ?_⟩)
  exact Wp.r_return o_X11_copyRow rfl (H)
noncomputable abbrev Y_X11_copyRow_114_33 (d : Nat) (Q : Qt) : Xt := Wp SHC (WpM SHC MT (d + 0)) (flat2 cq_X11_copyRow) (none) Q
noncomputable def f_X11_copyRow_114_33  (s : Sg) : Option (Unit × Sg) :=
  ck (¬ (0 : Int32) < 0 ∧ ¬ (0 : Int32) < 0 ∧ ¬ (if 8 < (8 : Int32) then 8 else (8 : Int32)) < 0 ∧ 0 + (if 8 < (8 : Int32) then 8 else (8 : Int32)).toNatClampNeg ≤ 8 ∧ 0 + (if 8 < (8 : Int32) then 8 else (8 : Int32)).toNatClampNeg ≤ 8) (
  some ((), pA s 114 (va_cpy (s.1 33) (s.1 114) 0 0 (if 8 < (8 : Int32) then 8 else (8 : Int32)).toNatClampNeg))
  )
set_option maxRecDepth 100000 in
theorem w_X11_copyRow_114_33 {d : Nat} {s : Sg} {Q : Qt}  (H : OQ (f_X11_copyRow_114_33  s) (fun _ s9 => Q none s9)) : WpM SHC MT (d + 1) 184 [.ref 33, .ref 114] s Q := by
  refine WpM.enter me_X11_copyRow rfl rfl ?_
  show Y_X11_copyRow_114_33 d Q 0 [(0, .ref 33), (1, .ref 114)] [] s
  unfold f_X11_copyRow_114_33 at H
  refine Wp.r_aload_n o_X11_copyRow rfl rfl (Wp.r_iconst o_X11_copyRow rfl (Wp.r_aload_n o_X11_copyRow rfl rfl (Wp.r_iconst o_X11_copyRow rfl (Wp.r_aload_n o_X11_copyRow rfl rfl (Wp.r_alen o_X11_copyRow rfl lk_C_33 (Wp.r_aload_n o_X11_copyRow rfl rfl (Wp.r_alen o_X11_copyRow rfl lk_C_114 (Wp.r_min o_X11_copyRow rfl (⟨rm8_ rfl, ?_⟩)))))))))
  obtain ⟨c9, H⟩ := oq_ck H
  refine Wp.run 1 (show room8 [] ∧ (¬ (0 : Int32) < 0 ∧ ¬ (0 : Int32) < 0 ∧ ¬ (if 8 < (8 : Int32) then 8 else (8 : Int32)) < 0 ∧ 0 + (if 8 < (8 : Int32) then 8 else (8 : Int32)).toNatClampNeg ≤ 8 ∧ 0 + (if 8 < (8 : Int32) then 8 else (8 : Int32)).toNatClampNeg ≤ 8) ∧ Y_X11_copyRow_114_33 d Q 14 [(0, .ref 33), (1, .ref 114)] [] (pA s 114 (va_cpy (s.1 33) (s.1 114) 0 0 (if 8 < (8 : Int32) then 8 else (8 : Int32)).toNatClampNeg)) from ⟨rm8_ rfl, c9, ?_⟩)
  exact Wp.r_return o_X11_copyRow rfl (H)
noncomputable abbrev Y_X11_copyRow_115_34 (d : Nat) (Q : Qt) : Xt := Wp SHC (WpM SHC MT (d + 0)) (flat2 cq_X11_copyRow) (none) Q
noncomputable def f_X11_copyRow_115_34  (s : Sg) : Option (Unit × Sg) :=
  ck (¬ (0 : Int32) < 0 ∧ ¬ (0 : Int32) < 0 ∧ ¬ (if 8 < (8 : Int32) then 8 else (8 : Int32)) < 0 ∧ 0 + (if 8 < (8 : Int32) then 8 else (8 : Int32)).toNatClampNeg ≤ 8 ∧ 0 + (if 8 < (8 : Int32) then 8 else (8 : Int32)).toNatClampNeg ≤ 8) (
  some ((), pA s 115 (va_cpy (s.1 34) (s.1 115) 0 0 (if 8 < (8 : Int32) then 8 else (8 : Int32)).toNatClampNeg))
  )
set_option maxRecDepth 100000 in
theorem w_X11_copyRow_115_34 {d : Nat} {s : Sg} {Q : Qt}  (H : OQ (f_X11_copyRow_115_34  s) (fun _ s9 => Q none s9)) : WpM SHC MT (d + 1) 184 [.ref 34, .ref 115] s Q := by
  refine WpM.enter me_X11_copyRow rfl rfl ?_
  show Y_X11_copyRow_115_34 d Q 0 [(0, .ref 34), (1, .ref 115)] [] s
  unfold f_X11_copyRow_115_34 at H
  refine Wp.r_aload_n o_X11_copyRow rfl rfl (Wp.r_iconst o_X11_copyRow rfl (Wp.r_aload_n o_X11_copyRow rfl rfl (Wp.r_iconst o_X11_copyRow rfl (Wp.r_aload_n o_X11_copyRow rfl rfl (Wp.r_alen o_X11_copyRow rfl lk_C_34 (Wp.r_aload_n o_X11_copyRow rfl rfl (Wp.r_alen o_X11_copyRow rfl lk_C_115 (Wp.r_min o_X11_copyRow rfl (⟨rm8_ rfl, ?_⟩)))))))))
  obtain ⟨c9, H⟩ := oq_ck H
  refine Wp.run 1 (show room8 [] ∧ (¬ (0 : Int32) < 0 ∧ ¬ (0 : Int32) < 0 ∧ ¬ (if 8 < (8 : Int32) then 8 else (8 : Int32)) < 0 ∧ 0 + (if 8 < (8 : Int32) then 8 else (8 : Int32)).toNatClampNeg ≤ 8 ∧ 0 + (if 8 < (8 : Int32) then 8 else (8 : Int32)).toNatClampNeg ≤ 8) ∧ Y_X11_copyRow_115_34 d Q 14 [(0, .ref 34), (1, .ref 115)] [] (pA s 115 (va_cpy (s.1 34) (s.1 115) 0 0 (if 8 < (8 : Int32) then 8 else (8 : Int32)).toNatClampNeg)) from ⟨rm8_ rfl, c9, ?_⟩)
  exact Wp.r_return o_X11_copyRow rfl (H)
noncomputable abbrev Y_X11_copyRow_116_35 (d : Nat) (Q : Qt) : Xt := Wp SHC (WpM SHC MT (d + 0)) (flat2 cq_X11_copyRow) (none) Q
noncomputable def f_X11_copyRow_116_35  (s : Sg) : Option (Unit × Sg) :=
  ck (¬ (0 : Int32) < 0 ∧ ¬ (0 : Int32) < 0 ∧ ¬ (if 4 < (4 : Int32) then 4 else (4 : Int32)) < 0 ∧ 0 + (if 4 < (4 : Int32) then 4 else (4 : Int32)).toNatClampNeg ≤ 4 ∧ 0 + (if 4 < (4 : Int32) then 4 else (4 : Int32)).toNatClampNeg ≤ 4) (
  some ((), pA s 116 (va_cpy (s.1 35) (s.1 116) 0 0 (if 4 < (4 : Int32) then 4 else (4 : Int32)).toNatClampNeg))
  )
set_option maxRecDepth 100000 in
theorem w_X11_copyRow_116_35 {d : Nat} {s : Sg} {Q : Qt}  (H : OQ (f_X11_copyRow_116_35  s) (fun _ s9 => Q none s9)) : WpM SHC MT (d + 1) 184 [.ref 35, .ref 116] s Q := by
  refine WpM.enter me_X11_copyRow rfl rfl ?_
  show Y_X11_copyRow_116_35 d Q 0 [(0, .ref 35), (1, .ref 116)] [] s
  unfold f_X11_copyRow_116_35 at H
  refine Wp.r_aload_n o_X11_copyRow rfl rfl (Wp.r_iconst o_X11_copyRow rfl (Wp.r_aload_n o_X11_copyRow rfl rfl (Wp.r_iconst o_X11_copyRow rfl (Wp.r_aload_n o_X11_copyRow rfl rfl (Wp.r_alen o_X11_copyRow rfl lk_C_35 (Wp.r_aload_n o_X11_copyRow rfl rfl (Wp.r_alen o_X11_copyRow rfl lk_C_116 (Wp.r_min o_X11_copyRow rfl (⟨rm8_ rfl, ?_⟩)))))))))
  obtain ⟨c9, H⟩ := oq_ck H
  refine Wp.run 1 (show room8 [] ∧ (¬ (0 : Int32) < 0 ∧ ¬ (0 : Int32) < 0 ∧ ¬ (if 4 < (4 : Int32) then 4 else (4 : Int32)) < 0 ∧ 0 + (if 4 < (4 : Int32) then 4 else (4 : Int32)).toNatClampNeg ≤ 4 ∧ 0 + (if 4 < (4 : Int32) then 4 else (4 : Int32)).toNatClampNeg ≤ 4) ∧ Y_X11_copyRow_116_35 d Q 14 [(0, .ref 35), (1, .ref 116)] [] (pA s 116 (va_cpy (s.1 35) (s.1 116) 0 0 (if 4 < (4 : Int32) then 4 else (4 : Int32)).toNatClampNeg)) from ⟨rm8_ rfl, c9, ?_⟩)
  exact Wp.r_return o_X11_copyRow rfl (H)
noncomputable abbrev Y_X11_copyRow_117_36 (d : Nat) (Q : Qt) : Xt := Wp SHC (WpM SHC MT (d + 0)) (flat2 cq_X11_copyRow) (none) Q
noncomputable def f_X11_copyRow_117_36  (s : Sg) : Option (Unit × Sg) :=
  ck (¬ (0 : Int32) < 0 ∧ ¬ (0 : Int32) < 0 ∧ ¬ (if 4 < (4 : Int32) then 4 else (4 : Int32)) < 0 ∧ 0 + (if 4 < (4 : Int32) then 4 else (4 : Int32)).toNatClampNeg ≤ 4 ∧ 0 + (if 4 < (4 : Int32) then 4 else (4 : Int32)).toNatClampNeg ≤ 4) (
  some ((), pA s 117 (va_cpy (s.1 36) (s.1 117) 0 0 (if 4 < (4 : Int32) then 4 else (4 : Int32)).toNatClampNeg))
  )
set_option maxRecDepth 100000 in
theorem w_X11_copyRow_117_36 {d : Nat} {s : Sg} {Q : Qt}  (H : OQ (f_X11_copyRow_117_36  s) (fun _ s9 => Q none s9)) : WpM SHC MT (d + 1) 184 [.ref 36, .ref 117] s Q := by
  refine WpM.enter me_X11_copyRow rfl rfl ?_
  show Y_X11_copyRow_117_36 d Q 0 [(0, .ref 36), (1, .ref 117)] [] s
  unfold f_X11_copyRow_117_36 at H
  refine Wp.r_aload_n o_X11_copyRow rfl rfl (Wp.r_iconst o_X11_copyRow rfl (Wp.r_aload_n o_X11_copyRow rfl rfl (Wp.r_iconst o_X11_copyRow rfl (Wp.r_aload_n o_X11_copyRow rfl rfl (Wp.r_alen o_X11_copyRow rfl lk_C_36 (Wp.r_aload_n o_X11_copyRow rfl rfl (Wp.r_alen o_X11_copyRow rfl lk_C_117 (Wp.r_min o_X11_copyRow rfl (⟨rm8_ rfl, ?_⟩)))))))))
  obtain ⟨c9, H⟩ := oq_ck H
  refine Wp.run 1 (show room8 [] ∧ (¬ (0 : Int32) < 0 ∧ ¬ (0 : Int32) < 0 ∧ ¬ (if 4 < (4 : Int32) then 4 else (4 : Int32)) < 0 ∧ 0 + (if 4 < (4 : Int32) then 4 else (4 : Int32)).toNatClampNeg ≤ 4 ∧ 0 + (if 4 < (4 : Int32) then 4 else (4 : Int32)).toNatClampNeg ≤ 4) ∧ Y_X11_copyRow_117_36 d Q 14 [(0, .ref 36), (1, .ref 117)] [] (pA s 117 (va_cpy (s.1 36) (s.1 117) 0 0 (if 4 < (4 : Int32) then 4 else (4 : Int32)).toNatClampNeg)) from ⟨rm8_ rfl, c9, ?_⟩)
  exact Wp.r_return o_X11_copyRow rfl (H)
noncomputable abbrev Y_X11_copyRow_118_37 (d : Nat) (Q : Qt) : Xt := Wp SHC (WpM SHC MT (d + 0)) (flat2 cq_X11_copyRow) (none) Q
noncomputable def f_X11_copyRow_118_37  (s : Sg) : Option (Unit × Sg) :=
  ck (¬ (0 : Int32) < 0 ∧ ¬ (0 : Int32) < 0 ∧ ¬ (if 4 < (4 : Int32) then 4 else (4 : Int32)) < 0 ∧ 0 + (if 4 < (4 : Int32) then 4 else (4 : Int32)).toNatClampNeg ≤ 4 ∧ 0 + (if 4 < (4 : Int32) then 4 else (4 : Int32)).toNatClampNeg ≤ 4) (
  some ((), pA s 118 (va_cpy (s.1 37) (s.1 118) 0 0 (if 4 < (4 : Int32) then 4 else (4 : Int32)).toNatClampNeg))
  )
set_option maxRecDepth 100000 in
theorem w_X11_copyRow_118_37 {d : Nat} {s : Sg} {Q : Qt}  (H : OQ (f_X11_copyRow_118_37  s) (fun _ s9 => Q none s9)) : WpM SHC MT (d + 1) 184 [.ref 37, .ref 118] s Q := by
  refine WpM.enter me_X11_copyRow rfl rfl ?_
  show Y_X11_copyRow_118_37 d Q 0 [(0, .ref 37), (1, .ref 118)] [] s
  unfold f_X11_copyRow_118_37 at H
  refine Wp.r_aload_n o_X11_copyRow rfl rfl (Wp.r_iconst o_X11_copyRow rfl (Wp.r_aload_n o_X11_copyRow rfl rfl (Wp.r_iconst o_X11_copyRow rfl (Wp.r_aload_n o_X11_copyRow rfl rfl (Wp.r_alen o_X11_copyRow rfl lk_C_37 (Wp.r_aload_n o_X11_copyRow rfl rfl (Wp.r_alen o_X11_copyRow rfl lk_C_118 (Wp.r_min o_X11_copyRow rfl (⟨rm8_ rfl, ?_⟩)))))))))
  obtain ⟨c9, H⟩ := oq_ck H
  refine Wp.run 1 (show room8 [] ∧ (¬ (0 : Int32) < 0 ∧ ¬ (0 : Int32) < 0 ∧ ¬ (if 4 < (4 : Int32) then 4 else (4 : Int32)) < 0 ∧ 0 + (if 4 < (4 : Int32) then 4 else (4 : Int32)).toNatClampNeg ≤ 4 ∧ 0 + (if 4 < (4 : Int32) then 4 else (4 : Int32)).toNatClampNeg ≤ 4) ∧ Y_X11_copyRow_118_37 d Q 14 [(0, .ref 37), (1, .ref 118)] [] (pA s 118 (va_cpy (s.1 37) (s.1 118) 0 0 (if 4 < (4 : Int32) then 4 else (4 : Int32)).toNatClampNeg)) from ⟨rm8_ rfl, c9, ?_⟩)
  exact Wp.r_return o_X11_copyRow rfl (H)
noncomputable abbrev Y_X11_copyRow_119_38 (d : Nat) (Q : Qt) : Xt := Wp SHC (WpM SHC MT (d + 0)) (flat2 cq_X11_copyRow) (none) Q
noncomputable def f_X11_copyRow_119_38  (s : Sg) : Option (Unit × Sg) :=
  ck (¬ (0 : Int32) < 0 ∧ ¬ (0 : Int32) < 0 ∧ ¬ (if 4 < (4 : Int32) then 4 else (4 : Int32)) < 0 ∧ 0 + (if 4 < (4 : Int32) then 4 else (4 : Int32)).toNatClampNeg ≤ 4 ∧ 0 + (if 4 < (4 : Int32) then 4 else (4 : Int32)).toNatClampNeg ≤ 4) (
  some ((), pA s 119 (va_cpy (s.1 38) (s.1 119) 0 0 (if 4 < (4 : Int32) then 4 else (4 : Int32)).toNatClampNeg))
  )
set_option maxRecDepth 100000 in
theorem w_X11_copyRow_119_38 {d : Nat} {s : Sg} {Q : Qt}  (H : OQ (f_X11_copyRow_119_38  s) (fun _ s9 => Q none s9)) : WpM SHC MT (d + 1) 184 [.ref 38, .ref 119] s Q := by
  refine WpM.enter me_X11_copyRow rfl rfl ?_
  show Y_X11_copyRow_119_38 d Q 0 [(0, .ref 38), (1, .ref 119)] [] s
  unfold f_X11_copyRow_119_38 at H
  refine Wp.r_aload_n o_X11_copyRow rfl rfl (Wp.r_iconst o_X11_copyRow rfl (Wp.r_aload_n o_X11_copyRow rfl rfl (Wp.r_iconst o_X11_copyRow rfl (Wp.r_aload_n o_X11_copyRow rfl rfl (Wp.r_alen o_X11_copyRow rfl lk_C_38 (Wp.r_aload_n o_X11_copyRow rfl rfl (Wp.r_alen o_X11_copyRow rfl lk_C_119 (Wp.r_min o_X11_copyRow rfl (⟨rm8_ rfl, ?_⟩)))))))))
  obtain ⟨c9, H⟩ := oq_ck H
  refine Wp.run 1 (show room8 [] ∧ (¬ (0 : Int32) < 0 ∧ ¬ (0 : Int32) < 0 ∧ ¬ (if 4 < (4 : Int32) then 4 else (4 : Int32)) < 0 ∧ 0 + (if 4 < (4 : Int32) then 4 else (4 : Int32)).toNatClampNeg ≤ 4 ∧ 0 + (if 4 < (4 : Int32) then 4 else (4 : Int32)).toNatClampNeg ≤ 4) ∧ Y_X11_copyRow_119_38 d Q 14 [(0, .ref 38), (1, .ref 119)] [] (pA s 119 (va_cpy (s.1 38) (s.1 119) 0 0 (if 4 < (4 : Int32) then 4 else (4 : Int32)).toNatClampNeg)) from ⟨rm8_ rfl, c9, ?_⟩)
  exact Wp.r_return o_X11_copyRow rfl (H)
noncomputable abbrev Y_X11_copyRow_120_39 (d : Nat) (Q : Qt) : Xt := Wp SHC (WpM SHC MT (d + 0)) (flat2 cq_X11_copyRow) (none) Q
noncomputable def f_X11_copyRow_120_39  (s : Sg) : Option (Unit × Sg) :=
  ck (¬ (0 : Int32) < 0 ∧ ¬ (0 : Int32) < 0 ∧ ¬ (if 4 < (4 : Int32) then 4 else (4 : Int32)) < 0 ∧ 0 + (if 4 < (4 : Int32) then 4 else (4 : Int32)).toNatClampNeg ≤ 4 ∧ 0 + (if 4 < (4 : Int32) then 4 else (4 : Int32)).toNatClampNeg ≤ 4) (
  some ((), pA s 120 (va_cpy (s.1 39) (s.1 120) 0 0 (if 4 < (4 : Int32) then 4 else (4 : Int32)).toNatClampNeg))
  )
set_option maxRecDepth 100000 in
theorem w_X11_copyRow_120_39 {d : Nat} {s : Sg} {Q : Qt}  (H : OQ (f_X11_copyRow_120_39  s) (fun _ s9 => Q none s9)) : WpM SHC MT (d + 1) 184 [.ref 39, .ref 120] s Q := by
  refine WpM.enter me_X11_copyRow rfl rfl ?_
  show Y_X11_copyRow_120_39 d Q 0 [(0, .ref 39), (1, .ref 120)] [] s
  unfold f_X11_copyRow_120_39 at H
  refine Wp.r_aload_n o_X11_copyRow rfl rfl (Wp.r_iconst o_X11_copyRow rfl (Wp.r_aload_n o_X11_copyRow rfl rfl (Wp.r_iconst o_X11_copyRow rfl (Wp.r_aload_n o_X11_copyRow rfl rfl (Wp.r_alen o_X11_copyRow rfl lk_C_39 (Wp.r_aload_n o_X11_copyRow rfl rfl (Wp.r_alen o_X11_copyRow rfl lk_C_120 (Wp.r_min o_X11_copyRow rfl (⟨rm8_ rfl, ?_⟩)))))))))
  obtain ⟨c9, H⟩ := oq_ck H
  refine Wp.run 1 (show room8 [] ∧ (¬ (0 : Int32) < 0 ∧ ¬ (0 : Int32) < 0 ∧ ¬ (if 4 < (4 : Int32) then 4 else (4 : Int32)) < 0 ∧ 0 + (if 4 < (4 : Int32) then 4 else (4 : Int32)).toNatClampNeg ≤ 4 ∧ 0 + (if 4 < (4 : Int32) then 4 else (4 : Int32)).toNatClampNeg ≤ 4) ∧ Y_X11_copyRow_120_39 d Q 14 [(0, .ref 39), (1, .ref 120)] [] (pA s 120 (va_cpy (s.1 39) (s.1 120) 0 0 (if 4 < (4 : Int32) then 4 else (4 : Int32)).toNatClampNeg)) from ⟨rm8_ rfl, c9, ?_⟩)
  exact Wp.r_return o_X11_copyRow rfl (H)
noncomputable abbrev Y_X4_copyFrom_25_106 (d : Nat) (Q : Qt) : Xt := Wp SHC (WpM SHC MT (d + 1)) (flat2 cq_X4_copyFrom) (none) Q
noncomputable def f_X4_copyFrom_25_106  (s : Sg) : Option (Unit × Sg) :=
  bd (f_X11_copyRow_110_29 (pB s 109 (va_cpy (s.2 28) (s.2 109) 0 0 24))) (fun _ s2 =>
  bd (f_X11_copyRow_111_30 s2) (fun _ s4 =>
  bd (f_X11_copyRow_112_31 s4) (fun _ s6 =>
  bd (f_X11_copyRow_113_32 s6) (fun _ s8 =>
  bd (f_X11_copyRow_114_33 s8) (fun _ s10 =>
  bd (f_X11_copyRow_115_34 s10) (fun _ s12 =>
  bd (f_X11_copyRow_116_35 s12) (fun _ s14 =>
  bd (f_X11_copyRow_117_36 s14) (fun _ s16 =>
  bd (f_X11_copyRow_118_37 s16) (fun _ s18 =>
  bd (f_X11_copyRow_119_38 s18) (fun _ s20 =>
  bd (f_X11_copyRow_120_39 s20) (fun _ s22 =>
  nmx (pI (pI s22 106 12 (s22.1 25 12)) 106 13 ((pI s22 106 12 (s22.1 25 12)).1 25 13)) (fun s23 =>
  nmx (pI (pI s23 106 14 (s23.1 25 14)) 106 15 ((pI s23 106 14 (s23.1 25 14)).1 25 15)) (fun s24 =>
  nmx (pI (pI s24 106 16 (s24.1 25 16)) 106 17 ((pI s24 106 16 (s24.1 25 16)).1 25 17)) (fun s25 =>
  ck (((pI s25 106 18 (s25.1 25 18)).1 25 19) = 0 ∨ ((pI s25 106 18 (s25.1 25 18)).1 25 19) = 1) (
  some ((), pI (pI s25 106 18 (s25.1 25 18)) 106 19 ((pI s25 106 18 (s25.1 25 18)).1 25 19))
  )
  )
  )
  )
  )
  )
  )
  )
  )
  )
  )
  )
  )
  )
  )
set_option maxRecDepth 100000 in
theorem w_X4_copyFrom_25_106 {d : Nat} {s : Sg} {Q : Qt}  (H : OQ (f_X4_copyFrom_25_106  s) (fun _ s9 => Q none s9)) : WpM SHC MT (d + 2) 50 [.ref 106, .ref 25] s Q := by
  refine WpM.enter me_X4_copyFrom rfl rfl ?_
  show Y_X4_copyFrom_25_106 d Q 0 [(0, .ref 106), (1, .ref 25)] [] s
  unfold f_X4_copyFrom_25_106 at H
  refine Wp.r_aload_n o_X4_copyFrom rfl rfl (Wp.r_gfr o_X4_copyFrom rfl fk_C_25_0 (Wp.r_iconst o_X4_copyFrom rfl (Wp.r_aload_n o_X4_copyFrom rfl rfl (Wp.r_gfr o_X4_copyFrom rfl fk_C_106_0 (Wp.r_iconst o_X4_copyFrom rfl (Wp.r_bipush o_X4_copyFrom rfl (Wp.run 1 (show room8 [] ∧ (¬ (0 : Int32) < 0 ∧ ¬ (0 : Int32) < 0 ∧ ¬ (24 : Int32) < 0 ∧ 0 + 24 ≤ 24 ∧ 0 + 24 ≤ 24) ∧ Y_X4_copyFrom_25_106 d Q 15 [(0, .ref 106), (1, .ref 25)] [] (pB s 109 (va_cpy (s.2 28) (s.2 109) 0 0 24)) from ⟨rm8_ rfl, by decide, ?_⟩))))))))
  refine Wp.r_aload_n o_X4_copyFrom rfl rfl (Wp.r_gfr o_X4_copyFrom rfl fk_C_25_1 (Wp.r_aload_n o_X4_copyFrom rfl rfl (Wp.r_gfr o_X4_copyFrom rfl fk_C_106_1 (Wp.r_cs2 o_X4_copyFrom rfl (⟨rm8_ rfl, ?_⟩)))))
  refine w_X11_copyRow_110_29 (d := d)  ?_
  refine oq_bd H (fun _ s2 H => ?_)
  show Y_X4_copyFrom_25_106 d Q 26 [(0, .ref 106), (1, .ref 25)] [] s2
  refine Wp.r_aload_n o_X4_copyFrom rfl rfl (Wp.r_gfr o_X4_copyFrom rfl fk_C_25_2 (Wp.r_aload_n o_X4_copyFrom rfl rfl (Wp.r_gfr o_X4_copyFrom rfl fk_C_106_2 (Wp.r_cs2 o_X4_copyFrom rfl (⟨rm8_ rfl, ?_⟩)))))
  refine w_X11_copyRow_111_30 (d := d)  ?_
  refine oq_bd H (fun _ s4 H => ?_)
  show Y_X4_copyFrom_25_106 d Q 37 [(0, .ref 106), (1, .ref 25)] [] s4
  refine Wp.r_aload_n o_X4_copyFrom rfl rfl (Wp.r_gfr o_X4_copyFrom rfl fk_C_25_3 (Wp.r_aload_n o_X4_copyFrom rfl rfl (Wp.r_gfr o_X4_copyFrom rfl fk_C_106_3 (Wp.r_cs2 o_X4_copyFrom rfl (⟨rm8_ rfl, ?_⟩)))))
  refine w_X11_copyRow_112_31 (d := d)  ?_
  refine oq_bd H (fun _ s6 H => ?_)
  show Y_X4_copyFrom_25_106 d Q 48 [(0, .ref 106), (1, .ref 25)] [] s6
  refine Wp.r_aload_n o_X4_copyFrom rfl rfl (Wp.r_gfr o_X4_copyFrom rfl fk_C_25_4 (Wp.r_aload_n o_X4_copyFrom rfl rfl (Wp.r_gfr o_X4_copyFrom rfl fk_C_106_4 (Wp.r_cs2 o_X4_copyFrom rfl (⟨rm8_ rfl, ?_⟩)))))
  refine w_X11_copyRow_113_32 (d := d)  ?_
  refine oq_bd H (fun _ s8 H => ?_)
  show Y_X4_copyFrom_25_106 d Q 59 [(0, .ref 106), (1, .ref 25)] [] s8
  refine Wp.r_aload_n o_X4_copyFrom rfl rfl (Wp.r_gfr o_X4_copyFrom rfl fk_C_25_5 (Wp.r_aload_n o_X4_copyFrom rfl rfl (Wp.r_gfr o_X4_copyFrom rfl fk_C_106_5 (Wp.r_cs2 o_X4_copyFrom rfl (⟨rm8_ rfl, ?_⟩)))))
  refine w_X11_copyRow_114_33 (d := d)  ?_
  refine oq_bd H (fun _ s10 H => ?_)
  show Y_X4_copyFrom_25_106 d Q 70 [(0, .ref 106), (1, .ref 25)] [] s10
  refine Wp.r_aload_n o_X4_copyFrom rfl rfl (Wp.r_gfr o_X4_copyFrom rfl fk_C_25_6 (Wp.r_aload_n o_X4_copyFrom rfl rfl (Wp.r_gfr o_X4_copyFrom rfl fk_C_106_6 (Wp.r_cs2 o_X4_copyFrom rfl (⟨rm8_ rfl, ?_⟩)))))
  refine w_X11_copyRow_115_34 (d := d)  ?_
  refine oq_bd H (fun _ s12 H => ?_)
  show Y_X4_copyFrom_25_106 d Q 81 [(0, .ref 106), (1, .ref 25)] [] s12
  refine Wp.r_aload_n o_X4_copyFrom rfl rfl (Wp.r_gfr o_X4_copyFrom rfl fk_C_25_7 (Wp.r_aload_n o_X4_copyFrom rfl rfl (Wp.r_gfr o_X4_copyFrom rfl fk_C_106_7 (Wp.r_cs2 o_X4_copyFrom rfl (⟨rm8_ rfl, ?_⟩)))))
  refine w_X11_copyRow_116_35 (d := d)  ?_
  refine oq_bd H (fun _ s14 H => ?_)
  show Y_X4_copyFrom_25_106 d Q 92 [(0, .ref 106), (1, .ref 25)] [] s14
  refine Wp.r_aload_n o_X4_copyFrom rfl rfl (Wp.r_gfr o_X4_copyFrom rfl fk_C_25_8 (Wp.r_aload_n o_X4_copyFrom rfl rfl (Wp.r_gfr o_X4_copyFrom rfl fk_C_106_8 (Wp.r_cs2 o_X4_copyFrom rfl (⟨rm8_ rfl, ?_⟩)))))
  refine w_X11_copyRow_117_36 (d := d)  ?_
  refine oq_bd H (fun _ s16 H => ?_)
  show Y_X4_copyFrom_25_106 d Q 103 [(0, .ref 106), (1, .ref 25)] [] s16
  refine Wp.r_aload_n o_X4_copyFrom rfl rfl (Wp.r_gfr o_X4_copyFrom rfl fk_C_25_9 (Wp.r_aload_n o_X4_copyFrom rfl rfl (Wp.r_gfr o_X4_copyFrom rfl fk_C_106_9 (Wp.r_cs2 o_X4_copyFrom rfl (⟨rm8_ rfl, ?_⟩)))))
  refine w_X11_copyRow_118_37 (d := d)  ?_
  refine oq_bd H (fun _ s18 H => ?_)
  show Y_X4_copyFrom_25_106 d Q 114 [(0, .ref 106), (1, .ref 25)] [] s18
  refine Wp.r_aload_n o_X4_copyFrom rfl rfl (Wp.r_gfr o_X4_copyFrom rfl fk_C_25_10 (Wp.r_aload_n o_X4_copyFrom rfl rfl (Wp.r_gfr o_X4_copyFrom rfl fk_C_106_10 (Wp.r_cs2 o_X4_copyFrom rfl (⟨rm8_ rfl, ?_⟩)))))
  refine w_X11_copyRow_119_38 (d := d)  ?_
  refine oq_bd H (fun _ s20 H => ?_)
  show Y_X4_copyFrom_25_106 d Q 125 [(0, .ref 106), (1, .ref 25)] [] s20
  refine Wp.r_aload_n o_X4_copyFrom rfl rfl (Wp.r_gfr o_X4_copyFrom rfl fk_C_25_11 (Wp.r_aload_n o_X4_copyFrom rfl rfl (Wp.r_gfr o_X4_copyFrom rfl fk_C_106_11 (Wp.r_cs2 o_X4_copyFrom rfl (⟨rm8_ rfl, ?_⟩)))))
  refine w_X11_copyRow_120_39 (d := d)  ?_
  refine oq_bd H (fun _ s22 H => ?_)
  show Y_X4_copyFrom_25_106 d Q 136 [(0, .ref 106), (1, .ref 25)] [] s22
  refine Wp.r_aload_n o_X4_copyFrom rfl rfl (Wp.r_aload_n o_X4_copyFrom rfl rfl (Wp.r_gfi o_X4_copyFrom rfl fk_C_25_12 (Wp.r_pfi o_X4_copyFrom rfl fk_C_106_12 (Wp.r_aload_n o_X4_copyFrom rfl rfl (Wp.r_aload_n o_X4_copyFrom rfl rfl (Wp.r_gfi o_X4_copyFrom rfl fk_C_25_13 (Wp.r_pfi o_X4_copyFrom rfl fk_C_106_13 (show Y_X4_copyFrom_25_106 d Q 152 [(0, .ref 106), (1, .ref 25)] [] (pI (pI s22 106 12 (s22.1 25 12)) 106 13 ((pI s22 106 12 (s22.1 25 12)).1 25 13)) from ?_))))))))
  revert H
  generalize pI (pI s22 106 12 (s22.1 25 12)) 106 13 ((pI s22 106 12 (s22.1 25 12)).1 25 13) = s23
  intro H
  have H := nmx_e H
  refine Wp.r_aload_n o_X4_copyFrom rfl rfl (Wp.r_aload_n o_X4_copyFrom rfl rfl (Wp.r_gfi o_X4_copyFrom rfl fk_C_25_14 (Wp.r_pfi o_X4_copyFrom rfl fk_C_106_14 (Wp.r_aload_n o_X4_copyFrom rfl rfl (Wp.r_aload_n o_X4_copyFrom rfl rfl (Wp.r_gfi o_X4_copyFrom rfl fk_C_25_15 (Wp.r_pfi o_X4_copyFrom rfl fk_C_106_15 (show Y_X4_copyFrom_25_106 d Q 168 [(0, .ref 106), (1, .ref 25)] [] (pI (pI s23 106 14 (s23.1 25 14)) 106 15 ((pI s23 106 14 (s23.1 25 14)).1 25 15)) from ?_))))))))
  revert H
  generalize pI (pI s23 106 14 (s23.1 25 14)) 106 15 ((pI s23 106 14 (s23.1 25 14)).1 25 15) = s24
  intro H
  have H := nmx_e H
  refine Wp.r_aload_n o_X4_copyFrom rfl rfl (Wp.r_aload_n o_X4_copyFrom rfl rfl (Wp.r_gfi o_X4_copyFrom rfl fk_C_25_16 (Wp.r_pfi o_X4_copyFrom rfl fk_C_106_16 (Wp.r_aload_n o_X4_copyFrom rfl rfl (Wp.r_aload_n o_X4_copyFrom rfl rfl (Wp.r_gfi o_X4_copyFrom rfl fk_C_25_17 (Wp.r_pfi o_X4_copyFrom rfl fk_C_106_17 (show Y_X4_copyFrom_25_106 d Q 184 [(0, .ref 106), (1, .ref 25)] [] (pI (pI s24 106 16 (s24.1 25 16)) 106 17 ((pI s24 106 16 (s24.1 25 16)).1 25 17)) from ?_))))))))
  revert H
  generalize pI (pI s24 106 16 (s24.1 25 16)) 106 17 ((pI s24 106 16 (s24.1 25 16)).1 25 17) = s25
  intro H
  have H := nmx_e H
  obtain ⟨hc26, H⟩ := oq_ck H
  refine Wp.r_aload_n o_X4_copyFrom rfl rfl (Wp.r_aload_n o_X4_copyFrom rfl rfl (Wp.r_gfi o_X4_copyFrom rfl fk_C_25_18 (Wp.r_pfi o_X4_copyFrom rfl fk_C_106_18 (Wp.r_aload_n o_X4_copyFrom rfl rfl (Wp.r_aload_n o_X4_copyFrom rfl rfl (Wp.r_gfi o_X4_copyFrom rfl fk_C_25_19 (Wp.r_pfz o_X4_copyFrom rfl fk_C_106_19 (⟨hc26, ?_⟩))))))))
  exact Wp.r_return o_X4_copyFrom rfl (H)
noncomputable abbrev Y_X11_copyRow_121_40 (d : Nat) (Q : Qt) : Xt := Wp SHC (WpM SHC MT (d + 0)) (flat2 cq_X11_copyRow) (none) Q
noncomputable def f_X11_copyRow_121_40  (s : Sg) : Option (Unit × Sg) :=
  ck (¬ (0 : Int32) < 0 ∧ ¬ (0 : Int32) < 0 ∧ ¬ (if 8 < (8 : Int32) then 8 else (8 : Int32)) < 0 ∧ 0 + (if 8 < (8 : Int32) then 8 else (8 : Int32)).toNatClampNeg ≤ 8 ∧ 0 + (if 8 < (8 : Int32) then 8 else (8 : Int32)).toNatClampNeg ≤ 8) (
  some ((), pA s 121 (va_cpy (s.1 40) (s.1 121) 0 0 (if 8 < (8 : Int32) then 8 else (8 : Int32)).toNatClampNeg))
  )
set_option maxRecDepth 100000 in
theorem w_X11_copyRow_121_40 {d : Nat} {s : Sg} {Q : Qt}  (H : OQ (f_X11_copyRow_121_40  s) (fun _ s9 => Q none s9)) : WpM SHC MT (d + 1) 184 [.ref 40, .ref 121] s Q := by
  refine WpM.enter me_X11_copyRow rfl rfl ?_
  show Y_X11_copyRow_121_40 d Q 0 [(0, .ref 40), (1, .ref 121)] [] s
  unfold f_X11_copyRow_121_40 at H
  refine Wp.r_aload_n o_X11_copyRow rfl rfl (Wp.r_iconst o_X11_copyRow rfl (Wp.r_aload_n o_X11_copyRow rfl rfl (Wp.r_iconst o_X11_copyRow rfl (Wp.r_aload_n o_X11_copyRow rfl rfl (Wp.r_alen o_X11_copyRow rfl lk_C_40 (Wp.r_aload_n o_X11_copyRow rfl rfl (Wp.r_alen o_X11_copyRow rfl lk_C_121 (Wp.r_min o_X11_copyRow rfl (⟨rm8_ rfl, ?_⟩)))))))))
  obtain ⟨c9, H⟩ := oq_ck H
  refine Wp.run 1 (show room8 [] ∧ (¬ (0 : Int32) < 0 ∧ ¬ (0 : Int32) < 0 ∧ ¬ (if 8 < (8 : Int32) then 8 else (8 : Int32)) < 0 ∧ 0 + (if 8 < (8 : Int32) then 8 else (8 : Int32)).toNatClampNeg ≤ 8 ∧ 0 + (if 8 < (8 : Int32) then 8 else (8 : Int32)).toNatClampNeg ≤ 8) ∧ Y_X11_copyRow_121_40 d Q 14 [(0, .ref 40), (1, .ref 121)] [] (pA s 121 (va_cpy (s.1 40) (s.1 121) 0 0 (if 8 < (8 : Int32) then 8 else (8 : Int32)).toNatClampNeg)) from ⟨rm8_ rfl, c9, ?_⟩)
  exact Wp.r_return o_X11_copyRow rfl (H)
noncomputable abbrev Y_X11_copyRow_122_41 (d : Nat) (Q : Qt) : Xt := Wp SHC (WpM SHC MT (d + 0)) (flat2 cq_X11_copyRow) (none) Q
noncomputable def f_X11_copyRow_122_41  (s : Sg) : Option (Unit × Sg) :=
  ck (¬ (0 : Int32) < 0 ∧ ¬ (0 : Int32) < 0 ∧ ¬ (if 8 < (8 : Int32) then 8 else (8 : Int32)) < 0 ∧ 0 + (if 8 < (8 : Int32) then 8 else (8 : Int32)).toNatClampNeg ≤ 8 ∧ 0 + (if 8 < (8 : Int32) then 8 else (8 : Int32)).toNatClampNeg ≤ 8) (
  some ((), pA s 122 (va_cpy (s.1 41) (s.1 122) 0 0 (if 8 < (8 : Int32) then 8 else (8 : Int32)).toNatClampNeg))
  )
set_option maxRecDepth 100000 in
theorem w_X11_copyRow_122_41 {d : Nat} {s : Sg} {Q : Qt}  (H : OQ (f_X11_copyRow_122_41  s) (fun _ s9 => Q none s9)) : WpM SHC MT (d + 1) 184 [.ref 41, .ref 122] s Q := by
  refine WpM.enter me_X11_copyRow rfl rfl ?_
  show Y_X11_copyRow_122_41 d Q 0 [(0, .ref 41), (1, .ref 122)] [] s
  unfold f_X11_copyRow_122_41 at H
  refine Wp.r_aload_n o_X11_copyRow rfl rfl (Wp.r_iconst o_X11_copyRow rfl (Wp.r_aload_n o_X11_copyRow rfl rfl (Wp.r_iconst o_X11_copyRow rfl (Wp.r_aload_n o_X11_copyRow rfl rfl (Wp.r_alen o_X11_copyRow rfl lk_C_41 (Wp.r_aload_n o_X11_copyRow rfl rfl (Wp.r_alen o_X11_copyRow rfl lk_C_122 (Wp.r_min o_X11_copyRow rfl (⟨rm8_ rfl, ?_⟩)))))))))
  obtain ⟨c9, H⟩ := oq_ck H
  refine Wp.run 1 (show room8 [] ∧ (¬ (0 : Int32) < 0 ∧ ¬ (0 : Int32) < 0 ∧ ¬ (if 8 < (8 : Int32) then 8 else (8 : Int32)) < 0 ∧ 0 + (if 8 < (8 : Int32) then 8 else (8 : Int32)).toNatClampNeg ≤ 8 ∧ 0 + (if 8 < (8 : Int32) then 8 else (8 : Int32)).toNatClampNeg ≤ 8) ∧ Y_X11_copyRow_122_41 d Q 14 [(0, .ref 41), (1, .ref 122)] [] (pA s 122 (va_cpy (s.1 41) (s.1 122) 0 0 (if 8 < (8 : Int32) then 8 else (8 : Int32)).toNatClampNeg)) from ⟨rm8_ rfl, c9, ?_⟩)
  exact Wp.r_return o_X11_copyRow rfl (H)
noncomputable abbrev Y_X11_copyRow_123_42 (d : Nat) (Q : Qt) : Xt := Wp SHC (WpM SHC MT (d + 0)) (flat2 cq_X11_copyRow) (none) Q
noncomputable def f_X11_copyRow_123_42  (s : Sg) : Option (Unit × Sg) :=
  ck (¬ (0 : Int32) < 0 ∧ ¬ (0 : Int32) < 0 ∧ ¬ (if 8 < (8 : Int32) then 8 else (8 : Int32)) < 0 ∧ 0 + (if 8 < (8 : Int32) then 8 else (8 : Int32)).toNatClampNeg ≤ 8 ∧ 0 + (if 8 < (8 : Int32) then 8 else (8 : Int32)).toNatClampNeg ≤ 8) (
  some ((), pA s 123 (va_cpy (s.1 42) (s.1 123) 0 0 (if 8 < (8 : Int32) then 8 else (8 : Int32)).toNatClampNeg))
  )
set_option maxRecDepth 100000 in
theorem w_X11_copyRow_123_42 {d : Nat} {s : Sg} {Q : Qt}  (H : OQ (f_X11_copyRow_123_42  s) (fun _ s9 => Q none s9)) : WpM SHC MT (d + 1) 184 [.ref 42, .ref 123] s Q := by
  refine WpM.enter me_X11_copyRow rfl rfl ?_
  show Y_X11_copyRow_123_42 d Q 0 [(0, .ref 42), (1, .ref 123)] [] s
  unfold f_X11_copyRow_123_42 at H
  refine Wp.r_aload_n o_X11_copyRow rfl rfl (Wp.r_iconst o_X11_copyRow rfl (Wp.r_aload_n o_X11_copyRow rfl rfl (Wp.r_iconst o_X11_copyRow rfl (Wp.r_aload_n o_X11_copyRow rfl rfl (Wp.r_alen o_X11_copyRow rfl lk_C_42 (Wp.r_aload_n o_X11_copyRow rfl rfl (Wp.r_alen o_X11_copyRow rfl lk_C_123 (Wp.r_min o_X11_copyRow rfl (⟨rm8_ rfl, ?_⟩)))))))))
  obtain ⟨c9, H⟩ := oq_ck H
  refine Wp.run 1 (show room8 [] ∧ (¬ (0 : Int32) < 0 ∧ ¬ (0 : Int32) < 0 ∧ ¬ (if 8 < (8 : Int32) then 8 else (8 : Int32)) < 0 ∧ 0 + (if 8 < (8 : Int32) then 8 else (8 : Int32)).toNatClampNeg ≤ 8 ∧ 0 + (if 8 < (8 : Int32) then 8 else (8 : Int32)).toNatClampNeg ≤ 8) ∧ Y_X11_copyRow_123_42 d Q 14 [(0, .ref 42), (1, .ref 123)] [] (pA s 123 (va_cpy (s.1 42) (s.1 123) 0 0 (if 8 < (8 : Int32) then 8 else (8 : Int32)).toNatClampNeg)) from ⟨rm8_ rfl, c9, ?_⟩)
  exact Wp.r_return o_X11_copyRow rfl (H)
noncomputable abbrev Y_X11_copyRow_124_43 (d : Nat) (Q : Qt) : Xt := Wp SHC (WpM SHC MT (d + 0)) (flat2 cq_X11_copyRow) (none) Q
noncomputable def f_X11_copyRow_124_43  (s : Sg) : Option (Unit × Sg) :=
  ck (¬ (0 : Int32) < 0 ∧ ¬ (0 : Int32) < 0 ∧ ¬ (if 8 < (8 : Int32) then 8 else (8 : Int32)) < 0 ∧ 0 + (if 8 < (8 : Int32) then 8 else (8 : Int32)).toNatClampNeg ≤ 8 ∧ 0 + (if 8 < (8 : Int32) then 8 else (8 : Int32)).toNatClampNeg ≤ 8) (
  some ((), pA s 124 (va_cpy (s.1 43) (s.1 124) 0 0 (if 8 < (8 : Int32) then 8 else (8 : Int32)).toNatClampNeg))
  )
set_option maxRecDepth 100000 in
theorem w_X11_copyRow_124_43 {d : Nat} {s : Sg} {Q : Qt}  (H : OQ (f_X11_copyRow_124_43  s) (fun _ s9 => Q none s9)) : WpM SHC MT (d + 1) 184 [.ref 43, .ref 124] s Q := by
  refine WpM.enter me_X11_copyRow rfl rfl ?_
  show Y_X11_copyRow_124_43 d Q 0 [(0, .ref 43), (1, .ref 124)] [] s
  unfold f_X11_copyRow_124_43 at H
  refine Wp.r_aload_n o_X11_copyRow rfl rfl (Wp.r_iconst o_X11_copyRow rfl (Wp.r_aload_n o_X11_copyRow rfl rfl (Wp.r_iconst o_X11_copyRow rfl (Wp.r_aload_n o_X11_copyRow rfl rfl (Wp.r_alen o_X11_copyRow rfl lk_C_43 (Wp.r_aload_n o_X11_copyRow rfl rfl (Wp.r_alen o_X11_copyRow rfl lk_C_124 (Wp.r_min o_X11_copyRow rfl (⟨rm8_ rfl, ?_⟩)))))))))
  obtain ⟨c9, H⟩ := oq_ck H
  refine Wp.run 1 (show room8 [] ∧ (¬ (0 : Int32) < 0 ∧ ¬ (0 : Int32) < 0 ∧ ¬ (if 8 < (8 : Int32) then 8 else (8 : Int32)) < 0 ∧ 0 + (if 8 < (8 : Int32) then 8 else (8 : Int32)).toNatClampNeg ≤ 8 ∧ 0 + (if 8 < (8 : Int32) then 8 else (8 : Int32)).toNatClampNeg ≤ 8) ∧ Y_X11_copyRow_124_43 d Q 14 [(0, .ref 43), (1, .ref 124)] [] (pA s 124 (va_cpy (s.1 43) (s.1 124) 0 0 (if 8 < (8 : Int32) then 8 else (8 : Int32)).toNatClampNeg)) from ⟨rm8_ rfl, c9, ?_⟩)
  exact Wp.r_return o_X11_copyRow rfl (H)
noncomputable abbrev Y_X11_copyRow_125_44 (d : Nat) (Q : Qt) : Xt := Wp SHC (WpM SHC MT (d + 0)) (flat2 cq_X11_copyRow) (none) Q
noncomputable def f_X11_copyRow_125_44  (s : Sg) : Option (Unit × Sg) :=
  ck (¬ (0 : Int32) < 0 ∧ ¬ (0 : Int32) < 0 ∧ ¬ (if 4 < (4 : Int32) then 4 else (4 : Int32)) < 0 ∧ 0 + (if 4 < (4 : Int32) then 4 else (4 : Int32)).toNatClampNeg ≤ 4 ∧ 0 + (if 4 < (4 : Int32) then 4 else (4 : Int32)).toNatClampNeg ≤ 4) (
  some ((), pA s 125 (va_cpy (s.1 44) (s.1 125) 0 0 (if 4 < (4 : Int32) then 4 else (4 : Int32)).toNatClampNeg))
  )
set_option maxRecDepth 100000 in
theorem w_X11_copyRow_125_44 {d : Nat} {s : Sg} {Q : Qt}  (H : OQ (f_X11_copyRow_125_44  s) (fun _ s9 => Q none s9)) : WpM SHC MT (d + 1) 184 [.ref 44, .ref 125] s Q := by
  refine WpM.enter me_X11_copyRow rfl rfl ?_
  show Y_X11_copyRow_125_44 d Q 0 [(0, .ref 44), (1, .ref 125)] [] s
  unfold f_X11_copyRow_125_44 at H
  refine Wp.r_aload_n o_X11_copyRow rfl rfl (Wp.r_iconst o_X11_copyRow rfl (Wp.r_aload_n o_X11_copyRow rfl rfl (Wp.r_iconst o_X11_copyRow rfl (Wp.r_aload_n o_X11_copyRow rfl rfl (Wp.r_alen o_X11_copyRow rfl lk_C_44 (Wp.r_aload_n o_X11_copyRow rfl rfl (Wp.r_alen o_X11_copyRow rfl lk_C_125 (Wp.r_min o_X11_copyRow rfl (⟨rm8_ rfl, ?_⟩)))))))))
  obtain ⟨c9, H⟩ := oq_ck H
  refine Wp.run 1 (show room8 [] ∧ (¬ (0 : Int32) < 0 ∧ ¬ (0 : Int32) < 0 ∧ ¬ (if 4 < (4 : Int32) then 4 else (4 : Int32)) < 0 ∧ 0 + (if 4 < (4 : Int32) then 4 else (4 : Int32)).toNatClampNeg ≤ 4 ∧ 0 + (if 4 < (4 : Int32) then 4 else (4 : Int32)).toNatClampNeg ≤ 4) ∧ Y_X11_copyRow_125_44 d Q 14 [(0, .ref 44), (1, .ref 125)] [] (pA s 125 (va_cpy (s.1 44) (s.1 125) 0 0 (if 4 < (4 : Int32) then 4 else (4 : Int32)).toNatClampNeg)) from ⟨rm8_ rfl, c9, ?_⟩)
  exact Wp.r_return o_X11_copyRow rfl (H)
noncomputable abbrev Y_X2_copyFrom_26_107 (d : Nat) (Q : Qt) : Xt := Wp SHC (WpM SHC MT (d + 1)) (flat2 cq_X2_copyFrom) (none) Q
noncomputable def f_X2_copyFrom_26_107  (s : Sg) : Option (Unit × Sg) :=
  bd (f_X11_copyRow_121_40 s) (fun _ s2 =>
  bd (f_X11_copyRow_122_41 s2) (fun _ s4 =>
  bd (f_X11_copyRow_123_42 s4) (fun _ s6 =>
  bd (f_X11_copyRow_124_43 s6) (fun _ s8 =>
  bd (f_X11_copyRow_125_44 s8) (fun _ s10 =>
  nmx (pI (pI s10 107 5 (s10.1 26 5)) 107 6 ((pI s10 107 5 (s10.1 26 5)).1 26 6)) (fun s11 =>
  ck ((s11.1 26 7) = 0 ∨ (s11.1 26 7) = 1) (
  nmx (pI (pI s11 107 7 (s11.1 26 7)) 107 8 ((pI s11 107 7 (s11.1 26 7)).1 26 8)) (fun s13 =>
  nmx (pI (pI s13 107 9 (s13.1 26 9)) 107 10 ((pI s13 107 9 (s13.1 26 9)).1 26 10)) (fun s14 =>
  nmx (pI (pI s14 107 11 (s14.1 26 11)) 107 12 ((pI s14 107 11 (s14.1 26 11)).1 26 12)) (fun s15 =>
  some ((), s15)
  )
  )
  )
  )
  )
  )
  )
  )
  )
  )
set_option maxRecDepth 100000 in
theorem w_X2_copyFrom_26_107 {d : Nat} {s : Sg} {Q : Qt}  (H : OQ (f_X2_copyFrom_26_107  s) (fun _ s9 => Q none s9)) : WpM SHC MT (d + 2) 21 [.ref 107, .ref 26] s Q := by
  refine WpM.enter me_X2_copyFrom rfl rfl ?_
  show Y_X2_copyFrom_26_107 d Q 0 [(0, .ref 107), (1, .ref 26)] [] s
  unfold f_X2_copyFrom_26_107 at H
  refine Wp.r_aload_n o_X2_copyFrom rfl rfl (Wp.r_gfr o_X2_copyFrom rfl fk_C_26_0 (Wp.r_aload_n o_X2_copyFrom rfl rfl (Wp.r_gfr o_X2_copyFrom rfl fk_C_107_0 (Wp.r_cs2 o_X2_copyFrom rfl (⟨rm8_ rfl, ?_⟩)))))
  refine w_X11_copyRow_121_40 (d := d)  ?_
  refine oq_bd H (fun _ s2 H => ?_)
  show Y_X2_copyFrom_26_107 d Q 11 [(0, .ref 107), (1, .ref 26)] [] s2
  refine Wp.r_aload_n o_X2_copyFrom rfl rfl (Wp.r_gfr o_X2_copyFrom rfl fk_C_26_1 (Wp.r_aload_n o_X2_copyFrom rfl rfl (Wp.r_gfr o_X2_copyFrom rfl fk_C_107_1 (Wp.r_cs2 o_X2_copyFrom rfl (⟨rm8_ rfl, ?_⟩)))))
  refine w_X11_copyRow_122_41 (d := d)  ?_
  refine oq_bd H (fun _ s4 H => ?_)
  show Y_X2_copyFrom_26_107 d Q 22 [(0, .ref 107), (1, .ref 26)] [] s4
  refine Wp.r_aload_n o_X2_copyFrom rfl rfl (Wp.r_gfr o_X2_copyFrom rfl fk_C_26_2 (Wp.r_aload_n o_X2_copyFrom rfl rfl (Wp.r_gfr o_X2_copyFrom rfl fk_C_107_2 (Wp.r_cs2 o_X2_copyFrom rfl (⟨rm8_ rfl, ?_⟩)))))
  refine w_X11_copyRow_123_42 (d := d)  ?_
  refine oq_bd H (fun _ s6 H => ?_)
  show Y_X2_copyFrom_26_107 d Q 33 [(0, .ref 107), (1, .ref 26)] [] s6
  refine Wp.r_aload_n o_X2_copyFrom rfl rfl (Wp.r_gfr o_X2_copyFrom rfl fk_C_26_3 (Wp.r_aload_n o_X2_copyFrom rfl rfl (Wp.r_gfr o_X2_copyFrom rfl fk_C_107_3 (Wp.r_cs2 o_X2_copyFrom rfl (⟨rm8_ rfl, ?_⟩)))))
  refine w_X11_copyRow_124_43 (d := d)  ?_
  refine oq_bd H (fun _ s8 H => ?_)
  show Y_X2_copyFrom_26_107 d Q 44 [(0, .ref 107), (1, .ref 26)] [] s8
  refine Wp.r_aload_n o_X2_copyFrom rfl rfl (Wp.r_gfr o_X2_copyFrom rfl fk_C_26_4 (Wp.r_aload_n o_X2_copyFrom rfl rfl (Wp.r_gfr o_X2_copyFrom rfl fk_C_107_4 (Wp.r_cs2 o_X2_copyFrom rfl (⟨rm8_ rfl, ?_⟩)))))
  refine w_X11_copyRow_125_44 (d := d)  ?_
  refine oq_bd H (fun _ s10 H => ?_)
  show Y_X2_copyFrom_26_107 d Q 55 [(0, .ref 107), (1, .ref 26)] [] s10
  refine Wp.r_aload_n o_X2_copyFrom rfl rfl (Wp.r_aload_n o_X2_copyFrom rfl rfl (Wp.r_gfi o_X2_copyFrom rfl fk_C_26_5 (Wp.r_pfi o_X2_copyFrom rfl fk_C_107_5 (Wp.r_aload_n o_X2_copyFrom rfl rfl (Wp.r_aload_n o_X2_copyFrom rfl rfl (Wp.r_gfi o_X2_copyFrom rfl fk_C_26_6 (Wp.r_pfi o_X2_copyFrom rfl fk_C_107_6 (show Y_X2_copyFrom_26_107 d Q 71 [(0, .ref 107), (1, .ref 26)] [] (pI (pI s10 107 5 (s10.1 26 5)) 107 6 ((pI s10 107 5 (s10.1 26 5)).1 26 6)) from ?_))))))))
  revert H
  generalize pI (pI s10 107 5 (s10.1 26 5)) 107 6 ((pI s10 107 5 (s10.1 26 5)).1 26 6) = s11
  intro H
  have H := nmx_e H
  obtain ⟨hc12, H⟩ := oq_ck H
  refine Wp.r_aload_n o_X2_copyFrom rfl rfl (Wp.r_aload_n o_X2_copyFrom rfl rfl (Wp.r_gfi o_X2_copyFrom rfl fk_C_26_7 (Wp.r_pfz o_X2_copyFrom rfl fk_C_107_7 (⟨hc12, ?_⟩))))
  refine Wp.r_aload_n o_X2_copyFrom rfl rfl (Wp.r_aload_n o_X2_copyFrom rfl rfl (Wp.r_gfi o_X2_copyFrom rfl fk_C_26_8 (Wp.r_pfi o_X2_copyFrom rfl fk_C_107_8 (show Y_X2_copyFrom_26_107 d Q 87 [(0, .ref 107), (1, .ref 26)] [] (pI (pI s11 107 7 (s11.1 26 7)) 107 8 ((pI s11 107 7 (s11.1 26 7)).1 26 8)) from ?_))))
  revert H
  generalize pI (pI s11 107 7 (s11.1 26 7)) 107 8 ((pI s11 107 7 (s11.1 26 7)).1 26 8) = s13
  intro H
  have H := nmx_e H
  refine Wp.r_aload_n o_X2_copyFrom rfl rfl (Wp.r_aload_n o_X2_copyFrom rfl rfl (Wp.r_gfi o_X2_copyFrom rfl fk_C_26_9 (Wp.r_pfi o_X2_copyFrom rfl fk_C_107_9 (Wp.r_aload_n o_X2_copyFrom rfl rfl (Wp.r_aload_n o_X2_copyFrom rfl rfl (Wp.r_gfi o_X2_copyFrom rfl fk_C_26_10 (Wp.r_pfi o_X2_copyFrom rfl fk_C_107_10 (show Y_X2_copyFrom_26_107 d Q 103 [(0, .ref 107), (1, .ref 26)] [] (pI (pI s13 107 9 (s13.1 26 9)) 107 10 ((pI s13 107 9 (s13.1 26 9)).1 26 10)) from ?_))))))))
  revert H
  generalize pI (pI s13 107 9 (s13.1 26 9)) 107 10 ((pI s13 107 9 (s13.1 26 9)).1 26 10) = s14
  intro H
  have H := nmx_e H
  refine Wp.r_aload_n o_X2_copyFrom rfl rfl (Wp.r_aload_n o_X2_copyFrom rfl rfl (Wp.r_gfi o_X2_copyFrom rfl fk_C_26_11 (Wp.r_pfi o_X2_copyFrom rfl fk_C_107_11 (Wp.r_aload_n o_X2_copyFrom rfl rfl (Wp.r_aload_n o_X2_copyFrom rfl rfl (Wp.r_gfi o_X2_copyFrom rfl fk_C_26_12 (Wp.r_pfi o_X2_copyFrom rfl fk_C_107_12 (show Y_X2_copyFrom_26_107 d Q 119 [(0, .ref 107), (1, .ref 26)] [] (pI (pI s14 107 11 (s14.1 26 11)) 107 12 ((pI s14 107 11 (s14.1 26 11)).1 26 12)) from ?_))))))))
  revert H
  generalize pI (pI s14 107 11 (s14.1 26 11)) 107 12 ((pI s14 107 11 (s14.1 26 11)).1 26 12) = s15
  intro H
  have H := nmx_e H
  exact Wp.r_return o_X2_copyFrom rfl (H)
noncomputable abbrev Y_X11_copyRow_126_45 (d : Nat) (Q : Qt) : Xt := Wp SHC (WpM SHC MT (d + 0)) (flat2 cq_X11_copyRow) (none) Q
noncomputable def f_X11_copyRow_126_45  (s : Sg) : Option (Unit × Sg) :=
  ck (¬ (0 : Int32) < 0 ∧ ¬ (0 : Int32) < 0 ∧ ¬ (if 60 < (60 : Int32) then 60 else (60 : Int32)) < 0 ∧ 0 + (if 60 < (60 : Int32) then 60 else (60 : Int32)).toNatClampNeg ≤ 60 ∧ 0 + (if 60 < (60 : Int32) then 60 else (60 : Int32)).toNatClampNeg ≤ 60) (
  some ((), pA s 126 (va_cpy (s.1 45) (s.1 126) 0 0 (if 60 < (60 : Int32) then 60 else (60 : Int32)).toNatClampNeg))
  )
set_option maxRecDepth 100000 in
theorem w_X11_copyRow_126_45 {d : Nat} {s : Sg} {Q : Qt}  (H : OQ (f_X11_copyRow_126_45  s) (fun _ s9 => Q none s9)) : WpM SHC MT (d + 1) 184 [.ref 45, .ref 126] s Q := by
  refine WpM.enter me_X11_copyRow rfl rfl ?_
  show Y_X11_copyRow_126_45 d Q 0 [(0, .ref 45), (1, .ref 126)] [] s
  unfold f_X11_copyRow_126_45 at H
  refine Wp.r_aload_n o_X11_copyRow rfl rfl (Wp.r_iconst o_X11_copyRow rfl (Wp.r_aload_n o_X11_copyRow rfl rfl (Wp.r_iconst o_X11_copyRow rfl (Wp.r_aload_n o_X11_copyRow rfl rfl (Wp.r_alen o_X11_copyRow rfl lk_C_45 (Wp.r_aload_n o_X11_copyRow rfl rfl (Wp.r_alen o_X11_copyRow rfl lk_C_126 (Wp.r_min o_X11_copyRow rfl (⟨rm8_ rfl, ?_⟩)))))))))
  obtain ⟨c9, H⟩ := oq_ck H
  refine Wp.run 1 (show room8 [] ∧ (¬ (0 : Int32) < 0 ∧ ¬ (0 : Int32) < 0 ∧ ¬ (if 60 < (60 : Int32) then 60 else (60 : Int32)) < 0 ∧ 0 + (if 60 < (60 : Int32) then 60 else (60 : Int32)).toNatClampNeg ≤ 60 ∧ 0 + (if 60 < (60 : Int32) then 60 else (60 : Int32)).toNatClampNeg ≤ 60) ∧ Y_X11_copyRow_126_45 d Q 14 [(0, .ref 45), (1, .ref 126)] [] (pA s 126 (va_cpy (s.1 45) (s.1 126) 0 0 (if 60 < (60 : Int32) then 60 else (60 : Int32)).toNatClampNeg)) from ⟨rm8_ rfl, c9, ?_⟩)
  exact Wp.r_return o_X11_copyRow rfl (H)
noncomputable abbrev Y_X11_copyRow_127_46 (d : Nat) (Q : Qt) : Xt := Wp SHC (WpM SHC MT (d + 0)) (flat2 cq_X11_copyRow) (none) Q
noncomputable def f_X11_copyRow_127_46  (s : Sg) : Option (Unit × Sg) :=
  ck (¬ (0 : Int32) < 0 ∧ ¬ (0 : Int32) < 0 ∧ ¬ (if 60 < (60 : Int32) then 60 else (60 : Int32)) < 0 ∧ 0 + (if 60 < (60 : Int32) then 60 else (60 : Int32)).toNatClampNeg ≤ 60 ∧ 0 + (if 60 < (60 : Int32) then 60 else (60 : Int32)).toNatClampNeg ≤ 60) (
  some ((), pA s 127 (va_cpy (s.1 46) (s.1 127) 0 0 (if 60 < (60 : Int32) then 60 else (60 : Int32)).toNatClampNeg))
  )
set_option maxRecDepth 100000 in
theorem w_X11_copyRow_127_46 {d : Nat} {s : Sg} {Q : Qt}  (H : OQ (f_X11_copyRow_127_46  s) (fun _ s9 => Q none s9)) : WpM SHC MT (d + 1) 184 [.ref 46, .ref 127] s Q := by
  refine WpM.enter me_X11_copyRow rfl rfl ?_
  show Y_X11_copyRow_127_46 d Q 0 [(0, .ref 46), (1, .ref 127)] [] s
  unfold f_X11_copyRow_127_46 at H
  refine Wp.r_aload_n o_X11_copyRow rfl rfl (Wp.r_iconst o_X11_copyRow rfl (Wp.r_aload_n o_X11_copyRow rfl rfl (Wp.r_iconst o_X11_copyRow rfl (Wp.r_aload_n o_X11_copyRow rfl rfl (Wp.r_alen o_X11_copyRow rfl lk_C_46 (Wp.r_aload_n o_X11_copyRow rfl rfl (Wp.r_alen o_X11_copyRow rfl lk_C_127 (Wp.r_min o_X11_copyRow rfl (⟨rm8_ rfl, ?_⟩)))))))))
  obtain ⟨c9, H⟩ := oq_ck H
  refine Wp.run 1 (show room8 [] ∧ (¬ (0 : Int32) < 0 ∧ ¬ (0 : Int32) < 0 ∧ ¬ (if 60 < (60 : Int32) then 60 else (60 : Int32)) < 0 ∧ 0 + (if 60 < (60 : Int32) then 60 else (60 : Int32)).toNatClampNeg ≤ 60 ∧ 0 + (if 60 < (60 : Int32) then 60 else (60 : Int32)).toNatClampNeg ≤ 60) ∧ Y_X11_copyRow_127_46 d Q 14 [(0, .ref 46), (1, .ref 127)] [] (pA s 127 (va_cpy (s.1 46) (s.1 127) 0 0 (if 60 < (60 : Int32) then 60 else (60 : Int32)).toNatClampNeg)) from ⟨rm8_ rfl, c9, ?_⟩)
  exact Wp.r_return o_X11_copyRow rfl (H)
noncomputable abbrev Y_X11_copyRow_128_47 (d : Nat) (Q : Qt) : Xt := Wp SHC (WpM SHC MT (d + 0)) (flat2 cq_X11_copyRow) (none) Q
noncomputable def f_X11_copyRow_128_47  (s : Sg) : Option (Unit × Sg) :=
  ck (¬ (0 : Int32) < 0 ∧ ¬ (0 : Int32) < 0 ∧ ¬ (if 60 < (60 : Int32) then 60 else (60 : Int32)) < 0 ∧ 0 + (if 60 < (60 : Int32) then 60 else (60 : Int32)).toNatClampNeg ≤ 60 ∧ 0 + (if 60 < (60 : Int32) then 60 else (60 : Int32)).toNatClampNeg ≤ 60) (
  some ((), pA s 128 (va_cpy (s.1 47) (s.1 128) 0 0 (if 60 < (60 : Int32) then 60 else (60 : Int32)).toNatClampNeg))
  )
set_option maxRecDepth 100000 in
theorem w_X11_copyRow_128_47 {d : Nat} {s : Sg} {Q : Qt}  (H : OQ (f_X11_copyRow_128_47  s) (fun _ s9 => Q none s9)) : WpM SHC MT (d + 1) 184 [.ref 47, .ref 128] s Q := by
  refine WpM.enter me_X11_copyRow rfl rfl ?_
  show Y_X11_copyRow_128_47 d Q 0 [(0, .ref 47), (1, .ref 128)] [] s
  unfold f_X11_copyRow_128_47 at H
  refine Wp.r_aload_n o_X11_copyRow rfl rfl (Wp.r_iconst o_X11_copyRow rfl (Wp.r_aload_n o_X11_copyRow rfl rfl (Wp.r_iconst o_X11_copyRow rfl (Wp.r_aload_n o_X11_copyRow rfl rfl (Wp.r_alen o_X11_copyRow rfl lk_C_47 (Wp.r_aload_n o_X11_copyRow rfl rfl (Wp.r_alen o_X11_copyRow rfl lk_C_128 (Wp.r_min o_X11_copyRow rfl (⟨rm8_ rfl, ?_⟩)))))))))
  obtain ⟨c9, H⟩ := oq_ck H
  refine Wp.run 1 (show room8 [] ∧ (¬ (0 : Int32) < 0 ∧ ¬ (0 : Int32) < 0 ∧ ¬ (if 60 < (60 : Int32) then 60 else (60 : Int32)) < 0 ∧ 0 + (if 60 < (60 : Int32) then 60 else (60 : Int32)).toNatClampNeg ≤ 60 ∧ 0 + (if 60 < (60 : Int32) then 60 else (60 : Int32)).toNatClampNeg ≤ 60) ∧ Y_X11_copyRow_128_47 d Q 14 [(0, .ref 47), (1, .ref 128)] [] (pA s 128 (va_cpy (s.1 47) (s.1 128) 0 0 (if 60 < (60 : Int32) then 60 else (60 : Int32)).toNatClampNeg)) from ⟨rm8_ rfl, c9, ?_⟩)
  exact Wp.r_return o_X11_copyRow rfl (H)
noncomputable abbrev Y_X11_copyRow_129_48 (d : Nat) (Q : Qt) : Xt := Wp SHC (WpM SHC MT (d + 0)) (flat2 cq_X11_copyRow) (none) Q
noncomputable def f_X11_copyRow_129_48  (s : Sg) : Option (Unit × Sg) :=
  ck (¬ (0 : Int32) < 0 ∧ ¬ (0 : Int32) < 0 ∧ ¬ (if 60 < (60 : Int32) then 60 else (60 : Int32)) < 0 ∧ 0 + (if 60 < (60 : Int32) then 60 else (60 : Int32)).toNatClampNeg ≤ 60 ∧ 0 + (if 60 < (60 : Int32) then 60 else (60 : Int32)).toNatClampNeg ≤ 60) (
  some ((), pA s 129 (va_cpy (s.1 48) (s.1 129) 0 0 (if 60 < (60 : Int32) then 60 else (60 : Int32)).toNatClampNeg))
  )
set_option maxRecDepth 100000 in
theorem w_X11_copyRow_129_48 {d : Nat} {s : Sg} {Q : Qt}  (H : OQ (f_X11_copyRow_129_48  s) (fun _ s9 => Q none s9)) : WpM SHC MT (d + 1) 184 [.ref 48, .ref 129] s Q := by
  refine WpM.enter me_X11_copyRow rfl rfl ?_
  show Y_X11_copyRow_129_48 d Q 0 [(0, .ref 48), (1, .ref 129)] [] s
  unfold f_X11_copyRow_129_48 at H
  refine Wp.r_aload_n o_X11_copyRow rfl rfl (Wp.r_iconst o_X11_copyRow rfl (Wp.r_aload_n o_X11_copyRow rfl rfl (Wp.r_iconst o_X11_copyRow rfl (Wp.r_aload_n o_X11_copyRow rfl rfl (Wp.r_alen o_X11_copyRow rfl lk_C_48 (Wp.r_aload_n o_X11_copyRow rfl rfl (Wp.r_alen o_X11_copyRow rfl lk_C_129 (Wp.r_min o_X11_copyRow rfl (⟨rm8_ rfl, ?_⟩)))))))))
  obtain ⟨c9, H⟩ := oq_ck H
  refine Wp.run 1 (show room8 [] ∧ (¬ (0 : Int32) < 0 ∧ ¬ (0 : Int32) < 0 ∧ ¬ (if 60 < (60 : Int32) then 60 else (60 : Int32)) < 0 ∧ 0 + (if 60 < (60 : Int32) then 60 else (60 : Int32)).toNatClampNeg ≤ 60 ∧ 0 + (if 60 < (60 : Int32) then 60 else (60 : Int32)).toNatClampNeg ≤ 60) ∧ Y_X11_copyRow_129_48 d Q 14 [(0, .ref 48), (1, .ref 129)] [] (pA s 129 (va_cpy (s.1 48) (s.1 129) 0 0 (if 60 < (60 : Int32) then 60 else (60 : Int32)).toNatClampNeg)) from ⟨rm8_ rfl, c9, ?_⟩)
  exact Wp.r_return o_X11_copyRow rfl (H)
noncomputable abbrev Y_X11_copyRow_130_49 (d : Nat) (Q : Qt) : Xt := Wp SHC (WpM SHC MT (d + 0)) (flat2 cq_X11_copyRow) (none) Q
noncomputable def f_X11_copyRow_130_49  (s : Sg) : Option (Unit × Sg) :=
  ck (¬ (0 : Int32) < 0 ∧ ¬ (0 : Int32) < 0 ∧ ¬ (if 60 < (60 : Int32) then 60 else (60 : Int32)) < 0 ∧ 0 + (if 60 < (60 : Int32) then 60 else (60 : Int32)).toNatClampNeg ≤ 60 ∧ 0 + (if 60 < (60 : Int32) then 60 else (60 : Int32)).toNatClampNeg ≤ 60) (
  some ((), pA s 130 (va_cpy (s.1 49) (s.1 130) 0 0 (if 60 < (60 : Int32) then 60 else (60 : Int32)).toNatClampNeg))
  )
set_option maxRecDepth 100000 in
theorem w_X11_copyRow_130_49 {d : Nat} {s : Sg} {Q : Qt}  (H : OQ (f_X11_copyRow_130_49  s) (fun _ s9 => Q none s9)) : WpM SHC MT (d + 1) 184 [.ref 49, .ref 130] s Q := by
  refine WpM.enter me_X11_copyRow rfl rfl ?_
  show Y_X11_copyRow_130_49 d Q 0 [(0, .ref 49), (1, .ref 130)] [] s
  unfold f_X11_copyRow_130_49 at H
  refine Wp.r_aload_n o_X11_copyRow rfl rfl (Wp.r_iconst o_X11_copyRow rfl (Wp.r_aload_n o_X11_copyRow rfl rfl (Wp.r_iconst o_X11_copyRow rfl (Wp.r_aload_n o_X11_copyRow rfl rfl (Wp.r_alen o_X11_copyRow rfl lk_C_49 (Wp.r_aload_n o_X11_copyRow rfl rfl (Wp.r_alen o_X11_copyRow rfl lk_C_130 (Wp.r_min o_X11_copyRow rfl (⟨rm8_ rfl, ?_⟩)))))))))
  obtain ⟨c9, H⟩ := oq_ck H
  refine Wp.run 1 (show room8 [] ∧ (¬ (0 : Int32) < 0 ∧ ¬ (0 : Int32) < 0 ∧ ¬ (if 60 < (60 : Int32) then 60 else (60 : Int32)) < 0 ∧ 0 + (if 60 < (60 : Int32) then 60 else (60 : Int32)).toNatClampNeg ≤ 60 ∧ 0 + (if 60 < (60 : Int32) then 60 else (60 : Int32)).toNatClampNeg ≤ 60) ∧ Y_X11_copyRow_130_49 d Q 14 [(0, .ref 49), (1, .ref 130)] [] (pA s 130 (va_cpy (s.1 49) (s.1 130) 0 0 (if 60 < (60 : Int32) then 60 else (60 : Int32)).toNatClampNeg)) from ⟨rm8_ rfl, c9, ?_⟩)
  exact Wp.r_return o_X11_copyRow rfl (H)
noncomputable abbrev Y_X11_copyRow_131_50 (d : Nat) (Q : Qt) : Xt := Wp SHC (WpM SHC MT (d + 0)) (flat2 cq_X11_copyRow) (none) Q
noncomputable def f_X11_copyRow_131_50  (s : Sg) : Option (Unit × Sg) :=
  ck (¬ (0 : Int32) < 0 ∧ ¬ (0 : Int32) < 0 ∧ ¬ (if 60 < (60 : Int32) then 60 else (60 : Int32)) < 0 ∧ 0 + (if 60 < (60 : Int32) then 60 else (60 : Int32)).toNatClampNeg ≤ 60 ∧ 0 + (if 60 < (60 : Int32) then 60 else (60 : Int32)).toNatClampNeg ≤ 60) (
  some ((), pA s 131 (va_cpy (s.1 50) (s.1 131) 0 0 (if 60 < (60 : Int32) then 60 else (60 : Int32)).toNatClampNeg))
  )
set_option maxRecDepth 100000 in
theorem w_X11_copyRow_131_50 {d : Nat} {s : Sg} {Q : Qt}  (H : OQ (f_X11_copyRow_131_50  s) (fun _ s9 => Q none s9)) : WpM SHC MT (d + 1) 184 [.ref 50, .ref 131] s Q := by
  refine WpM.enter me_X11_copyRow rfl rfl ?_
  show Y_X11_copyRow_131_50 d Q 0 [(0, .ref 50), (1, .ref 131)] [] s
  unfold f_X11_copyRow_131_50 at H
  refine Wp.r_aload_n o_X11_copyRow rfl rfl (Wp.r_iconst o_X11_copyRow rfl (Wp.r_aload_n o_X11_copyRow rfl rfl (Wp.r_iconst o_X11_copyRow rfl (Wp.r_aload_n o_X11_copyRow rfl rfl (Wp.r_alen o_X11_copyRow rfl lk_C_50 (Wp.r_aload_n o_X11_copyRow rfl rfl (Wp.r_alen o_X11_copyRow rfl lk_C_131 (Wp.r_min o_X11_copyRow rfl (⟨rm8_ rfl, ?_⟩)))))))))
  obtain ⟨c9, H⟩ := oq_ck H
  refine Wp.run 1 (show room8 [] ∧ (¬ (0 : Int32) < 0 ∧ ¬ (0 : Int32) < 0 ∧ ¬ (if 60 < (60 : Int32) then 60 else (60 : Int32)) < 0 ∧ 0 + (if 60 < (60 : Int32) then 60 else (60 : Int32)).toNatClampNeg ≤ 60 ∧ 0 + (if 60 < (60 : Int32) then 60 else (60 : Int32)).toNatClampNeg ≤ 60) ∧ Y_X11_copyRow_131_50 d Q 14 [(0, .ref 50), (1, .ref 131)] [] (pA s 131 (va_cpy (s.1 50) (s.1 131) 0 0 (if 60 < (60 : Int32) then 60 else (60 : Int32)).toNatClampNeg)) from ⟨rm8_ rfl, c9, ?_⟩)
  exact Wp.r_return o_X11_copyRow rfl (H)
noncomputable abbrev Y_X5_copyFrom_27_108 (d : Nat) (Q : Qt) : Xt := Wp SHC (WpM SHC MT (d + 1)) (flat2 cq_X5_copyFrom) (none) Q
noncomputable def f_X5_copyFrom_27_108  (s : Sg) : Option (Unit × Sg) :=
  bd (f_X11_copyRow_126_45 s) (fun _ s2 =>
  bd (f_X11_copyRow_127_46 s2) (fun _ s4 =>
  bd (f_X11_copyRow_128_47 s4) (fun _ s6 =>
  bd (f_X11_copyRow_129_48 s6) (fun _ s8 =>
  bd (f_X11_copyRow_130_49 s8) (fun _ s10 =>
  bd (f_X11_copyRow_131_50 s10) (fun _ s12 =>
  ck ((s12.1 27 6) = 0 ∨ (s12.1 27 6) = 1) (
  nmx (pI (pI s12 108 6 (s12.1 27 6)) 108 7 ((pI s12 108 6 (s12.1 27 6)).1 27 7)) (fun s14 =>
  some ((), pI s14 108 8 (s14.1 27 8))
  )
  )
  )
  )
  )
  )
  )
  )
set_option maxRecDepth 100000 in
theorem w_X5_copyFrom_27_108 {d : Nat} {s : Sg} {Q : Qt}  (H : OQ (f_X5_copyFrom_27_108  s) (fun _ s9 => Q none s9)) : WpM SHC MT (d + 2) 62 [.ref 108, .ref 27] s Q := by
  refine WpM.enter me_X5_copyFrom rfl rfl ?_
  show Y_X5_copyFrom_27_108 d Q 0 [(0, .ref 108), (1, .ref 27)] [] s
  unfold f_X5_copyFrom_27_108 at H
  refine Wp.r_aload_n o_X5_copyFrom rfl rfl (Wp.r_gfr o_X5_copyFrom rfl fk_C_27_0 (Wp.r_aload_n o_X5_copyFrom rfl rfl (Wp.r_gfr o_X5_copyFrom rfl fk_C_108_0 (Wp.r_cs2 o_X5_copyFrom rfl (⟨rm8_ rfl, ?_⟩)))))
  refine w_X11_copyRow_126_45 (d := d)  ?_
  refine oq_bd H (fun _ s2 H => ?_)
  show Y_X5_copyFrom_27_108 d Q 11 [(0, .ref 108), (1, .ref 27)] [] s2
  refine Wp.r_aload_n o_X5_copyFrom rfl rfl (Wp.r_gfr o_X5_copyFrom rfl fk_C_27_1 (Wp.r_aload_n o_X5_copyFrom rfl rfl (Wp.r_gfr o_X5_copyFrom rfl fk_C_108_1 (Wp.r_cs2 o_X5_copyFrom rfl (⟨rm8_ rfl, ?_⟩)))))
  refine w_X11_copyRow_127_46 (d := d)  ?_
  refine oq_bd H (fun _ s4 H => ?_)
  show Y_X5_copyFrom_27_108 d Q 22 [(0, .ref 108), (1, .ref 27)] [] s4
  refine Wp.r_aload_n o_X5_copyFrom rfl rfl (Wp.r_gfr o_X5_copyFrom rfl fk_C_27_2 (Wp.r_aload_n o_X5_copyFrom rfl rfl (Wp.r_gfr o_X5_copyFrom rfl fk_C_108_2 (Wp.r_cs2 o_X5_copyFrom rfl (⟨rm8_ rfl, ?_⟩)))))
  refine w_X11_copyRow_128_47 (d := d)  ?_
  refine oq_bd H (fun _ s6 H => ?_)
  show Y_X5_copyFrom_27_108 d Q 33 [(0, .ref 108), (1, .ref 27)] [] s6
  refine Wp.r_aload_n o_X5_copyFrom rfl rfl (Wp.r_gfr o_X5_copyFrom rfl fk_C_27_3 (Wp.r_aload_n o_X5_copyFrom rfl rfl (Wp.r_gfr o_X5_copyFrom rfl fk_C_108_3 (Wp.r_cs2 o_X5_copyFrom rfl (⟨rm8_ rfl, ?_⟩)))))
  refine w_X11_copyRow_129_48 (d := d)  ?_
  refine oq_bd H (fun _ s8 H => ?_)
  show Y_X5_copyFrom_27_108 d Q 44 [(0, .ref 108), (1, .ref 27)] [] s8
  refine Wp.r_aload_n o_X5_copyFrom rfl rfl (Wp.r_gfr o_X5_copyFrom rfl fk_C_27_4 (Wp.r_aload_n o_X5_copyFrom rfl rfl (Wp.r_gfr o_X5_copyFrom rfl fk_C_108_4 (Wp.r_cs2 o_X5_copyFrom rfl (⟨rm8_ rfl, ?_⟩)))))
  refine w_X11_copyRow_130_49 (d := d)  ?_
  refine oq_bd H (fun _ s10 H => ?_)
  show Y_X5_copyFrom_27_108 d Q 55 [(0, .ref 108), (1, .ref 27)] [] s10
  refine Wp.r_aload_n o_X5_copyFrom rfl rfl (Wp.r_gfr o_X5_copyFrom rfl fk_C_27_5 (Wp.r_aload_n o_X5_copyFrom rfl rfl (Wp.r_gfr o_X5_copyFrom rfl fk_C_108_5 (Wp.r_cs2 o_X5_copyFrom rfl (⟨rm8_ rfl, ?_⟩)))))
  refine w_X11_copyRow_131_50 (d := d)  ?_
  refine oq_bd H (fun _ s12 H => ?_)
  show Y_X5_copyFrom_27_108 d Q 66 [(0, .ref 108), (1, .ref 27)] [] s12
  obtain ⟨hc13, H⟩ := oq_ck H
  refine Wp.r_aload_n o_X5_copyFrom rfl rfl (Wp.r_aload_n o_X5_copyFrom rfl rfl (Wp.r_gfi o_X5_copyFrom rfl fk_C_27_6 (Wp.r_pfz o_X5_copyFrom rfl fk_C_108_6 (⟨hc13, ?_⟩))))
  refine Wp.r_aload_n o_X5_copyFrom rfl rfl (Wp.r_aload_n o_X5_copyFrom rfl rfl (Wp.r_gfi o_X5_copyFrom rfl fk_C_27_7 (Wp.r_pfi o_X5_copyFrom rfl fk_C_108_7 (show Y_X5_copyFrom_27_108 d Q 82 [(0, .ref 108), (1, .ref 27)] [] (pI (pI s12 108 6 (s12.1 27 6)) 108 7 ((pI s12 108 6 (s12.1 27 6)).1 27 7)) from ?_))))
  revert H
  generalize pI (pI s12 108 6 (s12.1 27 6)) 108 7 ((pI s12 108 6 (s12.1 27 6)).1 27 7) = s14
  intro H
  have H := nmx_e H
  exact Wp.r_aload_n o_X5_copyFrom rfl rfl (Wp.r_aload_n o_X5_copyFrom rfl rfl (Wp.r_gfi o_X5_copyFrom rfl fk_C_27_8 (Wp.r_pfi o_X5_copyFrom rfl fk_C_108_8 (Wp.r_return o_X5_copyFrom rfl (H)))))
noncomputable abbrev Y_X10_copyFrom_24_105 (d : Nat) (Q : Qt) : Xt := Wp SHC (WpM SHC MT (d + 2)) (flat2 cq_X10_copyFrom) (none) Q
noncomputable def f_X10_copyFrom_24_105  (s : Sg) : Option (Unit × Sg) :=
  bd (f_X4_copyFrom_25_106 s) (fun _ s2 =>
  bd (f_X2_copyFrom_26_107 s2) (fun _ s4 =>
  bd (f_X5_copyFrom_27_108 s4) (fun _ s6 =>
  some ((), s6)
  )
  )
  )
set_option maxRecDepth 100000 in
theorem w_X10_copyFrom_24_105 {d : Nat} {s : Sg} {Q : Qt}  (H : OQ (f_X10_copyFrom_24_105  s) (fun _ s9 => Q none s9)) : WpM SHC MT (d + 3) 101 [.ref 105, .ref 24] s Q := by
  refine WpM.enter me_X10_copyFrom rfl rfl ?_
  show Y_X10_copyFrom_24_105 d Q 0 [(0, .ref 105), (1, .ref 24)] [] s
  unfold f_X10_copyFrom_24_105 at H
  refine Wp.r_aload_n o_X10_copyFrom rfl rfl (Wp.r_gfr o_X10_copyFrom rfl fk_C_105_0 (Wp.r_aload_n o_X10_copyFrom rfl rfl (Wp.r_gfr o_X10_copyFrom rfl fk_C_24_0 (Wp.r_cv2 o_X10_copyFrom rfl fk_C_106_0 (⟨rm8_ rfl, ?_⟩)))))
  refine w_X4_copyFrom_25_106 (d := d)  ?_
  refine oq_bd H (fun _ s2 H => ?_)
  show Y_X10_copyFrom_24_105 d Q 11 [(0, .ref 105), (1, .ref 24)] [] s2
  refine Wp.r_aload_n o_X10_copyFrom rfl rfl (Wp.r_gfr o_X10_copyFrom rfl fk_C_105_1 (Wp.r_aload_n o_X10_copyFrom rfl rfl (Wp.r_gfr o_X10_copyFrom rfl fk_C_24_1 (Wp.r_cv2 o_X10_copyFrom rfl fk_C_107_0 (⟨rm8_ rfl, ?_⟩)))))
  refine w_X2_copyFrom_26_107 (d := d)  ?_
  refine oq_bd H (fun _ s4 H => ?_)
  show Y_X10_copyFrom_24_105 d Q 22 [(0, .ref 105), (1, .ref 24)] [] s4
  refine Wp.r_aload_n o_X10_copyFrom rfl rfl (Wp.r_gfr o_X10_copyFrom rfl fk_C_105_2 (Wp.r_aload_n o_X10_copyFrom rfl rfl (Wp.r_gfr o_X10_copyFrom rfl fk_C_24_2 (Wp.r_cv2 o_X10_copyFrom rfl fk_C_108_0 (⟨rm8_ rfl, ?_⟩)))))
  refine w_X5_copyFrom_27_108 (d := d)  ?_
  refine oq_bd H (fun _ s6 H => ?_)
  show Y_X10_copyFrom_24_105 d Q 33 [(0, .ref 105), (1, .ref 24)] [] s6
  exact Wp.r_return o_X10_copyFrom rfl (H)
noncomputable abbrev Y_X11_copyRow_137_29 (d : Nat) (Q : Qt) : Xt := Wp SHC (WpM SHC MT (d + 0)) (flat2 cq_X11_copyRow) (none) Q
noncomputable def f_X11_copyRow_137_29  (s : Sg) : Option (Unit × Sg) :=
  ck (¬ (0 : Int32) < 0 ∧ ¬ (0 : Int32) < 0 ∧ ¬ (if 24 < (24 : Int32) then 24 else (24 : Int32)) < 0 ∧ 0 + (if 24 < (24 : Int32) then 24 else (24 : Int32)).toNatClampNeg ≤ 24 ∧ 0 + (if 24 < (24 : Int32) then 24 else (24 : Int32)).toNatClampNeg ≤ 24) (
  some ((), pA s 137 (va_cpy (s.1 29) (s.1 137) 0 0 (if 24 < (24 : Int32) then 24 else (24 : Int32)).toNatClampNeg))
  )
set_option maxRecDepth 100000 in
theorem w_X11_copyRow_137_29 {d : Nat} {s : Sg} {Q : Qt}  (H : OQ (f_X11_copyRow_137_29  s) (fun _ s9 => Q none s9)) : WpM SHC MT (d + 1) 184 [.ref 29, .ref 137] s Q := by
  refine WpM.enter me_X11_copyRow rfl rfl ?_
  show Y_X11_copyRow_137_29 d Q 0 [(0, .ref 29), (1, .ref 137)] [] s
  unfold f_X11_copyRow_137_29 at H
  refine Wp.r_aload_n o_X11_copyRow rfl rfl (Wp.r_iconst o_X11_copyRow rfl (Wp.r_aload_n o_X11_copyRow rfl rfl (Wp.r_iconst o_X11_copyRow rfl (Wp.r_aload_n o_X11_copyRow rfl rfl (Wp.r_alen o_X11_copyRow rfl lk_C_29 (Wp.r_aload_n o_X11_copyRow rfl rfl (Wp.r_alen o_X11_copyRow rfl lk_C_137 (Wp.r_min o_X11_copyRow rfl (⟨rm8_ rfl, ?_⟩)))))))))
  obtain ⟨c9, H⟩ := oq_ck H
  refine Wp.run 1 (show room8 [] ∧ (¬ (0 : Int32) < 0 ∧ ¬ (0 : Int32) < 0 ∧ ¬ (if 24 < (24 : Int32) then 24 else (24 : Int32)) < 0 ∧ 0 + (if 24 < (24 : Int32) then 24 else (24 : Int32)).toNatClampNeg ≤ 24 ∧ 0 + (if 24 < (24 : Int32) then 24 else (24 : Int32)).toNatClampNeg ≤ 24) ∧ Y_X11_copyRow_137_29 d Q 14 [(0, .ref 29), (1, .ref 137)] [] (pA s 137 (va_cpy (s.1 29) (s.1 137) 0 0 (if 24 < (24 : Int32) then 24 else (24 : Int32)).toNatClampNeg)) from ⟨rm8_ rfl, c9, ?_⟩)
  exact Wp.r_return o_X11_copyRow rfl (H)
noncomputable abbrev Y_X11_copyRow_138_30 (d : Nat) (Q : Qt) : Xt := Wp SHC (WpM SHC MT (d + 0)) (flat2 cq_X11_copyRow) (none) Q
noncomputable def f_X11_copyRow_138_30  (s : Sg) : Option (Unit × Sg) :=
  ck (¬ (0 : Int32) < 0 ∧ ¬ (0 : Int32) < 0 ∧ ¬ (if 24 < (24 : Int32) then 24 else (24 : Int32)) < 0 ∧ 0 + (if 24 < (24 : Int32) then 24 else (24 : Int32)).toNatClampNeg ≤ 24 ∧ 0 + (if 24 < (24 : Int32) then 24 else (24 : Int32)).toNatClampNeg ≤ 24) (
  some ((), pA s 138 (va_cpy (s.1 30) (s.1 138) 0 0 (if 24 < (24 : Int32) then 24 else (24 : Int32)).toNatClampNeg))
  )
set_option maxRecDepth 100000 in
theorem w_X11_copyRow_138_30 {d : Nat} {s : Sg} {Q : Qt}  (H : OQ (f_X11_copyRow_138_30  s) (fun _ s9 => Q none s9)) : WpM SHC MT (d + 1) 184 [.ref 30, .ref 138] s Q := by
  refine WpM.enter me_X11_copyRow rfl rfl ?_
  show Y_X11_copyRow_138_30 d Q 0 [(0, .ref 30), (1, .ref 138)] [] s
  unfold f_X11_copyRow_138_30 at H
  refine Wp.r_aload_n o_X11_copyRow rfl rfl (Wp.r_iconst o_X11_copyRow rfl (Wp.r_aload_n o_X11_copyRow rfl rfl (Wp.r_iconst o_X11_copyRow rfl (Wp.r_aload_n o_X11_copyRow rfl rfl (Wp.r_alen o_X11_copyRow rfl lk_C_30 (Wp.r_aload_n o_X11_copyRow rfl rfl (Wp.r_alen o_X11_copyRow rfl lk_C_138 (Wp.r_min o_X11_copyRow rfl (⟨rm8_ rfl, ?_⟩)))))))))
  obtain ⟨c9, H⟩ := oq_ck H
  refine Wp.run 1 (show room8 [] ∧ (¬ (0 : Int32) < 0 ∧ ¬ (0 : Int32) < 0 ∧ ¬ (if 24 < (24 : Int32) then 24 else (24 : Int32)) < 0 ∧ 0 + (if 24 < (24 : Int32) then 24 else (24 : Int32)).toNatClampNeg ≤ 24 ∧ 0 + (if 24 < (24 : Int32) then 24 else (24 : Int32)).toNatClampNeg ≤ 24) ∧ Y_X11_copyRow_138_30 d Q 14 [(0, .ref 30), (1, .ref 138)] [] (pA s 138 (va_cpy (s.1 30) (s.1 138) 0 0 (if 24 < (24 : Int32) then 24 else (24 : Int32)).toNatClampNeg)) from ⟨rm8_ rfl, c9, ?_⟩)
  exact Wp.r_return o_X11_copyRow rfl (H)
noncomputable abbrev Y_X11_copyRow_139_31 (d : Nat) (Q : Qt) : Xt := Wp SHC (WpM SHC MT (d + 0)) (flat2 cq_X11_copyRow) (none) Q
noncomputable def f_X11_copyRow_139_31  (s : Sg) : Option (Unit × Sg) :=
  ck (¬ (0 : Int32) < 0 ∧ ¬ (0 : Int32) < 0 ∧ ¬ (if 8 < (8 : Int32) then 8 else (8 : Int32)) < 0 ∧ 0 + (if 8 < (8 : Int32) then 8 else (8 : Int32)).toNatClampNeg ≤ 8 ∧ 0 + (if 8 < (8 : Int32) then 8 else (8 : Int32)).toNatClampNeg ≤ 8) (
  some ((), pA s 139 (va_cpy (s.1 31) (s.1 139) 0 0 (if 8 < (8 : Int32) then 8 else (8 : Int32)).toNatClampNeg))
  )
set_option maxRecDepth 100000 in
theorem w_X11_copyRow_139_31 {d : Nat} {s : Sg} {Q : Qt}  (H : OQ (f_X11_copyRow_139_31  s) (fun _ s9 => Q none s9)) : WpM SHC MT (d + 1) 184 [.ref 31, .ref 139] s Q := by
  refine WpM.enter me_X11_copyRow rfl rfl ?_
  show Y_X11_copyRow_139_31 d Q 0 [(0, .ref 31), (1, .ref 139)] [] s
  unfold f_X11_copyRow_139_31 at H
  refine Wp.r_aload_n o_X11_copyRow rfl rfl (Wp.r_iconst o_X11_copyRow rfl (Wp.r_aload_n o_X11_copyRow rfl rfl (Wp.r_iconst o_X11_copyRow rfl (Wp.r_aload_n o_X11_copyRow rfl rfl (Wp.r_alen o_X11_copyRow rfl lk_C_31 (Wp.r_aload_n o_X11_copyRow rfl rfl (Wp.r_alen o_X11_copyRow rfl lk_C_139 (Wp.r_min o_X11_copyRow rfl (⟨rm8_ rfl, ?_⟩)))))))))
  obtain ⟨c9, H⟩ := oq_ck H
  refine Wp.run 1 (show room8 [] ∧ (¬ (0 : Int32) < 0 ∧ ¬ (0 : Int32) < 0 ∧ ¬ (if 8 < (8 : Int32) then 8 else (8 : Int32)) < 0 ∧ 0 + (if 8 < (8 : Int32) then 8 else (8 : Int32)).toNatClampNeg ≤ 8 ∧ 0 + (if 8 < (8 : Int32) then 8 else (8 : Int32)).toNatClampNeg ≤ 8) ∧ Y_X11_copyRow_139_31 d Q 14 [(0, .ref 31), (1, .ref 139)] [] (pA s 139 (va_cpy (s.1 31) (s.1 139) 0 0 (if 8 < (8 : Int32) then 8 else (8 : Int32)).toNatClampNeg)) from ⟨rm8_ rfl, c9, ?_⟩)
  exact Wp.r_return o_X11_copyRow rfl (H)
noncomputable abbrev Y_X11_copyRow_140_32 (d : Nat) (Q : Qt) : Xt := Wp SHC (WpM SHC MT (d + 0)) (flat2 cq_X11_copyRow) (none) Q
noncomputable def f_X11_copyRow_140_32  (s : Sg) : Option (Unit × Sg) :=
  ck (¬ (0 : Int32) < 0 ∧ ¬ (0 : Int32) < 0 ∧ ¬ (if 8 < (8 : Int32) then 8 else (8 : Int32)) < 0 ∧ 0 + (if 8 < (8 : Int32) then 8 else (8 : Int32)).toNatClampNeg ≤ 8 ∧ 0 + (if 8 < (8 : Int32) then 8 else (8 : Int32)).toNatClampNeg ≤ 8) (
  some ((), pA s 140 (va_cpy (s.1 32) (s.1 140) 0 0 (if 8 < (8 : Int32) then 8 else (8 : Int32)).toNatClampNeg))
  )
set_option maxRecDepth 100000 in
theorem w_X11_copyRow_140_32 {d : Nat} {s : Sg} {Q : Qt}  (H : OQ (f_X11_copyRow_140_32  s) (fun _ s9 => Q none s9)) : WpM SHC MT (d + 1) 184 [.ref 32, .ref 140] s Q := by
  refine WpM.enter me_X11_copyRow rfl rfl ?_
  show Y_X11_copyRow_140_32 d Q 0 [(0, .ref 32), (1, .ref 140)] [] s
  unfold f_X11_copyRow_140_32 at H
  refine Wp.r_aload_n o_X11_copyRow rfl rfl (Wp.r_iconst o_X11_copyRow rfl (Wp.r_aload_n o_X11_copyRow rfl rfl (Wp.r_iconst o_X11_copyRow rfl (Wp.r_aload_n o_X11_copyRow rfl rfl (Wp.r_alen o_X11_copyRow rfl lk_C_32 (Wp.r_aload_n o_X11_copyRow rfl rfl (Wp.r_alen o_X11_copyRow rfl lk_C_140 (Wp.r_min o_X11_copyRow rfl (⟨rm8_ rfl, ?_⟩)))))))))
  obtain ⟨c9, H⟩ := oq_ck H
  refine Wp.run 1 (show room8 [] ∧ (¬ (0 : Int32) < 0 ∧ ¬ (0 : Int32) < 0 ∧ ¬ (if 8 < (8 : Int32) then 8 else (8 : Int32)) < 0 ∧ 0 + (if 8 < (8 : Int32) then 8 else (8 : Int32)).toNatClampNeg ≤ 8 ∧ 0 + (if 8 < (8 : Int32) then 8 else (8 : Int32)).toNatClampNeg ≤ 8) ∧ Y_X11_copyRow_140_32 d Q 14 [(0, .ref 32), (1, .ref 140)] [] (pA s 140 (va_cpy (s.1 32) (s.1 140) 0 0 (if 8 < (8 : Int32) then 8 else (8 : Int32)).toNatClampNeg)) from ⟨rm8_ rfl, c9, ?_⟩)
  exact Wp.r_return o_X11_copyRow rfl (H)
noncomputable abbrev Y_X11_copyRow_141_33 (d : Nat) (Q : Qt) : Xt := Wp SHC (WpM SHC MT (d + 0)) (flat2 cq_X11_copyRow) (none) Q
noncomputable def f_X11_copyRow_141_33  (s : Sg) : Option (Unit × Sg) :=
  ck (¬ (0 : Int32) < 0 ∧ ¬ (0 : Int32) < 0 ∧ ¬ (if 8 < (8 : Int32) then 8 else (8 : Int32)) < 0 ∧ 0 + (if 8 < (8 : Int32) then 8 else (8 : Int32)).toNatClampNeg ≤ 8 ∧ 0 + (if 8 < (8 : Int32) then 8 else (8 : Int32)).toNatClampNeg ≤ 8) (
  some ((), pA s 141 (va_cpy (s.1 33) (s.1 141) 0 0 (if 8 < (8 : Int32) then 8 else (8 : Int32)).toNatClampNeg))
  )
set_option maxRecDepth 100000 in
theorem w_X11_copyRow_141_33 {d : Nat} {s : Sg} {Q : Qt}  (H : OQ (f_X11_copyRow_141_33  s) (fun _ s9 => Q none s9)) : WpM SHC MT (d + 1) 184 [.ref 33, .ref 141] s Q := by
  refine WpM.enter me_X11_copyRow rfl rfl ?_
  show Y_X11_copyRow_141_33 d Q 0 [(0, .ref 33), (1, .ref 141)] [] s
  unfold f_X11_copyRow_141_33 at H
  refine Wp.r_aload_n o_X11_copyRow rfl rfl (Wp.r_iconst o_X11_copyRow rfl (Wp.r_aload_n o_X11_copyRow rfl rfl (Wp.r_iconst o_X11_copyRow rfl (Wp.r_aload_n o_X11_copyRow rfl rfl (Wp.r_alen o_X11_copyRow rfl lk_C_33 (Wp.r_aload_n o_X11_copyRow rfl rfl (Wp.r_alen o_X11_copyRow rfl lk_C_141 (Wp.r_min o_X11_copyRow rfl (⟨rm8_ rfl, ?_⟩)))))))))
  obtain ⟨c9, H⟩ := oq_ck H
  refine Wp.run 1 (show room8 [] ∧ (¬ (0 : Int32) < 0 ∧ ¬ (0 : Int32) < 0 ∧ ¬ (if 8 < (8 : Int32) then 8 else (8 : Int32)) < 0 ∧ 0 + (if 8 < (8 : Int32) then 8 else (8 : Int32)).toNatClampNeg ≤ 8 ∧ 0 + (if 8 < (8 : Int32) then 8 else (8 : Int32)).toNatClampNeg ≤ 8) ∧ Y_X11_copyRow_141_33 d Q 14 [(0, .ref 33), (1, .ref 141)] [] (pA s 141 (va_cpy (s.1 33) (s.1 141) 0 0 (if 8 < (8 : Int32) then 8 else (8 : Int32)).toNatClampNeg)) from ⟨rm8_ rfl, c9, ?_⟩)
  exact Wp.r_return o_X11_copyRow rfl (H)
noncomputable abbrev Y_X11_copyRow_142_34 (d : Nat) (Q : Qt) : Xt := Wp SHC (WpM SHC MT (d + 0)) (flat2 cq_X11_copyRow) (none) Q
noncomputable def f_X11_copyRow_142_34  (s : Sg) : Option (Unit × Sg) :=
  ck (¬ (0 : Int32) < 0 ∧ ¬ (0 : Int32) < 0 ∧ ¬ (if 8 < (8 : Int32) then 8 else (8 : Int32)) < 0 ∧ 0 + (if 8 < (8 : Int32) then 8 else (8 : Int32)).toNatClampNeg ≤ 8 ∧ 0 + (if 8 < (8 : Int32) then 8 else (8 : Int32)).toNatClampNeg ≤ 8) (
  some ((), pA s 142 (va_cpy (s.1 34) (s.1 142) 0 0 (if 8 < (8 : Int32) then 8 else (8 : Int32)).toNatClampNeg))
  )
set_option maxRecDepth 100000 in
theorem w_X11_copyRow_142_34 {d : Nat} {s : Sg} {Q : Qt}  (H : OQ (f_X11_copyRow_142_34  s) (fun _ s9 => Q none s9)) : WpM SHC MT (d + 1) 184 [.ref 34, .ref 142] s Q := by
  refine WpM.enter me_X11_copyRow rfl rfl ?_
  show Y_X11_copyRow_142_34 d Q 0 [(0, .ref 34), (1, .ref 142)] [] s
  unfold f_X11_copyRow_142_34 at H
  refine Wp.r_aload_n o_X11_copyRow rfl rfl (Wp.r_iconst o_X11_copyRow rfl (Wp.r_aload_n o_X11_copyRow rfl rfl (Wp.r_iconst o_X11_copyRow rfl (Wp.r_aload_n o_X11_copyRow rfl rfl (Wp.r_alen o_X11_copyRow rfl lk_C_34 (Wp.r_aload_n o_X11_copyRow rfl rfl (Wp.r_alen o_X11_copyRow rfl lk_C_142 (Wp.r_min o_X11_copyRow rfl (⟨rm8_ rfl, ?_⟩)))))))))
  obtain ⟨c9, H⟩ := oq_ck H
  refine Wp.run 1 (show room8 [] ∧ (¬ (0 : Int32) < 0 ∧ ¬ (0 : Int32) < 0 ∧ ¬ (if 8 < (8 : Int32) then 8 else (8 : Int32)) < 0 ∧ 0 + (if 8 < (8 : Int32) then 8 else (8 : Int32)).toNatClampNeg ≤ 8 ∧ 0 + (if 8 < (8 : Int32) then 8 else (8 : Int32)).toNatClampNeg ≤ 8) ∧ Y_X11_copyRow_142_34 d Q 14 [(0, .ref 34), (1, .ref 142)] [] (pA s 142 (va_cpy (s.1 34) (s.1 142) 0 0 (if 8 < (8 : Int32) then 8 else (8 : Int32)).toNatClampNeg)) from ⟨rm8_ rfl, c9, ?_⟩)
  exact Wp.r_return o_X11_copyRow rfl (H)
noncomputable abbrev Y_X11_copyRow_143_35 (d : Nat) (Q : Qt) : Xt := Wp SHC (WpM SHC MT (d + 0)) (flat2 cq_X11_copyRow) (none) Q
noncomputable def f_X11_copyRow_143_35  (s : Sg) : Option (Unit × Sg) :=
  ck (¬ (0 : Int32) < 0 ∧ ¬ (0 : Int32) < 0 ∧ ¬ (if 4 < (4 : Int32) then 4 else (4 : Int32)) < 0 ∧ 0 + (if 4 < (4 : Int32) then 4 else (4 : Int32)).toNatClampNeg ≤ 4 ∧ 0 + (if 4 < (4 : Int32) then 4 else (4 : Int32)).toNatClampNeg ≤ 4) (
  some ((), pA s 143 (va_cpy (s.1 35) (s.1 143) 0 0 (if 4 < (4 : Int32) then 4 else (4 : Int32)).toNatClampNeg))
  )
set_option maxRecDepth 100000 in
theorem w_X11_copyRow_143_35 {d : Nat} {s : Sg} {Q : Qt}  (H : OQ (f_X11_copyRow_143_35  s) (fun _ s9 => Q none s9)) : WpM SHC MT (d + 1) 184 [.ref 35, .ref 143] s Q := by
  refine WpM.enter me_X11_copyRow rfl rfl ?_
  show Y_X11_copyRow_143_35 d Q 0 [(0, .ref 35), (1, .ref 143)] [] s
  unfold f_X11_copyRow_143_35 at H
  refine Wp.r_aload_n o_X11_copyRow rfl rfl (Wp.r_iconst o_X11_copyRow rfl (Wp.r_aload_n o_X11_copyRow rfl rfl (Wp.r_iconst o_X11_copyRow rfl (Wp.r_aload_n o_X11_copyRow rfl rfl (Wp.r_alen o_X11_copyRow rfl lk_C_35 (Wp.r_aload_n o_X11_copyRow rfl rfl (Wp.r_alen o_X11_copyRow rfl lk_C_143 (Wp.r_min o_X11_copyRow rfl (⟨rm8_ rfl, ?_⟩)))))))))
  obtain ⟨c9, H⟩ := oq_ck H
  refine Wp.run 1 (show room8 [] ∧ (¬ (0 : Int32) < 0 ∧ ¬ (0 : Int32) < 0 ∧ ¬ (if 4 < (4 : Int32) then 4 else (4 : Int32)) < 0 ∧ 0 + (if 4 < (4 : Int32) then 4 else (4 : Int32)).toNatClampNeg ≤ 4 ∧ 0 + (if 4 < (4 : Int32) then 4 else (4 : Int32)).toNatClampNeg ≤ 4) ∧ Y_X11_copyRow_143_35 d Q 14 [(0, .ref 35), (1, .ref 143)] [] (pA s 143 (va_cpy (s.1 35) (s.1 143) 0 0 (if 4 < (4 : Int32) then 4 else (4 : Int32)).toNatClampNeg)) from ⟨rm8_ rfl, c9, ?_⟩)
  exact Wp.r_return o_X11_copyRow rfl (H)
noncomputable abbrev Y_X11_copyRow_144_36 (d : Nat) (Q : Qt) : Xt := Wp SHC (WpM SHC MT (d + 0)) (flat2 cq_X11_copyRow) (none) Q
noncomputable def f_X11_copyRow_144_36  (s : Sg) : Option (Unit × Sg) :=
  ck (¬ (0 : Int32) < 0 ∧ ¬ (0 : Int32) < 0 ∧ ¬ (if 4 < (4 : Int32) then 4 else (4 : Int32)) < 0 ∧ 0 + (if 4 < (4 : Int32) then 4 else (4 : Int32)).toNatClampNeg ≤ 4 ∧ 0 + (if 4 < (4 : Int32) then 4 else (4 : Int32)).toNatClampNeg ≤ 4) (
  some ((), pA s 144 (va_cpy (s.1 36) (s.1 144) 0 0 (if 4 < (4 : Int32) then 4 else (4 : Int32)).toNatClampNeg))
  )
set_option maxRecDepth 100000 in
theorem w_X11_copyRow_144_36 {d : Nat} {s : Sg} {Q : Qt}  (H : OQ (f_X11_copyRow_144_36  s) (fun _ s9 => Q none s9)) : WpM SHC MT (d + 1) 184 [.ref 36, .ref 144] s Q := by
  refine WpM.enter me_X11_copyRow rfl rfl ?_
  show Y_X11_copyRow_144_36 d Q 0 [(0, .ref 36), (1, .ref 144)] [] s
  unfold f_X11_copyRow_144_36 at H
  refine Wp.r_aload_n o_X11_copyRow rfl rfl (Wp.r_iconst o_X11_copyRow rfl (Wp.r_aload_n o_X11_copyRow rfl rfl (Wp.r_iconst o_X11_copyRow rfl (Wp.r_aload_n o_X11_copyRow rfl rfl (Wp.r_alen o_X11_copyRow rfl lk_C_36 (Wp.r_aload_n o_X11_copyRow rfl rfl (Wp.r_alen o_X11_copyRow rfl lk_C_144 (Wp.r_min o_X11_copyRow rfl (⟨rm8_ rfl, ?_⟩)))))))))
  obtain ⟨c9, H⟩ := oq_ck H
  refine Wp.run 1 (show room8 [] ∧ (¬ (0 : Int32) < 0 ∧ ¬ (0 : Int32) < 0 ∧ ¬ (if 4 < (4 : Int32) then 4 else (4 : Int32)) < 0 ∧ 0 + (if 4 < (4 : Int32) then 4 else (4 : Int32)).toNatClampNeg ≤ 4 ∧ 0 + (if 4 < (4 : Int32) then 4 else (4 : Int32)).toNatClampNeg ≤ 4) ∧ Y_X11_copyRow_144_36 d Q 14 [(0, .ref 36), (1, .ref 144)] [] (pA s 144 (va_cpy (s.1 36) (s.1 144) 0 0 (if 4 < (4 : Int32) then 4 else (4 : Int32)).toNatClampNeg)) from ⟨rm8_ rfl, c9, ?_⟩)
  exact Wp.r_return o_X11_copyRow rfl (H)
noncomputable abbrev Y_X11_copyRow_145_37 (d : Nat) (Q : Qt) : Xt := Wp SHC (WpM SHC MT (d + 0)) (flat2 cq_X11_copyRow) (none) Q
noncomputable def f_X11_copyRow_145_37  (s : Sg) : Option (Unit × Sg) :=
  ck (¬ (0 : Int32) < 0 ∧ ¬ (0 : Int32) < 0 ∧ ¬ (if 4 < (4 : Int32) then 4 else (4 : Int32)) < 0 ∧ 0 + (if 4 < (4 : Int32) then 4 else (4 : Int32)).toNatClampNeg ≤ 4 ∧ 0 + (if 4 < (4 : Int32) then 4 else (4 : Int32)).toNatClampNeg ≤ 4) (
  some ((), pA s 145 (va_cpy (s.1 37) (s.1 145) 0 0 (if 4 < (4 : Int32) then 4 else (4 : Int32)).toNatClampNeg))
  )
set_option maxRecDepth 100000 in
theorem w_X11_copyRow_145_37 {d : Nat} {s : Sg} {Q : Qt}  (H : OQ (f_X11_copyRow_145_37  s) (fun _ s9 => Q none s9)) : WpM SHC MT (d + 1) 184 [.ref 37, .ref 145] s Q := by
  refine WpM.enter me_X11_copyRow rfl rfl ?_
  show Y_X11_copyRow_145_37 d Q 0 [(0, .ref 37), (1, .ref 145)] [] s
  unfold f_X11_copyRow_145_37 at H
  refine Wp.r_aload_n o_X11_copyRow rfl rfl (Wp.r_iconst o_X11_copyRow rfl (Wp.r_aload_n o_X11_copyRow rfl rfl (Wp.r_iconst o_X11_copyRow rfl (Wp.r_aload_n o_X11_copyRow rfl rfl (Wp.r_alen o_X11_copyRow rfl lk_C_37 (Wp.r_aload_n o_X11_copyRow rfl rfl (Wp.r_alen o_X11_copyRow rfl lk_C_145 (Wp.r_min o_X11_copyRow rfl (⟨rm8_ rfl, ?_⟩)))))))))
  obtain ⟨c9, H⟩ := oq_ck H
  refine Wp.run 1 (show room8 [] ∧ (¬ (0 : Int32) < 0 ∧ ¬ (0 : Int32) < 0 ∧ ¬ (if 4 < (4 : Int32) then 4 else (4 : Int32)) < 0 ∧ 0 + (if 4 < (4 : Int32) then 4 else (4 : Int32)).toNatClampNeg ≤ 4 ∧ 0 + (if 4 < (4 : Int32) then 4 else (4 : Int32)).toNatClampNeg ≤ 4) ∧ Y_X11_copyRow_145_37 d Q 14 [(0, .ref 37), (1, .ref 145)] [] (pA s 145 (va_cpy (s.1 37) (s.1 145) 0 0 (if 4 < (4 : Int32) then 4 else (4 : Int32)).toNatClampNeg)) from ⟨rm8_ rfl, c9, ?_⟩)
  exact Wp.r_return o_X11_copyRow rfl (H)
noncomputable abbrev Y_X11_copyRow_146_38 (d : Nat) (Q : Qt) : Xt := Wp SHC (WpM SHC MT (d + 0)) (flat2 cq_X11_copyRow) (none) Q
noncomputable def f_X11_copyRow_146_38  (s : Sg) : Option (Unit × Sg) :=
  ck (¬ (0 : Int32) < 0 ∧ ¬ (0 : Int32) < 0 ∧ ¬ (if 4 < (4 : Int32) then 4 else (4 : Int32)) < 0 ∧ 0 + (if 4 < (4 : Int32) then 4 else (4 : Int32)).toNatClampNeg ≤ 4 ∧ 0 + (if 4 < (4 : Int32) then 4 else (4 : Int32)).toNatClampNeg ≤ 4) (
  some ((), pA s 146 (va_cpy (s.1 38) (s.1 146) 0 0 (if 4 < (4 : Int32) then 4 else (4 : Int32)).toNatClampNeg))
  )
set_option maxRecDepth 100000 in
theorem w_X11_copyRow_146_38 {d : Nat} {s : Sg} {Q : Qt}  (H : OQ (f_X11_copyRow_146_38  s) (fun _ s9 => Q none s9)) : WpM SHC MT (d + 1) 184 [.ref 38, .ref 146] s Q := by
  refine WpM.enter me_X11_copyRow rfl rfl ?_
  show Y_X11_copyRow_146_38 d Q 0 [(0, .ref 38), (1, .ref 146)] [] s
  unfold f_X11_copyRow_146_38 at H
  refine Wp.r_aload_n o_X11_copyRow rfl rfl (Wp.r_iconst o_X11_copyRow rfl (Wp.r_aload_n o_X11_copyRow rfl rfl (Wp.r_iconst o_X11_copyRow rfl (Wp.r_aload_n o_X11_copyRow rfl rfl (Wp.r_alen o_X11_copyRow rfl lk_C_38 (Wp.r_aload_n o_X11_copyRow rfl rfl (Wp.r_alen o_X11_copyRow rfl lk_C_146 (Wp.r_min o_X11_copyRow rfl (⟨rm8_ rfl, ?_⟩)))))))))
  obtain ⟨c9, H⟩ := oq_ck H
  refine Wp.run 1 (show room8 [] ∧ (¬ (0 : Int32) < 0 ∧ ¬ (0 : Int32) < 0 ∧ ¬ (if 4 < (4 : Int32) then 4 else (4 : Int32)) < 0 ∧ 0 + (if 4 < (4 : Int32) then 4 else (4 : Int32)).toNatClampNeg ≤ 4 ∧ 0 + (if 4 < (4 : Int32) then 4 else (4 : Int32)).toNatClampNeg ≤ 4) ∧ Y_X11_copyRow_146_38 d Q 14 [(0, .ref 38), (1, .ref 146)] [] (pA s 146 (va_cpy (s.1 38) (s.1 146) 0 0 (if 4 < (4 : Int32) then 4 else (4 : Int32)).toNatClampNeg)) from ⟨rm8_ rfl, c9, ?_⟩)
  exact Wp.r_return o_X11_copyRow rfl (H)
noncomputable abbrev Y_X11_copyRow_147_39 (d : Nat) (Q : Qt) : Xt := Wp SHC (WpM SHC MT (d + 0)) (flat2 cq_X11_copyRow) (none) Q
noncomputable def f_X11_copyRow_147_39  (s : Sg) : Option (Unit × Sg) :=
  ck (¬ (0 : Int32) < 0 ∧ ¬ (0 : Int32) < 0 ∧ ¬ (if 4 < (4 : Int32) then 4 else (4 : Int32)) < 0 ∧ 0 + (if 4 < (4 : Int32) then 4 else (4 : Int32)).toNatClampNeg ≤ 4 ∧ 0 + (if 4 < (4 : Int32) then 4 else (4 : Int32)).toNatClampNeg ≤ 4) (
  some ((), pA s 147 (va_cpy (s.1 39) (s.1 147) 0 0 (if 4 < (4 : Int32) then 4 else (4 : Int32)).toNatClampNeg))
  )
set_option maxRecDepth 100000 in
theorem w_X11_copyRow_147_39 {d : Nat} {s : Sg} {Q : Qt}  (H : OQ (f_X11_copyRow_147_39  s) (fun _ s9 => Q none s9)) : WpM SHC MT (d + 1) 184 [.ref 39, .ref 147] s Q := by
  refine WpM.enter me_X11_copyRow rfl rfl ?_
  show Y_X11_copyRow_147_39 d Q 0 [(0, .ref 39), (1, .ref 147)] [] s
  unfold f_X11_copyRow_147_39 at H
  refine Wp.r_aload_n o_X11_copyRow rfl rfl (Wp.r_iconst o_X11_copyRow rfl (Wp.r_aload_n o_X11_copyRow rfl rfl (Wp.r_iconst o_X11_copyRow rfl (Wp.r_aload_n o_X11_copyRow rfl rfl (Wp.r_alen o_X11_copyRow rfl lk_C_39 (Wp.r_aload_n o_X11_copyRow rfl rfl (Wp.r_alen o_X11_copyRow rfl lk_C_147 (Wp.r_min o_X11_copyRow rfl (⟨rm8_ rfl, ?_⟩)))))))))
  obtain ⟨c9, H⟩ := oq_ck H
  refine Wp.run 1 (show room8 [] ∧ (¬ (0 : Int32) < 0 ∧ ¬ (0 : Int32) < 0 ∧ ¬ (if 4 < (4 : Int32) then 4 else (4 : Int32)) < 0 ∧ 0 + (if 4 < (4 : Int32) then 4 else (4 : Int32)).toNatClampNeg ≤ 4 ∧ 0 + (if 4 < (4 : Int32) then 4 else (4 : Int32)).toNatClampNeg ≤ 4) ∧ Y_X11_copyRow_147_39 d Q 14 [(0, .ref 39), (1, .ref 147)] [] (pA s 147 (va_cpy (s.1 39) (s.1 147) 0 0 (if 4 < (4 : Int32) then 4 else (4 : Int32)).toNatClampNeg)) from ⟨rm8_ rfl, c9, ?_⟩)
  exact Wp.r_return o_X11_copyRow rfl (H)
noncomputable abbrev Y_X4_copyFrom_25_133 (d : Nat) (Q : Qt) : Xt := Wp SHC (WpM SHC MT (d + 1)) (flat2 cq_X4_copyFrom) (none) Q
noncomputable def f_X4_copyFrom_25_133  (s : Sg) : Option (Unit × Sg) :=
  bd (f_X11_copyRow_137_29 (pB s 136 (va_cpy (s.2 28) (s.2 136) 0 0 24))) (fun _ s2 =>
  bd (f_X11_copyRow_138_30 s2) (fun _ s4 =>
  bd (f_X11_copyRow_139_31 s4) (fun _ s6 =>
  bd (f_X11_copyRow_140_32 s6) (fun _ s8 =>
  bd (f_X11_copyRow_141_33 s8) (fun _ s10 =>
  bd (f_X11_copyRow_142_34 s10) (fun _ s12 =>
  bd (f_X11_copyRow_143_35 s12) (fun _ s14 =>
  bd (f_X11_copyRow_144_36 s14) (fun _ s16 =>
  bd (f_X11_copyRow_145_37 s16) (fun _ s18 =>
  bd (f_X11_copyRow_146_38 s18) (fun _ s20 =>
  bd (f_X11_copyRow_147_39 s20) (fun _ s22 =>
  nmx (pI (pI s22 133 12 (s22.1 25 12)) 133 13 ((pI s22 133 12 (s22.1 25 12)).1 25 13)) (fun s23 =>
  nmx (pI (pI s23 133 14 (s23.1 25 14)) 133 15 ((pI s23 133 14 (s23.1 25 14)).1 25 15)) (fun s24 =>
  nmx (pI (pI s24 133 16 (s24.1 25 16)) 133 17 ((pI s24 133 16 (s24.1 25 16)).1 25 17)) (fun s25 =>
  ck (((pI s25 133 18 (s25.1 25 18)).1 25 19) = 0 ∨ ((pI s25 133 18 (s25.1 25 18)).1 25 19) = 1) (
  some ((), pI (pI s25 133 18 (s25.1 25 18)) 133 19 ((pI s25 133 18 (s25.1 25 18)).1 25 19))
  )
  )
  )
  )
  )
  )
  )
  )
  )
  )
  )
  )
  )
  )
  )
set_option maxRecDepth 100000 in
theorem w_X4_copyFrom_25_133 {d : Nat} {s : Sg} {Q : Qt}  (H : OQ (f_X4_copyFrom_25_133  s) (fun _ s9 => Q none s9)) : WpM SHC MT (d + 2) 50 [.ref 133, .ref 25] s Q := by
  refine WpM.enter me_X4_copyFrom rfl rfl ?_
  show Y_X4_copyFrom_25_133 d Q 0 [(0, .ref 133), (1, .ref 25)] [] s
  unfold f_X4_copyFrom_25_133 at H
  refine Wp.r_aload_n o_X4_copyFrom rfl rfl (Wp.r_gfr o_X4_copyFrom rfl fk_C_25_0 (Wp.r_iconst o_X4_copyFrom rfl (Wp.r_aload_n o_X4_copyFrom rfl rfl (Wp.r_gfr o_X4_copyFrom rfl fk_C_133_0 (Wp.r_iconst o_X4_copyFrom rfl (Wp.r_bipush o_X4_copyFrom rfl (Wp.run 1 (show room8 [] ∧ (¬ (0 : Int32) < 0 ∧ ¬ (0 : Int32) < 0 ∧ ¬ (24 : Int32) < 0 ∧ 0 + 24 ≤ 24 ∧ 0 + 24 ≤ 24) ∧ Y_X4_copyFrom_25_133 d Q 15 [(0, .ref 133), (1, .ref 25)] [] (pB s 136 (va_cpy (s.2 28) (s.2 136) 0 0 24)) from ⟨rm8_ rfl, by decide, ?_⟩))))))))
  refine Wp.r_aload_n o_X4_copyFrom rfl rfl (Wp.r_gfr o_X4_copyFrom rfl fk_C_25_1 (Wp.r_aload_n o_X4_copyFrom rfl rfl (Wp.r_gfr o_X4_copyFrom rfl fk_C_133_1 (Wp.r_cs2 o_X4_copyFrom rfl (⟨rm8_ rfl, ?_⟩)))))
  refine w_X11_copyRow_137_29 (d := d)  ?_
  refine oq_bd H (fun _ s2 H => ?_)
  show Y_X4_copyFrom_25_133 d Q 26 [(0, .ref 133), (1, .ref 25)] [] s2
  refine Wp.r_aload_n o_X4_copyFrom rfl rfl (Wp.r_gfr o_X4_copyFrom rfl fk_C_25_2 (Wp.r_aload_n o_X4_copyFrom rfl rfl (Wp.r_gfr o_X4_copyFrom rfl fk_C_133_2 (Wp.r_cs2 o_X4_copyFrom rfl (⟨rm8_ rfl, ?_⟩)))))
  refine w_X11_copyRow_138_30 (d := d)  ?_
  refine oq_bd H (fun _ s4 H => ?_)
  show Y_X4_copyFrom_25_133 d Q 37 [(0, .ref 133), (1, .ref 25)] [] s4
  refine Wp.r_aload_n o_X4_copyFrom rfl rfl (Wp.r_gfr o_X4_copyFrom rfl fk_C_25_3 (Wp.r_aload_n o_X4_copyFrom rfl rfl (Wp.r_gfr o_X4_copyFrom rfl fk_C_133_3 (Wp.r_cs2 o_X4_copyFrom rfl (⟨rm8_ rfl, ?_⟩)))))
  refine w_X11_copyRow_139_31 (d := d)  ?_
  refine oq_bd H (fun _ s6 H => ?_)
  show Y_X4_copyFrom_25_133 d Q 48 [(0, .ref 133), (1, .ref 25)] [] s6
  refine Wp.r_aload_n o_X4_copyFrom rfl rfl (Wp.r_gfr o_X4_copyFrom rfl fk_C_25_4 (Wp.r_aload_n o_X4_copyFrom rfl rfl (Wp.r_gfr o_X4_copyFrom rfl fk_C_133_4 (Wp.r_cs2 o_X4_copyFrom rfl (⟨rm8_ rfl, ?_⟩)))))
  refine w_X11_copyRow_140_32 (d := d)  ?_
  refine oq_bd H (fun _ s8 H => ?_)
  show Y_X4_copyFrom_25_133 d Q 59 [(0, .ref 133), (1, .ref 25)] [] s8
  refine Wp.r_aload_n o_X4_copyFrom rfl rfl (Wp.r_gfr o_X4_copyFrom rfl fk_C_25_5 (Wp.r_aload_n o_X4_copyFrom rfl rfl (Wp.r_gfr o_X4_copyFrom rfl fk_C_133_5 (Wp.r_cs2 o_X4_copyFrom rfl (⟨rm8_ rfl, ?_⟩)))))
  refine w_X11_copyRow_141_33 (d := d)  ?_
  refine oq_bd H (fun _ s10 H => ?_)
  show Y_X4_copyFrom_25_133 d Q 70 [(0, .ref 133), (1, .ref 25)] [] s10
  refine Wp.r_aload_n o_X4_copyFrom rfl rfl (Wp.r_gfr o_X4_copyFrom rfl fk_C_25_6 (Wp.r_aload_n o_X4_copyFrom rfl rfl (Wp.r_gfr o_X4_copyFrom rfl fk_C_133_6 (Wp.r_cs2 o_X4_copyFrom rfl (⟨rm8_ rfl, ?_⟩)))))
  refine w_X11_copyRow_142_34 (d := d)  ?_
  refine oq_bd H (fun _ s12 H => ?_)
  show Y_X4_copyFrom_25_133 d Q 81 [(0, .ref 133), (1, .ref 25)] [] s12
  refine Wp.r_aload_n o_X4_copyFrom rfl rfl (Wp.r_gfr o_X4_copyFrom rfl fk_C_25_7 (Wp.r_aload_n o_X4_copyFrom rfl rfl (Wp.r_gfr o_X4_copyFrom rfl fk_C_133_7 (Wp.r_cs2 o_X4_copyFrom rfl (⟨rm8_ rfl, ?_⟩)))))
  refine w_X11_copyRow_143_35 (d := d)  ?_
  refine oq_bd H (fun _ s14 H => ?_)
  show Y_X4_copyFrom_25_133 d Q 92 [(0, .ref 133), (1, .ref 25)] [] s14
  refine Wp.r_aload_n o_X4_copyFrom rfl rfl (Wp.r_gfr o_X4_copyFrom rfl fk_C_25_8 (Wp.r_aload_n o_X4_copyFrom rfl rfl (Wp.r_gfr o_X4_copyFrom rfl fk_C_133_8 (Wp.r_cs2 o_X4_copyFrom rfl (⟨rm8_ rfl, ?_⟩)))))
  refine w_X11_copyRow_144_36 (d := d)  ?_
  refine oq_bd H (fun _ s16 H => ?_)
  show Y_X4_copyFrom_25_133 d Q 103 [(0, .ref 133), (1, .ref 25)] [] s16
  refine Wp.r_aload_n o_X4_copyFrom rfl rfl (Wp.r_gfr o_X4_copyFrom rfl fk_C_25_9 (Wp.r_aload_n o_X4_copyFrom rfl rfl (Wp.r_gfr o_X4_copyFrom rfl fk_C_133_9 (Wp.r_cs2 o_X4_copyFrom rfl (⟨rm8_ rfl, ?_⟩)))))
  refine w_X11_copyRow_145_37 (d := d)  ?_
  refine oq_bd H (fun _ s18 H => ?_)
  show Y_X4_copyFrom_25_133 d Q 114 [(0, .ref 133), (1, .ref 25)] [] s18
  refine Wp.r_aload_n o_X4_copyFrom rfl rfl (Wp.r_gfr o_X4_copyFrom rfl fk_C_25_10 (Wp.r_aload_n o_X4_copyFrom rfl rfl (Wp.r_gfr o_X4_copyFrom rfl fk_C_133_10 (Wp.r_cs2 o_X4_copyFrom rfl (⟨rm8_ rfl, ?_⟩)))))
  refine w_X11_copyRow_146_38 (d := d)  ?_
  refine oq_bd H (fun _ s20 H => ?_)
  show Y_X4_copyFrom_25_133 d Q 125 [(0, .ref 133), (1, .ref 25)] [] s20
  refine Wp.r_aload_n o_X4_copyFrom rfl rfl (Wp.r_gfr o_X4_copyFrom rfl fk_C_25_11 (Wp.r_aload_n o_X4_copyFrom rfl rfl (Wp.r_gfr o_X4_copyFrom rfl fk_C_133_11 (Wp.r_cs2 o_X4_copyFrom rfl (⟨rm8_ rfl, ?_⟩)))))
  refine w_X11_copyRow_147_39 (d := d)  ?_
  refine oq_bd H (fun _ s22 H => ?_)
  show Y_X4_copyFrom_25_133 d Q 136 [(0, .ref 133), (1, .ref 25)] [] s22
  refine Wp.r_aload_n o_X4_copyFrom rfl rfl (Wp.r_aload_n o_X4_copyFrom rfl rfl (Wp.r_gfi o_X4_copyFrom rfl fk_C_25_12 (Wp.r_pfi o_X4_copyFrom rfl fk_C_133_12 (Wp.r_aload_n o_X4_copyFrom rfl rfl (Wp.r_aload_n o_X4_copyFrom rfl rfl (Wp.r_gfi o_X4_copyFrom rfl fk_C_25_13 (Wp.r_pfi o_X4_copyFrom rfl fk_C_133_13 (show Y_X4_copyFrom_25_133 d Q 152 [(0, .ref 133), (1, .ref 25)] [] (pI (pI s22 133 12 (s22.1 25 12)) 133 13 ((pI s22 133 12 (s22.1 25 12)).1 25 13)) from ?_))))))))
  revert H
  generalize pI (pI s22 133 12 (s22.1 25 12)) 133 13 ((pI s22 133 12 (s22.1 25 12)).1 25 13) = s23
  intro H
  have H := nmx_e H
  refine Wp.r_aload_n o_X4_copyFrom rfl rfl (Wp.r_aload_n o_X4_copyFrom rfl rfl (Wp.r_gfi o_X4_copyFrom rfl fk_C_25_14 (Wp.r_pfi o_X4_copyFrom rfl fk_C_133_14 (Wp.r_aload_n o_X4_copyFrom rfl rfl (Wp.r_aload_n o_X4_copyFrom rfl rfl (Wp.r_gfi o_X4_copyFrom rfl fk_C_25_15 (Wp.r_pfi o_X4_copyFrom rfl fk_C_133_15 (show Y_X4_copyFrom_25_133 d Q 168 [(0, .ref 133), (1, .ref 25)] [] (pI (pI s23 133 14 (s23.1 25 14)) 133 15 ((pI s23 133 14 (s23.1 25 14)).1 25 15)) from ?_))))))))
  revert H
  generalize pI (pI s23 133 14 (s23.1 25 14)) 133 15 ((pI s23 133 14 (s23.1 25 14)).1 25 15) = s24
  intro H
  have H := nmx_e H
  refine Wp.r_aload_n o_X4_copyFrom rfl rfl (Wp.r_aload_n o_X4_copyFrom rfl rfl (Wp.r_gfi o_X4_copyFrom rfl fk_C_25_16 (Wp.r_pfi o_X4_copyFrom rfl fk_C_133_16 (Wp.r_aload_n o_X4_copyFrom rfl rfl (Wp.r_aload_n o_X4_copyFrom rfl rfl (Wp.r_gfi o_X4_copyFrom rfl fk_C_25_17 (Wp.r_pfi o_X4_copyFrom rfl fk_C_133_17 (show Y_X4_copyFrom_25_133 d Q 184 [(0, .ref 133), (1, .ref 25)] [] (pI (pI s24 133 16 (s24.1 25 16)) 133 17 ((pI s24 133 16 (s24.1 25 16)).1 25 17)) from ?_))))))))
  revert H
  generalize pI (pI s24 133 16 (s24.1 25 16)) 133 17 ((pI s24 133 16 (s24.1 25 16)).1 25 17) = s25
  intro H
  have H := nmx_e H
  obtain ⟨hc26, H⟩ := oq_ck H
  refine Wp.r_aload_n o_X4_copyFrom rfl rfl (Wp.r_aload_n o_X4_copyFrom rfl rfl (Wp.r_gfi o_X4_copyFrom rfl fk_C_25_18 (Wp.r_pfi o_X4_copyFrom rfl fk_C_133_18 (Wp.r_aload_n o_X4_copyFrom rfl rfl (Wp.r_aload_n o_X4_copyFrom rfl rfl (Wp.r_gfi o_X4_copyFrom rfl fk_C_25_19 (Wp.r_pfz o_X4_copyFrom rfl fk_C_133_19 (⟨hc26, ?_⟩))))))))
  exact Wp.r_return o_X4_copyFrom rfl (H)
noncomputable abbrev Y_X11_copyRow_148_40 (d : Nat) (Q : Qt) : Xt := Wp SHC (WpM SHC MT (d + 0)) (flat2 cq_X11_copyRow) (none) Q
noncomputable def f_X11_copyRow_148_40  (s : Sg) : Option (Unit × Sg) :=
  ck (¬ (0 : Int32) < 0 ∧ ¬ (0 : Int32) < 0 ∧ ¬ (if 8 < (8 : Int32) then 8 else (8 : Int32)) < 0 ∧ 0 + (if 8 < (8 : Int32) then 8 else (8 : Int32)).toNatClampNeg ≤ 8 ∧ 0 + (if 8 < (8 : Int32) then 8 else (8 : Int32)).toNatClampNeg ≤ 8) (
  some ((), pA s 148 (va_cpy (s.1 40) (s.1 148) 0 0 (if 8 < (8 : Int32) then 8 else (8 : Int32)).toNatClampNeg))
  )
set_option maxRecDepth 100000 in
theorem w_X11_copyRow_148_40 {d : Nat} {s : Sg} {Q : Qt}  (H : OQ (f_X11_copyRow_148_40  s) (fun _ s9 => Q none s9)) : WpM SHC MT (d + 1) 184 [.ref 40, .ref 148] s Q := by
  refine WpM.enter me_X11_copyRow rfl rfl ?_
  show Y_X11_copyRow_148_40 d Q 0 [(0, .ref 40), (1, .ref 148)] [] s
  unfold f_X11_copyRow_148_40 at H
  refine Wp.r_aload_n o_X11_copyRow rfl rfl (Wp.r_iconst o_X11_copyRow rfl (Wp.r_aload_n o_X11_copyRow rfl rfl (Wp.r_iconst o_X11_copyRow rfl (Wp.r_aload_n o_X11_copyRow rfl rfl (Wp.r_alen o_X11_copyRow rfl lk_C_40 (Wp.r_aload_n o_X11_copyRow rfl rfl (Wp.r_alen o_X11_copyRow rfl lk_C_148 (Wp.r_min o_X11_copyRow rfl (⟨rm8_ rfl, ?_⟩)))))))))
  obtain ⟨c9, H⟩ := oq_ck H
  refine Wp.run 1 (show room8 [] ∧ (¬ (0 : Int32) < 0 ∧ ¬ (0 : Int32) < 0 ∧ ¬ (if 8 < (8 : Int32) then 8 else (8 : Int32)) < 0 ∧ 0 + (if 8 < (8 : Int32) then 8 else (8 : Int32)).toNatClampNeg ≤ 8 ∧ 0 + (if 8 < (8 : Int32) then 8 else (8 : Int32)).toNatClampNeg ≤ 8) ∧ Y_X11_copyRow_148_40 d Q 14 [(0, .ref 40), (1, .ref 148)] [] (pA s 148 (va_cpy (s.1 40) (s.1 148) 0 0 (if 8 < (8 : Int32) then 8 else (8 : Int32)).toNatClampNeg)) from ⟨rm8_ rfl, c9, ?_⟩)
  exact Wp.r_return o_X11_copyRow rfl (H)
noncomputable abbrev Y_X11_copyRow_149_41 (d : Nat) (Q : Qt) : Xt := Wp SHC (WpM SHC MT (d + 0)) (flat2 cq_X11_copyRow) (none) Q
noncomputable def f_X11_copyRow_149_41  (s : Sg) : Option (Unit × Sg) :=
  ck (¬ (0 : Int32) < 0 ∧ ¬ (0 : Int32) < 0 ∧ ¬ (if 8 < (8 : Int32) then 8 else (8 : Int32)) < 0 ∧ 0 + (if 8 < (8 : Int32) then 8 else (8 : Int32)).toNatClampNeg ≤ 8 ∧ 0 + (if 8 < (8 : Int32) then 8 else (8 : Int32)).toNatClampNeg ≤ 8) (
  some ((), pA s 149 (va_cpy (s.1 41) (s.1 149) 0 0 (if 8 < (8 : Int32) then 8 else (8 : Int32)).toNatClampNeg))
  )
set_option maxRecDepth 100000 in
theorem w_X11_copyRow_149_41 {d : Nat} {s : Sg} {Q : Qt}  (H : OQ (f_X11_copyRow_149_41  s) (fun _ s9 => Q none s9)) : WpM SHC MT (d + 1) 184 [.ref 41, .ref 149] s Q := by
  refine WpM.enter me_X11_copyRow rfl rfl ?_
  show Y_X11_copyRow_149_41 d Q 0 [(0, .ref 41), (1, .ref 149)] [] s
  unfold f_X11_copyRow_149_41 at H
  refine Wp.r_aload_n o_X11_copyRow rfl rfl (Wp.r_iconst o_X11_copyRow rfl (Wp.r_aload_n o_X11_copyRow rfl rfl (Wp.r_iconst o_X11_copyRow rfl (Wp.r_aload_n o_X11_copyRow rfl rfl (Wp.r_alen o_X11_copyRow rfl lk_C_41 (Wp.r_aload_n o_X11_copyRow rfl rfl (Wp.r_alen o_X11_copyRow rfl lk_C_149 (Wp.r_min o_X11_copyRow rfl (⟨rm8_ rfl, ?_⟩)))))))))
  obtain ⟨c9, H⟩ := oq_ck H
  refine Wp.run 1 (show room8 [] ∧ (¬ (0 : Int32) < 0 ∧ ¬ (0 : Int32) < 0 ∧ ¬ (if 8 < (8 : Int32) then 8 else (8 : Int32)) < 0 ∧ 0 + (if 8 < (8 : Int32) then 8 else (8 : Int32)).toNatClampNeg ≤ 8 ∧ 0 + (if 8 < (8 : Int32) then 8 else (8 : Int32)).toNatClampNeg ≤ 8) ∧ Y_X11_copyRow_149_41 d Q 14 [(0, .ref 41), (1, .ref 149)] [] (pA s 149 (va_cpy (s.1 41) (s.1 149) 0 0 (if 8 < (8 : Int32) then 8 else (8 : Int32)).toNatClampNeg)) from ⟨rm8_ rfl, c9, ?_⟩)
  exact Wp.r_return o_X11_copyRow rfl (H)
noncomputable abbrev Y_X11_copyRow_150_42 (d : Nat) (Q : Qt) : Xt := Wp SHC (WpM SHC MT (d + 0)) (flat2 cq_X11_copyRow) (none) Q
noncomputable def f_X11_copyRow_150_42  (s : Sg) : Option (Unit × Sg) :=
  ck (¬ (0 : Int32) < 0 ∧ ¬ (0 : Int32) < 0 ∧ ¬ (if 8 < (8 : Int32) then 8 else (8 : Int32)) < 0 ∧ 0 + (if 8 < (8 : Int32) then 8 else (8 : Int32)).toNatClampNeg ≤ 8 ∧ 0 + (if 8 < (8 : Int32) then 8 else (8 : Int32)).toNatClampNeg ≤ 8) (
  some ((), pA s 150 (va_cpy (s.1 42) (s.1 150) 0 0 (if 8 < (8 : Int32) then 8 else (8 : Int32)).toNatClampNeg))
  )
set_option maxRecDepth 100000 in
theorem w_X11_copyRow_150_42 {d : Nat} {s : Sg} {Q : Qt}  (H : OQ (f_X11_copyRow_150_42  s) (fun _ s9 => Q none s9)) : WpM SHC MT (d + 1) 184 [.ref 42, .ref 150] s Q := by
  refine WpM.enter me_X11_copyRow rfl rfl ?_
  show Y_X11_copyRow_150_42 d Q 0 [(0, .ref 42), (1, .ref 150)] [] s
  unfold f_X11_copyRow_150_42 at H
  refine Wp.r_aload_n o_X11_copyRow rfl rfl (Wp.r_iconst o_X11_copyRow rfl (Wp.r_aload_n o_X11_copyRow rfl rfl (Wp.r_iconst o_X11_copyRow rfl (Wp.r_aload_n o_X11_copyRow rfl rfl (Wp.r_alen o_X11_copyRow rfl lk_C_42 (Wp.r_aload_n o_X11_copyRow rfl rfl (Wp.r_alen o_X11_copyRow rfl lk_C_150 (Wp.r_min o_X11_copyRow rfl (⟨rm8_ rfl, ?_⟩)))))))))
  obtain ⟨c9, H⟩ := oq_ck H
  refine Wp.run 1 (show room8 [] ∧ (¬ (0 : Int32) < 0 ∧ ¬ (0 : Int32) < 0 ∧ ¬ (if 8 < (8 : Int32) then 8 else (8 : Int32)) < 0 ∧ 0 + (if 8 < (8 : Int32) then 8 else (8 : Int32)).toNatClampNeg ≤ 8 ∧ 0 + (if 8 < (8 : Int32) then 8 else (8 : Int32)).toNatClampNeg ≤ 8) ∧ Y_X11_copyRow_150_42 d Q 14 [(0, .ref 42), (1, .ref 150)] [] (pA s 150 (va_cpy (s.1 42) (s.1 150) 0 0 (if 8 < (8 : Int32) then 8 else (8 : Int32)).toNatClampNeg)) from ⟨rm8_ rfl, c9, ?_⟩)
  exact Wp.r_return o_X11_copyRow rfl (H)
noncomputable abbrev Y_X11_copyRow_151_43 (d : Nat) (Q : Qt) : Xt := Wp SHC (WpM SHC MT (d + 0)) (flat2 cq_X11_copyRow) (none) Q
noncomputable def f_X11_copyRow_151_43  (s : Sg) : Option (Unit × Sg) :=
  ck (¬ (0 : Int32) < 0 ∧ ¬ (0 : Int32) < 0 ∧ ¬ (if 8 < (8 : Int32) then 8 else (8 : Int32)) < 0 ∧ 0 + (if 8 < (8 : Int32) then 8 else (8 : Int32)).toNatClampNeg ≤ 8 ∧ 0 + (if 8 < (8 : Int32) then 8 else (8 : Int32)).toNatClampNeg ≤ 8) (
  some ((), pA s 151 (va_cpy (s.1 43) (s.1 151) 0 0 (if 8 < (8 : Int32) then 8 else (8 : Int32)).toNatClampNeg))
  )
set_option maxRecDepth 100000 in
theorem w_X11_copyRow_151_43 {d : Nat} {s : Sg} {Q : Qt}  (H : OQ (f_X11_copyRow_151_43  s) (fun _ s9 => Q none s9)) : WpM SHC MT (d + 1) 184 [.ref 43, .ref 151] s Q := by
  refine WpM.enter me_X11_copyRow rfl rfl ?_
  show Y_X11_copyRow_151_43 d Q 0 [(0, .ref 43), (1, .ref 151)] [] s
  unfold f_X11_copyRow_151_43 at H
  refine Wp.r_aload_n o_X11_copyRow rfl rfl (Wp.r_iconst o_X11_copyRow rfl (Wp.r_aload_n o_X11_copyRow rfl rfl (Wp.r_iconst o_X11_copyRow rfl (Wp.r_aload_n o_X11_copyRow rfl rfl (Wp.r_alen o_X11_copyRow rfl lk_C_43 (Wp.r_aload_n o_X11_copyRow rfl rfl (Wp.r_alen o_X11_copyRow rfl lk_C_151 (Wp.r_min o_X11_copyRow rfl (⟨rm8_ rfl, ?_⟩)))))))))
  obtain ⟨c9, H⟩ := oq_ck H
  refine Wp.run 1 (show room8 [] ∧ (¬ (0 : Int32) < 0 ∧ ¬ (0 : Int32) < 0 ∧ ¬ (if 8 < (8 : Int32) then 8 else (8 : Int32)) < 0 ∧ 0 + (if 8 < (8 : Int32) then 8 else (8 : Int32)).toNatClampNeg ≤ 8 ∧ 0 + (if 8 < (8 : Int32) then 8 else (8 : Int32)).toNatClampNeg ≤ 8) ∧ Y_X11_copyRow_151_43 d Q 14 [(0, .ref 43), (1, .ref 151)] [] (pA s 151 (va_cpy (s.1 43) (s.1 151) 0 0 (if 8 < (8 : Int32) then 8 else (8 : Int32)).toNatClampNeg)) from ⟨rm8_ rfl, c9, ?_⟩)
  exact Wp.r_return o_X11_copyRow rfl (H)
noncomputable abbrev Y_X11_copyRow_152_44 (d : Nat) (Q : Qt) : Xt := Wp SHC (WpM SHC MT (d + 0)) (flat2 cq_X11_copyRow) (none) Q
noncomputable def f_X11_copyRow_152_44  (s : Sg) : Option (Unit × Sg) :=
  ck (¬ (0 : Int32) < 0 ∧ ¬ (0 : Int32) < 0 ∧ ¬ (if 4 < (4 : Int32) then 4 else (4 : Int32)) < 0 ∧ 0 + (if 4 < (4 : Int32) then 4 else (4 : Int32)).toNatClampNeg ≤ 4 ∧ 0 + (if 4 < (4 : Int32) then 4 else (4 : Int32)).toNatClampNeg ≤ 4) (
  some ((), pA s 152 (va_cpy (s.1 44) (s.1 152) 0 0 (if 4 < (4 : Int32) then 4 else (4 : Int32)).toNatClampNeg))
  )
set_option maxRecDepth 100000 in
theorem w_X11_copyRow_152_44 {d : Nat} {s : Sg} {Q : Qt}  (H : OQ (f_X11_copyRow_152_44  s) (fun _ s9 => Q none s9)) : WpM SHC MT (d + 1) 184 [.ref 44, .ref 152] s Q := by
  refine WpM.enter me_X11_copyRow rfl rfl ?_
  show Y_X11_copyRow_152_44 d Q 0 [(0, .ref 44), (1, .ref 152)] [] s
  unfold f_X11_copyRow_152_44 at H
  refine Wp.r_aload_n o_X11_copyRow rfl rfl (Wp.r_iconst o_X11_copyRow rfl (Wp.r_aload_n o_X11_copyRow rfl rfl (Wp.r_iconst o_X11_copyRow rfl (Wp.r_aload_n o_X11_copyRow rfl rfl (Wp.r_alen o_X11_copyRow rfl lk_C_44 (Wp.r_aload_n o_X11_copyRow rfl rfl (Wp.r_alen o_X11_copyRow rfl lk_C_152 (Wp.r_min o_X11_copyRow rfl (⟨rm8_ rfl, ?_⟩)))))))))
  obtain ⟨c9, H⟩ := oq_ck H
  refine Wp.run 1 (show room8 [] ∧ (¬ (0 : Int32) < 0 ∧ ¬ (0 : Int32) < 0 ∧ ¬ (if 4 < (4 : Int32) then 4 else (4 : Int32)) < 0 ∧ 0 + (if 4 < (4 : Int32) then 4 else (4 : Int32)).toNatClampNeg ≤ 4 ∧ 0 + (if 4 < (4 : Int32) then 4 else (4 : Int32)).toNatClampNeg ≤ 4) ∧ Y_X11_copyRow_152_44 d Q 14 [(0, .ref 44), (1, .ref 152)] [] (pA s 152 (va_cpy (s.1 44) (s.1 152) 0 0 (if 4 < (4 : Int32) then 4 else (4 : Int32)).toNatClampNeg)) from ⟨rm8_ rfl, c9, ?_⟩)
  exact Wp.r_return o_X11_copyRow rfl (H)
noncomputable abbrev Y_X2_copyFrom_26_134 (d : Nat) (Q : Qt) : Xt := Wp SHC (WpM SHC MT (d + 1)) (flat2 cq_X2_copyFrom) (none) Q
noncomputable def f_X2_copyFrom_26_134  (s : Sg) : Option (Unit × Sg) :=
  bd (f_X11_copyRow_148_40 s) (fun _ s2 =>
  bd (f_X11_copyRow_149_41 s2) (fun _ s4 =>
  bd (f_X11_copyRow_150_42 s4) (fun _ s6 =>
  bd (f_X11_copyRow_151_43 s6) (fun _ s8 =>
  bd (f_X11_copyRow_152_44 s8) (fun _ s10 =>
  nmx (pI (pI s10 134 5 (s10.1 26 5)) 134 6 ((pI s10 134 5 (s10.1 26 5)).1 26 6)) (fun s11 =>
  ck ((s11.1 26 7) = 0 ∨ (s11.1 26 7) = 1) (
  nmx (pI (pI s11 134 7 (s11.1 26 7)) 134 8 ((pI s11 134 7 (s11.1 26 7)).1 26 8)) (fun s13 =>
  nmx (pI (pI s13 134 9 (s13.1 26 9)) 134 10 ((pI s13 134 9 (s13.1 26 9)).1 26 10)) (fun s14 =>
  nmx (pI (pI s14 134 11 (s14.1 26 11)) 134 12 ((pI s14 134 11 (s14.1 26 11)).1 26 12)) (fun s15 =>
  some ((), s15)
  )
  )
  )
  )
  )
  )
  )
  )
  )
  )
set_option maxRecDepth 100000 in
theorem w_X2_copyFrom_26_134 {d : Nat} {s : Sg} {Q : Qt}  (H : OQ (f_X2_copyFrom_26_134  s) (fun _ s9 => Q none s9)) : WpM SHC MT (d + 2) 21 [.ref 134, .ref 26] s Q := by
  refine WpM.enter me_X2_copyFrom rfl rfl ?_
  show Y_X2_copyFrom_26_134 d Q 0 [(0, .ref 134), (1, .ref 26)] [] s
  unfold f_X2_copyFrom_26_134 at H
  refine Wp.r_aload_n o_X2_copyFrom rfl rfl (Wp.r_gfr o_X2_copyFrom rfl fk_C_26_0 (Wp.r_aload_n o_X2_copyFrom rfl rfl (Wp.r_gfr o_X2_copyFrom rfl fk_C_134_0 (Wp.r_cs2 o_X2_copyFrom rfl (⟨rm8_ rfl, ?_⟩)))))
  refine w_X11_copyRow_148_40 (d := d)  ?_
  refine oq_bd H (fun _ s2 H => ?_)
  show Y_X2_copyFrom_26_134 d Q 11 [(0, .ref 134), (1, .ref 26)] [] s2
  refine Wp.r_aload_n o_X2_copyFrom rfl rfl (Wp.r_gfr o_X2_copyFrom rfl fk_C_26_1 (Wp.r_aload_n o_X2_copyFrom rfl rfl (Wp.r_gfr o_X2_copyFrom rfl fk_C_134_1 (Wp.r_cs2 o_X2_copyFrom rfl (⟨rm8_ rfl, ?_⟩)))))
  refine w_X11_copyRow_149_41 (d := d)  ?_
  refine oq_bd H (fun _ s4 H => ?_)
  show Y_X2_copyFrom_26_134 d Q 22 [(0, .ref 134), (1, .ref 26)] [] s4
  refine Wp.r_aload_n o_X2_copyFrom rfl rfl (Wp.r_gfr o_X2_copyFrom rfl fk_C_26_2 (Wp.r_aload_n o_X2_copyFrom rfl rfl (Wp.r_gfr o_X2_copyFrom rfl fk_C_134_2 (Wp.r_cs2 o_X2_copyFrom rfl (⟨rm8_ rfl, ?_⟩)))))
  refine w_X11_copyRow_150_42 (d := d)  ?_
  refine oq_bd H (fun _ s6 H => ?_)
  show Y_X2_copyFrom_26_134 d Q 33 [(0, .ref 134), (1, .ref 26)] [] s6
  refine Wp.r_aload_n o_X2_copyFrom rfl rfl (Wp.r_gfr o_X2_copyFrom rfl fk_C_26_3 (Wp.r_aload_n o_X2_copyFrom rfl rfl (Wp.r_gfr o_X2_copyFrom rfl fk_C_134_3 (Wp.r_cs2 o_X2_copyFrom rfl (⟨rm8_ rfl, ?_⟩)))))
  refine w_X11_copyRow_151_43 (d := d)  ?_
  refine oq_bd H (fun _ s8 H => ?_)
  show Y_X2_copyFrom_26_134 d Q 44 [(0, .ref 134), (1, .ref 26)] [] s8
  refine Wp.r_aload_n o_X2_copyFrom rfl rfl (Wp.r_gfr o_X2_copyFrom rfl fk_C_26_4 (Wp.r_aload_n o_X2_copyFrom rfl rfl (Wp.r_gfr o_X2_copyFrom rfl fk_C_134_4 (Wp.r_cs2 o_X2_copyFrom rfl (⟨rm8_ rfl, ?_⟩)))))
  refine w_X11_copyRow_152_44 (d := d)  ?_
  refine oq_bd H (fun _ s10 H => ?_)
  show Y_X2_copyFrom_26_134 d Q 55 [(0, .ref 134), (1, .ref 26)] [] s10
  refine Wp.r_aload_n o_X2_copyFrom rfl rfl (Wp.r_aload_n o_X2_copyFrom rfl rfl (Wp.r_gfi o_X2_copyFrom rfl fk_C_26_5 (Wp.r_pfi o_X2_copyFrom rfl fk_C_134_5 (Wp.r_aload_n o_X2_copyFrom rfl rfl (Wp.r_aload_n o_X2_copyFrom rfl rfl (Wp.r_gfi o_X2_copyFrom rfl fk_C_26_6 (Wp.r_pfi o_X2_copyFrom rfl fk_C_134_6 (show Y_X2_copyFrom_26_134 d Q 71 [(0, .ref 134), (1, .ref 26)] [] (pI (pI s10 134 5 (s10.1 26 5)) 134 6 ((pI s10 134 5 (s10.1 26 5)).1 26 6)) from ?_))))))))
  revert H
  generalize pI (pI s10 134 5 (s10.1 26 5)) 134 6 ((pI s10 134 5 (s10.1 26 5)).1 26 6) = s11
  intro H
  have H := nmx_e H
  obtain ⟨hc12, H⟩ := oq_ck H
  refine Wp.r_aload_n o_X2_copyFrom rfl rfl (Wp.r_aload_n o_X2_copyFrom rfl rfl (Wp.r_gfi o_X2_copyFrom rfl fk_C_26_7 (Wp.r_pfz o_X2_copyFrom rfl fk_C_134_7 (⟨hc12, ?_⟩))))
  refine Wp.r_aload_n o_X2_copyFrom rfl rfl (Wp.r_aload_n o_X2_copyFrom rfl rfl (Wp.r_gfi o_X2_copyFrom rfl fk_C_26_8 (Wp.r_pfi o_X2_copyFrom rfl fk_C_134_8 (show Y_X2_copyFrom_26_134 d Q 87 [(0, .ref 134), (1, .ref 26)] [] (pI (pI s11 134 7 (s11.1 26 7)) 134 8 ((pI s11 134 7 (s11.1 26 7)).1 26 8)) from ?_))))
  revert H
  generalize pI (pI s11 134 7 (s11.1 26 7)) 134 8 ((pI s11 134 7 (s11.1 26 7)).1 26 8) = s13
  intro H
  have H := nmx_e H
  refine Wp.r_aload_n o_X2_copyFrom rfl rfl (Wp.r_aload_n o_X2_copyFrom rfl rfl (Wp.r_gfi o_X2_copyFrom rfl fk_C_26_9 (Wp.r_pfi o_X2_copyFrom rfl fk_C_134_9 (Wp.r_aload_n o_X2_copyFrom rfl rfl (Wp.r_aload_n o_X2_copyFrom rfl rfl (Wp.r_gfi o_X2_copyFrom rfl fk_C_26_10 (Wp.r_pfi o_X2_copyFrom rfl fk_C_134_10 (show Y_X2_copyFrom_26_134 d Q 103 [(0, .ref 134), (1, .ref 26)] [] (pI (pI s13 134 9 (s13.1 26 9)) 134 10 ((pI s13 134 9 (s13.1 26 9)).1 26 10)) from ?_))))))))
  revert H
  generalize pI (pI s13 134 9 (s13.1 26 9)) 134 10 ((pI s13 134 9 (s13.1 26 9)).1 26 10) = s14
  intro H
  have H := nmx_e H
  refine Wp.r_aload_n o_X2_copyFrom rfl rfl (Wp.r_aload_n o_X2_copyFrom rfl rfl (Wp.r_gfi o_X2_copyFrom rfl fk_C_26_11 (Wp.r_pfi o_X2_copyFrom rfl fk_C_134_11 (Wp.r_aload_n o_X2_copyFrom rfl rfl (Wp.r_aload_n o_X2_copyFrom rfl rfl (Wp.r_gfi o_X2_copyFrom rfl fk_C_26_12 (Wp.r_pfi o_X2_copyFrom rfl fk_C_134_12 (show Y_X2_copyFrom_26_134 d Q 119 [(0, .ref 134), (1, .ref 26)] [] (pI (pI s14 134 11 (s14.1 26 11)) 134 12 ((pI s14 134 11 (s14.1 26 11)).1 26 12)) from ?_))))))))
  revert H
  generalize pI (pI s14 134 11 (s14.1 26 11)) 134 12 ((pI s14 134 11 (s14.1 26 11)).1 26 12) = s15
  intro H
  have H := nmx_e H
  exact Wp.r_return o_X2_copyFrom rfl (H)
noncomputable abbrev Y_X11_copyRow_153_45 (d : Nat) (Q : Qt) : Xt := Wp SHC (WpM SHC MT (d + 0)) (flat2 cq_X11_copyRow) (none) Q
noncomputable def f_X11_copyRow_153_45  (s : Sg) : Option (Unit × Sg) :=
  ck (¬ (0 : Int32) < 0 ∧ ¬ (0 : Int32) < 0 ∧ ¬ (if 60 < (60 : Int32) then 60 else (60 : Int32)) < 0 ∧ 0 + (if 60 < (60 : Int32) then 60 else (60 : Int32)).toNatClampNeg ≤ 60 ∧ 0 + (if 60 < (60 : Int32) then 60 else (60 : Int32)).toNatClampNeg ≤ 60) (
  some ((), pA s 153 (va_cpy (s.1 45) (s.1 153) 0 0 (if 60 < (60 : Int32) then 60 else (60 : Int32)).toNatClampNeg))
  )
set_option maxRecDepth 100000 in
theorem w_X11_copyRow_153_45 {d : Nat} {s : Sg} {Q : Qt}  (H : OQ (f_X11_copyRow_153_45  s) (fun _ s9 => Q none s9)) : WpM SHC MT (d + 1) 184 [.ref 45, .ref 153] s Q := by
  refine WpM.enter me_X11_copyRow rfl rfl ?_
  show Y_X11_copyRow_153_45 d Q 0 [(0, .ref 45), (1, .ref 153)] [] s
  unfold f_X11_copyRow_153_45 at H
  refine Wp.r_aload_n o_X11_copyRow rfl rfl (Wp.r_iconst o_X11_copyRow rfl (Wp.r_aload_n o_X11_copyRow rfl rfl (Wp.r_iconst o_X11_copyRow rfl (Wp.r_aload_n o_X11_copyRow rfl rfl (Wp.r_alen o_X11_copyRow rfl lk_C_45 (Wp.r_aload_n o_X11_copyRow rfl rfl (Wp.r_alen o_X11_copyRow rfl lk_C_153 (Wp.r_min o_X11_copyRow rfl (⟨rm8_ rfl, ?_⟩)))))))))
  obtain ⟨c9, H⟩ := oq_ck H
  refine Wp.run 1 (show room8 [] ∧ (¬ (0 : Int32) < 0 ∧ ¬ (0 : Int32) < 0 ∧ ¬ (if 60 < (60 : Int32) then 60 else (60 : Int32)) < 0 ∧ 0 + (if 60 < (60 : Int32) then 60 else (60 : Int32)).toNatClampNeg ≤ 60 ∧ 0 + (if 60 < (60 : Int32) then 60 else (60 : Int32)).toNatClampNeg ≤ 60) ∧ Y_X11_copyRow_153_45 d Q 14 [(0, .ref 45), (1, .ref 153)] [] (pA s 153 (va_cpy (s.1 45) (s.1 153) 0 0 (if 60 < (60 : Int32) then 60 else (60 : Int32)).toNatClampNeg)) from ⟨rm8_ rfl, c9, ?_⟩)
  exact Wp.r_return o_X11_copyRow rfl (H)
noncomputable abbrev Y_X11_copyRow_154_46 (d : Nat) (Q : Qt) : Xt := Wp SHC (WpM SHC MT (d + 0)) (flat2 cq_X11_copyRow) (none) Q
noncomputable def f_X11_copyRow_154_46  (s : Sg) : Option (Unit × Sg) :=
  ck (¬ (0 : Int32) < 0 ∧ ¬ (0 : Int32) < 0 ∧ ¬ (if 60 < (60 : Int32) then 60 else (60 : Int32)) < 0 ∧ 0 + (if 60 < (60 : Int32) then 60 else (60 : Int32)).toNatClampNeg ≤ 60 ∧ 0 + (if 60 < (60 : Int32) then 60 else (60 : Int32)).toNatClampNeg ≤ 60) (
  some ((), pA s 154 (va_cpy (s.1 46) (s.1 154) 0 0 (if 60 < (60 : Int32) then 60 else (60 : Int32)).toNatClampNeg))
  )
set_option maxRecDepth 100000 in
theorem w_X11_copyRow_154_46 {d : Nat} {s : Sg} {Q : Qt}  (H : OQ (f_X11_copyRow_154_46  s) (fun _ s9 => Q none s9)) : WpM SHC MT (d + 1) 184 [.ref 46, .ref 154] s Q := by
  refine WpM.enter me_X11_copyRow rfl rfl ?_
  show Y_X11_copyRow_154_46 d Q 0 [(0, .ref 46), (1, .ref 154)] [] s
  unfold f_X11_copyRow_154_46 at H
  refine Wp.r_aload_n o_X11_copyRow rfl rfl (Wp.r_iconst o_X11_copyRow rfl (Wp.r_aload_n o_X11_copyRow rfl rfl (Wp.r_iconst o_X11_copyRow rfl (Wp.r_aload_n o_X11_copyRow rfl rfl (Wp.r_alen o_X11_copyRow rfl lk_C_46 (Wp.r_aload_n o_X11_copyRow rfl rfl (Wp.r_alen o_X11_copyRow rfl lk_C_154 (Wp.r_min o_X11_copyRow rfl (⟨rm8_ rfl, ?_⟩)))))))))
  obtain ⟨c9, H⟩ := oq_ck H
  refine Wp.run 1 (show room8 [] ∧ (¬ (0 : Int32) < 0 ∧ ¬ (0 : Int32) < 0 ∧ ¬ (if 60 < (60 : Int32) then 60 else (60 : Int32)) < 0 ∧ 0 + (if 60 < (60 : Int32) then 60 else (60 : Int32)).toNatClampNeg ≤ 60 ∧ 0 + (if 60 < (60 : Int32) then 60 else (60 : Int32)).toNatClampNeg ≤ 60) ∧ Y_X11_copyRow_154_46 d Q 14 [(0, .ref 46), (1, .ref 154)] [] (pA s 154 (va_cpy (s.1 46) (s.1 154) 0 0 (if 60 < (60 : Int32) then 60 else (60 : Int32)).toNatClampNeg)) from ⟨rm8_ rfl, c9, ?_⟩)
  exact Wp.r_return o_X11_copyRow rfl (H)
noncomputable abbrev Y_X11_copyRow_155_47 (d : Nat) (Q : Qt) : Xt := Wp SHC (WpM SHC MT (d + 0)) (flat2 cq_X11_copyRow) (none) Q
noncomputable def f_X11_copyRow_155_47  (s : Sg) : Option (Unit × Sg) :=
  ck (¬ (0 : Int32) < 0 ∧ ¬ (0 : Int32) < 0 ∧ ¬ (if 60 < (60 : Int32) then 60 else (60 : Int32)) < 0 ∧ 0 + (if 60 < (60 : Int32) then 60 else (60 : Int32)).toNatClampNeg ≤ 60 ∧ 0 + (if 60 < (60 : Int32) then 60 else (60 : Int32)).toNatClampNeg ≤ 60) (
  some ((), pA s 155 (va_cpy (s.1 47) (s.1 155) 0 0 (if 60 < (60 : Int32) then 60 else (60 : Int32)).toNatClampNeg))
  )
set_option maxRecDepth 100000 in
theorem w_X11_copyRow_155_47 {d : Nat} {s : Sg} {Q : Qt}  (H : OQ (f_X11_copyRow_155_47  s) (fun _ s9 => Q none s9)) : WpM SHC MT (d + 1) 184 [.ref 47, .ref 155] s Q := by
  refine WpM.enter me_X11_copyRow rfl rfl ?_
  show Y_X11_copyRow_155_47 d Q 0 [(0, .ref 47), (1, .ref 155)] [] s
  unfold f_X11_copyRow_155_47 at H
  refine Wp.r_aload_n o_X11_copyRow rfl rfl (Wp.r_iconst o_X11_copyRow rfl (Wp.r_aload_n o_X11_copyRow rfl rfl (Wp.r_iconst o_X11_copyRow rfl (Wp.r_aload_n o_X11_copyRow rfl rfl (Wp.r_alen o_X11_copyRow rfl lk_C_47 (Wp.r_aload_n o_X11_copyRow rfl rfl (Wp.r_alen o_X11_copyRow rfl lk_C_155 (Wp.r_min o_X11_copyRow rfl (⟨rm8_ rfl, ?_⟩)))))))))
  obtain ⟨c9, H⟩ := oq_ck H
  refine Wp.run 1 (show room8 [] ∧ (¬ (0 : Int32) < 0 ∧ ¬ (0 : Int32) < 0 ∧ ¬ (if 60 < (60 : Int32) then 60 else (60 : Int32)) < 0 ∧ 0 + (if 60 < (60 : Int32) then 60 else (60 : Int32)).toNatClampNeg ≤ 60 ∧ 0 + (if 60 < (60 : Int32) then 60 else (60 : Int32)).toNatClampNeg ≤ 60) ∧ Y_X11_copyRow_155_47 d Q 14 [(0, .ref 47), (1, .ref 155)] [] (pA s 155 (va_cpy (s.1 47) (s.1 155) 0 0 (if 60 < (60 : Int32) then 60 else (60 : Int32)).toNatClampNeg)) from ⟨rm8_ rfl, c9, ?_⟩)
  exact Wp.r_return o_X11_copyRow rfl (H)
noncomputable abbrev Y_X11_copyRow_156_48 (d : Nat) (Q : Qt) : Xt := Wp SHC (WpM SHC MT (d + 0)) (flat2 cq_X11_copyRow) (none) Q
noncomputable def f_X11_copyRow_156_48  (s : Sg) : Option (Unit × Sg) :=
  ck (¬ (0 : Int32) < 0 ∧ ¬ (0 : Int32) < 0 ∧ ¬ (if 60 < (60 : Int32) then 60 else (60 : Int32)) < 0 ∧ 0 + (if 60 < (60 : Int32) then 60 else (60 : Int32)).toNatClampNeg ≤ 60 ∧ 0 + (if 60 < (60 : Int32) then 60 else (60 : Int32)).toNatClampNeg ≤ 60) (
  some ((), pA s 156 (va_cpy (s.1 48) (s.1 156) 0 0 (if 60 < (60 : Int32) then 60 else (60 : Int32)).toNatClampNeg))
  )
set_option maxRecDepth 100000 in
theorem w_X11_copyRow_156_48 {d : Nat} {s : Sg} {Q : Qt}  (H : OQ (f_X11_copyRow_156_48  s) (fun _ s9 => Q none s9)) : WpM SHC MT (d + 1) 184 [.ref 48, .ref 156] s Q := by
  refine WpM.enter me_X11_copyRow rfl rfl ?_
  show Y_X11_copyRow_156_48 d Q 0 [(0, .ref 48), (1, .ref 156)] [] s
  unfold f_X11_copyRow_156_48 at H
  refine Wp.r_aload_n o_X11_copyRow rfl rfl (Wp.r_iconst o_X11_copyRow rfl (Wp.r_aload_n o_X11_copyRow rfl rfl (Wp.r_iconst o_X11_copyRow rfl (Wp.r_aload_n o_X11_copyRow rfl rfl (Wp.r_alen o_X11_copyRow rfl lk_C_48 (Wp.r_aload_n o_X11_copyRow rfl rfl (Wp.r_alen o_X11_copyRow rfl lk_C_156 (Wp.r_min o_X11_copyRow rfl (⟨rm8_ rfl, ?_⟩)))))))))
  obtain ⟨c9, H⟩ := oq_ck H
  refine Wp.run 1 (show room8 [] ∧ (¬ (0 : Int32) < 0 ∧ ¬ (0 : Int32) < 0 ∧ ¬ (if 60 < (60 : Int32) then 60 else (60 : Int32)) < 0 ∧ 0 + (if 60 < (60 : Int32) then 60 else (60 : Int32)).toNatClampNeg ≤ 60 ∧ 0 + (if 60 < (60 : Int32) then 60 else (60 : Int32)).toNatClampNeg ≤ 60) ∧ Y_X11_copyRow_156_48 d Q 14 [(0, .ref 48), (1, .ref 156)] [] (pA s 156 (va_cpy (s.1 48) (s.1 156) 0 0 (if 60 < (60 : Int32) then 60 else (60 : Int32)).toNatClampNeg)) from ⟨rm8_ rfl, c9, ?_⟩)
  exact Wp.r_return o_X11_copyRow rfl (H)
noncomputable abbrev Y_X11_copyRow_157_49 (d : Nat) (Q : Qt) : Xt := Wp SHC (WpM SHC MT (d + 0)) (flat2 cq_X11_copyRow) (none) Q
noncomputable def f_X11_copyRow_157_49  (s : Sg) : Option (Unit × Sg) :=
  ck (¬ (0 : Int32) < 0 ∧ ¬ (0 : Int32) < 0 ∧ ¬ (if 60 < (60 : Int32) then 60 else (60 : Int32)) < 0 ∧ 0 + (if 60 < (60 : Int32) then 60 else (60 : Int32)).toNatClampNeg ≤ 60 ∧ 0 + (if 60 < (60 : Int32) then 60 else (60 : Int32)).toNatClampNeg ≤ 60) (
  some ((), pA s 157 (va_cpy (s.1 49) (s.1 157) 0 0 (if 60 < (60 : Int32) then 60 else (60 : Int32)).toNatClampNeg))
  )
set_option maxRecDepth 100000 in
theorem w_X11_copyRow_157_49 {d : Nat} {s : Sg} {Q : Qt}  (H : OQ (f_X11_copyRow_157_49  s) (fun _ s9 => Q none s9)) : WpM SHC MT (d + 1) 184 [.ref 49, .ref 157] s Q := by
  refine WpM.enter me_X11_copyRow rfl rfl ?_
  show Y_X11_copyRow_157_49 d Q 0 [(0, .ref 49), (1, .ref 157)] [] s
  unfold f_X11_copyRow_157_49 at H
  refine Wp.r_aload_n o_X11_copyRow rfl rfl (Wp.r_iconst o_X11_copyRow rfl (Wp.r_aload_n o_X11_copyRow rfl rfl (Wp.r_iconst o_X11_copyRow rfl (Wp.r_aload_n o_X11_copyRow rfl rfl (Wp.r_alen o_X11_copyRow rfl lk_C_49 (Wp.r_aload_n o_X11_copyRow rfl rfl (Wp.r_alen o_X11_copyRow rfl lk_C_157 (Wp.r_min o_X11_copyRow rfl (⟨rm8_ rfl, ?_⟩)))))))))
  obtain ⟨c9, H⟩ := oq_ck H
  refine Wp.run 1 (show room8 [] ∧ (¬ (0 : Int32) < 0 ∧ ¬ (0 : Int32) < 0 ∧ ¬ (if 60 < (60 : Int32) then 60 else (60 : Int32)) < 0 ∧ 0 + (if 60 < (60 : Int32) then 60 else (60 : Int32)).toNatClampNeg ≤ 60 ∧ 0 + (if 60 < (60 : Int32) then 60 else (60 : Int32)).toNatClampNeg ≤ 60) ∧ Y_X11_copyRow_157_49 d Q 14 [(0, .ref 49), (1, .ref 157)] [] (pA s 157 (va_cpy (s.1 49) (s.1 157) 0 0 (if 60 < (60 : Int32) then 60 else (60 : Int32)).toNatClampNeg)) from ⟨rm8_ rfl, c9, ?_⟩)
  exact Wp.r_return o_X11_copyRow rfl (H)
noncomputable abbrev Y_X11_copyRow_158_50 (d : Nat) (Q : Qt) : Xt := Wp SHC (WpM SHC MT (d + 0)) (flat2 cq_X11_copyRow) (none) Q
noncomputable def f_X11_copyRow_158_50  (s : Sg) : Option (Unit × Sg) :=
  ck (¬ (0 : Int32) < 0 ∧ ¬ (0 : Int32) < 0 ∧ ¬ (if 60 < (60 : Int32) then 60 else (60 : Int32)) < 0 ∧ 0 + (if 60 < (60 : Int32) then 60 else (60 : Int32)).toNatClampNeg ≤ 60 ∧ 0 + (if 60 < (60 : Int32) then 60 else (60 : Int32)).toNatClampNeg ≤ 60) (
  some ((), pA s 158 (va_cpy (s.1 50) (s.1 158) 0 0 (if 60 < (60 : Int32) then 60 else (60 : Int32)).toNatClampNeg))
  )
set_option maxRecDepth 100000 in
theorem w_X11_copyRow_158_50 {d : Nat} {s : Sg} {Q : Qt}  (H : OQ (f_X11_copyRow_158_50  s) (fun _ s9 => Q none s9)) : WpM SHC MT (d + 1) 184 [.ref 50, .ref 158] s Q := by
  refine WpM.enter me_X11_copyRow rfl rfl ?_
  show Y_X11_copyRow_158_50 d Q 0 [(0, .ref 50), (1, .ref 158)] [] s
  unfold f_X11_copyRow_158_50 at H
  refine Wp.r_aload_n o_X11_copyRow rfl rfl (Wp.r_iconst o_X11_copyRow rfl (Wp.r_aload_n o_X11_copyRow rfl rfl (Wp.r_iconst o_X11_copyRow rfl (Wp.r_aload_n o_X11_copyRow rfl rfl (Wp.r_alen o_X11_copyRow rfl lk_C_50 (Wp.r_aload_n o_X11_copyRow rfl rfl (Wp.r_alen o_X11_copyRow rfl lk_C_158 (Wp.r_min o_X11_copyRow rfl (⟨rm8_ rfl, ?_⟩)))))))))
  obtain ⟨c9, H⟩ := oq_ck H
  refine Wp.run 1 (show room8 [] ∧ (¬ (0 : Int32) < 0 ∧ ¬ (0 : Int32) < 0 ∧ ¬ (if 60 < (60 : Int32) then 60 else (60 : Int32)) < 0 ∧ 0 + (if 60 < (60 : Int32) then 60 else (60 : Int32)).toNatClampNeg ≤ 60 ∧ 0 + (if 60 < (60 : Int32) then 60 else (60 : Int32)).toNatClampNeg ≤ 60) ∧ Y_X11_copyRow_158_50 d Q 14 [(0, .ref 50), (1, .ref 158)] [] (pA s 158 (va_cpy (s.1 50) (s.1 158) 0 0 (if 60 < (60 : Int32) then 60 else (60 : Int32)).toNatClampNeg)) from ⟨rm8_ rfl, c9, ?_⟩)
  exact Wp.r_return o_X11_copyRow rfl (H)
noncomputable abbrev Y_X5_copyFrom_27_135 (d : Nat) (Q : Qt) : Xt := Wp SHC (WpM SHC MT (d + 1)) (flat2 cq_X5_copyFrom) (none) Q
noncomputable def f_X5_copyFrom_27_135  (s : Sg) : Option (Unit × Sg) :=
  bd (f_X11_copyRow_153_45 s) (fun _ s2 =>
  bd (f_X11_copyRow_154_46 s2) (fun _ s4 =>
  bd (f_X11_copyRow_155_47 s4) (fun _ s6 =>
  bd (f_X11_copyRow_156_48 s6) (fun _ s8 =>
  bd (f_X11_copyRow_157_49 s8) (fun _ s10 =>
  bd (f_X11_copyRow_158_50 s10) (fun _ s12 =>
  ck ((s12.1 27 6) = 0 ∨ (s12.1 27 6) = 1) (
  nmx (pI (pI s12 135 6 (s12.1 27 6)) 135 7 ((pI s12 135 6 (s12.1 27 6)).1 27 7)) (fun s14 =>
  some ((), pI s14 135 8 (s14.1 27 8))
  )
  )
  )
  )
  )
  )
  )
  )
set_option maxRecDepth 100000 in
theorem w_X5_copyFrom_27_135 {d : Nat} {s : Sg} {Q : Qt}  (H : OQ (f_X5_copyFrom_27_135  s) (fun _ s9 => Q none s9)) : WpM SHC MT (d + 2) 62 [.ref 135, .ref 27] s Q := by
  refine WpM.enter me_X5_copyFrom rfl rfl ?_
  show Y_X5_copyFrom_27_135 d Q 0 [(0, .ref 135), (1, .ref 27)] [] s
  unfold f_X5_copyFrom_27_135 at H
  refine Wp.r_aload_n o_X5_copyFrom rfl rfl (Wp.r_gfr o_X5_copyFrom rfl fk_C_27_0 (Wp.r_aload_n o_X5_copyFrom rfl rfl (Wp.r_gfr o_X5_copyFrom rfl fk_C_135_0 (Wp.r_cs2 o_X5_copyFrom rfl (⟨rm8_ rfl, ?_⟩)))))
  refine w_X11_copyRow_153_45 (d := d)  ?_
  refine oq_bd H (fun _ s2 H => ?_)
  show Y_X5_copyFrom_27_135 d Q 11 [(0, .ref 135), (1, .ref 27)] [] s2
  refine Wp.r_aload_n o_X5_copyFrom rfl rfl (Wp.r_gfr o_X5_copyFrom rfl fk_C_27_1 (Wp.r_aload_n o_X5_copyFrom rfl rfl (Wp.r_gfr o_X5_copyFrom rfl fk_C_135_1 (Wp.r_cs2 o_X5_copyFrom rfl (⟨rm8_ rfl, ?_⟩)))))
  refine w_X11_copyRow_154_46 (d := d)  ?_
  refine oq_bd H (fun _ s4 H => ?_)
  show Y_X5_copyFrom_27_135 d Q 22 [(0, .ref 135), (1, .ref 27)] [] s4
  refine Wp.r_aload_n o_X5_copyFrom rfl rfl (Wp.r_gfr o_X5_copyFrom rfl fk_C_27_2 (Wp.r_aload_n o_X5_copyFrom rfl rfl (Wp.r_gfr o_X5_copyFrom rfl fk_C_135_2 (Wp.r_cs2 o_X5_copyFrom rfl (⟨rm8_ rfl, ?_⟩)))))
  refine w_X11_copyRow_155_47 (d := d)  ?_
  refine oq_bd H (fun _ s6 H => ?_)
  show Y_X5_copyFrom_27_135 d Q 33 [(0, .ref 135), (1, .ref 27)] [] s6
  refine Wp.r_aload_n o_X5_copyFrom rfl rfl (Wp.r_gfr o_X5_copyFrom rfl fk_C_27_3 (Wp.r_aload_n o_X5_copyFrom rfl rfl (Wp.r_gfr o_X5_copyFrom rfl fk_C_135_3 (Wp.r_cs2 o_X5_copyFrom rfl (⟨rm8_ rfl, ?_⟩)))))
  refine w_X11_copyRow_156_48 (d := d)  ?_
  refine oq_bd H (fun _ s8 H => ?_)
  show Y_X5_copyFrom_27_135 d Q 44 [(0, .ref 135), (1, .ref 27)] [] s8
  refine Wp.r_aload_n o_X5_copyFrom rfl rfl (Wp.r_gfr o_X5_copyFrom rfl fk_C_27_4 (Wp.r_aload_n o_X5_copyFrom rfl rfl (Wp.r_gfr o_X5_copyFrom rfl fk_C_135_4 (Wp.r_cs2 o_X5_copyFrom rfl (⟨rm8_ rfl, ?_⟩)))))
  refine w_X11_copyRow_157_49 (d := d)  ?_
  refine oq_bd H (fun _ s10 H => ?_)
  show Y_X5_copyFrom_27_135 d Q 55 [(0, .ref 135), (1, .ref 27)] [] s10
  refine Wp.r_aload_n o_X5_copyFrom rfl rfl (Wp.r_gfr o_X5_copyFrom rfl fk_C_27_5 (Wp.r_aload_n o_X5_copyFrom rfl rfl (Wp.r_gfr o_X5_copyFrom rfl fk_C_135_5 (Wp.r_cs2 o_X5_copyFrom rfl (⟨rm8_ rfl, ?_⟩)))))
  refine w_X11_copyRow_158_50 (d := d)  ?_
  refine oq_bd H (fun _ s12 H => ?_)
  show Y_X5_copyFrom_27_135 d Q 66 [(0, .ref 135), (1, .ref 27)] [] s12
  obtain ⟨hc13, H⟩ := oq_ck H
  refine Wp.r_aload_n o_X5_copyFrom rfl rfl (Wp.r_aload_n o_X5_copyFrom rfl rfl (Wp.r_gfi o_X5_copyFrom rfl fk_C_27_6 (Wp.r_pfz o_X5_copyFrom rfl fk_C_135_6 (⟨hc13, ?_⟩))))
  refine Wp.r_aload_n o_X5_copyFrom rfl rfl (Wp.r_aload_n o_X5_copyFrom rfl rfl (Wp.r_gfi o_X5_copyFrom rfl fk_C_27_7 (Wp.r_pfi o_X5_copyFrom rfl fk_C_135_7 (show Y_X5_copyFrom_27_135 d Q 82 [(0, .ref 135), (1, .ref 27)] [] (pI (pI s12 135 6 (s12.1 27 6)) 135 7 ((pI s12 135 6 (s12.1 27 6)).1 27 7)) from ?_))))
  revert H
  generalize pI (pI s12 135 6 (s12.1 27 6)) 135 7 ((pI s12 135 6 (s12.1 27 6)).1 27 7) = s14
  intro H
  have H := nmx_e H
  exact Wp.r_aload_n o_X5_copyFrom rfl rfl (Wp.r_aload_n o_X5_copyFrom rfl rfl (Wp.r_gfi o_X5_copyFrom rfl fk_C_27_8 (Wp.r_pfi o_X5_copyFrom rfl fk_C_135_8 (Wp.r_return o_X5_copyFrom rfl (H)))))
noncomputable abbrev Y_X10_copyFrom_24_132 (d : Nat) (Q : Qt) : Xt := Wp SHC (WpM SHC MT (d + 2)) (flat2 cq_X10_copyFrom) (none) Q
noncomputable def f_X10_copyFrom_24_132  (s : Sg) : Option (Unit × Sg) :=
  bd (f_X4_copyFrom_25_133 s) (fun _ s2 =>
  bd (f_X2_copyFrom_26_134 s2) (fun _ s4 =>
  bd (f_X5_copyFrom_27_135 s4) (fun _ s6 =>
  some ((), s6)
  )
  )
  )
set_option maxRecDepth 100000 in
theorem w_X10_copyFrom_24_132 {d : Nat} {s : Sg} {Q : Qt}  (H : OQ (f_X10_copyFrom_24_132  s) (fun _ s9 => Q none s9)) : WpM SHC MT (d + 3) 101 [.ref 132, .ref 24] s Q := by
  refine WpM.enter me_X10_copyFrom rfl rfl ?_
  show Y_X10_copyFrom_24_132 d Q 0 [(0, .ref 132), (1, .ref 24)] [] s
  unfold f_X10_copyFrom_24_132 at H
  refine Wp.r_aload_n o_X10_copyFrom rfl rfl (Wp.r_gfr o_X10_copyFrom rfl fk_C_132_0 (Wp.r_aload_n o_X10_copyFrom rfl rfl (Wp.r_gfr o_X10_copyFrom rfl fk_C_24_0 (Wp.r_cv2 o_X10_copyFrom rfl fk_C_133_0 (⟨rm8_ rfl, ?_⟩)))))
  refine w_X4_copyFrom_25_133 (d := d)  ?_
  refine oq_bd H (fun _ s2 H => ?_)
  show Y_X10_copyFrom_24_132 d Q 11 [(0, .ref 132), (1, .ref 24)] [] s2
  refine Wp.r_aload_n o_X10_copyFrom rfl rfl (Wp.r_gfr o_X10_copyFrom rfl fk_C_132_1 (Wp.r_aload_n o_X10_copyFrom rfl rfl (Wp.r_gfr o_X10_copyFrom rfl fk_C_24_1 (Wp.r_cv2 o_X10_copyFrom rfl fk_C_134_0 (⟨rm8_ rfl, ?_⟩)))))
  refine w_X2_copyFrom_26_134 (d := d)  ?_
  refine oq_bd H (fun _ s4 H => ?_)
  show Y_X10_copyFrom_24_132 d Q 22 [(0, .ref 132), (1, .ref 24)] [] s4
  refine Wp.r_aload_n o_X10_copyFrom rfl rfl (Wp.r_gfr o_X10_copyFrom rfl fk_C_132_2 (Wp.r_aload_n o_X10_copyFrom rfl rfl (Wp.r_gfr o_X10_copyFrom rfl fk_C_24_2 (Wp.r_cv2 o_X10_copyFrom rfl fk_C_135_0 (⟨rm8_ rfl, ?_⟩)))))
  refine w_X5_copyFrom_27_135 (d := d)  ?_
  refine oq_bd H (fun _ s6 H => ?_)
  show Y_X10_copyFrom_24_132 d Q 33 [(0, .ref 132), (1, .ref 24)] [] s6
  exact Wp.r_return o_X10_copyFrom rfl (H)
noncomputable abbrev Y_X11_mark (d : Nat) (Q : Qt) : Xt := Wp SHC (WpM SHC MT (d + 3)) (flat2 cq_X11_mark) (some .int) Q
noncomputable def f_X11_mark  (s : Sg) : Option (Int32 × Sg) :=
  if (s.1 0 14) < 3 then
    ck (inr (s.1 0 14) 3) (
    sel3 (s.1 0 14)
      (
        bd (f_X10_copyFrom_24_78 s) (fun _ s3 =>
        bd (f_X11_answer ((pI s3 0 14 ((s3.1 0 14) + 1)).1 0 14) (pI s3 0 14 ((s3.1 0 14) + 1))) (fun r4 s5 =>
        some (r4, s5)
        )
        )
      )
      (
        bd (f_X10_copyFrom_24_105 s) (fun _ s7 =>
        bd (f_X11_answer ((pI s7 0 14 ((s7.1 0 14) + 1)).1 0 14) (pI s7 0 14 ((s7.1 0 14) + 1))) (fun r8 s9 =>
        some (r8, s9)
        )
        )
      )
      (
        bd (f_X10_copyFrom_24_132 s) (fun _ s11 =>
        bd (f_X11_answer ((pI s11 0 14 ((s11.1 0 14) + 1)).1 0 14) (pI s11 0 14 ((s11.1 0 14) + 1))) (fun r12 s13 =>
        some (r12, s13)
        )
        )
      )
    )
  else
    bd (f_X11_refuse 4 s) (fun r14 s15 =>
    some (r14, s15)
    )
set_option maxRecDepth 100000 in
theorem w_X11_mark {d : Nat} {s : Sg} {Q : Qt}  (H : OQ (f_X11_mark  s) (fun r9 s9 => Q (some (.int r9)) s9)) : WpM SHC MT (d + 4) 162 [.ref 0] s Q := by
  refine WpM.enter me_X11_mark rfl rfl ?_
  show Y_X11_mark d Q 0 [(0, .ref 0)] [] s
  unfold f_X11_mark at H
  refine Wp.r_aload_n o_X11_mark rfl rfl (Wp.r_gfi o_X11_mark rfl fk_C_0_14 (Wp.r_iconst o_X11_mark rfl (Wp.r_icmp_lt o_X11_mark rfl (fun c9 => ?_) (fun c9 => ?_))))
  · have H := oq_t c9 H
    obtain ⟨c9, H⟩ := oq_ck H
    refine Wp.r_aload_n o_X11_mark rfl rfl (Wp.r_gfr o_X11_mark rfl fk_C_0_4 (Wp.r_aload_n o_X11_mark rfl rfl (Wp.r_gfi o_X11_mark rfl fk_C_0_14 (Wp.run 1 (show vp_in (s.1 0 14) 3 ∧ ((s.1 0 14) = nI 0 → Y_X11_mark d Q 23 [(0, .ref 0)] [.ref 78] s) ∧ ((s.1 0 14) = nI 1 → Y_X11_mark d Q 23 [(0, .ref 0)] [.ref 105] s) ∧ ((s.1 0 14) = nI 2 → Y_X11_mark d Q 23 [(0, .ref 0)] [.ref 132] s) ∧ True from ⟨c9, fun e9 => ?_, fun e9 => ?_, fun e9 => ?_, trivial⟩)))))
    · have ek1 := e9
      have H := oq_sel3_0 (i := (s.1 0 14)) e9 H
      refine Wp.r_aload_n o_X11_mark rfl rfl (Wp.r_gfr o_X11_mark rfl fk_C_0_2 (Wp.r_cv2 o_X11_mark rfl fk_C_78_0 (⟨rm8_ rfl, ?_⟩)))
      refine w_X10_copyFrom_24_78 (d := d)  ?_
      refine oq_bd H (fun _ s3 H => ?_)
      show Y_X11_mark d Q 30 [(0, .ref 0)] [] s3
      refine Wp.r_aload_n o_X11_mark rfl rfl (Wp.r_dup_r o_X11_mark rfl (Wp.r_gfi o_X11_mark rfl fk_C_0_14 (Wp.r_iconst o_X11_mark rfl (Wp.r_iadd o_X11_mark rfl (Wp.r_pfi o_X11_mark rfl fk_C_0_14 (Wp.r_aload_n o_X11_mark rfl rfl (Wp.r_aload_n o_X11_mark rfl rfl (Wp.r_gfi o_X11_mark rfl fk_C_0_14 (Wp.r_cv2 o_X11_mark rfl fk_C_0_0 (⟨rm8_ rfl, ?_⟩))))))))))
      refine w_X11_answer (d := d + 2) _ ?_
      refine oq_bd H (fun r4 s5 H => ?_)
      show Y_X11_mark d Q 48 [(0, .ref 0)] [.int r4] s5
      exact Wp.r_ireturn o_X11_mark rfl (⟨rfl, H⟩)
    · have ek1 := e9
      have H := oq_sel3_1 (i := (s.1 0 14)) e9 H
      refine Wp.r_aload_n o_X11_mark rfl rfl (Wp.r_gfr o_X11_mark rfl fk_C_0_2 (Wp.r_cv2 o_X11_mark rfl fk_C_105_0 (⟨rm8_ rfl, ?_⟩)))
      refine w_X10_copyFrom_24_105 (d := d)  ?_
      refine oq_bd H (fun _ s7 H => ?_)
      show Y_X11_mark d Q 30 [(0, .ref 0)] [] s7
      refine Wp.r_aload_n o_X11_mark rfl rfl (Wp.r_dup_r o_X11_mark rfl (Wp.r_gfi o_X11_mark rfl fk_C_0_14 (Wp.r_iconst o_X11_mark rfl (Wp.r_iadd o_X11_mark rfl (Wp.r_pfi o_X11_mark rfl fk_C_0_14 (Wp.r_aload_n o_X11_mark rfl rfl (Wp.r_aload_n o_X11_mark rfl rfl (Wp.r_gfi o_X11_mark rfl fk_C_0_14 (Wp.r_cv2 o_X11_mark rfl fk_C_0_0 (⟨rm8_ rfl, ?_⟩))))))))))
      refine w_X11_answer (d := d + 2) _ ?_
      refine oq_bd H (fun r8 s9 H => ?_)
      show Y_X11_mark d Q 48 [(0, .ref 0)] [.int r8] s9
      exact Wp.r_ireturn o_X11_mark rfl (⟨rfl, H⟩)
    · have ek1 := e9
      have H := oq_sel3_2 (i := (s.1 0 14)) e9 H
      refine Wp.r_aload_n o_X11_mark rfl rfl (Wp.r_gfr o_X11_mark rfl fk_C_0_2 (Wp.r_cv2 o_X11_mark rfl fk_C_132_0 (⟨rm8_ rfl, ?_⟩)))
      refine w_X10_copyFrom_24_132 (d := d)  ?_
      refine oq_bd H (fun _ s11 H => ?_)
      show Y_X11_mark d Q 30 [(0, .ref 0)] [] s11
      refine Wp.r_aload_n o_X11_mark rfl rfl (Wp.r_dup_r o_X11_mark rfl (Wp.r_gfi o_X11_mark rfl fk_C_0_14 (Wp.r_iconst o_X11_mark rfl (Wp.r_iadd o_X11_mark rfl (Wp.r_pfi o_X11_mark rfl fk_C_0_14 (Wp.r_aload_n o_X11_mark rfl rfl (Wp.r_aload_n o_X11_mark rfl rfl (Wp.r_gfi o_X11_mark rfl fk_C_0_14 (Wp.r_cv2 o_X11_mark rfl fk_C_0_0 (⟨rm8_ rfl, ?_⟩))))))))))
      refine w_X11_answer (d := d + 2) _ ?_
      refine oq_bd H (fun r12 s13 H => ?_)
      show Y_X11_mark d Q 48 [(0, .ref 0)] [.int r12] s13
      exact Wp.r_ireturn o_X11_mark rfl (⟨rfl, H⟩)
  · have H := oq_f c9 H
    refine Wp.r_aload_n o_X11_mark rfl rfl (Wp.r_iconst o_X11_mark rfl (Wp.r_cv2 o_X11_mark rfl fk_C_0_0 (⟨rm8_ rfl, ?_⟩)))
    refine w_X11_refuse (d := d + 2) _ ?_
    refine oq_bd H (fun r14 s15 H => ?_)
    show Y_X11_mark d Q 13 [(0, .ref 0)] [.int r14] s15
    exact Wp.r_ireturn o_X11_mark rfl (⟨rfl, H⟩)
noncomputable abbrev Y_X11_copyRow_29_83 (d : Nat) (Q : Qt) : Xt := Wp SHC (WpM SHC MT (d + 0)) (flat2 cq_X11_copyRow) (none) Q
noncomputable def f_X11_copyRow_29_83  (s : Sg) : Option (Unit × Sg) :=
  ck (¬ (0 : Int32) < 0 ∧ ¬ (0 : Int32) < 0 ∧ ¬ (if 24 < (24 : Int32) then 24 else (24 : Int32)) < 0 ∧ 0 + (if 24 < (24 : Int32) then 24 else (24 : Int32)).toNatClampNeg ≤ 24 ∧ 0 + (if 24 < (24 : Int32) then 24 else (24 : Int32)).toNatClampNeg ≤ 24) (
  some ((), pA s 29 (va_cpy (s.1 83) (s.1 29) 0 0 (if 24 < (24 : Int32) then 24 else (24 : Int32)).toNatClampNeg))
  )
set_option maxRecDepth 100000 in
theorem w_X11_copyRow_29_83 {d : Nat} {s : Sg} {Q : Qt}  (H : OQ (f_X11_copyRow_29_83  s) (fun _ s9 => Q none s9)) : WpM SHC MT (d + 1) 184 [.ref 83, .ref 29] s Q := by
  refine WpM.enter me_X11_copyRow rfl rfl ?_
  show Y_X11_copyRow_29_83 d Q 0 [(0, .ref 83), (1, .ref 29)] [] s
  unfold f_X11_copyRow_29_83 at H
  refine Wp.r_aload_n o_X11_copyRow rfl rfl (Wp.r_iconst o_X11_copyRow rfl (Wp.r_aload_n o_X11_copyRow rfl rfl (Wp.r_iconst o_X11_copyRow rfl (Wp.r_aload_n o_X11_copyRow rfl rfl (Wp.r_alen o_X11_copyRow rfl lk_C_83 (Wp.r_aload_n o_X11_copyRow rfl rfl (Wp.r_alen o_X11_copyRow rfl lk_C_29 (Wp.r_min o_X11_copyRow rfl (⟨rm8_ rfl, ?_⟩)))))))))
  obtain ⟨c9, H⟩ := oq_ck H
  refine Wp.run 1 (show room8 [] ∧ (¬ (0 : Int32) < 0 ∧ ¬ (0 : Int32) < 0 ∧ ¬ (if 24 < (24 : Int32) then 24 else (24 : Int32)) < 0 ∧ 0 + (if 24 < (24 : Int32) then 24 else (24 : Int32)).toNatClampNeg ≤ 24 ∧ 0 + (if 24 < (24 : Int32) then 24 else (24 : Int32)).toNatClampNeg ≤ 24) ∧ Y_X11_copyRow_29_83 d Q 14 [(0, .ref 83), (1, .ref 29)] [] (pA s 29 (va_cpy (s.1 83) (s.1 29) 0 0 (if 24 < (24 : Int32) then 24 else (24 : Int32)).toNatClampNeg)) from ⟨rm8_ rfl, c9, ?_⟩)
  exact Wp.r_return o_X11_copyRow rfl (H)
noncomputable abbrev Y_X11_copyRow_30_84 (d : Nat) (Q : Qt) : Xt := Wp SHC (WpM SHC MT (d + 0)) (flat2 cq_X11_copyRow) (none) Q
noncomputable def f_X11_copyRow_30_84  (s : Sg) : Option (Unit × Sg) :=
  ck (¬ (0 : Int32) < 0 ∧ ¬ (0 : Int32) < 0 ∧ ¬ (if 24 < (24 : Int32) then 24 else (24 : Int32)) < 0 ∧ 0 + (if 24 < (24 : Int32) then 24 else (24 : Int32)).toNatClampNeg ≤ 24 ∧ 0 + (if 24 < (24 : Int32) then 24 else (24 : Int32)).toNatClampNeg ≤ 24) (
  some ((), pA s 30 (va_cpy (s.1 84) (s.1 30) 0 0 (if 24 < (24 : Int32) then 24 else (24 : Int32)).toNatClampNeg))
  )
set_option maxRecDepth 100000 in
theorem w_X11_copyRow_30_84 {d : Nat} {s : Sg} {Q : Qt}  (H : OQ (f_X11_copyRow_30_84  s) (fun _ s9 => Q none s9)) : WpM SHC MT (d + 1) 184 [.ref 84, .ref 30] s Q := by
  refine WpM.enter me_X11_copyRow rfl rfl ?_
  show Y_X11_copyRow_30_84 d Q 0 [(0, .ref 84), (1, .ref 30)] [] s
  unfold f_X11_copyRow_30_84 at H
  refine Wp.r_aload_n o_X11_copyRow rfl rfl (Wp.r_iconst o_X11_copyRow rfl (Wp.r_aload_n o_X11_copyRow rfl rfl (Wp.r_iconst o_X11_copyRow rfl (Wp.r_aload_n o_X11_copyRow rfl rfl (Wp.r_alen o_X11_copyRow rfl lk_C_84 (Wp.r_aload_n o_X11_copyRow rfl rfl (Wp.r_alen o_X11_copyRow rfl lk_C_30 (Wp.r_min o_X11_copyRow rfl (⟨rm8_ rfl, ?_⟩)))))))))
  obtain ⟨c9, H⟩ := oq_ck H
  refine Wp.run 1 (show room8 [] ∧ (¬ (0 : Int32) < 0 ∧ ¬ (0 : Int32) < 0 ∧ ¬ (if 24 < (24 : Int32) then 24 else (24 : Int32)) < 0 ∧ 0 + (if 24 < (24 : Int32) then 24 else (24 : Int32)).toNatClampNeg ≤ 24 ∧ 0 + (if 24 < (24 : Int32) then 24 else (24 : Int32)).toNatClampNeg ≤ 24) ∧ Y_X11_copyRow_30_84 d Q 14 [(0, .ref 84), (1, .ref 30)] [] (pA s 30 (va_cpy (s.1 84) (s.1 30) 0 0 (if 24 < (24 : Int32) then 24 else (24 : Int32)).toNatClampNeg)) from ⟨rm8_ rfl, c9, ?_⟩)
  exact Wp.r_return o_X11_copyRow rfl (H)
noncomputable abbrev Y_X11_copyRow_31_85 (d : Nat) (Q : Qt) : Xt := Wp SHC (WpM SHC MT (d + 0)) (flat2 cq_X11_copyRow) (none) Q
noncomputable def f_X11_copyRow_31_85  (s : Sg) : Option (Unit × Sg) :=
  ck (¬ (0 : Int32) < 0 ∧ ¬ (0 : Int32) < 0 ∧ ¬ (if 8 < (8 : Int32) then 8 else (8 : Int32)) < 0 ∧ 0 + (if 8 < (8 : Int32) then 8 else (8 : Int32)).toNatClampNeg ≤ 8 ∧ 0 + (if 8 < (8 : Int32) then 8 else (8 : Int32)).toNatClampNeg ≤ 8) (
  some ((), pA s 31 (va_cpy (s.1 85) (s.1 31) 0 0 (if 8 < (8 : Int32) then 8 else (8 : Int32)).toNatClampNeg))
  )
set_option maxRecDepth 100000 in
theorem w_X11_copyRow_31_85 {d : Nat} {s : Sg} {Q : Qt}  (H : OQ (f_X11_copyRow_31_85  s) (fun _ s9 => Q none s9)) : WpM SHC MT (d + 1) 184 [.ref 85, .ref 31] s Q := by
  refine WpM.enter me_X11_copyRow rfl rfl ?_
  show Y_X11_copyRow_31_85 d Q 0 [(0, .ref 85), (1, .ref 31)] [] s
  unfold f_X11_copyRow_31_85 at H
  refine Wp.r_aload_n o_X11_copyRow rfl rfl (Wp.r_iconst o_X11_copyRow rfl (Wp.r_aload_n o_X11_copyRow rfl rfl (Wp.r_iconst o_X11_copyRow rfl (Wp.r_aload_n o_X11_copyRow rfl rfl (Wp.r_alen o_X11_copyRow rfl lk_C_85 (Wp.r_aload_n o_X11_copyRow rfl rfl (Wp.r_alen o_X11_copyRow rfl lk_C_31 (Wp.r_min o_X11_copyRow rfl (⟨rm8_ rfl, ?_⟩)))))))))
  obtain ⟨c9, H⟩ := oq_ck H
  refine Wp.run 1 (show room8 [] ∧ (¬ (0 : Int32) < 0 ∧ ¬ (0 : Int32) < 0 ∧ ¬ (if 8 < (8 : Int32) then 8 else (8 : Int32)) < 0 ∧ 0 + (if 8 < (8 : Int32) then 8 else (8 : Int32)).toNatClampNeg ≤ 8 ∧ 0 + (if 8 < (8 : Int32) then 8 else (8 : Int32)).toNatClampNeg ≤ 8) ∧ Y_X11_copyRow_31_85 d Q 14 [(0, .ref 85), (1, .ref 31)] [] (pA s 31 (va_cpy (s.1 85) (s.1 31) 0 0 (if 8 < (8 : Int32) then 8 else (8 : Int32)).toNatClampNeg)) from ⟨rm8_ rfl, c9, ?_⟩)
  exact Wp.r_return o_X11_copyRow rfl (H)
noncomputable abbrev Y_X11_copyRow_32_86 (d : Nat) (Q : Qt) : Xt := Wp SHC (WpM SHC MT (d + 0)) (flat2 cq_X11_copyRow) (none) Q
noncomputable def f_X11_copyRow_32_86  (s : Sg) : Option (Unit × Sg) :=
  ck (¬ (0 : Int32) < 0 ∧ ¬ (0 : Int32) < 0 ∧ ¬ (if 8 < (8 : Int32) then 8 else (8 : Int32)) < 0 ∧ 0 + (if 8 < (8 : Int32) then 8 else (8 : Int32)).toNatClampNeg ≤ 8 ∧ 0 + (if 8 < (8 : Int32) then 8 else (8 : Int32)).toNatClampNeg ≤ 8) (
  some ((), pA s 32 (va_cpy (s.1 86) (s.1 32) 0 0 (if 8 < (8 : Int32) then 8 else (8 : Int32)).toNatClampNeg))
  )
set_option maxRecDepth 100000 in
theorem w_X11_copyRow_32_86 {d : Nat} {s : Sg} {Q : Qt}  (H : OQ (f_X11_copyRow_32_86  s) (fun _ s9 => Q none s9)) : WpM SHC MT (d + 1) 184 [.ref 86, .ref 32] s Q := by
  refine WpM.enter me_X11_copyRow rfl rfl ?_
  show Y_X11_copyRow_32_86 d Q 0 [(0, .ref 86), (1, .ref 32)] [] s
  unfold f_X11_copyRow_32_86 at H
  refine Wp.r_aload_n o_X11_copyRow rfl rfl (Wp.r_iconst o_X11_copyRow rfl (Wp.r_aload_n o_X11_copyRow rfl rfl (Wp.r_iconst o_X11_copyRow rfl (Wp.r_aload_n o_X11_copyRow rfl rfl (Wp.r_alen o_X11_copyRow rfl lk_C_86 (Wp.r_aload_n o_X11_copyRow rfl rfl (Wp.r_alen o_X11_copyRow rfl lk_C_32 (Wp.r_min o_X11_copyRow rfl (⟨rm8_ rfl, ?_⟩)))))))))
  obtain ⟨c9, H⟩ := oq_ck H
  refine Wp.run 1 (show room8 [] ∧ (¬ (0 : Int32) < 0 ∧ ¬ (0 : Int32) < 0 ∧ ¬ (if 8 < (8 : Int32) then 8 else (8 : Int32)) < 0 ∧ 0 + (if 8 < (8 : Int32) then 8 else (8 : Int32)).toNatClampNeg ≤ 8 ∧ 0 + (if 8 < (8 : Int32) then 8 else (8 : Int32)).toNatClampNeg ≤ 8) ∧ Y_X11_copyRow_32_86 d Q 14 [(0, .ref 86), (1, .ref 32)] [] (pA s 32 (va_cpy (s.1 86) (s.1 32) 0 0 (if 8 < (8 : Int32) then 8 else (8 : Int32)).toNatClampNeg)) from ⟨rm8_ rfl, c9, ?_⟩)
  exact Wp.r_return o_X11_copyRow rfl (H)
noncomputable abbrev Y_X11_copyRow_33_87 (d : Nat) (Q : Qt) : Xt := Wp SHC (WpM SHC MT (d + 0)) (flat2 cq_X11_copyRow) (none) Q
noncomputable def f_X11_copyRow_33_87  (s : Sg) : Option (Unit × Sg) :=
  ck (¬ (0 : Int32) < 0 ∧ ¬ (0 : Int32) < 0 ∧ ¬ (if 8 < (8 : Int32) then 8 else (8 : Int32)) < 0 ∧ 0 + (if 8 < (8 : Int32) then 8 else (8 : Int32)).toNatClampNeg ≤ 8 ∧ 0 + (if 8 < (8 : Int32) then 8 else (8 : Int32)).toNatClampNeg ≤ 8) (
  some ((), pA s 33 (va_cpy (s.1 87) (s.1 33) 0 0 (if 8 < (8 : Int32) then 8 else (8 : Int32)).toNatClampNeg))
  )
set_option maxRecDepth 100000 in
theorem w_X11_copyRow_33_87 {d : Nat} {s : Sg} {Q : Qt}  (H : OQ (f_X11_copyRow_33_87  s) (fun _ s9 => Q none s9)) : WpM SHC MT (d + 1) 184 [.ref 87, .ref 33] s Q := by
  refine WpM.enter me_X11_copyRow rfl rfl ?_
  show Y_X11_copyRow_33_87 d Q 0 [(0, .ref 87), (1, .ref 33)] [] s
  unfold f_X11_copyRow_33_87 at H
  refine Wp.r_aload_n o_X11_copyRow rfl rfl (Wp.r_iconst o_X11_copyRow rfl (Wp.r_aload_n o_X11_copyRow rfl rfl (Wp.r_iconst o_X11_copyRow rfl (Wp.r_aload_n o_X11_copyRow rfl rfl (Wp.r_alen o_X11_copyRow rfl lk_C_87 (Wp.r_aload_n o_X11_copyRow rfl rfl (Wp.r_alen o_X11_copyRow rfl lk_C_33 (Wp.r_min o_X11_copyRow rfl (⟨rm8_ rfl, ?_⟩)))))))))
  obtain ⟨c9, H⟩ := oq_ck H
  refine Wp.run 1 (show room8 [] ∧ (¬ (0 : Int32) < 0 ∧ ¬ (0 : Int32) < 0 ∧ ¬ (if 8 < (8 : Int32) then 8 else (8 : Int32)) < 0 ∧ 0 + (if 8 < (8 : Int32) then 8 else (8 : Int32)).toNatClampNeg ≤ 8 ∧ 0 + (if 8 < (8 : Int32) then 8 else (8 : Int32)).toNatClampNeg ≤ 8) ∧ Y_X11_copyRow_33_87 d Q 14 [(0, .ref 87), (1, .ref 33)] [] (pA s 33 (va_cpy (s.1 87) (s.1 33) 0 0 (if 8 < (8 : Int32) then 8 else (8 : Int32)).toNatClampNeg)) from ⟨rm8_ rfl, c9, ?_⟩)
  exact Wp.r_return o_X11_copyRow rfl (H)
noncomputable abbrev Y_X11_copyRow_34_88 (d : Nat) (Q : Qt) : Xt := Wp SHC (WpM SHC MT (d + 0)) (flat2 cq_X11_copyRow) (none) Q
noncomputable def f_X11_copyRow_34_88  (s : Sg) : Option (Unit × Sg) :=
  ck (¬ (0 : Int32) < 0 ∧ ¬ (0 : Int32) < 0 ∧ ¬ (if 8 < (8 : Int32) then 8 else (8 : Int32)) < 0 ∧ 0 + (if 8 < (8 : Int32) then 8 else (8 : Int32)).toNatClampNeg ≤ 8 ∧ 0 + (if 8 < (8 : Int32) then 8 else (8 : Int32)).toNatClampNeg ≤ 8) (
  some ((), pA s 34 (va_cpy (s.1 88) (s.1 34) 0 0 (if 8 < (8 : Int32) then 8 else (8 : Int32)).toNatClampNeg))
  )
set_option maxRecDepth 100000 in
theorem w_X11_copyRow_34_88 {d : Nat} {s : Sg} {Q : Qt}  (H : OQ (f_X11_copyRow_34_88  s) (fun _ s9 => Q none s9)) : WpM SHC MT (d + 1) 184 [.ref 88, .ref 34] s Q := by
  refine WpM.enter me_X11_copyRow rfl rfl ?_
  show Y_X11_copyRow_34_88 d Q 0 [(0, .ref 88), (1, .ref 34)] [] s
  unfold f_X11_copyRow_34_88 at H
  refine Wp.r_aload_n o_X11_copyRow rfl rfl (Wp.r_iconst o_X11_copyRow rfl (Wp.r_aload_n o_X11_copyRow rfl rfl (Wp.r_iconst o_X11_copyRow rfl (Wp.r_aload_n o_X11_copyRow rfl rfl (Wp.r_alen o_X11_copyRow rfl lk_C_88 (Wp.r_aload_n o_X11_copyRow rfl rfl (Wp.r_alen o_X11_copyRow rfl lk_C_34 (Wp.r_min o_X11_copyRow rfl (⟨rm8_ rfl, ?_⟩)))))))))
  obtain ⟨c9, H⟩ := oq_ck H
  refine Wp.run 1 (show room8 [] ∧ (¬ (0 : Int32) < 0 ∧ ¬ (0 : Int32) < 0 ∧ ¬ (if 8 < (8 : Int32) then 8 else (8 : Int32)) < 0 ∧ 0 + (if 8 < (8 : Int32) then 8 else (8 : Int32)).toNatClampNeg ≤ 8 ∧ 0 + (if 8 < (8 : Int32) then 8 else (8 : Int32)).toNatClampNeg ≤ 8) ∧ Y_X11_copyRow_34_88 d Q 14 [(0, .ref 88), (1, .ref 34)] [] (pA s 34 (va_cpy (s.1 88) (s.1 34) 0 0 (if 8 < (8 : Int32) then 8 else (8 : Int32)).toNatClampNeg)) from ⟨rm8_ rfl, c9, ?_⟩)
  exact Wp.r_return o_X11_copyRow rfl (H)
noncomputable abbrev Y_X11_copyRow_35_89 (d : Nat) (Q : Qt) : Xt := Wp SHC (WpM SHC MT (d + 0)) (flat2 cq_X11_copyRow) (none) Q
noncomputable def f_X11_copyRow_35_89  (s : Sg) : Option (Unit × Sg) :=
  ck (¬ (0 : Int32) < 0 ∧ ¬ (0 : Int32) < 0 ∧ ¬ (if 4 < (4 : Int32) then 4 else (4 : Int32)) < 0 ∧ 0 + (if 4 < (4 : Int32) then 4 else (4 : Int32)).toNatClampNeg ≤ 4 ∧ 0 + (if 4 < (4 : Int32) then 4 else (4 : Int32)).toNatClampNeg ≤ 4) (
  some ((), pA s 35 (va_cpy (s.1 89) (s.1 35) 0 0 (if 4 < (4 : Int32) then 4 else (4 : Int32)).toNatClampNeg))
  )
set_option maxRecDepth 100000 in
theorem w_X11_copyRow_35_89 {d : Nat} {s : Sg} {Q : Qt}  (H : OQ (f_X11_copyRow_35_89  s) (fun _ s9 => Q none s9)) : WpM SHC MT (d + 1) 184 [.ref 89, .ref 35] s Q := by
  refine WpM.enter me_X11_copyRow rfl rfl ?_
  show Y_X11_copyRow_35_89 d Q 0 [(0, .ref 89), (1, .ref 35)] [] s
  unfold f_X11_copyRow_35_89 at H
  refine Wp.r_aload_n o_X11_copyRow rfl rfl (Wp.r_iconst o_X11_copyRow rfl (Wp.r_aload_n o_X11_copyRow rfl rfl (Wp.r_iconst o_X11_copyRow rfl (Wp.r_aload_n o_X11_copyRow rfl rfl (Wp.r_alen o_X11_copyRow rfl lk_C_89 (Wp.r_aload_n o_X11_copyRow rfl rfl (Wp.r_alen o_X11_copyRow rfl lk_C_35 (Wp.r_min o_X11_copyRow rfl (⟨rm8_ rfl, ?_⟩)))))))))
  obtain ⟨c9, H⟩ := oq_ck H
  refine Wp.run 1 (show room8 [] ∧ (¬ (0 : Int32) < 0 ∧ ¬ (0 : Int32) < 0 ∧ ¬ (if 4 < (4 : Int32) then 4 else (4 : Int32)) < 0 ∧ 0 + (if 4 < (4 : Int32) then 4 else (4 : Int32)).toNatClampNeg ≤ 4 ∧ 0 + (if 4 < (4 : Int32) then 4 else (4 : Int32)).toNatClampNeg ≤ 4) ∧ Y_X11_copyRow_35_89 d Q 14 [(0, .ref 89), (1, .ref 35)] [] (pA s 35 (va_cpy (s.1 89) (s.1 35) 0 0 (if 4 < (4 : Int32) then 4 else (4 : Int32)).toNatClampNeg)) from ⟨rm8_ rfl, c9, ?_⟩)
  exact Wp.r_return o_X11_copyRow rfl (H)
noncomputable abbrev Y_X11_copyRow_36_90 (d : Nat) (Q : Qt) : Xt := Wp SHC (WpM SHC MT (d + 0)) (flat2 cq_X11_copyRow) (none) Q
noncomputable def f_X11_copyRow_36_90  (s : Sg) : Option (Unit × Sg) :=
  ck (¬ (0 : Int32) < 0 ∧ ¬ (0 : Int32) < 0 ∧ ¬ (if 4 < (4 : Int32) then 4 else (4 : Int32)) < 0 ∧ 0 + (if 4 < (4 : Int32) then 4 else (4 : Int32)).toNatClampNeg ≤ 4 ∧ 0 + (if 4 < (4 : Int32) then 4 else (4 : Int32)).toNatClampNeg ≤ 4) (
  some ((), pA s 36 (va_cpy (s.1 90) (s.1 36) 0 0 (if 4 < (4 : Int32) then 4 else (4 : Int32)).toNatClampNeg))
  )
set_option maxRecDepth 100000 in
theorem w_X11_copyRow_36_90 {d : Nat} {s : Sg} {Q : Qt}  (H : OQ (f_X11_copyRow_36_90  s) (fun _ s9 => Q none s9)) : WpM SHC MT (d + 1) 184 [.ref 90, .ref 36] s Q := by
  refine WpM.enter me_X11_copyRow rfl rfl ?_
  show Y_X11_copyRow_36_90 d Q 0 [(0, .ref 90), (1, .ref 36)] [] s
  unfold f_X11_copyRow_36_90 at H
  refine Wp.r_aload_n o_X11_copyRow rfl rfl (Wp.r_iconst o_X11_copyRow rfl (Wp.r_aload_n o_X11_copyRow rfl rfl (Wp.r_iconst o_X11_copyRow rfl (Wp.r_aload_n o_X11_copyRow rfl rfl (Wp.r_alen o_X11_copyRow rfl lk_C_90 (Wp.r_aload_n o_X11_copyRow rfl rfl (Wp.r_alen o_X11_copyRow rfl lk_C_36 (Wp.r_min o_X11_copyRow rfl (⟨rm8_ rfl, ?_⟩)))))))))
  obtain ⟨c9, H⟩ := oq_ck H
  refine Wp.run 1 (show room8 [] ∧ (¬ (0 : Int32) < 0 ∧ ¬ (0 : Int32) < 0 ∧ ¬ (if 4 < (4 : Int32) then 4 else (4 : Int32)) < 0 ∧ 0 + (if 4 < (4 : Int32) then 4 else (4 : Int32)).toNatClampNeg ≤ 4 ∧ 0 + (if 4 < (4 : Int32) then 4 else (4 : Int32)).toNatClampNeg ≤ 4) ∧ Y_X11_copyRow_36_90 d Q 14 [(0, .ref 90), (1, .ref 36)] [] (pA s 36 (va_cpy (s.1 90) (s.1 36) 0 0 (if 4 < (4 : Int32) then 4 else (4 : Int32)).toNatClampNeg)) from ⟨rm8_ rfl, c9, ?_⟩)
  exact Wp.r_return o_X11_copyRow rfl (H)
noncomputable abbrev Y_X11_copyRow_37_91 (d : Nat) (Q : Qt) : Xt := Wp SHC (WpM SHC MT (d + 0)) (flat2 cq_X11_copyRow) (none) Q
noncomputable def f_X11_copyRow_37_91  (s : Sg) : Option (Unit × Sg) :=
  ck (¬ (0 : Int32) < 0 ∧ ¬ (0 : Int32) < 0 ∧ ¬ (if 4 < (4 : Int32) then 4 else (4 : Int32)) < 0 ∧ 0 + (if 4 < (4 : Int32) then 4 else (4 : Int32)).toNatClampNeg ≤ 4 ∧ 0 + (if 4 < (4 : Int32) then 4 else (4 : Int32)).toNatClampNeg ≤ 4) (
  some ((), pA s 37 (va_cpy (s.1 91) (s.1 37) 0 0 (if 4 < (4 : Int32) then 4 else (4 : Int32)).toNatClampNeg))
  )
set_option maxRecDepth 100000 in
theorem w_X11_copyRow_37_91 {d : Nat} {s : Sg} {Q : Qt}  (H : OQ (f_X11_copyRow_37_91  s) (fun _ s9 => Q none s9)) : WpM SHC MT (d + 1) 184 [.ref 91, .ref 37] s Q := by
  refine WpM.enter me_X11_copyRow rfl rfl ?_
  show Y_X11_copyRow_37_91 d Q 0 [(0, .ref 91), (1, .ref 37)] [] s
  unfold f_X11_copyRow_37_91 at H
  refine Wp.r_aload_n o_X11_copyRow rfl rfl (Wp.r_iconst o_X11_copyRow rfl (Wp.r_aload_n o_X11_copyRow rfl rfl (Wp.r_iconst o_X11_copyRow rfl (Wp.r_aload_n o_X11_copyRow rfl rfl (Wp.r_alen o_X11_copyRow rfl lk_C_91 (Wp.r_aload_n o_X11_copyRow rfl rfl (Wp.r_alen o_X11_copyRow rfl lk_C_37 (Wp.r_min o_X11_copyRow rfl (⟨rm8_ rfl, ?_⟩)))))))))
  obtain ⟨c9, H⟩ := oq_ck H
  refine Wp.run 1 (show room8 [] ∧ (¬ (0 : Int32) < 0 ∧ ¬ (0 : Int32) < 0 ∧ ¬ (if 4 < (4 : Int32) then 4 else (4 : Int32)) < 0 ∧ 0 + (if 4 < (4 : Int32) then 4 else (4 : Int32)).toNatClampNeg ≤ 4 ∧ 0 + (if 4 < (4 : Int32) then 4 else (4 : Int32)).toNatClampNeg ≤ 4) ∧ Y_X11_copyRow_37_91 d Q 14 [(0, .ref 91), (1, .ref 37)] [] (pA s 37 (va_cpy (s.1 91) (s.1 37) 0 0 (if 4 < (4 : Int32) then 4 else (4 : Int32)).toNatClampNeg)) from ⟨rm8_ rfl, c9, ?_⟩)
  exact Wp.r_return o_X11_copyRow rfl (H)
noncomputable abbrev Y_X11_copyRow_38_92 (d : Nat) (Q : Qt) : Xt := Wp SHC (WpM SHC MT (d + 0)) (flat2 cq_X11_copyRow) (none) Q
noncomputable def f_X11_copyRow_38_92  (s : Sg) : Option (Unit × Sg) :=
  ck (¬ (0 : Int32) < 0 ∧ ¬ (0 : Int32) < 0 ∧ ¬ (if 4 < (4 : Int32) then 4 else (4 : Int32)) < 0 ∧ 0 + (if 4 < (4 : Int32) then 4 else (4 : Int32)).toNatClampNeg ≤ 4 ∧ 0 + (if 4 < (4 : Int32) then 4 else (4 : Int32)).toNatClampNeg ≤ 4) (
  some ((), pA s 38 (va_cpy (s.1 92) (s.1 38) 0 0 (if 4 < (4 : Int32) then 4 else (4 : Int32)).toNatClampNeg))
  )
set_option maxRecDepth 100000 in
theorem w_X11_copyRow_38_92 {d : Nat} {s : Sg} {Q : Qt}  (H : OQ (f_X11_copyRow_38_92  s) (fun _ s9 => Q none s9)) : WpM SHC MT (d + 1) 184 [.ref 92, .ref 38] s Q := by
  refine WpM.enter me_X11_copyRow rfl rfl ?_
  show Y_X11_copyRow_38_92 d Q 0 [(0, .ref 92), (1, .ref 38)] [] s
  unfold f_X11_copyRow_38_92 at H
  refine Wp.r_aload_n o_X11_copyRow rfl rfl (Wp.r_iconst o_X11_copyRow rfl (Wp.r_aload_n o_X11_copyRow rfl rfl (Wp.r_iconst o_X11_copyRow rfl (Wp.r_aload_n o_X11_copyRow rfl rfl (Wp.r_alen o_X11_copyRow rfl lk_C_92 (Wp.r_aload_n o_X11_copyRow rfl rfl (Wp.r_alen o_X11_copyRow rfl lk_C_38 (Wp.r_min o_X11_copyRow rfl (⟨rm8_ rfl, ?_⟩)))))))))
  obtain ⟨c9, H⟩ := oq_ck H
  refine Wp.run 1 (show room8 [] ∧ (¬ (0 : Int32) < 0 ∧ ¬ (0 : Int32) < 0 ∧ ¬ (if 4 < (4 : Int32) then 4 else (4 : Int32)) < 0 ∧ 0 + (if 4 < (4 : Int32) then 4 else (4 : Int32)).toNatClampNeg ≤ 4 ∧ 0 + (if 4 < (4 : Int32) then 4 else (4 : Int32)).toNatClampNeg ≤ 4) ∧ Y_X11_copyRow_38_92 d Q 14 [(0, .ref 92), (1, .ref 38)] [] (pA s 38 (va_cpy (s.1 92) (s.1 38) 0 0 (if 4 < (4 : Int32) then 4 else (4 : Int32)).toNatClampNeg)) from ⟨rm8_ rfl, c9, ?_⟩)
  exact Wp.r_return o_X11_copyRow rfl (H)
noncomputable abbrev Y_X11_copyRow_39_93 (d : Nat) (Q : Qt) : Xt := Wp SHC (WpM SHC MT (d + 0)) (flat2 cq_X11_copyRow) (none) Q
noncomputable def f_X11_copyRow_39_93  (s : Sg) : Option (Unit × Sg) :=
  ck (¬ (0 : Int32) < 0 ∧ ¬ (0 : Int32) < 0 ∧ ¬ (if 4 < (4 : Int32) then 4 else (4 : Int32)) < 0 ∧ 0 + (if 4 < (4 : Int32) then 4 else (4 : Int32)).toNatClampNeg ≤ 4 ∧ 0 + (if 4 < (4 : Int32) then 4 else (4 : Int32)).toNatClampNeg ≤ 4) (
  some ((), pA s 39 (va_cpy (s.1 93) (s.1 39) 0 0 (if 4 < (4 : Int32) then 4 else (4 : Int32)).toNatClampNeg))
  )
set_option maxRecDepth 100000 in
theorem w_X11_copyRow_39_93 {d : Nat} {s : Sg} {Q : Qt}  (H : OQ (f_X11_copyRow_39_93  s) (fun _ s9 => Q none s9)) : WpM SHC MT (d + 1) 184 [.ref 93, .ref 39] s Q := by
  refine WpM.enter me_X11_copyRow rfl rfl ?_
  show Y_X11_copyRow_39_93 d Q 0 [(0, .ref 93), (1, .ref 39)] [] s
  unfold f_X11_copyRow_39_93 at H
  refine Wp.r_aload_n o_X11_copyRow rfl rfl (Wp.r_iconst o_X11_copyRow rfl (Wp.r_aload_n o_X11_copyRow rfl rfl (Wp.r_iconst o_X11_copyRow rfl (Wp.r_aload_n o_X11_copyRow rfl rfl (Wp.r_alen o_X11_copyRow rfl lk_C_93 (Wp.r_aload_n o_X11_copyRow rfl rfl (Wp.r_alen o_X11_copyRow rfl lk_C_39 (Wp.r_min o_X11_copyRow rfl (⟨rm8_ rfl, ?_⟩)))))))))
  obtain ⟨c9, H⟩ := oq_ck H
  refine Wp.run 1 (show room8 [] ∧ (¬ (0 : Int32) < 0 ∧ ¬ (0 : Int32) < 0 ∧ ¬ (if 4 < (4 : Int32) then 4 else (4 : Int32)) < 0 ∧ 0 + (if 4 < (4 : Int32) then 4 else (4 : Int32)).toNatClampNeg ≤ 4 ∧ 0 + (if 4 < (4 : Int32) then 4 else (4 : Int32)).toNatClampNeg ≤ 4) ∧ Y_X11_copyRow_39_93 d Q 14 [(0, .ref 93), (1, .ref 39)] [] (pA s 39 (va_cpy (s.1 93) (s.1 39) 0 0 (if 4 < (4 : Int32) then 4 else (4 : Int32)).toNatClampNeg)) from ⟨rm8_ rfl, c9, ?_⟩)
  exact Wp.r_return o_X11_copyRow rfl (H)
noncomputable abbrev Y_X4_copyFrom_79 (d : Nat) (Q : Qt) : Xt := Wp SHC (WpM SHC MT (d + 1)) (flat2 cq_X4_copyFrom) (none) Q
noncomputable def f_X4_copyFrom_79  (s : Sg) : Option (Unit × Sg) :=
  bd (f_X11_copyRow_29_83 (pB s 28 (va_cpy (s.2 82) (s.2 28) 0 0 24))) (fun _ s2 =>
  bd (f_X11_copyRow_30_84 s2) (fun _ s4 =>
  bd (f_X11_copyRow_31_85 s4) (fun _ s6 =>
  bd (f_X11_copyRow_32_86 s6) (fun _ s8 =>
  bd (f_X11_copyRow_33_87 s8) (fun _ s10 =>
  bd (f_X11_copyRow_34_88 s10) (fun _ s12 =>
  bd (f_X11_copyRow_35_89 s12) (fun _ s14 =>
  bd (f_X11_copyRow_36_90 s14) (fun _ s16 =>
  bd (f_X11_copyRow_37_91 s16) (fun _ s18 =>
  bd (f_X11_copyRow_38_92 s18) (fun _ s20 =>
  bd (f_X11_copyRow_39_93 s20) (fun _ s22 =>
  nmx (pI (pI s22 25 12 (s22.1 79 12)) 25 13 ((pI s22 25 12 (s22.1 79 12)).1 79 13)) (fun s23 =>
  nmx (pI (pI s23 25 14 (s23.1 79 14)) 25 15 ((pI s23 25 14 (s23.1 79 14)).1 79 15)) (fun s24 =>
  nmx (pI (pI s24 25 16 (s24.1 79 16)) 25 17 ((pI s24 25 16 (s24.1 79 16)).1 79 17)) (fun s25 =>
  ck (((pI s25 25 18 (s25.1 79 18)).1 79 19) = 0 ∨ ((pI s25 25 18 (s25.1 79 18)).1 79 19) = 1) (
  some ((), pI (pI s25 25 18 (s25.1 79 18)) 25 19 ((pI s25 25 18 (s25.1 79 18)).1 79 19))
  )
  )
  )
  )
  )
  )
  )
  )
  )
  )
  )
  )
  )
  )
  )
set_option maxRecDepth 100000 in
theorem w_X4_copyFrom_79 {d : Nat} {s : Sg} {Q : Qt}  (H : OQ (f_X4_copyFrom_79  s) (fun _ s9 => Q none s9)) : WpM SHC MT (d + 2) 50 [.ref 25, .ref 79] s Q := by
  refine WpM.enter me_X4_copyFrom rfl rfl ?_
  show Y_X4_copyFrom_79 d Q 0 [(0, .ref 25), (1, .ref 79)] [] s
  unfold f_X4_copyFrom_79 at H
  refine Wp.r_aload_n o_X4_copyFrom rfl rfl (Wp.r_gfr o_X4_copyFrom rfl fk_C_79_0 (Wp.r_iconst o_X4_copyFrom rfl (Wp.r_aload_n o_X4_copyFrom rfl rfl (Wp.r_gfr o_X4_copyFrom rfl fk_C_25_0 (Wp.r_iconst o_X4_copyFrom rfl (Wp.r_bipush o_X4_copyFrom rfl (Wp.run 1 (show room8 [] ∧ (¬ (0 : Int32) < 0 ∧ ¬ (0 : Int32) < 0 ∧ ¬ (24 : Int32) < 0 ∧ 0 + 24 ≤ 24 ∧ 0 + 24 ≤ 24) ∧ Y_X4_copyFrom_79 d Q 15 [(0, .ref 25), (1, .ref 79)] [] (pB s 28 (va_cpy (s.2 82) (s.2 28) 0 0 24)) from ⟨rm8_ rfl, by decide, ?_⟩))))))))
  refine Wp.r_aload_n o_X4_copyFrom rfl rfl (Wp.r_gfr o_X4_copyFrom rfl fk_C_79_1 (Wp.r_aload_n o_X4_copyFrom rfl rfl (Wp.r_gfr o_X4_copyFrom rfl fk_C_25_1 (Wp.r_cs2 o_X4_copyFrom rfl (⟨rm8_ rfl, ?_⟩)))))
  refine w_X11_copyRow_29_83 (d := d)  ?_
  refine oq_bd H (fun _ s2 H => ?_)
  show Y_X4_copyFrom_79 d Q 26 [(0, .ref 25), (1, .ref 79)] [] s2
  refine Wp.r_aload_n o_X4_copyFrom rfl rfl (Wp.r_gfr o_X4_copyFrom rfl fk_C_79_2 (Wp.r_aload_n o_X4_copyFrom rfl rfl (Wp.r_gfr o_X4_copyFrom rfl fk_C_25_2 (Wp.r_cs2 o_X4_copyFrom rfl (⟨rm8_ rfl, ?_⟩)))))
  refine w_X11_copyRow_30_84 (d := d)  ?_
  refine oq_bd H (fun _ s4 H => ?_)
  show Y_X4_copyFrom_79 d Q 37 [(0, .ref 25), (1, .ref 79)] [] s4
  refine Wp.r_aload_n o_X4_copyFrom rfl rfl (Wp.r_gfr o_X4_copyFrom rfl fk_C_79_3 (Wp.r_aload_n o_X4_copyFrom rfl rfl (Wp.r_gfr o_X4_copyFrom rfl fk_C_25_3 (Wp.r_cs2 o_X4_copyFrom rfl (⟨rm8_ rfl, ?_⟩)))))
  refine w_X11_copyRow_31_85 (d := d)  ?_
  refine oq_bd H (fun _ s6 H => ?_)
  show Y_X4_copyFrom_79 d Q 48 [(0, .ref 25), (1, .ref 79)] [] s6
  refine Wp.r_aload_n o_X4_copyFrom rfl rfl (Wp.r_gfr o_X4_copyFrom rfl fk_C_79_4 (Wp.r_aload_n o_X4_copyFrom rfl rfl (Wp.r_gfr o_X4_copyFrom rfl fk_C_25_4 (Wp.r_cs2 o_X4_copyFrom rfl (⟨rm8_ rfl, ?_⟩)))))
  refine w_X11_copyRow_32_86 (d := d)  ?_
  refine oq_bd H (fun _ s8 H => ?_)
  show Y_X4_copyFrom_79 d Q 59 [(0, .ref 25), (1, .ref 79)] [] s8
  refine Wp.r_aload_n o_X4_copyFrom rfl rfl (Wp.r_gfr o_X4_copyFrom rfl fk_C_79_5 (Wp.r_aload_n o_X4_copyFrom rfl rfl (Wp.r_gfr o_X4_copyFrom rfl fk_C_25_5 (Wp.r_cs2 o_X4_copyFrom rfl (⟨rm8_ rfl, ?_⟩)))))
  refine w_X11_copyRow_33_87 (d := d)  ?_
  refine oq_bd H (fun _ s10 H => ?_)
  show Y_X4_copyFrom_79 d Q 70 [(0, .ref 25), (1, .ref 79)] [] s10
  refine Wp.r_aload_n o_X4_copyFrom rfl rfl (Wp.r_gfr o_X4_copyFrom rfl fk_C_79_6 (Wp.r_aload_n o_X4_copyFrom rfl rfl (Wp.r_gfr o_X4_copyFrom rfl fk_C_25_6 (Wp.r_cs2 o_X4_copyFrom rfl (⟨rm8_ rfl, ?_⟩)))))
  refine w_X11_copyRow_34_88 (d := d)  ?_
  refine oq_bd H (fun _ s12 H => ?_)
  show Y_X4_copyFrom_79 d Q 81 [(0, .ref 25), (1, .ref 79)] [] s12
  refine Wp.r_aload_n o_X4_copyFrom rfl rfl (Wp.r_gfr o_X4_copyFrom rfl fk_C_79_7 (Wp.r_aload_n o_X4_copyFrom rfl rfl (Wp.r_gfr o_X4_copyFrom rfl fk_C_25_7 (Wp.r_cs2 o_X4_copyFrom rfl (⟨rm8_ rfl, ?_⟩)))))
  refine w_X11_copyRow_35_89 (d := d)  ?_
  refine oq_bd H (fun _ s14 H => ?_)
  show Y_X4_copyFrom_79 d Q 92 [(0, .ref 25), (1, .ref 79)] [] s14
  refine Wp.r_aload_n o_X4_copyFrom rfl rfl (Wp.r_gfr o_X4_copyFrom rfl fk_C_79_8 (Wp.r_aload_n o_X4_copyFrom rfl rfl (Wp.r_gfr o_X4_copyFrom rfl fk_C_25_8 (Wp.r_cs2 o_X4_copyFrom rfl (⟨rm8_ rfl, ?_⟩)))))
  refine w_X11_copyRow_36_90 (d := d)  ?_
  refine oq_bd H (fun _ s16 H => ?_)
  show Y_X4_copyFrom_79 d Q 103 [(0, .ref 25), (1, .ref 79)] [] s16
  refine Wp.r_aload_n o_X4_copyFrom rfl rfl (Wp.r_gfr o_X4_copyFrom rfl fk_C_79_9 (Wp.r_aload_n o_X4_copyFrom rfl rfl (Wp.r_gfr o_X4_copyFrom rfl fk_C_25_9 (Wp.r_cs2 o_X4_copyFrom rfl (⟨rm8_ rfl, ?_⟩)))))
  refine w_X11_copyRow_37_91 (d := d)  ?_
  refine oq_bd H (fun _ s18 H => ?_)
  show Y_X4_copyFrom_79 d Q 114 [(0, .ref 25), (1, .ref 79)] [] s18
  refine Wp.r_aload_n o_X4_copyFrom rfl rfl (Wp.r_gfr o_X4_copyFrom rfl fk_C_79_10 (Wp.r_aload_n o_X4_copyFrom rfl rfl (Wp.r_gfr o_X4_copyFrom rfl fk_C_25_10 (Wp.r_cs2 o_X4_copyFrom rfl (⟨rm8_ rfl, ?_⟩)))))
  refine w_X11_copyRow_38_92 (d := d)  ?_
  refine oq_bd H (fun _ s20 H => ?_)
  show Y_X4_copyFrom_79 d Q 125 [(0, .ref 25), (1, .ref 79)] [] s20
  refine Wp.r_aload_n o_X4_copyFrom rfl rfl (Wp.r_gfr o_X4_copyFrom rfl fk_C_79_11 (Wp.r_aload_n o_X4_copyFrom rfl rfl (Wp.r_gfr o_X4_copyFrom rfl fk_C_25_11 (Wp.r_cs2 o_X4_copyFrom rfl (⟨rm8_ rfl, ?_⟩)))))
  refine w_X11_copyRow_39_93 (d := d)  ?_
  refine oq_bd H (fun _ s22 H => ?_)
  show Y_X4_copyFrom_79 d Q 136 [(0, .ref 25), (1, .ref 79)] [] s22
  refine Wp.r_aload_n o_X4_copyFrom rfl rfl (Wp.r_aload_n o_X4_copyFrom rfl rfl (Wp.r_gfi o_X4_copyFrom rfl fk_C_79_12 (Wp.r_pfi o_X4_copyFrom rfl fk_C_25_12 (Wp.r_aload_n o_X4_copyFrom rfl rfl (Wp.r_aload_n o_X4_copyFrom rfl rfl (Wp.r_gfi o_X4_copyFrom rfl fk_C_79_13 (Wp.r_pfi o_X4_copyFrom rfl fk_C_25_13 (show Y_X4_copyFrom_79 d Q 152 [(0, .ref 25), (1, .ref 79)] [] (pI (pI s22 25 12 (s22.1 79 12)) 25 13 ((pI s22 25 12 (s22.1 79 12)).1 79 13)) from ?_))))))))
  revert H
  generalize pI (pI s22 25 12 (s22.1 79 12)) 25 13 ((pI s22 25 12 (s22.1 79 12)).1 79 13) = s23
  intro H
  have H := nmx_e H
  refine Wp.r_aload_n o_X4_copyFrom rfl rfl (Wp.r_aload_n o_X4_copyFrom rfl rfl (Wp.r_gfi o_X4_copyFrom rfl fk_C_79_14 (Wp.r_pfi o_X4_copyFrom rfl fk_C_25_14 (Wp.r_aload_n o_X4_copyFrom rfl rfl (Wp.r_aload_n o_X4_copyFrom rfl rfl (Wp.r_gfi o_X4_copyFrom rfl fk_C_79_15 (Wp.r_pfi o_X4_copyFrom rfl fk_C_25_15 (show Y_X4_copyFrom_79 d Q 168 [(0, .ref 25), (1, .ref 79)] [] (pI (pI s23 25 14 (s23.1 79 14)) 25 15 ((pI s23 25 14 (s23.1 79 14)).1 79 15)) from ?_))))))))
  revert H
  generalize pI (pI s23 25 14 (s23.1 79 14)) 25 15 ((pI s23 25 14 (s23.1 79 14)).1 79 15) = s24
  intro H
  have H := nmx_e H
  refine Wp.r_aload_n o_X4_copyFrom rfl rfl (Wp.r_aload_n o_X4_copyFrom rfl rfl (Wp.r_gfi o_X4_copyFrom rfl fk_C_79_16 (Wp.r_pfi o_X4_copyFrom rfl fk_C_25_16 (Wp.r_aload_n o_X4_copyFrom rfl rfl (Wp.r_aload_n o_X4_copyFrom rfl rfl (Wp.r_gfi o_X4_copyFrom rfl fk_C_79_17 (Wp.r_pfi o_X4_copyFrom rfl fk_C_25_17 (show Y_X4_copyFrom_79 d Q 184 [(0, .ref 25), (1, .ref 79)] [] (pI (pI s24 25 16 (s24.1 79 16)) 25 17 ((pI s24 25 16 (s24.1 79 16)).1 79 17)) from ?_))))))))
  revert H
  generalize pI (pI s24 25 16 (s24.1 79 16)) 25 17 ((pI s24 25 16 (s24.1 79 16)).1 79 17) = s25
  intro H
  have H := nmx_e H
  obtain ⟨hc26, H⟩ := oq_ck H
  refine Wp.r_aload_n o_X4_copyFrom rfl rfl (Wp.r_aload_n o_X4_copyFrom rfl rfl (Wp.r_gfi o_X4_copyFrom rfl fk_C_79_18 (Wp.r_pfi o_X4_copyFrom rfl fk_C_25_18 (Wp.r_aload_n o_X4_copyFrom rfl rfl (Wp.r_aload_n o_X4_copyFrom rfl rfl (Wp.r_gfi o_X4_copyFrom rfl fk_C_79_19 (Wp.r_pfz o_X4_copyFrom rfl fk_C_25_19 (⟨hc26, ?_⟩))))))))
  exact Wp.r_return o_X4_copyFrom rfl (H)
noncomputable abbrev Y_X11_copyRow_40_94 (d : Nat) (Q : Qt) : Xt := Wp SHC (WpM SHC MT (d + 0)) (flat2 cq_X11_copyRow) (none) Q
noncomputable def f_X11_copyRow_40_94  (s : Sg) : Option (Unit × Sg) :=
  ck (¬ (0 : Int32) < 0 ∧ ¬ (0 : Int32) < 0 ∧ ¬ (if 8 < (8 : Int32) then 8 else (8 : Int32)) < 0 ∧ 0 + (if 8 < (8 : Int32) then 8 else (8 : Int32)).toNatClampNeg ≤ 8 ∧ 0 + (if 8 < (8 : Int32) then 8 else (8 : Int32)).toNatClampNeg ≤ 8) (
  some ((), pA s 40 (va_cpy (s.1 94) (s.1 40) 0 0 (if 8 < (8 : Int32) then 8 else (8 : Int32)).toNatClampNeg))
  )
set_option maxRecDepth 100000 in
theorem w_X11_copyRow_40_94 {d : Nat} {s : Sg} {Q : Qt}  (H : OQ (f_X11_copyRow_40_94  s) (fun _ s9 => Q none s9)) : WpM SHC MT (d + 1) 184 [.ref 94, .ref 40] s Q := by
  refine WpM.enter me_X11_copyRow rfl rfl ?_
  show Y_X11_copyRow_40_94 d Q 0 [(0, .ref 94), (1, .ref 40)] [] s
  unfold f_X11_copyRow_40_94 at H
  refine Wp.r_aload_n o_X11_copyRow rfl rfl (Wp.r_iconst o_X11_copyRow rfl (Wp.r_aload_n o_X11_copyRow rfl rfl (Wp.r_iconst o_X11_copyRow rfl (Wp.r_aload_n o_X11_copyRow rfl rfl (Wp.r_alen o_X11_copyRow rfl lk_C_94 (Wp.r_aload_n o_X11_copyRow rfl rfl (Wp.r_alen o_X11_copyRow rfl lk_C_40 (Wp.r_min o_X11_copyRow rfl (⟨rm8_ rfl, ?_⟩)))))))))
  obtain ⟨c9, H⟩ := oq_ck H
  refine Wp.run 1 (show room8 [] ∧ (¬ (0 : Int32) < 0 ∧ ¬ (0 : Int32) < 0 ∧ ¬ (if 8 < (8 : Int32) then 8 else (8 : Int32)) < 0 ∧ 0 + (if 8 < (8 : Int32) then 8 else (8 : Int32)).toNatClampNeg ≤ 8 ∧ 0 + (if 8 < (8 : Int32) then 8 else (8 : Int32)).toNatClampNeg ≤ 8) ∧ Y_X11_copyRow_40_94 d Q 14 [(0, .ref 94), (1, .ref 40)] [] (pA s 40 (va_cpy (s.1 94) (s.1 40) 0 0 (if 8 < (8 : Int32) then 8 else (8 : Int32)).toNatClampNeg)) from ⟨rm8_ rfl, c9, ?_⟩)
  exact Wp.r_return o_X11_copyRow rfl (H)
noncomputable abbrev Y_X11_copyRow_41_95 (d : Nat) (Q : Qt) : Xt := Wp SHC (WpM SHC MT (d + 0)) (flat2 cq_X11_copyRow) (none) Q
noncomputable def f_X11_copyRow_41_95  (s : Sg) : Option (Unit × Sg) :=
  ck (¬ (0 : Int32) < 0 ∧ ¬ (0 : Int32) < 0 ∧ ¬ (if 8 < (8 : Int32) then 8 else (8 : Int32)) < 0 ∧ 0 + (if 8 < (8 : Int32) then 8 else (8 : Int32)).toNatClampNeg ≤ 8 ∧ 0 + (if 8 < (8 : Int32) then 8 else (8 : Int32)).toNatClampNeg ≤ 8) (
  some ((), pA s 41 (va_cpy (s.1 95) (s.1 41) 0 0 (if 8 < (8 : Int32) then 8 else (8 : Int32)).toNatClampNeg))
  )
set_option maxRecDepth 100000 in
theorem w_X11_copyRow_41_95 {d : Nat} {s : Sg} {Q : Qt}  (H : OQ (f_X11_copyRow_41_95  s) (fun _ s9 => Q none s9)) : WpM SHC MT (d + 1) 184 [.ref 95, .ref 41] s Q := by
  refine WpM.enter me_X11_copyRow rfl rfl ?_
  show Y_X11_copyRow_41_95 d Q 0 [(0, .ref 95), (1, .ref 41)] [] s
  unfold f_X11_copyRow_41_95 at H
  refine Wp.r_aload_n o_X11_copyRow rfl rfl (Wp.r_iconst o_X11_copyRow rfl (Wp.r_aload_n o_X11_copyRow rfl rfl (Wp.r_iconst o_X11_copyRow rfl (Wp.r_aload_n o_X11_copyRow rfl rfl (Wp.r_alen o_X11_copyRow rfl lk_C_95 (Wp.r_aload_n o_X11_copyRow rfl rfl (Wp.r_alen o_X11_copyRow rfl lk_C_41 (Wp.r_min o_X11_copyRow rfl (⟨rm8_ rfl, ?_⟩)))))))))
  obtain ⟨c9, H⟩ := oq_ck H
  refine Wp.run 1 (show room8 [] ∧ (¬ (0 : Int32) < 0 ∧ ¬ (0 : Int32) < 0 ∧ ¬ (if 8 < (8 : Int32) then 8 else (8 : Int32)) < 0 ∧ 0 + (if 8 < (8 : Int32) then 8 else (8 : Int32)).toNatClampNeg ≤ 8 ∧ 0 + (if 8 < (8 : Int32) then 8 else (8 : Int32)).toNatClampNeg ≤ 8) ∧ Y_X11_copyRow_41_95 d Q 14 [(0, .ref 95), (1, .ref 41)] [] (pA s 41 (va_cpy (s.1 95) (s.1 41) 0 0 (if 8 < (8 : Int32) then 8 else (8 : Int32)).toNatClampNeg)) from ⟨rm8_ rfl, c9, ?_⟩)
  exact Wp.r_return o_X11_copyRow rfl (H)
noncomputable abbrev Y_X11_copyRow_42_96 (d : Nat) (Q : Qt) : Xt := Wp SHC (WpM SHC MT (d + 0)) (flat2 cq_X11_copyRow) (none) Q
noncomputable def f_X11_copyRow_42_96  (s : Sg) : Option (Unit × Sg) :=
  ck (¬ (0 : Int32) < 0 ∧ ¬ (0 : Int32) < 0 ∧ ¬ (if 8 < (8 : Int32) then 8 else (8 : Int32)) < 0 ∧ 0 + (if 8 < (8 : Int32) then 8 else (8 : Int32)).toNatClampNeg ≤ 8 ∧ 0 + (if 8 < (8 : Int32) then 8 else (8 : Int32)).toNatClampNeg ≤ 8) (
  some ((), pA s 42 (va_cpy (s.1 96) (s.1 42) 0 0 (if 8 < (8 : Int32) then 8 else (8 : Int32)).toNatClampNeg))
  )
set_option maxRecDepth 100000 in
theorem w_X11_copyRow_42_96 {d : Nat} {s : Sg} {Q : Qt}  (H : OQ (f_X11_copyRow_42_96  s) (fun _ s9 => Q none s9)) : WpM SHC MT (d + 1) 184 [.ref 96, .ref 42] s Q := by
  refine WpM.enter me_X11_copyRow rfl rfl ?_
  show Y_X11_copyRow_42_96 d Q 0 [(0, .ref 96), (1, .ref 42)] [] s
  unfold f_X11_copyRow_42_96 at H
  refine Wp.r_aload_n o_X11_copyRow rfl rfl (Wp.r_iconst o_X11_copyRow rfl (Wp.r_aload_n o_X11_copyRow rfl rfl (Wp.r_iconst o_X11_copyRow rfl (Wp.r_aload_n o_X11_copyRow rfl rfl (Wp.r_alen o_X11_copyRow rfl lk_C_96 (Wp.r_aload_n o_X11_copyRow rfl rfl (Wp.r_alen o_X11_copyRow rfl lk_C_42 (Wp.r_min o_X11_copyRow rfl (⟨rm8_ rfl, ?_⟩)))))))))
  obtain ⟨c9, H⟩ := oq_ck H
  refine Wp.run 1 (show room8 [] ∧ (¬ (0 : Int32) < 0 ∧ ¬ (0 : Int32) < 0 ∧ ¬ (if 8 < (8 : Int32) then 8 else (8 : Int32)) < 0 ∧ 0 + (if 8 < (8 : Int32) then 8 else (8 : Int32)).toNatClampNeg ≤ 8 ∧ 0 + (if 8 < (8 : Int32) then 8 else (8 : Int32)).toNatClampNeg ≤ 8) ∧ Y_X11_copyRow_42_96 d Q 14 [(0, .ref 96), (1, .ref 42)] [] (pA s 42 (va_cpy (s.1 96) (s.1 42) 0 0 (if 8 < (8 : Int32) then 8 else (8 : Int32)).toNatClampNeg)) from ⟨rm8_ rfl, c9, ?_⟩)
  exact Wp.r_return o_X11_copyRow rfl (H)
noncomputable abbrev Y_X11_copyRow_43_97 (d : Nat) (Q : Qt) : Xt := Wp SHC (WpM SHC MT (d + 0)) (flat2 cq_X11_copyRow) (none) Q
noncomputable def f_X11_copyRow_43_97  (s : Sg) : Option (Unit × Sg) :=
  ck (¬ (0 : Int32) < 0 ∧ ¬ (0 : Int32) < 0 ∧ ¬ (if 8 < (8 : Int32) then 8 else (8 : Int32)) < 0 ∧ 0 + (if 8 < (8 : Int32) then 8 else (8 : Int32)).toNatClampNeg ≤ 8 ∧ 0 + (if 8 < (8 : Int32) then 8 else (8 : Int32)).toNatClampNeg ≤ 8) (
  some ((), pA s 43 (va_cpy (s.1 97) (s.1 43) 0 0 (if 8 < (8 : Int32) then 8 else (8 : Int32)).toNatClampNeg))
  )
set_option maxRecDepth 100000 in
theorem w_X11_copyRow_43_97 {d : Nat} {s : Sg} {Q : Qt}  (H : OQ (f_X11_copyRow_43_97  s) (fun _ s9 => Q none s9)) : WpM SHC MT (d + 1) 184 [.ref 97, .ref 43] s Q := by
  refine WpM.enter me_X11_copyRow rfl rfl ?_
  show Y_X11_copyRow_43_97 d Q 0 [(0, .ref 97), (1, .ref 43)] [] s
  unfold f_X11_copyRow_43_97 at H
  refine Wp.r_aload_n o_X11_copyRow rfl rfl (Wp.r_iconst o_X11_copyRow rfl (Wp.r_aload_n o_X11_copyRow rfl rfl (Wp.r_iconst o_X11_copyRow rfl (Wp.r_aload_n o_X11_copyRow rfl rfl (Wp.r_alen o_X11_copyRow rfl lk_C_97 (Wp.r_aload_n o_X11_copyRow rfl rfl (Wp.r_alen o_X11_copyRow rfl lk_C_43 (Wp.r_min o_X11_copyRow rfl (⟨rm8_ rfl, ?_⟩)))))))))
  obtain ⟨c9, H⟩ := oq_ck H
  refine Wp.run 1 (show room8 [] ∧ (¬ (0 : Int32) < 0 ∧ ¬ (0 : Int32) < 0 ∧ ¬ (if 8 < (8 : Int32) then 8 else (8 : Int32)) < 0 ∧ 0 + (if 8 < (8 : Int32) then 8 else (8 : Int32)).toNatClampNeg ≤ 8 ∧ 0 + (if 8 < (8 : Int32) then 8 else (8 : Int32)).toNatClampNeg ≤ 8) ∧ Y_X11_copyRow_43_97 d Q 14 [(0, .ref 97), (1, .ref 43)] [] (pA s 43 (va_cpy (s.1 97) (s.1 43) 0 0 (if 8 < (8 : Int32) then 8 else (8 : Int32)).toNatClampNeg)) from ⟨rm8_ rfl, c9, ?_⟩)
  exact Wp.r_return o_X11_copyRow rfl (H)
noncomputable abbrev Y_X11_copyRow_44_98 (d : Nat) (Q : Qt) : Xt := Wp SHC (WpM SHC MT (d + 0)) (flat2 cq_X11_copyRow) (none) Q
noncomputable def f_X11_copyRow_44_98  (s : Sg) : Option (Unit × Sg) :=
  ck (¬ (0 : Int32) < 0 ∧ ¬ (0 : Int32) < 0 ∧ ¬ (if 4 < (4 : Int32) then 4 else (4 : Int32)) < 0 ∧ 0 + (if 4 < (4 : Int32) then 4 else (4 : Int32)).toNatClampNeg ≤ 4 ∧ 0 + (if 4 < (4 : Int32) then 4 else (4 : Int32)).toNatClampNeg ≤ 4) (
  some ((), pA s 44 (va_cpy (s.1 98) (s.1 44) 0 0 (if 4 < (4 : Int32) then 4 else (4 : Int32)).toNatClampNeg))
  )
set_option maxRecDepth 100000 in
theorem w_X11_copyRow_44_98 {d : Nat} {s : Sg} {Q : Qt}  (H : OQ (f_X11_copyRow_44_98  s) (fun _ s9 => Q none s9)) : WpM SHC MT (d + 1) 184 [.ref 98, .ref 44] s Q := by
  refine WpM.enter me_X11_copyRow rfl rfl ?_
  show Y_X11_copyRow_44_98 d Q 0 [(0, .ref 98), (1, .ref 44)] [] s
  unfold f_X11_copyRow_44_98 at H
  refine Wp.r_aload_n o_X11_copyRow rfl rfl (Wp.r_iconst o_X11_copyRow rfl (Wp.r_aload_n o_X11_copyRow rfl rfl (Wp.r_iconst o_X11_copyRow rfl (Wp.r_aload_n o_X11_copyRow rfl rfl (Wp.r_alen o_X11_copyRow rfl lk_C_98 (Wp.r_aload_n o_X11_copyRow rfl rfl (Wp.r_alen o_X11_copyRow rfl lk_C_44 (Wp.r_min o_X11_copyRow rfl (⟨rm8_ rfl, ?_⟩)))))))))
  obtain ⟨c9, H⟩ := oq_ck H
  refine Wp.run 1 (show room8 [] ∧ (¬ (0 : Int32) < 0 ∧ ¬ (0 : Int32) < 0 ∧ ¬ (if 4 < (4 : Int32) then 4 else (4 : Int32)) < 0 ∧ 0 + (if 4 < (4 : Int32) then 4 else (4 : Int32)).toNatClampNeg ≤ 4 ∧ 0 + (if 4 < (4 : Int32) then 4 else (4 : Int32)).toNatClampNeg ≤ 4) ∧ Y_X11_copyRow_44_98 d Q 14 [(0, .ref 98), (1, .ref 44)] [] (pA s 44 (va_cpy (s.1 98) (s.1 44) 0 0 (if 4 < (4 : Int32) then 4 else (4 : Int32)).toNatClampNeg)) from ⟨rm8_ rfl, c9, ?_⟩)
  exact Wp.r_return o_X11_copyRow rfl (H)
noncomputable abbrev Y_X2_copyFrom_80 (d : Nat) (Q : Qt) : Xt := Wp SHC (WpM SHC MT (d + 1)) (flat2 cq_X2_copyFrom) (none) Q
noncomputable def f_X2_copyFrom_80  (s : Sg) : Option (Unit × Sg) :=
  bd (f_X11_copyRow_40_94 s) (fun _ s2 =>
  bd (f_X11_copyRow_41_95 s2) (fun _ s4 =>
  bd (f_X11_copyRow_42_96 s4) (fun _ s6 =>
  bd (f_X11_copyRow_43_97 s6) (fun _ s8 =>
  bd (f_X11_copyRow_44_98 s8) (fun _ s10 =>
  nmx (pI (pI s10 26 5 (s10.1 80 5)) 26 6 ((pI s10 26 5 (s10.1 80 5)).1 80 6)) (fun s11 =>
  ck ((s11.1 80 7) = 0 ∨ (s11.1 80 7) = 1) (
  nmx (pI (pI s11 26 7 (s11.1 80 7)) 26 8 ((pI s11 26 7 (s11.1 80 7)).1 80 8)) (fun s13 =>
  nmx (pI (pI s13 26 9 (s13.1 80 9)) 26 10 ((pI s13 26 9 (s13.1 80 9)).1 80 10)) (fun s14 =>
  nmx (pI (pI s14 26 11 (s14.1 80 11)) 26 12 ((pI s14 26 11 (s14.1 80 11)).1 80 12)) (fun s15 =>
  some ((), s15)
  )
  )
  )
  )
  )
  )
  )
  )
  )
  )
set_option maxRecDepth 100000 in
theorem w_X2_copyFrom_80 {d : Nat} {s : Sg} {Q : Qt}  (H : OQ (f_X2_copyFrom_80  s) (fun _ s9 => Q none s9)) : WpM SHC MT (d + 2) 21 [.ref 26, .ref 80] s Q := by
  refine WpM.enter me_X2_copyFrom rfl rfl ?_
  show Y_X2_copyFrom_80 d Q 0 [(0, .ref 26), (1, .ref 80)] [] s
  unfold f_X2_copyFrom_80 at H
  refine Wp.r_aload_n o_X2_copyFrom rfl rfl (Wp.r_gfr o_X2_copyFrom rfl fk_C_80_0 (Wp.r_aload_n o_X2_copyFrom rfl rfl (Wp.r_gfr o_X2_copyFrom rfl fk_C_26_0 (Wp.r_cs2 o_X2_copyFrom rfl (⟨rm8_ rfl, ?_⟩)))))
  refine w_X11_copyRow_40_94 (d := d)  ?_
  refine oq_bd H (fun _ s2 H => ?_)
  show Y_X2_copyFrom_80 d Q 11 [(0, .ref 26), (1, .ref 80)] [] s2
  refine Wp.r_aload_n o_X2_copyFrom rfl rfl (Wp.r_gfr o_X2_copyFrom rfl fk_C_80_1 (Wp.r_aload_n o_X2_copyFrom rfl rfl (Wp.r_gfr o_X2_copyFrom rfl fk_C_26_1 (Wp.r_cs2 o_X2_copyFrom rfl (⟨rm8_ rfl, ?_⟩)))))
  refine w_X11_copyRow_41_95 (d := d)  ?_
  refine oq_bd H (fun _ s4 H => ?_)
  show Y_X2_copyFrom_80 d Q 22 [(0, .ref 26), (1, .ref 80)] [] s4
  refine Wp.r_aload_n o_X2_copyFrom rfl rfl (Wp.r_gfr o_X2_copyFrom rfl fk_C_80_2 (Wp.r_aload_n o_X2_copyFrom rfl rfl (Wp.r_gfr o_X2_copyFrom rfl fk_C_26_2 (Wp.r_cs2 o_X2_copyFrom rfl (⟨rm8_ rfl, ?_⟩)))))
  refine w_X11_copyRow_42_96 (d := d)  ?_
  refine oq_bd H (fun _ s6 H => ?_)
  show Y_X2_copyFrom_80 d Q 33 [(0, .ref 26), (1, .ref 80)] [] s6
  refine Wp.r_aload_n o_X2_copyFrom rfl rfl (Wp.r_gfr o_X2_copyFrom rfl fk_C_80_3 (Wp.r_aload_n o_X2_copyFrom rfl rfl (Wp.r_gfr o_X2_copyFrom rfl fk_C_26_3 (Wp.r_cs2 o_X2_copyFrom rfl (⟨rm8_ rfl, ?_⟩)))))
  refine w_X11_copyRow_43_97 (d := d)  ?_
  refine oq_bd H (fun _ s8 H => ?_)
  show Y_X2_copyFrom_80 d Q 44 [(0, .ref 26), (1, .ref 80)] [] s8
  refine Wp.r_aload_n o_X2_copyFrom rfl rfl (Wp.r_gfr o_X2_copyFrom rfl fk_C_80_4 (Wp.r_aload_n o_X2_copyFrom rfl rfl (Wp.r_gfr o_X2_copyFrom rfl fk_C_26_4 (Wp.r_cs2 o_X2_copyFrom rfl (⟨rm8_ rfl, ?_⟩)))))
  refine w_X11_copyRow_44_98 (d := d)  ?_
  refine oq_bd H (fun _ s10 H => ?_)
  show Y_X2_copyFrom_80 d Q 55 [(0, .ref 26), (1, .ref 80)] [] s10
  refine Wp.r_aload_n o_X2_copyFrom rfl rfl (Wp.r_aload_n o_X2_copyFrom rfl rfl (Wp.r_gfi o_X2_copyFrom rfl fk_C_80_5 (Wp.r_pfi o_X2_copyFrom rfl fk_C_26_5 (Wp.r_aload_n o_X2_copyFrom rfl rfl (Wp.r_aload_n o_X2_copyFrom rfl rfl (Wp.r_gfi o_X2_copyFrom rfl fk_C_80_6 (Wp.r_pfi o_X2_copyFrom rfl fk_C_26_6 (show Y_X2_copyFrom_80 d Q 71 [(0, .ref 26), (1, .ref 80)] [] (pI (pI s10 26 5 (s10.1 80 5)) 26 6 ((pI s10 26 5 (s10.1 80 5)).1 80 6)) from ?_))))))))
  revert H
  generalize pI (pI s10 26 5 (s10.1 80 5)) 26 6 ((pI s10 26 5 (s10.1 80 5)).1 80 6) = s11
  intro H
  have H := nmx_e H
  obtain ⟨hc12, H⟩ := oq_ck H
  refine Wp.r_aload_n o_X2_copyFrom rfl rfl (Wp.r_aload_n o_X2_copyFrom rfl rfl (Wp.r_gfi o_X2_copyFrom rfl fk_C_80_7 (Wp.r_pfz o_X2_copyFrom rfl fk_C_26_7 (⟨hc12, ?_⟩))))
  refine Wp.r_aload_n o_X2_copyFrom rfl rfl (Wp.r_aload_n o_X2_copyFrom rfl rfl (Wp.r_gfi o_X2_copyFrom rfl fk_C_80_8 (Wp.r_pfi o_X2_copyFrom rfl fk_C_26_8 (show Y_X2_copyFrom_80 d Q 87 [(0, .ref 26), (1, .ref 80)] [] (pI (pI s11 26 7 (s11.1 80 7)) 26 8 ((pI s11 26 7 (s11.1 80 7)).1 80 8)) from ?_))))
  revert H
  generalize pI (pI s11 26 7 (s11.1 80 7)) 26 8 ((pI s11 26 7 (s11.1 80 7)).1 80 8) = s13
  intro H
  have H := nmx_e H
  refine Wp.r_aload_n o_X2_copyFrom rfl rfl (Wp.r_aload_n o_X2_copyFrom rfl rfl (Wp.r_gfi o_X2_copyFrom rfl fk_C_80_9 (Wp.r_pfi o_X2_copyFrom rfl fk_C_26_9 (Wp.r_aload_n o_X2_copyFrom rfl rfl (Wp.r_aload_n o_X2_copyFrom rfl rfl (Wp.r_gfi o_X2_copyFrom rfl fk_C_80_10 (Wp.r_pfi o_X2_copyFrom rfl fk_C_26_10 (show Y_X2_copyFrom_80 d Q 103 [(0, .ref 26), (1, .ref 80)] [] (pI (pI s13 26 9 (s13.1 80 9)) 26 10 ((pI s13 26 9 (s13.1 80 9)).1 80 10)) from ?_))))))))
  revert H
  generalize pI (pI s13 26 9 (s13.1 80 9)) 26 10 ((pI s13 26 9 (s13.1 80 9)).1 80 10) = s14
  intro H
  have H := nmx_e H
  refine Wp.r_aload_n o_X2_copyFrom rfl rfl (Wp.r_aload_n o_X2_copyFrom rfl rfl (Wp.r_gfi o_X2_copyFrom rfl fk_C_80_11 (Wp.r_pfi o_X2_copyFrom rfl fk_C_26_11 (Wp.r_aload_n o_X2_copyFrom rfl rfl (Wp.r_aload_n o_X2_copyFrom rfl rfl (Wp.r_gfi o_X2_copyFrom rfl fk_C_80_12 (Wp.r_pfi o_X2_copyFrom rfl fk_C_26_12 (show Y_X2_copyFrom_80 d Q 119 [(0, .ref 26), (1, .ref 80)] [] (pI (pI s14 26 11 (s14.1 80 11)) 26 12 ((pI s14 26 11 (s14.1 80 11)).1 80 12)) from ?_))))))))
  revert H
  generalize pI (pI s14 26 11 (s14.1 80 11)) 26 12 ((pI s14 26 11 (s14.1 80 11)).1 80 12) = s15
  intro H
  have H := nmx_e H
  exact Wp.r_return o_X2_copyFrom rfl (H)
noncomputable abbrev Y_X11_copyRow_45_99 (d : Nat) (Q : Qt) : Xt := Wp SHC (WpM SHC MT (d + 0)) (flat2 cq_X11_copyRow) (none) Q
noncomputable def f_X11_copyRow_45_99  (s : Sg) : Option (Unit × Sg) :=
  ck (¬ (0 : Int32) < 0 ∧ ¬ (0 : Int32) < 0 ∧ ¬ (if 60 < (60 : Int32) then 60 else (60 : Int32)) < 0 ∧ 0 + (if 60 < (60 : Int32) then 60 else (60 : Int32)).toNatClampNeg ≤ 60 ∧ 0 + (if 60 < (60 : Int32) then 60 else (60 : Int32)).toNatClampNeg ≤ 60) (
  some ((), pA s 45 (va_cpy (s.1 99) (s.1 45) 0 0 (if 60 < (60 : Int32) then 60 else (60 : Int32)).toNatClampNeg))
  )
set_option maxRecDepth 100000 in
theorem w_X11_copyRow_45_99 {d : Nat} {s : Sg} {Q : Qt}  (H : OQ (f_X11_copyRow_45_99  s) (fun _ s9 => Q none s9)) : WpM SHC MT (d + 1) 184 [.ref 99, .ref 45] s Q := by
  refine WpM.enter me_X11_copyRow rfl rfl ?_
  show Y_X11_copyRow_45_99 d Q 0 [(0, .ref 99), (1, .ref 45)] [] s
  unfold f_X11_copyRow_45_99 at H
  refine Wp.r_aload_n o_X11_copyRow rfl rfl (Wp.r_iconst o_X11_copyRow rfl (Wp.r_aload_n o_X11_copyRow rfl rfl (Wp.r_iconst o_X11_copyRow rfl (Wp.r_aload_n o_X11_copyRow rfl rfl (Wp.r_alen o_X11_copyRow rfl lk_C_99 (Wp.r_aload_n o_X11_copyRow rfl rfl (Wp.r_alen o_X11_copyRow rfl lk_C_45 (Wp.r_min o_X11_copyRow rfl (⟨rm8_ rfl, ?_⟩)))))))))
  obtain ⟨c9, H⟩ := oq_ck H
  refine Wp.run 1 (show room8 [] ∧ (¬ (0 : Int32) < 0 ∧ ¬ (0 : Int32) < 0 ∧ ¬ (if 60 < (60 : Int32) then 60 else (60 : Int32)) < 0 ∧ 0 + (if 60 < (60 : Int32) then 60 else (60 : Int32)).toNatClampNeg ≤ 60 ∧ 0 + (if 60 < (60 : Int32) then 60 else (60 : Int32)).toNatClampNeg ≤ 60) ∧ Y_X11_copyRow_45_99 d Q 14 [(0, .ref 99), (1, .ref 45)] [] (pA s 45 (va_cpy (s.1 99) (s.1 45) 0 0 (if 60 < (60 : Int32) then 60 else (60 : Int32)).toNatClampNeg)) from ⟨rm8_ rfl, c9, ?_⟩)
  exact Wp.r_return o_X11_copyRow rfl (H)
noncomputable abbrev Y_X11_copyRow_46_100 (d : Nat) (Q : Qt) : Xt := Wp SHC (WpM SHC MT (d + 0)) (flat2 cq_X11_copyRow) (none) Q
noncomputable def f_X11_copyRow_46_100  (s : Sg) : Option (Unit × Sg) :=
  ck (¬ (0 : Int32) < 0 ∧ ¬ (0 : Int32) < 0 ∧ ¬ (if 60 < (60 : Int32) then 60 else (60 : Int32)) < 0 ∧ 0 + (if 60 < (60 : Int32) then 60 else (60 : Int32)).toNatClampNeg ≤ 60 ∧ 0 + (if 60 < (60 : Int32) then 60 else (60 : Int32)).toNatClampNeg ≤ 60) (
  some ((), pA s 46 (va_cpy (s.1 100) (s.1 46) 0 0 (if 60 < (60 : Int32) then 60 else (60 : Int32)).toNatClampNeg))
  )
set_option maxRecDepth 100000 in
theorem w_X11_copyRow_46_100 {d : Nat} {s : Sg} {Q : Qt}  (H : OQ (f_X11_copyRow_46_100  s) (fun _ s9 => Q none s9)) : WpM SHC MT (d + 1) 184 [.ref 100, .ref 46] s Q := by
  refine WpM.enter me_X11_copyRow rfl rfl ?_
  show Y_X11_copyRow_46_100 d Q 0 [(0, .ref 100), (1, .ref 46)] [] s
  unfold f_X11_copyRow_46_100 at H
  refine Wp.r_aload_n o_X11_copyRow rfl rfl (Wp.r_iconst o_X11_copyRow rfl (Wp.r_aload_n o_X11_copyRow rfl rfl (Wp.r_iconst o_X11_copyRow rfl (Wp.r_aload_n o_X11_copyRow rfl rfl (Wp.r_alen o_X11_copyRow rfl lk_C_100 (Wp.r_aload_n o_X11_copyRow rfl rfl (Wp.r_alen o_X11_copyRow rfl lk_C_46 (Wp.r_min o_X11_copyRow rfl (⟨rm8_ rfl, ?_⟩)))))))))
  obtain ⟨c9, H⟩ := oq_ck H
  refine Wp.run 1 (show room8 [] ∧ (¬ (0 : Int32) < 0 ∧ ¬ (0 : Int32) < 0 ∧ ¬ (if 60 < (60 : Int32) then 60 else (60 : Int32)) < 0 ∧ 0 + (if 60 < (60 : Int32) then 60 else (60 : Int32)).toNatClampNeg ≤ 60 ∧ 0 + (if 60 < (60 : Int32) then 60 else (60 : Int32)).toNatClampNeg ≤ 60) ∧ Y_X11_copyRow_46_100 d Q 14 [(0, .ref 100), (1, .ref 46)] [] (pA s 46 (va_cpy (s.1 100) (s.1 46) 0 0 (if 60 < (60 : Int32) then 60 else (60 : Int32)).toNatClampNeg)) from ⟨rm8_ rfl, c9, ?_⟩)
  exact Wp.r_return o_X11_copyRow rfl (H)
noncomputable abbrev Y_X11_copyRow_47_101 (d : Nat) (Q : Qt) : Xt := Wp SHC (WpM SHC MT (d + 0)) (flat2 cq_X11_copyRow) (none) Q
noncomputable def f_X11_copyRow_47_101  (s : Sg) : Option (Unit × Sg) :=
  ck (¬ (0 : Int32) < 0 ∧ ¬ (0 : Int32) < 0 ∧ ¬ (if 60 < (60 : Int32) then 60 else (60 : Int32)) < 0 ∧ 0 + (if 60 < (60 : Int32) then 60 else (60 : Int32)).toNatClampNeg ≤ 60 ∧ 0 + (if 60 < (60 : Int32) then 60 else (60 : Int32)).toNatClampNeg ≤ 60) (
  some ((), pA s 47 (va_cpy (s.1 101) (s.1 47) 0 0 (if 60 < (60 : Int32) then 60 else (60 : Int32)).toNatClampNeg))
  )
set_option maxRecDepth 100000 in
theorem w_X11_copyRow_47_101 {d : Nat} {s : Sg} {Q : Qt}  (H : OQ (f_X11_copyRow_47_101  s) (fun _ s9 => Q none s9)) : WpM SHC MT (d + 1) 184 [.ref 101, .ref 47] s Q := by
  refine WpM.enter me_X11_copyRow rfl rfl ?_
  show Y_X11_copyRow_47_101 d Q 0 [(0, .ref 101), (1, .ref 47)] [] s
  unfold f_X11_copyRow_47_101 at H
  refine Wp.r_aload_n o_X11_copyRow rfl rfl (Wp.r_iconst o_X11_copyRow rfl (Wp.r_aload_n o_X11_copyRow rfl rfl (Wp.r_iconst o_X11_copyRow rfl (Wp.r_aload_n o_X11_copyRow rfl rfl (Wp.r_alen o_X11_copyRow rfl lk_C_101 (Wp.r_aload_n o_X11_copyRow rfl rfl (Wp.r_alen o_X11_copyRow rfl lk_C_47 (Wp.r_min o_X11_copyRow rfl (⟨rm8_ rfl, ?_⟩)))))))))
  obtain ⟨c9, H⟩ := oq_ck H
  refine Wp.run 1 (show room8 [] ∧ (¬ (0 : Int32) < 0 ∧ ¬ (0 : Int32) < 0 ∧ ¬ (if 60 < (60 : Int32) then 60 else (60 : Int32)) < 0 ∧ 0 + (if 60 < (60 : Int32) then 60 else (60 : Int32)).toNatClampNeg ≤ 60 ∧ 0 + (if 60 < (60 : Int32) then 60 else (60 : Int32)).toNatClampNeg ≤ 60) ∧ Y_X11_copyRow_47_101 d Q 14 [(0, .ref 101), (1, .ref 47)] [] (pA s 47 (va_cpy (s.1 101) (s.1 47) 0 0 (if 60 < (60 : Int32) then 60 else (60 : Int32)).toNatClampNeg)) from ⟨rm8_ rfl, c9, ?_⟩)
  exact Wp.r_return o_X11_copyRow rfl (H)
noncomputable abbrev Y_X11_copyRow_48_102 (d : Nat) (Q : Qt) : Xt := Wp SHC (WpM SHC MT (d + 0)) (flat2 cq_X11_copyRow) (none) Q
noncomputable def f_X11_copyRow_48_102  (s : Sg) : Option (Unit × Sg) :=
  ck (¬ (0 : Int32) < 0 ∧ ¬ (0 : Int32) < 0 ∧ ¬ (if 60 < (60 : Int32) then 60 else (60 : Int32)) < 0 ∧ 0 + (if 60 < (60 : Int32) then 60 else (60 : Int32)).toNatClampNeg ≤ 60 ∧ 0 + (if 60 < (60 : Int32) then 60 else (60 : Int32)).toNatClampNeg ≤ 60) (
  some ((), pA s 48 (va_cpy (s.1 102) (s.1 48) 0 0 (if 60 < (60 : Int32) then 60 else (60 : Int32)).toNatClampNeg))
  )
set_option maxRecDepth 100000 in
theorem w_X11_copyRow_48_102 {d : Nat} {s : Sg} {Q : Qt}  (H : OQ (f_X11_copyRow_48_102  s) (fun _ s9 => Q none s9)) : WpM SHC MT (d + 1) 184 [.ref 102, .ref 48] s Q := by
  refine WpM.enter me_X11_copyRow rfl rfl ?_
  show Y_X11_copyRow_48_102 d Q 0 [(0, .ref 102), (1, .ref 48)] [] s
  unfold f_X11_copyRow_48_102 at H
  refine Wp.r_aload_n o_X11_copyRow rfl rfl (Wp.r_iconst o_X11_copyRow rfl (Wp.r_aload_n o_X11_copyRow rfl rfl (Wp.r_iconst o_X11_copyRow rfl (Wp.r_aload_n o_X11_copyRow rfl rfl (Wp.r_alen o_X11_copyRow rfl lk_C_102 (Wp.r_aload_n o_X11_copyRow rfl rfl (Wp.r_alen o_X11_copyRow rfl lk_C_48 (Wp.r_min o_X11_copyRow rfl (⟨rm8_ rfl, ?_⟩)))))))))
  obtain ⟨c9, H⟩ := oq_ck H
  refine Wp.run 1 (show room8 [] ∧ (¬ (0 : Int32) < 0 ∧ ¬ (0 : Int32) < 0 ∧ ¬ (if 60 < (60 : Int32) then 60 else (60 : Int32)) < 0 ∧ 0 + (if 60 < (60 : Int32) then 60 else (60 : Int32)).toNatClampNeg ≤ 60 ∧ 0 + (if 60 < (60 : Int32) then 60 else (60 : Int32)).toNatClampNeg ≤ 60) ∧ Y_X11_copyRow_48_102 d Q 14 [(0, .ref 102), (1, .ref 48)] [] (pA s 48 (va_cpy (s.1 102) (s.1 48) 0 0 (if 60 < (60 : Int32) then 60 else (60 : Int32)).toNatClampNeg)) from ⟨rm8_ rfl, c9, ?_⟩)
  exact Wp.r_return o_X11_copyRow rfl (H)
noncomputable abbrev Y_X11_copyRow_49_103 (d : Nat) (Q : Qt) : Xt := Wp SHC (WpM SHC MT (d + 0)) (flat2 cq_X11_copyRow) (none) Q
noncomputable def f_X11_copyRow_49_103  (s : Sg) : Option (Unit × Sg) :=
  ck (¬ (0 : Int32) < 0 ∧ ¬ (0 : Int32) < 0 ∧ ¬ (if 60 < (60 : Int32) then 60 else (60 : Int32)) < 0 ∧ 0 + (if 60 < (60 : Int32) then 60 else (60 : Int32)).toNatClampNeg ≤ 60 ∧ 0 + (if 60 < (60 : Int32) then 60 else (60 : Int32)).toNatClampNeg ≤ 60) (
  some ((), pA s 49 (va_cpy (s.1 103) (s.1 49) 0 0 (if 60 < (60 : Int32) then 60 else (60 : Int32)).toNatClampNeg))
  )
set_option maxRecDepth 100000 in
theorem w_X11_copyRow_49_103 {d : Nat} {s : Sg} {Q : Qt}  (H : OQ (f_X11_copyRow_49_103  s) (fun _ s9 => Q none s9)) : WpM SHC MT (d + 1) 184 [.ref 103, .ref 49] s Q := by
  refine WpM.enter me_X11_copyRow rfl rfl ?_
  show Y_X11_copyRow_49_103 d Q 0 [(0, .ref 103), (1, .ref 49)] [] s
  unfold f_X11_copyRow_49_103 at H
  refine Wp.r_aload_n o_X11_copyRow rfl rfl (Wp.r_iconst o_X11_copyRow rfl (Wp.r_aload_n o_X11_copyRow rfl rfl (Wp.r_iconst o_X11_copyRow rfl (Wp.r_aload_n o_X11_copyRow rfl rfl (Wp.r_alen o_X11_copyRow rfl lk_C_103 (Wp.r_aload_n o_X11_copyRow rfl rfl (Wp.r_alen o_X11_copyRow rfl lk_C_49 (Wp.r_min o_X11_copyRow rfl (⟨rm8_ rfl, ?_⟩)))))))))
  obtain ⟨c9, H⟩ := oq_ck H
  refine Wp.run 1 (show room8 [] ∧ (¬ (0 : Int32) < 0 ∧ ¬ (0 : Int32) < 0 ∧ ¬ (if 60 < (60 : Int32) then 60 else (60 : Int32)) < 0 ∧ 0 + (if 60 < (60 : Int32) then 60 else (60 : Int32)).toNatClampNeg ≤ 60 ∧ 0 + (if 60 < (60 : Int32) then 60 else (60 : Int32)).toNatClampNeg ≤ 60) ∧ Y_X11_copyRow_49_103 d Q 14 [(0, .ref 103), (1, .ref 49)] [] (pA s 49 (va_cpy (s.1 103) (s.1 49) 0 0 (if 60 < (60 : Int32) then 60 else (60 : Int32)).toNatClampNeg)) from ⟨rm8_ rfl, c9, ?_⟩)
  exact Wp.r_return o_X11_copyRow rfl (H)
noncomputable abbrev Y_X11_copyRow_50_104 (d : Nat) (Q : Qt) : Xt := Wp SHC (WpM SHC MT (d + 0)) (flat2 cq_X11_copyRow) (none) Q
noncomputable def f_X11_copyRow_50_104  (s : Sg) : Option (Unit × Sg) :=
  ck (¬ (0 : Int32) < 0 ∧ ¬ (0 : Int32) < 0 ∧ ¬ (if 60 < (60 : Int32) then 60 else (60 : Int32)) < 0 ∧ 0 + (if 60 < (60 : Int32) then 60 else (60 : Int32)).toNatClampNeg ≤ 60 ∧ 0 + (if 60 < (60 : Int32) then 60 else (60 : Int32)).toNatClampNeg ≤ 60) (
  some ((), pA s 50 (va_cpy (s.1 104) (s.1 50) 0 0 (if 60 < (60 : Int32) then 60 else (60 : Int32)).toNatClampNeg))
  )
set_option maxRecDepth 100000 in
theorem w_X11_copyRow_50_104 {d : Nat} {s : Sg} {Q : Qt}  (H : OQ (f_X11_copyRow_50_104  s) (fun _ s9 => Q none s9)) : WpM SHC MT (d + 1) 184 [.ref 104, .ref 50] s Q := by
  refine WpM.enter me_X11_copyRow rfl rfl ?_
  show Y_X11_copyRow_50_104 d Q 0 [(0, .ref 104), (1, .ref 50)] [] s
  unfold f_X11_copyRow_50_104 at H
  refine Wp.r_aload_n o_X11_copyRow rfl rfl (Wp.r_iconst o_X11_copyRow rfl (Wp.r_aload_n o_X11_copyRow rfl rfl (Wp.r_iconst o_X11_copyRow rfl (Wp.r_aload_n o_X11_copyRow rfl rfl (Wp.r_alen o_X11_copyRow rfl lk_C_104 (Wp.r_aload_n o_X11_copyRow rfl rfl (Wp.r_alen o_X11_copyRow rfl lk_C_50 (Wp.r_min o_X11_copyRow rfl (⟨rm8_ rfl, ?_⟩)))))))))
  obtain ⟨c9, H⟩ := oq_ck H
  refine Wp.run 1 (show room8 [] ∧ (¬ (0 : Int32) < 0 ∧ ¬ (0 : Int32) < 0 ∧ ¬ (if 60 < (60 : Int32) then 60 else (60 : Int32)) < 0 ∧ 0 + (if 60 < (60 : Int32) then 60 else (60 : Int32)).toNatClampNeg ≤ 60 ∧ 0 + (if 60 < (60 : Int32) then 60 else (60 : Int32)).toNatClampNeg ≤ 60) ∧ Y_X11_copyRow_50_104 d Q 14 [(0, .ref 104), (1, .ref 50)] [] (pA s 50 (va_cpy (s.1 104) (s.1 50) 0 0 (if 60 < (60 : Int32) then 60 else (60 : Int32)).toNatClampNeg)) from ⟨rm8_ rfl, c9, ?_⟩)
  exact Wp.r_return o_X11_copyRow rfl (H)
noncomputable abbrev Y_X5_copyFrom_81 (d : Nat) (Q : Qt) : Xt := Wp SHC (WpM SHC MT (d + 1)) (flat2 cq_X5_copyFrom) (none) Q
noncomputable def f_X5_copyFrom_81  (s : Sg) : Option (Unit × Sg) :=
  bd (f_X11_copyRow_45_99 s) (fun _ s2 =>
  bd (f_X11_copyRow_46_100 s2) (fun _ s4 =>
  bd (f_X11_copyRow_47_101 s4) (fun _ s6 =>
  bd (f_X11_copyRow_48_102 s6) (fun _ s8 =>
  bd (f_X11_copyRow_49_103 s8) (fun _ s10 =>
  bd (f_X11_copyRow_50_104 s10) (fun _ s12 =>
  ck ((s12.1 81 6) = 0 ∨ (s12.1 81 6) = 1) (
  nmx (pI (pI s12 27 6 (s12.1 81 6)) 27 7 ((pI s12 27 6 (s12.1 81 6)).1 81 7)) (fun s14 =>
  some ((), pI s14 27 8 (s14.1 81 8))
  )
  )
  )
  )
  )
  )
  )
  )
set_option maxRecDepth 100000 in
theorem w_X5_copyFrom_81 {d : Nat} {s : Sg} {Q : Qt}  (H : OQ (f_X5_copyFrom_81  s) (fun _ s9 => Q none s9)) : WpM SHC MT (d + 2) 62 [.ref 27, .ref 81] s Q := by
  refine WpM.enter me_X5_copyFrom rfl rfl ?_
  show Y_X5_copyFrom_81 d Q 0 [(0, .ref 27), (1, .ref 81)] [] s
  unfold f_X5_copyFrom_81 at H
  refine Wp.r_aload_n o_X5_copyFrom rfl rfl (Wp.r_gfr o_X5_copyFrom rfl fk_C_81_0 (Wp.r_aload_n o_X5_copyFrom rfl rfl (Wp.r_gfr o_X5_copyFrom rfl fk_C_27_0 (Wp.r_cs2 o_X5_copyFrom rfl (⟨rm8_ rfl, ?_⟩)))))
  refine w_X11_copyRow_45_99 (d := d)  ?_
  refine oq_bd H (fun _ s2 H => ?_)
  show Y_X5_copyFrom_81 d Q 11 [(0, .ref 27), (1, .ref 81)] [] s2
  refine Wp.r_aload_n o_X5_copyFrom rfl rfl (Wp.r_gfr o_X5_copyFrom rfl fk_C_81_1 (Wp.r_aload_n o_X5_copyFrom rfl rfl (Wp.r_gfr o_X5_copyFrom rfl fk_C_27_1 (Wp.r_cs2 o_X5_copyFrom rfl (⟨rm8_ rfl, ?_⟩)))))
  refine w_X11_copyRow_46_100 (d := d)  ?_
  refine oq_bd H (fun _ s4 H => ?_)
  show Y_X5_copyFrom_81 d Q 22 [(0, .ref 27), (1, .ref 81)] [] s4
  refine Wp.r_aload_n o_X5_copyFrom rfl rfl (Wp.r_gfr o_X5_copyFrom rfl fk_C_81_2 (Wp.r_aload_n o_X5_copyFrom rfl rfl (Wp.r_gfr o_X5_copyFrom rfl fk_C_27_2 (Wp.r_cs2 o_X5_copyFrom rfl (⟨rm8_ rfl, ?_⟩)))))
  refine w_X11_copyRow_47_101 (d := d)  ?_
  refine oq_bd H (fun _ s6 H => ?_)
  show Y_X5_copyFrom_81 d Q 33 [(0, .ref 27), (1, .ref 81)] [] s6
  refine Wp.r_aload_n o_X5_copyFrom rfl rfl (Wp.r_gfr o_X5_copyFrom rfl fk_C_81_3 (Wp.r_aload_n o_X5_copyFrom rfl rfl (Wp.r_gfr o_X5_copyFrom rfl fk_C_27_3 (Wp.r_cs2 o_X5_copyFrom rfl (⟨rm8_ rfl, ?_⟩)))))
  refine w_X11_copyRow_48_102 (d := d)  ?_
  refine oq_bd H (fun _ s8 H => ?_)
  show Y_X5_copyFrom_81 d Q 44 [(0, .ref 27), (1, .ref 81)] [] s8
  refine Wp.r_aload_n o_X5_copyFrom rfl rfl (Wp.r_gfr o_X5_copyFrom rfl fk_C_81_4 (Wp.r_aload_n o_X5_copyFrom rfl rfl (Wp.r_gfr o_X5_copyFrom rfl fk_C_27_4 (Wp.r_cs2 o_X5_copyFrom rfl (⟨rm8_ rfl, ?_⟩)))))
  refine w_X11_copyRow_49_103 (d := d)  ?_
  refine oq_bd H (fun _ s10 H => ?_)
  show Y_X5_copyFrom_81 d Q 55 [(0, .ref 27), (1, .ref 81)] [] s10
  refine Wp.r_aload_n o_X5_copyFrom rfl rfl (Wp.r_gfr o_X5_copyFrom rfl fk_C_81_5 (Wp.r_aload_n o_X5_copyFrom rfl rfl (Wp.r_gfr o_X5_copyFrom rfl fk_C_27_5 (Wp.r_cs2 o_X5_copyFrom rfl (⟨rm8_ rfl, ?_⟩)))))
  refine w_X11_copyRow_50_104 (d := d)  ?_
  refine oq_bd H (fun _ s12 H => ?_)
  show Y_X5_copyFrom_81 d Q 66 [(0, .ref 27), (1, .ref 81)] [] s12
  obtain ⟨hc13, H⟩ := oq_ck H
  refine Wp.r_aload_n o_X5_copyFrom rfl rfl (Wp.r_aload_n o_X5_copyFrom rfl rfl (Wp.r_gfi o_X5_copyFrom rfl fk_C_81_6 (Wp.r_pfz o_X5_copyFrom rfl fk_C_27_6 (⟨hc13, ?_⟩))))
  refine Wp.r_aload_n o_X5_copyFrom rfl rfl (Wp.r_aload_n o_X5_copyFrom rfl rfl (Wp.r_gfi o_X5_copyFrom rfl fk_C_81_7 (Wp.r_pfi o_X5_copyFrom rfl fk_C_27_7 (show Y_X5_copyFrom_81 d Q 82 [(0, .ref 27), (1, .ref 81)] [] (pI (pI s12 27 6 (s12.1 81 6)) 27 7 ((pI s12 27 6 (s12.1 81 6)).1 81 7)) from ?_))))
  revert H
  generalize pI (pI s12 27 6 (s12.1 81 6)) 27 7 ((pI s12 27 6 (s12.1 81 6)).1 81 7) = s14
  intro H
  have H := nmx_e H
  exact Wp.r_aload_n o_X5_copyFrom rfl rfl (Wp.r_aload_n o_X5_copyFrom rfl rfl (Wp.r_gfi o_X5_copyFrom rfl fk_C_81_8 (Wp.r_pfi o_X5_copyFrom rfl fk_C_27_8 (Wp.r_return o_X5_copyFrom rfl (H)))))
noncomputable abbrev Y_X10_copyFrom_78 (d : Nat) (Q : Qt) : Xt := Wp SHC (WpM SHC MT (d + 2)) (flat2 cq_X10_copyFrom) (none) Q
noncomputable def f_X10_copyFrom_78  (s : Sg) : Option (Unit × Sg) :=
  bd (f_X4_copyFrom_79 s) (fun _ s2 =>
  bd (f_X2_copyFrom_80 s2) (fun _ s4 =>
  bd (f_X5_copyFrom_81 s4) (fun _ s6 =>
  some ((), s6)
  )
  )
  )
set_option maxRecDepth 100000 in
theorem w_X10_copyFrom_78 {d : Nat} {s : Sg} {Q : Qt}  (H : OQ (f_X10_copyFrom_78  s) (fun _ s9 => Q none s9)) : WpM SHC MT (d + 3) 101 [.ref 24, .ref 78] s Q := by
  refine WpM.enter me_X10_copyFrom rfl rfl ?_
  show Y_X10_copyFrom_78 d Q 0 [(0, .ref 24), (1, .ref 78)] [] s
  unfold f_X10_copyFrom_78 at H
  refine Wp.r_aload_n o_X10_copyFrom rfl rfl (Wp.r_gfr o_X10_copyFrom rfl fk_C_24_0 (Wp.r_aload_n o_X10_copyFrom rfl rfl (Wp.r_gfr o_X10_copyFrom rfl fk_C_78_0 (Wp.r_cv2 o_X10_copyFrom rfl fk_C_25_0 (⟨rm8_ rfl, ?_⟩)))))
  refine w_X4_copyFrom_79 (d := d)  ?_
  refine oq_bd H (fun _ s2 H => ?_)
  show Y_X10_copyFrom_78 d Q 11 [(0, .ref 24), (1, .ref 78)] [] s2
  refine Wp.r_aload_n o_X10_copyFrom rfl rfl (Wp.r_gfr o_X10_copyFrom rfl fk_C_24_1 (Wp.r_aload_n o_X10_copyFrom rfl rfl (Wp.r_gfr o_X10_copyFrom rfl fk_C_78_1 (Wp.r_cv2 o_X10_copyFrom rfl fk_C_26_0 (⟨rm8_ rfl, ?_⟩)))))
  refine w_X2_copyFrom_80 (d := d)  ?_
  refine oq_bd H (fun _ s4 H => ?_)
  show Y_X10_copyFrom_78 d Q 22 [(0, .ref 24), (1, .ref 78)] [] s4
  refine Wp.r_aload_n o_X10_copyFrom rfl rfl (Wp.r_gfr o_X10_copyFrom rfl fk_C_24_2 (Wp.r_aload_n o_X10_copyFrom rfl rfl (Wp.r_gfr o_X10_copyFrom rfl fk_C_78_2 (Wp.r_cv2 o_X10_copyFrom rfl fk_C_27_0 (⟨rm8_ rfl, ?_⟩)))))
  refine w_X5_copyFrom_81 (d := d)  ?_
  refine oq_bd H (fun _ s6 H => ?_)
  show Y_X10_copyFrom_78 d Q 33 [(0, .ref 24), (1, .ref 78)] [] s6
  exact Wp.r_return o_X10_copyFrom rfl (H)
noncomputable abbrev Y_X11_copyRow_29_110 (d : Nat) (Q : Qt) : Xt := Wp SHC (WpM SHC MT (d + 0)) (flat2 cq_X11_copyRow) (none) Q
noncomputable def f_X11_copyRow_29_110  (s : Sg) : Option (Unit × Sg) :=
  ck (¬ (0 : Int32) < 0 ∧ ¬ (0 : Int32) < 0 ∧ ¬ (if 24 < (24 : Int32) then 24 else (24 : Int32)) < 0 ∧ 0 + (if 24 < (24 : Int32) then 24 else (24 : Int32)).toNatClampNeg ≤ 24 ∧ 0 + (if 24 < (24 : Int32) then 24 else (24 : Int32)).toNatClampNeg ≤ 24) (
  some ((), pA s 29 (va_cpy (s.1 110) (s.1 29) 0 0 (if 24 < (24 : Int32) then 24 else (24 : Int32)).toNatClampNeg))
  )
set_option maxRecDepth 100000 in
theorem w_X11_copyRow_29_110 {d : Nat} {s : Sg} {Q : Qt}  (H : OQ (f_X11_copyRow_29_110  s) (fun _ s9 => Q none s9)) : WpM SHC MT (d + 1) 184 [.ref 110, .ref 29] s Q := by
  refine WpM.enter me_X11_copyRow rfl rfl ?_
  show Y_X11_copyRow_29_110 d Q 0 [(0, .ref 110), (1, .ref 29)] [] s
  unfold f_X11_copyRow_29_110 at H
  refine Wp.r_aload_n o_X11_copyRow rfl rfl (Wp.r_iconst o_X11_copyRow rfl (Wp.r_aload_n o_X11_copyRow rfl rfl (Wp.r_iconst o_X11_copyRow rfl (Wp.r_aload_n o_X11_copyRow rfl rfl (Wp.r_alen o_X11_copyRow rfl lk_C_110 (Wp.r_aload_n o_X11_copyRow rfl rfl (Wp.r_alen o_X11_copyRow rfl lk_C_29 (Wp.r_min o_X11_copyRow rfl (⟨rm8_ rfl, ?_⟩)))))))))
  obtain ⟨c9, H⟩ := oq_ck H
  refine Wp.run 1 (show room8 [] ∧ (¬ (0 : Int32) < 0 ∧ ¬ (0 : Int32) < 0 ∧ ¬ (if 24 < (24 : Int32) then 24 else (24 : Int32)) < 0 ∧ 0 + (if 24 < (24 : Int32) then 24 else (24 : Int32)).toNatClampNeg ≤ 24 ∧ 0 + (if 24 < (24 : Int32) then 24 else (24 : Int32)).toNatClampNeg ≤ 24) ∧ Y_X11_copyRow_29_110 d Q 14 [(0, .ref 110), (1, .ref 29)] [] (pA s 29 (va_cpy (s.1 110) (s.1 29) 0 0 (if 24 < (24 : Int32) then 24 else (24 : Int32)).toNatClampNeg)) from ⟨rm8_ rfl, c9, ?_⟩)
  exact Wp.r_return o_X11_copyRow rfl (H)
noncomputable abbrev Y_X11_copyRow_30_111 (d : Nat) (Q : Qt) : Xt := Wp SHC (WpM SHC MT (d + 0)) (flat2 cq_X11_copyRow) (none) Q
noncomputable def f_X11_copyRow_30_111  (s : Sg) : Option (Unit × Sg) :=
  ck (¬ (0 : Int32) < 0 ∧ ¬ (0 : Int32) < 0 ∧ ¬ (if 24 < (24 : Int32) then 24 else (24 : Int32)) < 0 ∧ 0 + (if 24 < (24 : Int32) then 24 else (24 : Int32)).toNatClampNeg ≤ 24 ∧ 0 + (if 24 < (24 : Int32) then 24 else (24 : Int32)).toNatClampNeg ≤ 24) (
  some ((), pA s 30 (va_cpy (s.1 111) (s.1 30) 0 0 (if 24 < (24 : Int32) then 24 else (24 : Int32)).toNatClampNeg))
  )
set_option maxRecDepth 100000 in
theorem w_X11_copyRow_30_111 {d : Nat} {s : Sg} {Q : Qt}  (H : OQ (f_X11_copyRow_30_111  s) (fun _ s9 => Q none s9)) : WpM SHC MT (d + 1) 184 [.ref 111, .ref 30] s Q := by
  refine WpM.enter me_X11_copyRow rfl rfl ?_
  show Y_X11_copyRow_30_111 d Q 0 [(0, .ref 111), (1, .ref 30)] [] s
  unfold f_X11_copyRow_30_111 at H
  refine Wp.r_aload_n o_X11_copyRow rfl rfl (Wp.r_iconst o_X11_copyRow rfl (Wp.r_aload_n o_X11_copyRow rfl rfl (Wp.r_iconst o_X11_copyRow rfl (Wp.r_aload_n o_X11_copyRow rfl rfl (Wp.r_alen o_X11_copyRow rfl lk_C_111 (Wp.r_aload_n o_X11_copyRow rfl rfl (Wp.r_alen o_X11_copyRow rfl lk_C_30 (Wp.r_min o_X11_copyRow rfl (⟨rm8_ rfl, ?_⟩)))))))))
  obtain ⟨c9, H⟩ := oq_ck H
  refine Wp.run 1 (show room8 [] ∧ (¬ (0 : Int32) < 0 ∧ ¬ (0 : Int32) < 0 ∧ ¬ (if 24 < (24 : Int32) then 24 else (24 : Int32)) < 0 ∧ 0 + (if 24 < (24 : Int32) then 24 else (24 : Int32)).toNatClampNeg ≤ 24 ∧ 0 + (if 24 < (24 : Int32) then 24 else (24 : Int32)).toNatClampNeg ≤ 24) ∧ Y_X11_copyRow_30_111 d Q 14 [(0, .ref 111), (1, .ref 30)] [] (pA s 30 (va_cpy (s.1 111) (s.1 30) 0 0 (if 24 < (24 : Int32) then 24 else (24 : Int32)).toNatClampNeg)) from ⟨rm8_ rfl, c9, ?_⟩)
  exact Wp.r_return o_X11_copyRow rfl (H)
noncomputable abbrev Y_X11_copyRow_31_112 (d : Nat) (Q : Qt) : Xt := Wp SHC (WpM SHC MT (d + 0)) (flat2 cq_X11_copyRow) (none) Q
noncomputable def f_X11_copyRow_31_112  (s : Sg) : Option (Unit × Sg) :=
  ck (¬ (0 : Int32) < 0 ∧ ¬ (0 : Int32) < 0 ∧ ¬ (if 8 < (8 : Int32) then 8 else (8 : Int32)) < 0 ∧ 0 + (if 8 < (8 : Int32) then 8 else (8 : Int32)).toNatClampNeg ≤ 8 ∧ 0 + (if 8 < (8 : Int32) then 8 else (8 : Int32)).toNatClampNeg ≤ 8) (
  some ((), pA s 31 (va_cpy (s.1 112) (s.1 31) 0 0 (if 8 < (8 : Int32) then 8 else (8 : Int32)).toNatClampNeg))
  )
set_option maxRecDepth 100000 in
theorem w_X11_copyRow_31_112 {d : Nat} {s : Sg} {Q : Qt}  (H : OQ (f_X11_copyRow_31_112  s) (fun _ s9 => Q none s9)) : WpM SHC MT (d + 1) 184 [.ref 112, .ref 31] s Q := by
  refine WpM.enter me_X11_copyRow rfl rfl ?_
  show Y_X11_copyRow_31_112 d Q 0 [(0, .ref 112), (1, .ref 31)] [] s
  unfold f_X11_copyRow_31_112 at H
  refine Wp.r_aload_n o_X11_copyRow rfl rfl (Wp.r_iconst o_X11_copyRow rfl (Wp.r_aload_n o_X11_copyRow rfl rfl (Wp.r_iconst o_X11_copyRow rfl (Wp.r_aload_n o_X11_copyRow rfl rfl (Wp.r_alen o_X11_copyRow rfl lk_C_112 (Wp.r_aload_n o_X11_copyRow rfl rfl (Wp.r_alen o_X11_copyRow rfl lk_C_31 (Wp.r_min o_X11_copyRow rfl (⟨rm8_ rfl, ?_⟩)))))))))
  obtain ⟨c9, H⟩ := oq_ck H
  refine Wp.run 1 (show room8 [] ∧ (¬ (0 : Int32) < 0 ∧ ¬ (0 : Int32) < 0 ∧ ¬ (if 8 < (8 : Int32) then 8 else (8 : Int32)) < 0 ∧ 0 + (if 8 < (8 : Int32) then 8 else (8 : Int32)).toNatClampNeg ≤ 8 ∧ 0 + (if 8 < (8 : Int32) then 8 else (8 : Int32)).toNatClampNeg ≤ 8) ∧ Y_X11_copyRow_31_112 d Q 14 [(0, .ref 112), (1, .ref 31)] [] (pA s 31 (va_cpy (s.1 112) (s.1 31) 0 0 (if 8 < (8 : Int32) then 8 else (8 : Int32)).toNatClampNeg)) from ⟨rm8_ rfl, c9, ?_⟩)
  exact Wp.r_return o_X11_copyRow rfl (H)
noncomputable abbrev Y_X11_copyRow_32_113 (d : Nat) (Q : Qt) : Xt := Wp SHC (WpM SHC MT (d + 0)) (flat2 cq_X11_copyRow) (none) Q
noncomputable def f_X11_copyRow_32_113  (s : Sg) : Option (Unit × Sg) :=
  ck (¬ (0 : Int32) < 0 ∧ ¬ (0 : Int32) < 0 ∧ ¬ (if 8 < (8 : Int32) then 8 else (8 : Int32)) < 0 ∧ 0 + (if 8 < (8 : Int32) then 8 else (8 : Int32)).toNatClampNeg ≤ 8 ∧ 0 + (if 8 < (8 : Int32) then 8 else (8 : Int32)).toNatClampNeg ≤ 8) (
  some ((), pA s 32 (va_cpy (s.1 113) (s.1 32) 0 0 (if 8 < (8 : Int32) then 8 else (8 : Int32)).toNatClampNeg))
  )
set_option maxRecDepth 100000 in
theorem w_X11_copyRow_32_113 {d : Nat} {s : Sg} {Q : Qt}  (H : OQ (f_X11_copyRow_32_113  s) (fun _ s9 => Q none s9)) : WpM SHC MT (d + 1) 184 [.ref 113, .ref 32] s Q := by
  refine WpM.enter me_X11_copyRow rfl rfl ?_
  show Y_X11_copyRow_32_113 d Q 0 [(0, .ref 113), (1, .ref 32)] [] s
  unfold f_X11_copyRow_32_113 at H
  refine Wp.r_aload_n o_X11_copyRow rfl rfl (Wp.r_iconst o_X11_copyRow rfl (Wp.r_aload_n o_X11_copyRow rfl rfl (Wp.r_iconst o_X11_copyRow rfl (Wp.r_aload_n o_X11_copyRow rfl rfl (Wp.r_alen o_X11_copyRow rfl lk_C_113 (Wp.r_aload_n o_X11_copyRow rfl rfl (Wp.r_alen o_X11_copyRow rfl lk_C_32 (Wp.r_min o_X11_copyRow rfl (⟨rm8_ rfl, ?_⟩)))))))))
  obtain ⟨c9, H⟩ := oq_ck H
  refine Wp.run 1 (show room8 [] ∧ (¬ (0 : Int32) < 0 ∧ ¬ (0 : Int32) < 0 ∧ ¬ (if 8 < (8 : Int32) then 8 else (8 : Int32)) < 0 ∧ 0 + (if 8 < (8 : Int32) then 8 else (8 : Int32)).toNatClampNeg ≤ 8 ∧ 0 + (if 8 < (8 : Int32) then 8 else (8 : Int32)).toNatClampNeg ≤ 8) ∧ Y_X11_copyRow_32_113 d Q 14 [(0, .ref 113), (1, .ref 32)] [] (pA s 32 (va_cpy (s.1 113) (s.1 32) 0 0 (if 8 < (8 : Int32) then 8 else (8 : Int32)).toNatClampNeg)) from ⟨rm8_ rfl, c9, ?_⟩)
  exact Wp.r_return o_X11_copyRow rfl (H)
noncomputable abbrev Y_X11_copyRow_33_114 (d : Nat) (Q : Qt) : Xt := Wp SHC (WpM SHC MT (d + 0)) (flat2 cq_X11_copyRow) (none) Q
noncomputable def f_X11_copyRow_33_114  (s : Sg) : Option (Unit × Sg) :=
  ck (¬ (0 : Int32) < 0 ∧ ¬ (0 : Int32) < 0 ∧ ¬ (if 8 < (8 : Int32) then 8 else (8 : Int32)) < 0 ∧ 0 + (if 8 < (8 : Int32) then 8 else (8 : Int32)).toNatClampNeg ≤ 8 ∧ 0 + (if 8 < (8 : Int32) then 8 else (8 : Int32)).toNatClampNeg ≤ 8) (
  some ((), pA s 33 (va_cpy (s.1 114) (s.1 33) 0 0 (if 8 < (8 : Int32) then 8 else (8 : Int32)).toNatClampNeg))
  )
set_option maxRecDepth 100000 in
theorem w_X11_copyRow_33_114 {d : Nat} {s : Sg} {Q : Qt}  (H : OQ (f_X11_copyRow_33_114  s) (fun _ s9 => Q none s9)) : WpM SHC MT (d + 1) 184 [.ref 114, .ref 33] s Q := by
  refine WpM.enter me_X11_copyRow rfl rfl ?_
  show Y_X11_copyRow_33_114 d Q 0 [(0, .ref 114), (1, .ref 33)] [] s
  unfold f_X11_copyRow_33_114 at H
  refine Wp.r_aload_n o_X11_copyRow rfl rfl (Wp.r_iconst o_X11_copyRow rfl (Wp.r_aload_n o_X11_copyRow rfl rfl (Wp.r_iconst o_X11_copyRow rfl (Wp.r_aload_n o_X11_copyRow rfl rfl (Wp.r_alen o_X11_copyRow rfl lk_C_114 (Wp.r_aload_n o_X11_copyRow rfl rfl (Wp.r_alen o_X11_copyRow rfl lk_C_33 (Wp.r_min o_X11_copyRow rfl (⟨rm8_ rfl, ?_⟩)))))))))
  obtain ⟨c9, H⟩ := oq_ck H
  refine Wp.run 1 (show room8 [] ∧ (¬ (0 : Int32) < 0 ∧ ¬ (0 : Int32) < 0 ∧ ¬ (if 8 < (8 : Int32) then 8 else (8 : Int32)) < 0 ∧ 0 + (if 8 < (8 : Int32) then 8 else (8 : Int32)).toNatClampNeg ≤ 8 ∧ 0 + (if 8 < (8 : Int32) then 8 else (8 : Int32)).toNatClampNeg ≤ 8) ∧ Y_X11_copyRow_33_114 d Q 14 [(0, .ref 114), (1, .ref 33)] [] (pA s 33 (va_cpy (s.1 114) (s.1 33) 0 0 (if 8 < (8 : Int32) then 8 else (8 : Int32)).toNatClampNeg)) from ⟨rm8_ rfl, c9, ?_⟩)
  exact Wp.r_return o_X11_copyRow rfl (H)
noncomputable abbrev Y_X11_copyRow_34_115 (d : Nat) (Q : Qt) : Xt := Wp SHC (WpM SHC MT (d + 0)) (flat2 cq_X11_copyRow) (none) Q
noncomputable def f_X11_copyRow_34_115  (s : Sg) : Option (Unit × Sg) :=
  ck (¬ (0 : Int32) < 0 ∧ ¬ (0 : Int32) < 0 ∧ ¬ (if 8 < (8 : Int32) then 8 else (8 : Int32)) < 0 ∧ 0 + (if 8 < (8 : Int32) then 8 else (8 : Int32)).toNatClampNeg ≤ 8 ∧ 0 + (if 8 < (8 : Int32) then 8 else (8 : Int32)).toNatClampNeg ≤ 8) (
  some ((), pA s 34 (va_cpy (s.1 115) (s.1 34) 0 0 (if 8 < (8 : Int32) then 8 else (8 : Int32)).toNatClampNeg))
  )
set_option maxRecDepth 100000 in
theorem w_X11_copyRow_34_115 {d : Nat} {s : Sg} {Q : Qt}  (H : OQ (f_X11_copyRow_34_115  s) (fun _ s9 => Q none s9)) : WpM SHC MT (d + 1) 184 [.ref 115, .ref 34] s Q := by
  refine WpM.enter me_X11_copyRow rfl rfl ?_
  show Y_X11_copyRow_34_115 d Q 0 [(0, .ref 115), (1, .ref 34)] [] s
  unfold f_X11_copyRow_34_115 at H
  refine Wp.r_aload_n o_X11_copyRow rfl rfl (Wp.r_iconst o_X11_copyRow rfl (Wp.r_aload_n o_X11_copyRow rfl rfl (Wp.r_iconst o_X11_copyRow rfl (Wp.r_aload_n o_X11_copyRow rfl rfl (Wp.r_alen o_X11_copyRow rfl lk_C_115 (Wp.r_aload_n o_X11_copyRow rfl rfl (Wp.r_alen o_X11_copyRow rfl lk_C_34 (Wp.r_min o_X11_copyRow rfl (⟨rm8_ rfl, ?_⟩)))))))))
  obtain ⟨c9, H⟩ := oq_ck H
  refine Wp.run 1 (show room8 [] ∧ (¬ (0 : Int32) < 0 ∧ ¬ (0 : Int32) < 0 ∧ ¬ (if 8 < (8 : Int32) then 8 else (8 : Int32)) < 0 ∧ 0 + (if 8 < (8 : Int32) then 8 else (8 : Int32)).toNatClampNeg ≤ 8 ∧ 0 + (if 8 < (8 : Int32) then 8 else (8 : Int32)).toNatClampNeg ≤ 8) ∧ Y_X11_copyRow_34_115 d Q 14 [(0, .ref 115), (1, .ref 34)] [] (pA s 34 (va_cpy (s.1 115) (s.1 34) 0 0 (if 8 < (8 : Int32) then 8 else (8 : Int32)).toNatClampNeg)) from ⟨rm8_ rfl, c9, ?_⟩)
  exact Wp.r_return o_X11_copyRow rfl (H)
noncomputable abbrev Y_X11_copyRow_35_116 (d : Nat) (Q : Qt) : Xt := Wp SHC (WpM SHC MT (d + 0)) (flat2 cq_X11_copyRow) (none) Q
noncomputable def f_X11_copyRow_35_116  (s : Sg) : Option (Unit × Sg) :=
  ck (¬ (0 : Int32) < 0 ∧ ¬ (0 : Int32) < 0 ∧ ¬ (if 4 < (4 : Int32) then 4 else (4 : Int32)) < 0 ∧ 0 + (if 4 < (4 : Int32) then 4 else (4 : Int32)).toNatClampNeg ≤ 4 ∧ 0 + (if 4 < (4 : Int32) then 4 else (4 : Int32)).toNatClampNeg ≤ 4) (
  some ((), pA s 35 (va_cpy (s.1 116) (s.1 35) 0 0 (if 4 < (4 : Int32) then 4 else (4 : Int32)).toNatClampNeg))
  )
set_option maxRecDepth 100000 in
theorem w_X11_copyRow_35_116 {d : Nat} {s : Sg} {Q : Qt}  (H : OQ (f_X11_copyRow_35_116  s) (fun _ s9 => Q none s9)) : WpM SHC MT (d + 1) 184 [.ref 116, .ref 35] s Q := by
  refine WpM.enter me_X11_copyRow rfl rfl ?_
  show Y_X11_copyRow_35_116 d Q 0 [(0, .ref 116), (1, .ref 35)] [] s
  unfold f_X11_copyRow_35_116 at H
  refine Wp.r_aload_n o_X11_copyRow rfl rfl (Wp.r_iconst o_X11_copyRow rfl (Wp.r_aload_n o_X11_copyRow rfl rfl (Wp.r_iconst o_X11_copyRow rfl (Wp.r_aload_n o_X11_copyRow rfl rfl (Wp.r_alen o_X11_copyRow rfl lk_C_116 (Wp.r_aload_n o_X11_copyRow rfl rfl (Wp.r_alen o_X11_copyRow rfl lk_C_35 (Wp.r_min o_X11_copyRow rfl (⟨rm8_ rfl, ?_⟩)))))))))
  obtain ⟨c9, H⟩ := oq_ck H
  refine Wp.run 1 (show room8 [] ∧ (¬ (0 : Int32) < 0 ∧ ¬ (0 : Int32) < 0 ∧ ¬ (if 4 < (4 : Int32) then 4 else (4 : Int32)) < 0 ∧ 0 + (if 4 < (4 : Int32) then 4 else (4 : Int32)).toNatClampNeg ≤ 4 ∧ 0 + (if 4 < (4 : Int32) then 4 else (4 : Int32)).toNatClampNeg ≤ 4) ∧ Y_X11_copyRow_35_116 d Q 14 [(0, .ref 116), (1, .ref 35)] [] (pA s 35 (va_cpy (s.1 116) (s.1 35) 0 0 (if 4 < (4 : Int32) then 4 else (4 : Int32)).toNatClampNeg)) from ⟨rm8_ rfl, c9, ?_⟩)
  exact Wp.r_return o_X11_copyRow rfl (H)
noncomputable abbrev Y_X11_copyRow_36_117 (d : Nat) (Q : Qt) : Xt := Wp SHC (WpM SHC MT (d + 0)) (flat2 cq_X11_copyRow) (none) Q
noncomputable def f_X11_copyRow_36_117  (s : Sg) : Option (Unit × Sg) :=
  ck (¬ (0 : Int32) < 0 ∧ ¬ (0 : Int32) < 0 ∧ ¬ (if 4 < (4 : Int32) then 4 else (4 : Int32)) < 0 ∧ 0 + (if 4 < (4 : Int32) then 4 else (4 : Int32)).toNatClampNeg ≤ 4 ∧ 0 + (if 4 < (4 : Int32) then 4 else (4 : Int32)).toNatClampNeg ≤ 4) (
  some ((), pA s 36 (va_cpy (s.1 117) (s.1 36) 0 0 (if 4 < (4 : Int32) then 4 else (4 : Int32)).toNatClampNeg))
  )
set_option maxRecDepth 100000 in
theorem w_X11_copyRow_36_117 {d : Nat} {s : Sg} {Q : Qt}  (H : OQ (f_X11_copyRow_36_117  s) (fun _ s9 => Q none s9)) : WpM SHC MT (d + 1) 184 [.ref 117, .ref 36] s Q := by
  refine WpM.enter me_X11_copyRow rfl rfl ?_
  show Y_X11_copyRow_36_117 d Q 0 [(0, .ref 117), (1, .ref 36)] [] s
  unfold f_X11_copyRow_36_117 at H
  refine Wp.r_aload_n o_X11_copyRow rfl rfl (Wp.r_iconst o_X11_copyRow rfl (Wp.r_aload_n o_X11_copyRow rfl rfl (Wp.r_iconst o_X11_copyRow rfl (Wp.r_aload_n o_X11_copyRow rfl rfl (Wp.r_alen o_X11_copyRow rfl lk_C_117 (Wp.r_aload_n o_X11_copyRow rfl rfl (Wp.r_alen o_X11_copyRow rfl lk_C_36 (Wp.r_min o_X11_copyRow rfl (⟨rm8_ rfl, ?_⟩)))))))))
  obtain ⟨c9, H⟩ := oq_ck H
  refine Wp.run 1 (show room8 [] ∧ (¬ (0 : Int32) < 0 ∧ ¬ (0 : Int32) < 0 ∧ ¬ (if 4 < (4 : Int32) then 4 else (4 : Int32)) < 0 ∧ 0 + (if 4 < (4 : Int32) then 4 else (4 : Int32)).toNatClampNeg ≤ 4 ∧ 0 + (if 4 < (4 : Int32) then 4 else (4 : Int32)).toNatClampNeg ≤ 4) ∧ Y_X11_copyRow_36_117 d Q 14 [(0, .ref 117), (1, .ref 36)] [] (pA s 36 (va_cpy (s.1 117) (s.1 36) 0 0 (if 4 < (4 : Int32) then 4 else (4 : Int32)).toNatClampNeg)) from ⟨rm8_ rfl, c9, ?_⟩)
  exact Wp.r_return o_X11_copyRow rfl (H)
noncomputable abbrev Y_X11_copyRow_37_118 (d : Nat) (Q : Qt) : Xt := Wp SHC (WpM SHC MT (d + 0)) (flat2 cq_X11_copyRow) (none) Q
noncomputable def f_X11_copyRow_37_118  (s : Sg) : Option (Unit × Sg) :=
  ck (¬ (0 : Int32) < 0 ∧ ¬ (0 : Int32) < 0 ∧ ¬ (if 4 < (4 : Int32) then 4 else (4 : Int32)) < 0 ∧ 0 + (if 4 < (4 : Int32) then 4 else (4 : Int32)).toNatClampNeg ≤ 4 ∧ 0 + (if 4 < (4 : Int32) then 4 else (4 : Int32)).toNatClampNeg ≤ 4) (
  some ((), pA s 37 (va_cpy (s.1 118) (s.1 37) 0 0 (if 4 < (4 : Int32) then 4 else (4 : Int32)).toNatClampNeg))
  )
set_option maxRecDepth 100000 in
theorem w_X11_copyRow_37_118 {d : Nat} {s : Sg} {Q : Qt}  (H : OQ (f_X11_copyRow_37_118  s) (fun _ s9 => Q none s9)) : WpM SHC MT (d + 1) 184 [.ref 118, .ref 37] s Q := by
  refine WpM.enter me_X11_copyRow rfl rfl ?_
  show Y_X11_copyRow_37_118 d Q 0 [(0, .ref 118), (1, .ref 37)] [] s
  unfold f_X11_copyRow_37_118 at H
  refine Wp.r_aload_n o_X11_copyRow rfl rfl (Wp.r_iconst o_X11_copyRow rfl (Wp.r_aload_n o_X11_copyRow rfl rfl (Wp.r_iconst o_X11_copyRow rfl (Wp.r_aload_n o_X11_copyRow rfl rfl (Wp.r_alen o_X11_copyRow rfl lk_C_118 (Wp.r_aload_n o_X11_copyRow rfl rfl (Wp.r_alen o_X11_copyRow rfl lk_C_37 (Wp.r_min o_X11_copyRow rfl (⟨rm8_ rfl, ?_⟩)))))))))
  obtain ⟨c9, H⟩ := oq_ck H
  refine Wp.run 1 (show room8 [] ∧ (¬ (0 : Int32) < 0 ∧ ¬ (0 : Int32) < 0 ∧ ¬ (if 4 < (4 : Int32) then 4 else (4 : Int32)) < 0 ∧ 0 + (if 4 < (4 : Int32) then 4 else (4 : Int32)).toNatClampNeg ≤ 4 ∧ 0 + (if 4 < (4 : Int32) then 4 else (4 : Int32)).toNatClampNeg ≤ 4) ∧ Y_X11_copyRow_37_118 d Q 14 [(0, .ref 118), (1, .ref 37)] [] (pA s 37 (va_cpy (s.1 118) (s.1 37) 0 0 (if 4 < (4 : Int32) then 4 else (4 : Int32)).toNatClampNeg)) from ⟨rm8_ rfl, c9, ?_⟩)
  exact Wp.r_return o_X11_copyRow rfl (H)
noncomputable abbrev Y_X11_copyRow_38_119 (d : Nat) (Q : Qt) : Xt := Wp SHC (WpM SHC MT (d + 0)) (flat2 cq_X11_copyRow) (none) Q
noncomputable def f_X11_copyRow_38_119  (s : Sg) : Option (Unit × Sg) :=
  ck (¬ (0 : Int32) < 0 ∧ ¬ (0 : Int32) < 0 ∧ ¬ (if 4 < (4 : Int32) then 4 else (4 : Int32)) < 0 ∧ 0 + (if 4 < (4 : Int32) then 4 else (4 : Int32)).toNatClampNeg ≤ 4 ∧ 0 + (if 4 < (4 : Int32) then 4 else (4 : Int32)).toNatClampNeg ≤ 4) (
  some ((), pA s 38 (va_cpy (s.1 119) (s.1 38) 0 0 (if 4 < (4 : Int32) then 4 else (4 : Int32)).toNatClampNeg))
  )
set_option maxRecDepth 100000 in
theorem w_X11_copyRow_38_119 {d : Nat} {s : Sg} {Q : Qt}  (H : OQ (f_X11_copyRow_38_119  s) (fun _ s9 => Q none s9)) : WpM SHC MT (d + 1) 184 [.ref 119, .ref 38] s Q := by
  refine WpM.enter me_X11_copyRow rfl rfl ?_
  show Y_X11_copyRow_38_119 d Q 0 [(0, .ref 119), (1, .ref 38)] [] s
  unfold f_X11_copyRow_38_119 at H
  refine Wp.r_aload_n o_X11_copyRow rfl rfl (Wp.r_iconst o_X11_copyRow rfl (Wp.r_aload_n o_X11_copyRow rfl rfl (Wp.r_iconst o_X11_copyRow rfl (Wp.r_aload_n o_X11_copyRow rfl rfl (Wp.r_alen o_X11_copyRow rfl lk_C_119 (Wp.r_aload_n o_X11_copyRow rfl rfl (Wp.r_alen o_X11_copyRow rfl lk_C_38 (Wp.r_min o_X11_copyRow rfl (⟨rm8_ rfl, ?_⟩)))))))))
  obtain ⟨c9, H⟩ := oq_ck H
  refine Wp.run 1 (show room8 [] ∧ (¬ (0 : Int32) < 0 ∧ ¬ (0 : Int32) < 0 ∧ ¬ (if 4 < (4 : Int32) then 4 else (4 : Int32)) < 0 ∧ 0 + (if 4 < (4 : Int32) then 4 else (4 : Int32)).toNatClampNeg ≤ 4 ∧ 0 + (if 4 < (4 : Int32) then 4 else (4 : Int32)).toNatClampNeg ≤ 4) ∧ Y_X11_copyRow_38_119 d Q 14 [(0, .ref 119), (1, .ref 38)] [] (pA s 38 (va_cpy (s.1 119) (s.1 38) 0 0 (if 4 < (4 : Int32) then 4 else (4 : Int32)).toNatClampNeg)) from ⟨rm8_ rfl, c9, ?_⟩)
  exact Wp.r_return o_X11_copyRow rfl (H)
noncomputable abbrev Y_X11_copyRow_39_120 (d : Nat) (Q : Qt) : Xt := Wp SHC (WpM SHC MT (d + 0)) (flat2 cq_X11_copyRow) (none) Q
noncomputable def f_X11_copyRow_39_120  (s : Sg) : Option (Unit × Sg) :=
  ck (¬ (0 : Int32) < 0 ∧ ¬ (0 : Int32) < 0 ∧ ¬ (if 4 < (4 : Int32) then 4 else (4 : Int32)) < 0 ∧ 0 + (if 4 < (4 : Int32) then 4 else (4 : Int32)).toNatClampNeg ≤ 4 ∧ 0 + (if 4 < (4 : Int32) then 4 else (4 : Int32)).toNatClampNeg ≤ 4) (
  some ((), pA s 39 (va_cpy (s.1 120) (s.1 39) 0 0 (if 4 < (4 : Int32) then 4 else (4 : Int32)).toNatClampNeg))
  )
set_option maxRecDepth 100000 in
theorem w_X11_copyRow_39_120 {d : Nat} {s : Sg} {Q : Qt}  (H : OQ (f_X11_copyRow_39_120  s) (fun _ s9 => Q none s9)) : WpM SHC MT (d + 1) 184 [.ref 120, .ref 39] s Q := by
  refine WpM.enter me_X11_copyRow rfl rfl ?_
  show Y_X11_copyRow_39_120 d Q 0 [(0, .ref 120), (1, .ref 39)] [] s
  unfold f_X11_copyRow_39_120 at H
  refine Wp.r_aload_n o_X11_copyRow rfl rfl (Wp.r_iconst o_X11_copyRow rfl (Wp.r_aload_n o_X11_copyRow rfl rfl (Wp.r_iconst o_X11_copyRow rfl (Wp.r_aload_n o_X11_copyRow rfl rfl (Wp.r_alen o_X11_copyRow rfl lk_C_120 (Wp.r_aload_n o_X11_copyRow rfl rfl (Wp.r_alen o_X11_copyRow rfl lk_C_39 (Wp.r_min o_X11_copyRow rfl (⟨rm8_ rfl, ?_⟩)))))))))
  obtain ⟨c9, H⟩ := oq_ck H
  refine Wp.run 1 (show room8 [] ∧ (¬ (0 : Int32) < 0 ∧ ¬ (0 : Int32) < 0 ∧ ¬ (if 4 < (4 : Int32) then 4 else (4 : Int32)) < 0 ∧ 0 + (if 4 < (4 : Int32) then 4 else (4 : Int32)).toNatClampNeg ≤ 4 ∧ 0 + (if 4 < (4 : Int32) then 4 else (4 : Int32)).toNatClampNeg ≤ 4) ∧ Y_X11_copyRow_39_120 d Q 14 [(0, .ref 120), (1, .ref 39)] [] (pA s 39 (va_cpy (s.1 120) (s.1 39) 0 0 (if 4 < (4 : Int32) then 4 else (4 : Int32)).toNatClampNeg)) from ⟨rm8_ rfl, c9, ?_⟩)
  exact Wp.r_return o_X11_copyRow rfl (H)
noncomputable abbrev Y_X4_copyFrom_106 (d : Nat) (Q : Qt) : Xt := Wp SHC (WpM SHC MT (d + 1)) (flat2 cq_X4_copyFrom) (none) Q
noncomputable def f_X4_copyFrom_106  (s : Sg) : Option (Unit × Sg) :=
  bd (f_X11_copyRow_29_110 (pB s 28 (va_cpy (s.2 109) (s.2 28) 0 0 24))) (fun _ s2 =>
  bd (f_X11_copyRow_30_111 s2) (fun _ s4 =>
  bd (f_X11_copyRow_31_112 s4) (fun _ s6 =>
  bd (f_X11_copyRow_32_113 s6) (fun _ s8 =>
  bd (f_X11_copyRow_33_114 s8) (fun _ s10 =>
  bd (f_X11_copyRow_34_115 s10) (fun _ s12 =>
  bd (f_X11_copyRow_35_116 s12) (fun _ s14 =>
  bd (f_X11_copyRow_36_117 s14) (fun _ s16 =>
  bd (f_X11_copyRow_37_118 s16) (fun _ s18 =>
  bd (f_X11_copyRow_38_119 s18) (fun _ s20 =>
  bd (f_X11_copyRow_39_120 s20) (fun _ s22 =>
  nmx (pI (pI s22 25 12 (s22.1 106 12)) 25 13 ((pI s22 25 12 (s22.1 106 12)).1 106 13)) (fun s23 =>
  nmx (pI (pI s23 25 14 (s23.1 106 14)) 25 15 ((pI s23 25 14 (s23.1 106 14)).1 106 15)) (fun s24 =>
  nmx (pI (pI s24 25 16 (s24.1 106 16)) 25 17 ((pI s24 25 16 (s24.1 106 16)).1 106 17)) (fun s25 =>
  ck (((pI s25 25 18 (s25.1 106 18)).1 106 19) = 0 ∨ ((pI s25 25 18 (s25.1 106 18)).1 106 19) = 1) (
  some ((), pI (pI s25 25 18 (s25.1 106 18)) 25 19 ((pI s25 25 18 (s25.1 106 18)).1 106 19))
  )
  )
  )
  )
  )
  )
  )
  )
  )
  )
  )
  )
  )
  )
  )
set_option maxRecDepth 100000 in
theorem w_X4_copyFrom_106 {d : Nat} {s : Sg} {Q : Qt}  (H : OQ (f_X4_copyFrom_106  s) (fun _ s9 => Q none s9)) : WpM SHC MT (d + 2) 50 [.ref 25, .ref 106] s Q := by
  refine WpM.enter me_X4_copyFrom rfl rfl ?_
  show Y_X4_copyFrom_106 d Q 0 [(0, .ref 25), (1, .ref 106)] [] s
  unfold f_X4_copyFrom_106 at H
  refine Wp.r_aload_n o_X4_copyFrom rfl rfl (Wp.r_gfr o_X4_copyFrom rfl fk_C_106_0 (Wp.r_iconst o_X4_copyFrom rfl (Wp.r_aload_n o_X4_copyFrom rfl rfl (Wp.r_gfr o_X4_copyFrom rfl fk_C_25_0 (Wp.r_iconst o_X4_copyFrom rfl (Wp.r_bipush o_X4_copyFrom rfl (Wp.run 1 (show room8 [] ∧ (¬ (0 : Int32) < 0 ∧ ¬ (0 : Int32) < 0 ∧ ¬ (24 : Int32) < 0 ∧ 0 + 24 ≤ 24 ∧ 0 + 24 ≤ 24) ∧ Y_X4_copyFrom_106 d Q 15 [(0, .ref 25), (1, .ref 106)] [] (pB s 28 (va_cpy (s.2 109) (s.2 28) 0 0 24)) from ⟨rm8_ rfl, by decide, ?_⟩))))))))
  refine Wp.r_aload_n o_X4_copyFrom rfl rfl (Wp.r_gfr o_X4_copyFrom rfl fk_C_106_1 (Wp.r_aload_n o_X4_copyFrom rfl rfl (Wp.r_gfr o_X4_copyFrom rfl fk_C_25_1 (Wp.r_cs2 o_X4_copyFrom rfl (⟨rm8_ rfl, ?_⟩)))))
  refine w_X11_copyRow_29_110 (d := d)  ?_
  refine oq_bd H (fun _ s2 H => ?_)
  show Y_X4_copyFrom_106 d Q 26 [(0, .ref 25), (1, .ref 106)] [] s2
  refine Wp.r_aload_n o_X4_copyFrom rfl rfl (Wp.r_gfr o_X4_copyFrom rfl fk_C_106_2 (Wp.r_aload_n o_X4_copyFrom rfl rfl (Wp.r_gfr o_X4_copyFrom rfl fk_C_25_2 (Wp.r_cs2 o_X4_copyFrom rfl (⟨rm8_ rfl, ?_⟩)))))
  refine w_X11_copyRow_30_111 (d := d)  ?_
  refine oq_bd H (fun _ s4 H => ?_)
  show Y_X4_copyFrom_106 d Q 37 [(0, .ref 25), (1, .ref 106)] [] s4
  refine Wp.r_aload_n o_X4_copyFrom rfl rfl (Wp.r_gfr o_X4_copyFrom rfl fk_C_106_3 (Wp.r_aload_n o_X4_copyFrom rfl rfl (Wp.r_gfr o_X4_copyFrom rfl fk_C_25_3 (Wp.r_cs2 o_X4_copyFrom rfl (⟨rm8_ rfl, ?_⟩)))))
  refine w_X11_copyRow_31_112 (d := d)  ?_
  refine oq_bd H (fun _ s6 H => ?_)
  show Y_X4_copyFrom_106 d Q 48 [(0, .ref 25), (1, .ref 106)] [] s6
  refine Wp.r_aload_n o_X4_copyFrom rfl rfl (Wp.r_gfr o_X4_copyFrom rfl fk_C_106_4 (Wp.r_aload_n o_X4_copyFrom rfl rfl (Wp.r_gfr o_X4_copyFrom rfl fk_C_25_4 (Wp.r_cs2 o_X4_copyFrom rfl (⟨rm8_ rfl, ?_⟩)))))
  refine w_X11_copyRow_32_113 (d := d)  ?_
  refine oq_bd H (fun _ s8 H => ?_)
  show Y_X4_copyFrom_106 d Q 59 [(0, .ref 25), (1, .ref 106)] [] s8
  refine Wp.r_aload_n o_X4_copyFrom rfl rfl (Wp.r_gfr o_X4_copyFrom rfl fk_C_106_5 (Wp.r_aload_n o_X4_copyFrom rfl rfl (Wp.r_gfr o_X4_copyFrom rfl fk_C_25_5 (Wp.r_cs2 o_X4_copyFrom rfl (⟨rm8_ rfl, ?_⟩)))))
  refine w_X11_copyRow_33_114 (d := d)  ?_
  refine oq_bd H (fun _ s10 H => ?_)
  show Y_X4_copyFrom_106 d Q 70 [(0, .ref 25), (1, .ref 106)] [] s10
  refine Wp.r_aload_n o_X4_copyFrom rfl rfl (Wp.r_gfr o_X4_copyFrom rfl fk_C_106_6 (Wp.r_aload_n o_X4_copyFrom rfl rfl (Wp.r_gfr o_X4_copyFrom rfl fk_C_25_6 (Wp.r_cs2 o_X4_copyFrom rfl (⟨rm8_ rfl, ?_⟩)))))
  refine w_X11_copyRow_34_115 (d := d)  ?_
  refine oq_bd H (fun _ s12 H => ?_)
  show Y_X4_copyFrom_106 d Q 81 [(0, .ref 25), (1, .ref 106)] [] s12
  refine Wp.r_aload_n o_X4_copyFrom rfl rfl (Wp.r_gfr o_X4_copyFrom rfl fk_C_106_7 (Wp.r_aload_n o_X4_copyFrom rfl rfl (Wp.r_gfr o_X4_copyFrom rfl fk_C_25_7 (Wp.r_cs2 o_X4_copyFrom rfl (⟨rm8_ rfl, ?_⟩)))))
  refine w_X11_copyRow_35_116 (d := d)  ?_
  refine oq_bd H (fun _ s14 H => ?_)
  show Y_X4_copyFrom_106 d Q 92 [(0, .ref 25), (1, .ref 106)] [] s14
  refine Wp.r_aload_n o_X4_copyFrom rfl rfl (Wp.r_gfr o_X4_copyFrom rfl fk_C_106_8 (Wp.r_aload_n o_X4_copyFrom rfl rfl (Wp.r_gfr o_X4_copyFrom rfl fk_C_25_8 (Wp.r_cs2 o_X4_copyFrom rfl (⟨rm8_ rfl, ?_⟩)))))
  refine w_X11_copyRow_36_117 (d := d)  ?_
  refine oq_bd H (fun _ s16 H => ?_)
  show Y_X4_copyFrom_106 d Q 103 [(0, .ref 25), (1, .ref 106)] [] s16
  refine Wp.r_aload_n o_X4_copyFrom rfl rfl (Wp.r_gfr o_X4_copyFrom rfl fk_C_106_9 (Wp.r_aload_n o_X4_copyFrom rfl rfl (Wp.r_gfr o_X4_copyFrom rfl fk_C_25_9 (Wp.r_cs2 o_X4_copyFrom rfl (⟨rm8_ rfl, ?_⟩)))))
  refine w_X11_copyRow_37_118 (d := d)  ?_
  refine oq_bd H (fun _ s18 H => ?_)
  show Y_X4_copyFrom_106 d Q 114 [(0, .ref 25), (1, .ref 106)] [] s18
  refine Wp.r_aload_n o_X4_copyFrom rfl rfl (Wp.r_gfr o_X4_copyFrom rfl fk_C_106_10 (Wp.r_aload_n o_X4_copyFrom rfl rfl (Wp.r_gfr o_X4_copyFrom rfl fk_C_25_10 (Wp.r_cs2 o_X4_copyFrom rfl (⟨rm8_ rfl, ?_⟩)))))
  refine w_X11_copyRow_38_119 (d := d)  ?_
  refine oq_bd H (fun _ s20 H => ?_)
  show Y_X4_copyFrom_106 d Q 125 [(0, .ref 25), (1, .ref 106)] [] s20
  refine Wp.r_aload_n o_X4_copyFrom rfl rfl (Wp.r_gfr o_X4_copyFrom rfl fk_C_106_11 (Wp.r_aload_n o_X4_copyFrom rfl rfl (Wp.r_gfr o_X4_copyFrom rfl fk_C_25_11 (Wp.r_cs2 o_X4_copyFrom rfl (⟨rm8_ rfl, ?_⟩)))))
  refine w_X11_copyRow_39_120 (d := d)  ?_
  refine oq_bd H (fun _ s22 H => ?_)
  show Y_X4_copyFrom_106 d Q 136 [(0, .ref 25), (1, .ref 106)] [] s22
  refine Wp.r_aload_n o_X4_copyFrom rfl rfl (Wp.r_aload_n o_X4_copyFrom rfl rfl (Wp.r_gfi o_X4_copyFrom rfl fk_C_106_12 (Wp.r_pfi o_X4_copyFrom rfl fk_C_25_12 (Wp.r_aload_n o_X4_copyFrom rfl rfl (Wp.r_aload_n o_X4_copyFrom rfl rfl (Wp.r_gfi o_X4_copyFrom rfl fk_C_106_13 (Wp.r_pfi o_X4_copyFrom rfl fk_C_25_13 (show Y_X4_copyFrom_106 d Q 152 [(0, .ref 25), (1, .ref 106)] [] (pI (pI s22 25 12 (s22.1 106 12)) 25 13 ((pI s22 25 12 (s22.1 106 12)).1 106 13)) from ?_))))))))
  revert H
  generalize pI (pI s22 25 12 (s22.1 106 12)) 25 13 ((pI s22 25 12 (s22.1 106 12)).1 106 13) = s23
  intro H
  have H := nmx_e H
  refine Wp.r_aload_n o_X4_copyFrom rfl rfl (Wp.r_aload_n o_X4_copyFrom rfl rfl (Wp.r_gfi o_X4_copyFrom rfl fk_C_106_14 (Wp.r_pfi o_X4_copyFrom rfl fk_C_25_14 (Wp.r_aload_n o_X4_copyFrom rfl rfl (Wp.r_aload_n o_X4_copyFrom rfl rfl (Wp.r_gfi o_X4_copyFrom rfl fk_C_106_15 (Wp.r_pfi o_X4_copyFrom rfl fk_C_25_15 (show Y_X4_copyFrom_106 d Q 168 [(0, .ref 25), (1, .ref 106)] [] (pI (pI s23 25 14 (s23.1 106 14)) 25 15 ((pI s23 25 14 (s23.1 106 14)).1 106 15)) from ?_))))))))
  revert H
  generalize pI (pI s23 25 14 (s23.1 106 14)) 25 15 ((pI s23 25 14 (s23.1 106 14)).1 106 15) = s24
  intro H
  have H := nmx_e H
  refine Wp.r_aload_n o_X4_copyFrom rfl rfl (Wp.r_aload_n o_X4_copyFrom rfl rfl (Wp.r_gfi o_X4_copyFrom rfl fk_C_106_16 (Wp.r_pfi o_X4_copyFrom rfl fk_C_25_16 (Wp.r_aload_n o_X4_copyFrom rfl rfl (Wp.r_aload_n o_X4_copyFrom rfl rfl (Wp.r_gfi o_X4_copyFrom rfl fk_C_106_17 (Wp.r_pfi o_X4_copyFrom rfl fk_C_25_17 (show Y_X4_copyFrom_106 d Q 184 [(0, .ref 25), (1, .ref 106)] [] (pI (pI s24 25 16 (s24.1 106 16)) 25 17 ((pI s24 25 16 (s24.1 106 16)).1 106 17)) from ?_))))))))
  revert H
  generalize pI (pI s24 25 16 (s24.1 106 16)) 25 17 ((pI s24 25 16 (s24.1 106 16)).1 106 17) = s25
  intro H
  have H := nmx_e H
  obtain ⟨hc26, H⟩ := oq_ck H
  refine Wp.r_aload_n o_X4_copyFrom rfl rfl (Wp.r_aload_n o_X4_copyFrom rfl rfl (Wp.r_gfi o_X4_copyFrom rfl fk_C_106_18 (Wp.r_pfi o_X4_copyFrom rfl fk_C_25_18 (Wp.r_aload_n o_X4_copyFrom rfl rfl (Wp.r_aload_n o_X4_copyFrom rfl rfl (Wp.r_gfi o_X4_copyFrom rfl fk_C_106_19 (Wp.r_pfz o_X4_copyFrom rfl fk_C_25_19 (⟨hc26, ?_⟩))))))))
  exact Wp.r_return o_X4_copyFrom rfl (H)
noncomputable abbrev Y_X11_copyRow_40_121 (d : Nat) (Q : Qt) : Xt := Wp SHC (WpM SHC MT (d + 0)) (flat2 cq_X11_copyRow) (none) Q
noncomputable def f_X11_copyRow_40_121  (s : Sg) : Option (Unit × Sg) :=
  ck (¬ (0 : Int32) < 0 ∧ ¬ (0 : Int32) < 0 ∧ ¬ (if 8 < (8 : Int32) then 8 else (8 : Int32)) < 0 ∧ 0 + (if 8 < (8 : Int32) then 8 else (8 : Int32)).toNatClampNeg ≤ 8 ∧ 0 + (if 8 < (8 : Int32) then 8 else (8 : Int32)).toNatClampNeg ≤ 8) (
  some ((), pA s 40 (va_cpy (s.1 121) (s.1 40) 0 0 (if 8 < (8 : Int32) then 8 else (8 : Int32)).toNatClampNeg))
  )
set_option maxRecDepth 100000 in
theorem w_X11_copyRow_40_121 {d : Nat} {s : Sg} {Q : Qt}  (H : OQ (f_X11_copyRow_40_121  s) (fun _ s9 => Q none s9)) : WpM SHC MT (d + 1) 184 [.ref 121, .ref 40] s Q := by
  refine WpM.enter me_X11_copyRow rfl rfl ?_
  show Y_X11_copyRow_40_121 d Q 0 [(0, .ref 121), (1, .ref 40)] [] s
  unfold f_X11_copyRow_40_121 at H
  refine Wp.r_aload_n o_X11_copyRow rfl rfl (Wp.r_iconst o_X11_copyRow rfl (Wp.r_aload_n o_X11_copyRow rfl rfl (Wp.r_iconst o_X11_copyRow rfl (Wp.r_aload_n o_X11_copyRow rfl rfl (Wp.r_alen o_X11_copyRow rfl lk_C_121 (Wp.r_aload_n o_X11_copyRow rfl rfl (Wp.r_alen o_X11_copyRow rfl lk_C_40 (Wp.r_min o_X11_copyRow rfl (⟨rm8_ rfl, ?_⟩)))))))))
  obtain ⟨c9, H⟩ := oq_ck H
  refine Wp.run 1 (show room8 [] ∧ (¬ (0 : Int32) < 0 ∧ ¬ (0 : Int32) < 0 ∧ ¬ (if 8 < (8 : Int32) then 8 else (8 : Int32)) < 0 ∧ 0 + (if 8 < (8 : Int32) then 8 else (8 : Int32)).toNatClampNeg ≤ 8 ∧ 0 + (if 8 < (8 : Int32) then 8 else (8 : Int32)).toNatClampNeg ≤ 8) ∧ Y_X11_copyRow_40_121 d Q 14 [(0, .ref 121), (1, .ref 40)] [] (pA s 40 (va_cpy (s.1 121) (s.1 40) 0 0 (if 8 < (8 : Int32) then 8 else (8 : Int32)).toNatClampNeg)) from ⟨rm8_ rfl, c9, ?_⟩)
  exact Wp.r_return o_X11_copyRow rfl (H)
noncomputable abbrev Y_X11_copyRow_41_122 (d : Nat) (Q : Qt) : Xt := Wp SHC (WpM SHC MT (d + 0)) (flat2 cq_X11_copyRow) (none) Q
noncomputable def f_X11_copyRow_41_122  (s : Sg) : Option (Unit × Sg) :=
  ck (¬ (0 : Int32) < 0 ∧ ¬ (0 : Int32) < 0 ∧ ¬ (if 8 < (8 : Int32) then 8 else (8 : Int32)) < 0 ∧ 0 + (if 8 < (8 : Int32) then 8 else (8 : Int32)).toNatClampNeg ≤ 8 ∧ 0 + (if 8 < (8 : Int32) then 8 else (8 : Int32)).toNatClampNeg ≤ 8) (
  some ((), pA s 41 (va_cpy (s.1 122) (s.1 41) 0 0 (if 8 < (8 : Int32) then 8 else (8 : Int32)).toNatClampNeg))
  )
set_option maxRecDepth 100000 in
theorem w_X11_copyRow_41_122 {d : Nat} {s : Sg} {Q : Qt}  (H : OQ (f_X11_copyRow_41_122  s) (fun _ s9 => Q none s9)) : WpM SHC MT (d + 1) 184 [.ref 122, .ref 41] s Q := by
  refine WpM.enter me_X11_copyRow rfl rfl ?_
  show Y_X11_copyRow_41_122 d Q 0 [(0, .ref 122), (1, .ref 41)] [] s
  unfold f_X11_copyRow_41_122 at H
  refine Wp.r_aload_n o_X11_copyRow rfl rfl (Wp.r_iconst o_X11_copyRow rfl (Wp.r_aload_n o_X11_copyRow rfl rfl (Wp.r_iconst o_X11_copyRow rfl (Wp.r_aload_n o_X11_copyRow rfl rfl (Wp.r_alen o_X11_copyRow rfl lk_C_122 (Wp.r_aload_n o_X11_copyRow rfl rfl (Wp.r_alen o_X11_copyRow rfl lk_C_41 (Wp.r_min o_X11_copyRow rfl (⟨rm8_ rfl, ?_⟩)))))))))
  obtain ⟨c9, H⟩ := oq_ck H
  refine Wp.run 1 (show room8 [] ∧ (¬ (0 : Int32) < 0 ∧ ¬ (0 : Int32) < 0 ∧ ¬ (if 8 < (8 : Int32) then 8 else (8 : Int32)) < 0 ∧ 0 + (if 8 < (8 : Int32) then 8 else (8 : Int32)).toNatClampNeg ≤ 8 ∧ 0 + (if 8 < (8 : Int32) then 8 else (8 : Int32)).toNatClampNeg ≤ 8) ∧ Y_X11_copyRow_41_122 d Q 14 [(0, .ref 122), (1, .ref 41)] [] (pA s 41 (va_cpy (s.1 122) (s.1 41) 0 0 (if 8 < (8 : Int32) then 8 else (8 : Int32)).toNatClampNeg)) from ⟨rm8_ rfl, c9, ?_⟩)
  exact Wp.r_return o_X11_copyRow rfl (H)
noncomputable abbrev Y_X11_copyRow_42_123 (d : Nat) (Q : Qt) : Xt := Wp SHC (WpM SHC MT (d + 0)) (flat2 cq_X11_copyRow) (none) Q
noncomputable def f_X11_copyRow_42_123  (s : Sg) : Option (Unit × Sg) :=
  ck (¬ (0 : Int32) < 0 ∧ ¬ (0 : Int32) < 0 ∧ ¬ (if 8 < (8 : Int32) then 8 else (8 : Int32)) < 0 ∧ 0 + (if 8 < (8 : Int32) then 8 else (8 : Int32)).toNatClampNeg ≤ 8 ∧ 0 + (if 8 < (8 : Int32) then 8 else (8 : Int32)).toNatClampNeg ≤ 8) (
  some ((), pA s 42 (va_cpy (s.1 123) (s.1 42) 0 0 (if 8 < (8 : Int32) then 8 else (8 : Int32)).toNatClampNeg))
  )
set_option maxRecDepth 100000 in
theorem w_X11_copyRow_42_123 {d : Nat} {s : Sg} {Q : Qt}  (H : OQ (f_X11_copyRow_42_123  s) (fun _ s9 => Q none s9)) : WpM SHC MT (d + 1) 184 [.ref 123, .ref 42] s Q := by
  refine WpM.enter me_X11_copyRow rfl rfl ?_
  show Y_X11_copyRow_42_123 d Q 0 [(0, .ref 123), (1, .ref 42)] [] s
  unfold f_X11_copyRow_42_123 at H
  refine Wp.r_aload_n o_X11_copyRow rfl rfl (Wp.r_iconst o_X11_copyRow rfl (Wp.r_aload_n o_X11_copyRow rfl rfl (Wp.r_iconst o_X11_copyRow rfl (Wp.r_aload_n o_X11_copyRow rfl rfl (Wp.r_alen o_X11_copyRow rfl lk_C_123 (Wp.r_aload_n o_X11_copyRow rfl rfl (Wp.r_alen o_X11_copyRow rfl lk_C_42 (Wp.r_min o_X11_copyRow rfl (⟨rm8_ rfl, ?_⟩)))))))))
  obtain ⟨c9, H⟩ := oq_ck H
  refine Wp.run 1 (show room8 [] ∧ (¬ (0 : Int32) < 0 ∧ ¬ (0 : Int32) < 0 ∧ ¬ (if 8 < (8 : Int32) then 8 else (8 : Int32)) < 0 ∧ 0 + (if 8 < (8 : Int32) then 8 else (8 : Int32)).toNatClampNeg ≤ 8 ∧ 0 + (if 8 < (8 : Int32) then 8 else (8 : Int32)).toNatClampNeg ≤ 8) ∧ Y_X11_copyRow_42_123 d Q 14 [(0, .ref 123), (1, .ref 42)] [] (pA s 42 (va_cpy (s.1 123) (s.1 42) 0 0 (if 8 < (8 : Int32) then 8 else (8 : Int32)).toNatClampNeg)) from ⟨rm8_ rfl, c9, ?_⟩)
  exact Wp.r_return o_X11_copyRow rfl (H)
noncomputable abbrev Y_X11_copyRow_43_124 (d : Nat) (Q : Qt) : Xt := Wp SHC (WpM SHC MT (d + 0)) (flat2 cq_X11_copyRow) (none) Q
noncomputable def f_X11_copyRow_43_124  (s : Sg) : Option (Unit × Sg) :=
  ck (¬ (0 : Int32) < 0 ∧ ¬ (0 : Int32) < 0 ∧ ¬ (if 8 < (8 : Int32) then 8 else (8 : Int32)) < 0 ∧ 0 + (if 8 < (8 : Int32) then 8 else (8 : Int32)).toNatClampNeg ≤ 8 ∧ 0 + (if 8 < (8 : Int32) then 8 else (8 : Int32)).toNatClampNeg ≤ 8) (
  some ((), pA s 43 (va_cpy (s.1 124) (s.1 43) 0 0 (if 8 < (8 : Int32) then 8 else (8 : Int32)).toNatClampNeg))
  )
set_option maxRecDepth 100000 in
theorem w_X11_copyRow_43_124 {d : Nat} {s : Sg} {Q : Qt}  (H : OQ (f_X11_copyRow_43_124  s) (fun _ s9 => Q none s9)) : WpM SHC MT (d + 1) 184 [.ref 124, .ref 43] s Q := by
  refine WpM.enter me_X11_copyRow rfl rfl ?_
  show Y_X11_copyRow_43_124 d Q 0 [(0, .ref 124), (1, .ref 43)] [] s
  unfold f_X11_copyRow_43_124 at H
  refine Wp.r_aload_n o_X11_copyRow rfl rfl (Wp.r_iconst o_X11_copyRow rfl (Wp.r_aload_n o_X11_copyRow rfl rfl (Wp.r_iconst o_X11_copyRow rfl (Wp.r_aload_n o_X11_copyRow rfl rfl (Wp.r_alen o_X11_copyRow rfl lk_C_124 (Wp.r_aload_n o_X11_copyRow rfl rfl (Wp.r_alen o_X11_copyRow rfl lk_C_43 (Wp.r_min o_X11_copyRow rfl (⟨rm8_ rfl, ?_⟩)))))))))
  obtain ⟨c9, H⟩ := oq_ck H
  refine Wp.run 1 (show room8 [] ∧ (¬ (0 : Int32) < 0 ∧ ¬ (0 : Int32) < 0 ∧ ¬ (if 8 < (8 : Int32) then 8 else (8 : Int32)) < 0 ∧ 0 + (if 8 < (8 : Int32) then 8 else (8 : Int32)).toNatClampNeg ≤ 8 ∧ 0 + (if 8 < (8 : Int32) then 8 else (8 : Int32)).toNatClampNeg ≤ 8) ∧ Y_X11_copyRow_43_124 d Q 14 [(0, .ref 124), (1, .ref 43)] [] (pA s 43 (va_cpy (s.1 124) (s.1 43) 0 0 (if 8 < (8 : Int32) then 8 else (8 : Int32)).toNatClampNeg)) from ⟨rm8_ rfl, c9, ?_⟩)
  exact Wp.r_return o_X11_copyRow rfl (H)
noncomputable abbrev Y_X11_copyRow_44_125 (d : Nat) (Q : Qt) : Xt := Wp SHC (WpM SHC MT (d + 0)) (flat2 cq_X11_copyRow) (none) Q
noncomputable def f_X11_copyRow_44_125  (s : Sg) : Option (Unit × Sg) :=
  ck (¬ (0 : Int32) < 0 ∧ ¬ (0 : Int32) < 0 ∧ ¬ (if 4 < (4 : Int32) then 4 else (4 : Int32)) < 0 ∧ 0 + (if 4 < (4 : Int32) then 4 else (4 : Int32)).toNatClampNeg ≤ 4 ∧ 0 + (if 4 < (4 : Int32) then 4 else (4 : Int32)).toNatClampNeg ≤ 4) (
  some ((), pA s 44 (va_cpy (s.1 125) (s.1 44) 0 0 (if 4 < (4 : Int32) then 4 else (4 : Int32)).toNatClampNeg))
  )
set_option maxRecDepth 100000 in
theorem w_X11_copyRow_44_125 {d : Nat} {s : Sg} {Q : Qt}  (H : OQ (f_X11_copyRow_44_125  s) (fun _ s9 => Q none s9)) : WpM SHC MT (d + 1) 184 [.ref 125, .ref 44] s Q := by
  refine WpM.enter me_X11_copyRow rfl rfl ?_
  show Y_X11_copyRow_44_125 d Q 0 [(0, .ref 125), (1, .ref 44)] [] s
  unfold f_X11_copyRow_44_125 at H
  refine Wp.r_aload_n o_X11_copyRow rfl rfl (Wp.r_iconst o_X11_copyRow rfl (Wp.r_aload_n o_X11_copyRow rfl rfl (Wp.r_iconst o_X11_copyRow rfl (Wp.r_aload_n o_X11_copyRow rfl rfl (Wp.r_alen o_X11_copyRow rfl lk_C_125 (Wp.r_aload_n o_X11_copyRow rfl rfl (Wp.r_alen o_X11_copyRow rfl lk_C_44 (Wp.r_min o_X11_copyRow rfl (⟨rm8_ rfl, ?_⟩)))))))))
  obtain ⟨c9, H⟩ := oq_ck H
  refine Wp.run 1 (show room8 [] ∧ (¬ (0 : Int32) < 0 ∧ ¬ (0 : Int32) < 0 ∧ ¬ (if 4 < (4 : Int32) then 4 else (4 : Int32)) < 0 ∧ 0 + (if 4 < (4 : Int32) then 4 else (4 : Int32)).toNatClampNeg ≤ 4 ∧ 0 + (if 4 < (4 : Int32) then 4 else (4 : Int32)).toNatClampNeg ≤ 4) ∧ Y_X11_copyRow_44_125 d Q 14 [(0, .ref 125), (1, .ref 44)] [] (pA s 44 (va_cpy (s.1 125) (s.1 44) 0 0 (if 4 < (4 : Int32) then 4 else (4 : Int32)).toNatClampNeg)) from ⟨rm8_ rfl, c9, ?_⟩)
  exact Wp.r_return o_X11_copyRow rfl (H)
noncomputable abbrev Y_X2_copyFrom_107 (d : Nat) (Q : Qt) : Xt := Wp SHC (WpM SHC MT (d + 1)) (flat2 cq_X2_copyFrom) (none) Q
noncomputable def f_X2_copyFrom_107  (s : Sg) : Option (Unit × Sg) :=
  bd (f_X11_copyRow_40_121 s) (fun _ s2 =>
  bd (f_X11_copyRow_41_122 s2) (fun _ s4 =>
  bd (f_X11_copyRow_42_123 s4) (fun _ s6 =>
  bd (f_X11_copyRow_43_124 s6) (fun _ s8 =>
  bd (f_X11_copyRow_44_125 s8) (fun _ s10 =>
  nmx (pI (pI s10 26 5 (s10.1 107 5)) 26 6 ((pI s10 26 5 (s10.1 107 5)).1 107 6)) (fun s11 =>
  ck ((s11.1 107 7) = 0 ∨ (s11.1 107 7) = 1) (
  nmx (pI (pI s11 26 7 (s11.1 107 7)) 26 8 ((pI s11 26 7 (s11.1 107 7)).1 107 8)) (fun s13 =>
  nmx (pI (pI s13 26 9 (s13.1 107 9)) 26 10 ((pI s13 26 9 (s13.1 107 9)).1 107 10)) (fun s14 =>
  nmx (pI (pI s14 26 11 (s14.1 107 11)) 26 12 ((pI s14 26 11 (s14.1 107 11)).1 107 12)) (fun s15 =>
  some ((), s15)
  )
  )
  )
  )
  )
  )
  )
  )
  )
  )
set_option maxRecDepth 100000 in
theorem w_X2_copyFrom_107 {d : Nat} {s : Sg} {Q : Qt}  (H : OQ (f_X2_copyFrom_107  s) (fun _ s9 => Q none s9)) : WpM SHC MT (d + 2) 21 [.ref 26, .ref 107] s Q := by
  refine WpM.enter me_X2_copyFrom rfl rfl ?_
  show Y_X2_copyFrom_107 d Q 0 [(0, .ref 26), (1, .ref 107)] [] s
  unfold f_X2_copyFrom_107 at H
  refine Wp.r_aload_n o_X2_copyFrom rfl rfl (Wp.r_gfr o_X2_copyFrom rfl fk_C_107_0 (Wp.r_aload_n o_X2_copyFrom rfl rfl (Wp.r_gfr o_X2_copyFrom rfl fk_C_26_0 (Wp.r_cs2 o_X2_copyFrom rfl (⟨rm8_ rfl, ?_⟩)))))
  refine w_X11_copyRow_40_121 (d := d)  ?_
  refine oq_bd H (fun _ s2 H => ?_)
  show Y_X2_copyFrom_107 d Q 11 [(0, .ref 26), (1, .ref 107)] [] s2
  refine Wp.r_aload_n o_X2_copyFrom rfl rfl (Wp.r_gfr o_X2_copyFrom rfl fk_C_107_1 (Wp.r_aload_n o_X2_copyFrom rfl rfl (Wp.r_gfr o_X2_copyFrom rfl fk_C_26_1 (Wp.r_cs2 o_X2_copyFrom rfl (⟨rm8_ rfl, ?_⟩)))))
  refine w_X11_copyRow_41_122 (d := d)  ?_
  refine oq_bd H (fun _ s4 H => ?_)
  show Y_X2_copyFrom_107 d Q 22 [(0, .ref 26), (1, .ref 107)] [] s4
  refine Wp.r_aload_n o_X2_copyFrom rfl rfl (Wp.r_gfr o_X2_copyFrom rfl fk_C_107_2 (Wp.r_aload_n o_X2_copyFrom rfl rfl (Wp.r_gfr o_X2_copyFrom rfl fk_C_26_2 (Wp.r_cs2 o_X2_copyFrom rfl (⟨rm8_ rfl, ?_⟩)))))
  refine w_X11_copyRow_42_123 (d := d)  ?_
  refine oq_bd H (fun _ s6 H => ?_)
  show Y_X2_copyFrom_107 d Q 33 [(0, .ref 26), (1, .ref 107)] [] s6
  refine Wp.r_aload_n o_X2_copyFrom rfl rfl (Wp.r_gfr o_X2_copyFrom rfl fk_C_107_3 (Wp.r_aload_n o_X2_copyFrom rfl rfl (Wp.r_gfr o_X2_copyFrom rfl fk_C_26_3 (Wp.r_cs2 o_X2_copyFrom rfl (⟨rm8_ rfl, ?_⟩)))))
  refine w_X11_copyRow_43_124 (d := d)  ?_
  refine oq_bd H (fun _ s8 H => ?_)
  show Y_X2_copyFrom_107 d Q 44 [(0, .ref 26), (1, .ref 107)] [] s8
  refine Wp.r_aload_n o_X2_copyFrom rfl rfl (Wp.r_gfr o_X2_copyFrom rfl fk_C_107_4 (Wp.r_aload_n o_X2_copyFrom rfl rfl (Wp.r_gfr o_X2_copyFrom rfl fk_C_26_4 (Wp.r_cs2 o_X2_copyFrom rfl (⟨rm8_ rfl, ?_⟩)))))
  refine w_X11_copyRow_44_125 (d := d)  ?_
  refine oq_bd H (fun _ s10 H => ?_)
  show Y_X2_copyFrom_107 d Q 55 [(0, .ref 26), (1, .ref 107)] [] s10
  refine Wp.r_aload_n o_X2_copyFrom rfl rfl (Wp.r_aload_n o_X2_copyFrom rfl rfl (Wp.r_gfi o_X2_copyFrom rfl fk_C_107_5 (Wp.r_pfi o_X2_copyFrom rfl fk_C_26_5 (Wp.r_aload_n o_X2_copyFrom rfl rfl (Wp.r_aload_n o_X2_copyFrom rfl rfl (Wp.r_gfi o_X2_copyFrom rfl fk_C_107_6 (Wp.r_pfi o_X2_copyFrom rfl fk_C_26_6 (show Y_X2_copyFrom_107 d Q 71 [(0, .ref 26), (1, .ref 107)] [] (pI (pI s10 26 5 (s10.1 107 5)) 26 6 ((pI s10 26 5 (s10.1 107 5)).1 107 6)) from ?_))))))))
  revert H
  generalize pI (pI s10 26 5 (s10.1 107 5)) 26 6 ((pI s10 26 5 (s10.1 107 5)).1 107 6) = s11
  intro H
  have H := nmx_e H
  obtain ⟨hc12, H⟩ := oq_ck H
  refine Wp.r_aload_n o_X2_copyFrom rfl rfl (Wp.r_aload_n o_X2_copyFrom rfl rfl (Wp.r_gfi o_X2_copyFrom rfl fk_C_107_7 (Wp.r_pfz o_X2_copyFrom rfl fk_C_26_7 (⟨hc12, ?_⟩))))
  refine Wp.r_aload_n o_X2_copyFrom rfl rfl (Wp.r_aload_n o_X2_copyFrom rfl rfl (Wp.r_gfi o_X2_copyFrom rfl fk_C_107_8 (Wp.r_pfi o_X2_copyFrom rfl fk_C_26_8 (show Y_X2_copyFrom_107 d Q 87 [(0, .ref 26), (1, .ref 107)] [] (pI (pI s11 26 7 (s11.1 107 7)) 26 8 ((pI s11 26 7 (s11.1 107 7)).1 107 8)) from ?_))))
  revert H
  generalize pI (pI s11 26 7 (s11.1 107 7)) 26 8 ((pI s11 26 7 (s11.1 107 7)).1 107 8) = s13
  intro H
  have H := nmx_e H
  refine Wp.r_aload_n o_X2_copyFrom rfl rfl (Wp.r_aload_n o_X2_copyFrom rfl rfl (Wp.r_gfi o_X2_copyFrom rfl fk_C_107_9 (Wp.r_pfi o_X2_copyFrom rfl fk_C_26_9 (Wp.r_aload_n o_X2_copyFrom rfl rfl (Wp.r_aload_n o_X2_copyFrom rfl rfl (Wp.r_gfi o_X2_copyFrom rfl fk_C_107_10 (Wp.r_pfi o_X2_copyFrom rfl fk_C_26_10 (show Y_X2_copyFrom_107 d Q 103 [(0, .ref 26), (1, .ref 107)] [] (pI (pI s13 26 9 (s13.1 107 9)) 26 10 ((pI s13 26 9 (s13.1 107 9)).1 107 10)) from ?_))))))))
  revert H
  generalize pI (pI s13 26 9 (s13.1 107 9)) 26 10 ((pI s13 26 9 (s13.1 107 9)).1 107 10) = s14
  intro H
  have H := nmx_e H
  refine Wp.r_aload_n o_X2_copyFrom rfl rfl (Wp.r_aload_n o_X2_copyFrom rfl rfl (Wp.r_gfi o_X2_copyFrom rfl fk_C_107_11 (Wp.r_pfi o_X2_copyFrom rfl fk_C_26_11 (Wp.r_aload_n o_X2_copyFrom rfl rfl (Wp.r_aload_n o_X2_copyFrom rfl rfl (Wp.r_gfi o_X2_copyFrom rfl fk_C_107_12 (Wp.r_pfi o_X2_copyFrom rfl fk_C_26_12 (show Y_X2_copyFrom_107 d Q 119 [(0, .ref 26), (1, .ref 107)] [] (pI (pI s14 26 11 (s14.1 107 11)) 26 12 ((pI s14 26 11 (s14.1 107 11)).1 107 12)) from ?_))))))))
  revert H
  generalize pI (pI s14 26 11 (s14.1 107 11)) 26 12 ((pI s14 26 11 (s14.1 107 11)).1 107 12) = s15
  intro H
  have H := nmx_e H
  exact Wp.r_return o_X2_copyFrom rfl (H)
noncomputable abbrev Y_X11_copyRow_45_126 (d : Nat) (Q : Qt) : Xt := Wp SHC (WpM SHC MT (d + 0)) (flat2 cq_X11_copyRow) (none) Q
noncomputable def f_X11_copyRow_45_126  (s : Sg) : Option (Unit × Sg) :=
  ck (¬ (0 : Int32) < 0 ∧ ¬ (0 : Int32) < 0 ∧ ¬ (if 60 < (60 : Int32) then 60 else (60 : Int32)) < 0 ∧ 0 + (if 60 < (60 : Int32) then 60 else (60 : Int32)).toNatClampNeg ≤ 60 ∧ 0 + (if 60 < (60 : Int32) then 60 else (60 : Int32)).toNatClampNeg ≤ 60) (
  some ((), pA s 45 (va_cpy (s.1 126) (s.1 45) 0 0 (if 60 < (60 : Int32) then 60 else (60 : Int32)).toNatClampNeg))
  )
set_option maxRecDepth 100000 in
theorem w_X11_copyRow_45_126 {d : Nat} {s : Sg} {Q : Qt}  (H : OQ (f_X11_copyRow_45_126  s) (fun _ s9 => Q none s9)) : WpM SHC MT (d + 1) 184 [.ref 126, .ref 45] s Q := by
  refine WpM.enter me_X11_copyRow rfl rfl ?_
  show Y_X11_copyRow_45_126 d Q 0 [(0, .ref 126), (1, .ref 45)] [] s
  unfold f_X11_copyRow_45_126 at H
  refine Wp.r_aload_n o_X11_copyRow rfl rfl (Wp.r_iconst o_X11_copyRow rfl (Wp.r_aload_n o_X11_copyRow rfl rfl (Wp.r_iconst o_X11_copyRow rfl (Wp.r_aload_n o_X11_copyRow rfl rfl (Wp.r_alen o_X11_copyRow rfl lk_C_126 (Wp.r_aload_n o_X11_copyRow rfl rfl (Wp.r_alen o_X11_copyRow rfl lk_C_45 (Wp.r_min o_X11_copyRow rfl (⟨rm8_ rfl, ?_⟩)))))))))
  obtain ⟨c9, H⟩ := oq_ck H
  refine Wp.run 1 (show room8 [] ∧ (¬ (0 : Int32) < 0 ∧ ¬ (0 : Int32) < 0 ∧ ¬ (if 60 < (60 : Int32) then 60 else (60 : Int32)) < 0 ∧ 0 + (if 60 < (60 : Int32) then 60 else (60 : Int32)).toNatClampNeg ≤ 60 ∧ 0 + (if 60 < (60 : Int32) then 60 else (60 : Int32)).toNatClampNeg ≤ 60) ∧ Y_X11_copyRow_45_126 d Q 14 [(0, .ref 126), (1, .ref 45)] [] (pA s 45 (va_cpy (s.1 126) (s.1 45) 0 0 (if 60 < (60 : Int32) then 60 else (60 : Int32)).toNatClampNeg)) from ⟨rm8_ rfl, c9, ?_⟩)
  exact Wp.r_return o_X11_copyRow rfl (H)
noncomputable abbrev Y_X11_copyRow_46_127 (d : Nat) (Q : Qt) : Xt := Wp SHC (WpM SHC MT (d + 0)) (flat2 cq_X11_copyRow) (none) Q
noncomputable def f_X11_copyRow_46_127  (s : Sg) : Option (Unit × Sg) :=
  ck (¬ (0 : Int32) < 0 ∧ ¬ (0 : Int32) < 0 ∧ ¬ (if 60 < (60 : Int32) then 60 else (60 : Int32)) < 0 ∧ 0 + (if 60 < (60 : Int32) then 60 else (60 : Int32)).toNatClampNeg ≤ 60 ∧ 0 + (if 60 < (60 : Int32) then 60 else (60 : Int32)).toNatClampNeg ≤ 60) (
  some ((), pA s 46 (va_cpy (s.1 127) (s.1 46) 0 0 (if 60 < (60 : Int32) then 60 else (60 : Int32)).toNatClampNeg))
  )
set_option maxRecDepth 100000 in
theorem w_X11_copyRow_46_127 {d : Nat} {s : Sg} {Q : Qt}  (H : OQ (f_X11_copyRow_46_127  s) (fun _ s9 => Q none s9)) : WpM SHC MT (d + 1) 184 [.ref 127, .ref 46] s Q := by
  refine WpM.enter me_X11_copyRow rfl rfl ?_
  show Y_X11_copyRow_46_127 d Q 0 [(0, .ref 127), (1, .ref 46)] [] s
  unfold f_X11_copyRow_46_127 at H
  refine Wp.r_aload_n o_X11_copyRow rfl rfl (Wp.r_iconst o_X11_copyRow rfl (Wp.r_aload_n o_X11_copyRow rfl rfl (Wp.r_iconst o_X11_copyRow rfl (Wp.r_aload_n o_X11_copyRow rfl rfl (Wp.r_alen o_X11_copyRow rfl lk_C_127 (Wp.r_aload_n o_X11_copyRow rfl rfl (Wp.r_alen o_X11_copyRow rfl lk_C_46 (Wp.r_min o_X11_copyRow rfl (⟨rm8_ rfl, ?_⟩)))))))))
  obtain ⟨c9, H⟩ := oq_ck H
  refine Wp.run 1 (show room8 [] ∧ (¬ (0 : Int32) < 0 ∧ ¬ (0 : Int32) < 0 ∧ ¬ (if 60 < (60 : Int32) then 60 else (60 : Int32)) < 0 ∧ 0 + (if 60 < (60 : Int32) then 60 else (60 : Int32)).toNatClampNeg ≤ 60 ∧ 0 + (if 60 < (60 : Int32) then 60 else (60 : Int32)).toNatClampNeg ≤ 60) ∧ Y_X11_copyRow_46_127 d Q 14 [(0, .ref 127), (1, .ref 46)] [] (pA s 46 (va_cpy (s.1 127) (s.1 46) 0 0 (if 60 < (60 : Int32) then 60 else (60 : Int32)).toNatClampNeg)) from ⟨rm8_ rfl, c9, ?_⟩)
  exact Wp.r_return o_X11_copyRow rfl (H)
noncomputable abbrev Y_X11_copyRow_47_128 (d : Nat) (Q : Qt) : Xt := Wp SHC (WpM SHC MT (d + 0)) (flat2 cq_X11_copyRow) (none) Q
noncomputable def f_X11_copyRow_47_128  (s : Sg) : Option (Unit × Sg) :=
  ck (¬ (0 : Int32) < 0 ∧ ¬ (0 : Int32) < 0 ∧ ¬ (if 60 < (60 : Int32) then 60 else (60 : Int32)) < 0 ∧ 0 + (if 60 < (60 : Int32) then 60 else (60 : Int32)).toNatClampNeg ≤ 60 ∧ 0 + (if 60 < (60 : Int32) then 60 else (60 : Int32)).toNatClampNeg ≤ 60) (
  some ((), pA s 47 (va_cpy (s.1 128) (s.1 47) 0 0 (if 60 < (60 : Int32) then 60 else (60 : Int32)).toNatClampNeg))
  )
set_option maxRecDepth 100000 in
theorem w_X11_copyRow_47_128 {d : Nat} {s : Sg} {Q : Qt}  (H : OQ (f_X11_copyRow_47_128  s) (fun _ s9 => Q none s9)) : WpM SHC MT (d + 1) 184 [.ref 128, .ref 47] s Q := by
  refine WpM.enter me_X11_copyRow rfl rfl ?_
  show Y_X11_copyRow_47_128 d Q 0 [(0, .ref 128), (1, .ref 47)] [] s
  unfold f_X11_copyRow_47_128 at H
  refine Wp.r_aload_n o_X11_copyRow rfl rfl (Wp.r_iconst o_X11_copyRow rfl (Wp.r_aload_n o_X11_copyRow rfl rfl (Wp.r_iconst o_X11_copyRow rfl (Wp.r_aload_n o_X11_copyRow rfl rfl (Wp.r_alen o_X11_copyRow rfl lk_C_128 (Wp.r_aload_n o_X11_copyRow rfl rfl (Wp.r_alen o_X11_copyRow rfl lk_C_47 (Wp.r_min o_X11_copyRow rfl (⟨rm8_ rfl, ?_⟩)))))))))
  obtain ⟨c9, H⟩ := oq_ck H
  refine Wp.run 1 (show room8 [] ∧ (¬ (0 : Int32) < 0 ∧ ¬ (0 : Int32) < 0 ∧ ¬ (if 60 < (60 : Int32) then 60 else (60 : Int32)) < 0 ∧ 0 + (if 60 < (60 : Int32) then 60 else (60 : Int32)).toNatClampNeg ≤ 60 ∧ 0 + (if 60 < (60 : Int32) then 60 else (60 : Int32)).toNatClampNeg ≤ 60) ∧ Y_X11_copyRow_47_128 d Q 14 [(0, .ref 128), (1, .ref 47)] [] (pA s 47 (va_cpy (s.1 128) (s.1 47) 0 0 (if 60 < (60 : Int32) then 60 else (60 : Int32)).toNatClampNeg)) from ⟨rm8_ rfl, c9, ?_⟩)
  exact Wp.r_return o_X11_copyRow rfl (H)
noncomputable abbrev Y_X11_copyRow_48_129 (d : Nat) (Q : Qt) : Xt := Wp SHC (WpM SHC MT (d + 0)) (flat2 cq_X11_copyRow) (none) Q
noncomputable def f_X11_copyRow_48_129  (s : Sg) : Option (Unit × Sg) :=
  ck (¬ (0 : Int32) < 0 ∧ ¬ (0 : Int32) < 0 ∧ ¬ (if 60 < (60 : Int32) then 60 else (60 : Int32)) < 0 ∧ 0 + (if 60 < (60 : Int32) then 60 else (60 : Int32)).toNatClampNeg ≤ 60 ∧ 0 + (if 60 < (60 : Int32) then 60 else (60 : Int32)).toNatClampNeg ≤ 60) (
  some ((), pA s 48 (va_cpy (s.1 129) (s.1 48) 0 0 (if 60 < (60 : Int32) then 60 else (60 : Int32)).toNatClampNeg))
  )
set_option maxRecDepth 100000 in
theorem w_X11_copyRow_48_129 {d : Nat} {s : Sg} {Q : Qt}  (H : OQ (f_X11_copyRow_48_129  s) (fun _ s9 => Q none s9)) : WpM SHC MT (d + 1) 184 [.ref 129, .ref 48] s Q := by
  refine WpM.enter me_X11_copyRow rfl rfl ?_
  show Y_X11_copyRow_48_129 d Q 0 [(0, .ref 129), (1, .ref 48)] [] s
  unfold f_X11_copyRow_48_129 at H
  refine Wp.r_aload_n o_X11_copyRow rfl rfl (Wp.r_iconst o_X11_copyRow rfl (Wp.r_aload_n o_X11_copyRow rfl rfl (Wp.r_iconst o_X11_copyRow rfl (Wp.r_aload_n o_X11_copyRow rfl rfl (Wp.r_alen o_X11_copyRow rfl lk_C_129 (Wp.r_aload_n o_X11_copyRow rfl rfl (Wp.r_alen o_X11_copyRow rfl lk_C_48 (Wp.r_min o_X11_copyRow rfl (⟨rm8_ rfl, ?_⟩)))))))))
  obtain ⟨c9, H⟩ := oq_ck H
  refine Wp.run 1 (show room8 [] ∧ (¬ (0 : Int32) < 0 ∧ ¬ (0 : Int32) < 0 ∧ ¬ (if 60 < (60 : Int32) then 60 else (60 : Int32)) < 0 ∧ 0 + (if 60 < (60 : Int32) then 60 else (60 : Int32)).toNatClampNeg ≤ 60 ∧ 0 + (if 60 < (60 : Int32) then 60 else (60 : Int32)).toNatClampNeg ≤ 60) ∧ Y_X11_copyRow_48_129 d Q 14 [(0, .ref 129), (1, .ref 48)] [] (pA s 48 (va_cpy (s.1 129) (s.1 48) 0 0 (if 60 < (60 : Int32) then 60 else (60 : Int32)).toNatClampNeg)) from ⟨rm8_ rfl, c9, ?_⟩)
  exact Wp.r_return o_X11_copyRow rfl (H)
noncomputable abbrev Y_X11_copyRow_49_130 (d : Nat) (Q : Qt) : Xt := Wp SHC (WpM SHC MT (d + 0)) (flat2 cq_X11_copyRow) (none) Q
noncomputable def f_X11_copyRow_49_130  (s : Sg) : Option (Unit × Sg) :=
  ck (¬ (0 : Int32) < 0 ∧ ¬ (0 : Int32) < 0 ∧ ¬ (if 60 < (60 : Int32) then 60 else (60 : Int32)) < 0 ∧ 0 + (if 60 < (60 : Int32) then 60 else (60 : Int32)).toNatClampNeg ≤ 60 ∧ 0 + (if 60 < (60 : Int32) then 60 else (60 : Int32)).toNatClampNeg ≤ 60) (
  some ((), pA s 49 (va_cpy (s.1 130) (s.1 49) 0 0 (if 60 < (60 : Int32) then 60 else (60 : Int32)).toNatClampNeg))
  )
set_option maxRecDepth 100000 in
theorem w_X11_copyRow_49_130 {d : Nat} {s : Sg} {Q : Qt}  (H : OQ (f_X11_copyRow_49_130  s) (fun _ s9 => Q none s9)) : WpM SHC MT (d + 1) 184 [.ref 130, .ref 49] s Q := by
  refine WpM.enter me_X11_copyRow rfl rfl ?_
  show Y_X11_copyRow_49_130 d Q 0 [(0, .ref 130), (1, .ref 49)] [] s
  unfold f_X11_copyRow_49_130 at H
  refine Wp.r_aload_n o_X11_copyRow rfl rfl (Wp.r_iconst o_X11_copyRow rfl (Wp.r_aload_n o_X11_copyRow rfl rfl (Wp.r_iconst o_X11_copyRow rfl (Wp.r_aload_n o_X11_copyRow rfl rfl (Wp.r_alen o_X11_copyRow rfl lk_C_130 (Wp.r_aload_n o_X11_copyRow rfl rfl (Wp.r_alen o_X11_copyRow rfl lk_C_49 (Wp.r_min o_X11_copyRow rfl (⟨rm8_ rfl, ?_⟩)))))))))
  obtain ⟨c9, H⟩ := oq_ck H
  refine Wp.run 1 (show room8 [] ∧ (¬ (0 : Int32) < 0 ∧ ¬ (0 : Int32) < 0 ∧ ¬ (if 60 < (60 : Int32) then 60 else (60 : Int32)) < 0 ∧ 0 + (if 60 < (60 : Int32) then 60 else (60 : Int32)).toNatClampNeg ≤ 60 ∧ 0 + (if 60 < (60 : Int32) then 60 else (60 : Int32)).toNatClampNeg ≤ 60) ∧ Y_X11_copyRow_49_130 d Q 14 [(0, .ref 130), (1, .ref 49)] [] (pA s 49 (va_cpy (s.1 130) (s.1 49) 0 0 (if 60 < (60 : Int32) then 60 else (60 : Int32)).toNatClampNeg)) from ⟨rm8_ rfl, c9, ?_⟩)
  exact Wp.r_return o_X11_copyRow rfl (H)
noncomputable abbrev Y_X11_copyRow_50_131 (d : Nat) (Q : Qt) : Xt := Wp SHC (WpM SHC MT (d + 0)) (flat2 cq_X11_copyRow) (none) Q
noncomputable def f_X11_copyRow_50_131  (s : Sg) : Option (Unit × Sg) :=
  ck (¬ (0 : Int32) < 0 ∧ ¬ (0 : Int32) < 0 ∧ ¬ (if 60 < (60 : Int32) then 60 else (60 : Int32)) < 0 ∧ 0 + (if 60 < (60 : Int32) then 60 else (60 : Int32)).toNatClampNeg ≤ 60 ∧ 0 + (if 60 < (60 : Int32) then 60 else (60 : Int32)).toNatClampNeg ≤ 60) (
  some ((), pA s 50 (va_cpy (s.1 131) (s.1 50) 0 0 (if 60 < (60 : Int32) then 60 else (60 : Int32)).toNatClampNeg))
  )
set_option maxRecDepth 100000 in
theorem w_X11_copyRow_50_131 {d : Nat} {s : Sg} {Q : Qt}  (H : OQ (f_X11_copyRow_50_131  s) (fun _ s9 => Q none s9)) : WpM SHC MT (d + 1) 184 [.ref 131, .ref 50] s Q := by
  refine WpM.enter me_X11_copyRow rfl rfl ?_
  show Y_X11_copyRow_50_131 d Q 0 [(0, .ref 131), (1, .ref 50)] [] s
  unfold f_X11_copyRow_50_131 at H
  refine Wp.r_aload_n o_X11_copyRow rfl rfl (Wp.r_iconst o_X11_copyRow rfl (Wp.r_aload_n o_X11_copyRow rfl rfl (Wp.r_iconst o_X11_copyRow rfl (Wp.r_aload_n o_X11_copyRow rfl rfl (Wp.r_alen o_X11_copyRow rfl lk_C_131 (Wp.r_aload_n o_X11_copyRow rfl rfl (Wp.r_alen o_X11_copyRow rfl lk_C_50 (Wp.r_min o_X11_copyRow rfl (⟨rm8_ rfl, ?_⟩)))))))))
  obtain ⟨c9, H⟩ := oq_ck H
  refine Wp.run 1 (show room8 [] ∧ (¬ (0 : Int32) < 0 ∧ ¬ (0 : Int32) < 0 ∧ ¬ (if 60 < (60 : Int32) then 60 else (60 : Int32)) < 0 ∧ 0 + (if 60 < (60 : Int32) then 60 else (60 : Int32)).toNatClampNeg ≤ 60 ∧ 0 + (if 60 < (60 : Int32) then 60 else (60 : Int32)).toNatClampNeg ≤ 60) ∧ Y_X11_copyRow_50_131 d Q 14 [(0, .ref 131), (1, .ref 50)] [] (pA s 50 (va_cpy (s.1 131) (s.1 50) 0 0 (if 60 < (60 : Int32) then 60 else (60 : Int32)).toNatClampNeg)) from ⟨rm8_ rfl, c9, ?_⟩)
  exact Wp.r_return o_X11_copyRow rfl (H)
noncomputable abbrev Y_X5_copyFrom_108 (d : Nat) (Q : Qt) : Xt := Wp SHC (WpM SHC MT (d + 1)) (flat2 cq_X5_copyFrom) (none) Q
noncomputable def f_X5_copyFrom_108  (s : Sg) : Option (Unit × Sg) :=
  bd (f_X11_copyRow_45_126 s) (fun _ s2 =>
  bd (f_X11_copyRow_46_127 s2) (fun _ s4 =>
  bd (f_X11_copyRow_47_128 s4) (fun _ s6 =>
  bd (f_X11_copyRow_48_129 s6) (fun _ s8 =>
  bd (f_X11_copyRow_49_130 s8) (fun _ s10 =>
  bd (f_X11_copyRow_50_131 s10) (fun _ s12 =>
  ck ((s12.1 108 6) = 0 ∨ (s12.1 108 6) = 1) (
  nmx (pI (pI s12 27 6 (s12.1 108 6)) 27 7 ((pI s12 27 6 (s12.1 108 6)).1 108 7)) (fun s14 =>
  some ((), pI s14 27 8 (s14.1 108 8))
  )
  )
  )
  )
  )
  )
  )
  )
set_option maxRecDepth 100000 in
theorem w_X5_copyFrom_108 {d : Nat} {s : Sg} {Q : Qt}  (H : OQ (f_X5_copyFrom_108  s) (fun _ s9 => Q none s9)) : WpM SHC MT (d + 2) 62 [.ref 27, .ref 108] s Q := by
  refine WpM.enter me_X5_copyFrom rfl rfl ?_
  show Y_X5_copyFrom_108 d Q 0 [(0, .ref 27), (1, .ref 108)] [] s
  unfold f_X5_copyFrom_108 at H
  refine Wp.r_aload_n o_X5_copyFrom rfl rfl (Wp.r_gfr o_X5_copyFrom rfl fk_C_108_0 (Wp.r_aload_n o_X5_copyFrom rfl rfl (Wp.r_gfr o_X5_copyFrom rfl fk_C_27_0 (Wp.r_cs2 o_X5_copyFrom rfl (⟨rm8_ rfl, ?_⟩)))))
  refine w_X11_copyRow_45_126 (d := d)  ?_
  refine oq_bd H (fun _ s2 H => ?_)
  show Y_X5_copyFrom_108 d Q 11 [(0, .ref 27), (1, .ref 108)] [] s2
  refine Wp.r_aload_n o_X5_copyFrom rfl rfl (Wp.r_gfr o_X5_copyFrom rfl fk_C_108_1 (Wp.r_aload_n o_X5_copyFrom rfl rfl (Wp.r_gfr o_X5_copyFrom rfl fk_C_27_1 (Wp.r_cs2 o_X5_copyFrom rfl (⟨rm8_ rfl, ?_⟩)))))
  refine w_X11_copyRow_46_127 (d := d)  ?_
  refine oq_bd H (fun _ s4 H => ?_)
  show Y_X5_copyFrom_108 d Q 22 [(0, .ref 27), (1, .ref 108)] [] s4
  refine Wp.r_aload_n o_X5_copyFrom rfl rfl (Wp.r_gfr o_X5_copyFrom rfl fk_C_108_2 (Wp.r_aload_n o_X5_copyFrom rfl rfl (Wp.r_gfr o_X5_copyFrom rfl fk_C_27_2 (Wp.r_cs2 o_X5_copyFrom rfl (⟨rm8_ rfl, ?_⟩)))))
  refine w_X11_copyRow_47_128 (d := d)  ?_
  refine oq_bd H (fun _ s6 H => ?_)
  show Y_X5_copyFrom_108 d Q 33 [(0, .ref 27), (1, .ref 108)] [] s6
  refine Wp.r_aload_n o_X5_copyFrom rfl rfl (Wp.r_gfr o_X5_copyFrom rfl fk_C_108_3 (Wp.r_aload_n o_X5_copyFrom rfl rfl (Wp.r_gfr o_X5_copyFrom rfl fk_C_27_3 (Wp.r_cs2 o_X5_copyFrom rfl (⟨rm8_ rfl, ?_⟩)))))
  refine w_X11_copyRow_48_129 (d := d)  ?_
  refine oq_bd H (fun _ s8 H => ?_)
  show Y_X5_copyFrom_108 d Q 44 [(0, .ref 27), (1, .ref 108)] [] s8
  refine Wp.r_aload_n o_X5_copyFrom rfl rfl (Wp.r_gfr o_X5_copyFrom rfl fk_C_108_4 (Wp.r_aload_n o_X5_copyFrom rfl rfl (Wp.r_gfr o_X5_copyFrom rfl fk_C_27_4 (Wp.r_cs2 o_X5_copyFrom rfl (⟨rm8_ rfl, ?_⟩)))))
  refine w_X11_copyRow_49_130 (d := d)  ?_
  refine oq_bd H (fun _ s10 H => ?_)
  show Y_X5_copyFrom_108 d Q 55 [(0, .ref 27), (1, .ref 108)] [] s10
  refine Wp.r_aload_n o_X5_copyFrom rfl rfl (Wp.r_gfr o_X5_copyFrom rfl fk_C_108_5 (Wp.r_aload_n o_X5_copyFrom rfl rfl (Wp.r_gfr o_X5_copyFrom rfl fk_C_27_5 (Wp.r_cs2 o_X5_copyFrom rfl (⟨rm8_ rfl, ?_⟩)))))
  refine w_X11_copyRow_50_131 (d := d)  ?_
  refine oq_bd H (fun _ s12 H => ?_)
  show Y_X5_copyFrom_108 d Q 66 [(0, .ref 27), (1, .ref 108)] [] s12
  obtain ⟨hc13, H⟩ := oq_ck H
  refine Wp.r_aload_n o_X5_copyFrom rfl rfl (Wp.r_aload_n o_X5_copyFrom rfl rfl (Wp.r_gfi o_X5_copyFrom rfl fk_C_108_6 (Wp.r_pfz o_X5_copyFrom rfl fk_C_27_6 (⟨hc13, ?_⟩))))
  refine Wp.r_aload_n o_X5_copyFrom rfl rfl (Wp.r_aload_n o_X5_copyFrom rfl rfl (Wp.r_gfi o_X5_copyFrom rfl fk_C_108_7 (Wp.r_pfi o_X5_copyFrom rfl fk_C_27_7 (show Y_X5_copyFrom_108 d Q 82 [(0, .ref 27), (1, .ref 108)] [] (pI (pI s12 27 6 (s12.1 108 6)) 27 7 ((pI s12 27 6 (s12.1 108 6)).1 108 7)) from ?_))))
  revert H
  generalize pI (pI s12 27 6 (s12.1 108 6)) 27 7 ((pI s12 27 6 (s12.1 108 6)).1 108 7) = s14
  intro H
  have H := nmx_e H
  exact Wp.r_aload_n o_X5_copyFrom rfl rfl (Wp.r_aload_n o_X5_copyFrom rfl rfl (Wp.r_gfi o_X5_copyFrom rfl fk_C_108_8 (Wp.r_pfi o_X5_copyFrom rfl fk_C_27_8 (Wp.r_return o_X5_copyFrom rfl (H)))))
noncomputable abbrev Y_X10_copyFrom_105 (d : Nat) (Q : Qt) : Xt := Wp SHC (WpM SHC MT (d + 2)) (flat2 cq_X10_copyFrom) (none) Q
noncomputable def f_X10_copyFrom_105  (s : Sg) : Option (Unit × Sg) :=
  bd (f_X4_copyFrom_106 s) (fun _ s2 =>
  bd (f_X2_copyFrom_107 s2) (fun _ s4 =>
  bd (f_X5_copyFrom_108 s4) (fun _ s6 =>
  some ((), s6)
  )
  )
  )
set_option maxRecDepth 100000 in
theorem w_X10_copyFrom_105 {d : Nat} {s : Sg} {Q : Qt}  (H : OQ (f_X10_copyFrom_105  s) (fun _ s9 => Q none s9)) : WpM SHC MT (d + 3) 101 [.ref 24, .ref 105] s Q := by
  refine WpM.enter me_X10_copyFrom rfl rfl ?_
  show Y_X10_copyFrom_105 d Q 0 [(0, .ref 24), (1, .ref 105)] [] s
  unfold f_X10_copyFrom_105 at H
  refine Wp.r_aload_n o_X10_copyFrom rfl rfl (Wp.r_gfr o_X10_copyFrom rfl fk_C_24_0 (Wp.r_aload_n o_X10_copyFrom rfl rfl (Wp.r_gfr o_X10_copyFrom rfl fk_C_105_0 (Wp.r_cv2 o_X10_copyFrom rfl fk_C_25_0 (⟨rm8_ rfl, ?_⟩)))))
  refine w_X4_copyFrom_106 (d := d)  ?_
  refine oq_bd H (fun _ s2 H => ?_)
  show Y_X10_copyFrom_105 d Q 11 [(0, .ref 24), (1, .ref 105)] [] s2
  refine Wp.r_aload_n o_X10_copyFrom rfl rfl (Wp.r_gfr o_X10_copyFrom rfl fk_C_24_1 (Wp.r_aload_n o_X10_copyFrom rfl rfl (Wp.r_gfr o_X10_copyFrom rfl fk_C_105_1 (Wp.r_cv2 o_X10_copyFrom rfl fk_C_26_0 (⟨rm8_ rfl, ?_⟩)))))
  refine w_X2_copyFrom_107 (d := d)  ?_
  refine oq_bd H (fun _ s4 H => ?_)
  show Y_X10_copyFrom_105 d Q 22 [(0, .ref 24), (1, .ref 105)] [] s4
  refine Wp.r_aload_n o_X10_copyFrom rfl rfl (Wp.r_gfr o_X10_copyFrom rfl fk_C_24_2 (Wp.r_aload_n o_X10_copyFrom rfl rfl (Wp.r_gfr o_X10_copyFrom rfl fk_C_105_2 (Wp.r_cv2 o_X10_copyFrom rfl fk_C_27_0 (⟨rm8_ rfl, ?_⟩)))))
  refine w_X5_copyFrom_108 (d := d)  ?_
  refine oq_bd H (fun _ s6 H => ?_)
  show Y_X10_copyFrom_105 d Q 33 [(0, .ref 24), (1, .ref 105)] [] s6
  exact Wp.r_return o_X10_copyFrom rfl (H)
