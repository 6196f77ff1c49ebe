noncomputable abbrev Y_X12_dayOrder (d : Nat) (Q : Qt) : Xt := Wp SHM (WpM SHM MT (d + 6)) (flat2 cq_X12_dayOrder) (some .boolean) Q
noncomputable def f_X12_dayOrder (a1 : Int32) (a2 : Int32) (s : Sg) : Option (Int32 × Sg) :=
  if a1 = 4 then
    bd (f_X12_number (a2 + 1) 0 16 s) (fun r1 s2 =>
    ck (r1 = 0 ∨ r1 = 1) (some (r1, s2))
    )
  else
  if a1 = 5 then
    some (1, s)
  else
  if a1 = 6 then
    some (1, s)
  else
  if a1 = 7 then
    some (1, s)
  else
  if a1 = 8 then
    some (1, s)
  else
  if a1 = 9 then
    some (1, s)
  else
  if a1 = 10 then
    some (1, s)
  else
  if a1 = 11 then
    some (1, s)
  else
  if a1 = 12 then
    some (1, s)
  else
  if a1 = 13 then
    some (1, s)
  else
  if a1 = 14 then
    some (1, s)
  else
  if a1 = 15 then
    some (1, s)
  else
  if a1 = 16 then
    some (1, s)
  else
  if a1 = 17 then
    some (1, s)
  else
  if a1 = 18 then
    some (1, s)
  else
  if a1 = 19 then
    bd (f_X12_stepTo (a2 + 1) s) (fun r3 s4 =>
    if r3 = 0 then
      some (0, s4)
    else
      bd (f_X12_number (a2 + 2) 1 999 s4) (fun r5 s6 =>
      if r5 = 0 then
        some (0, s6)
      else
        some (1, s6)
      )
    )
  else
  if a1 = 20 then
    bd (f_X12_oldOne 20 (s.1 1 3) (a2 + 3) s) (fun r7 s8 =>
    if r7 = 0 then
      some (0, s8)
    else
      bd (f_X12_number (a2 + 2) 1 999 s8) (fun r9 s10 =>
      if r9 = 0 then
        some (0, s10)
      else
        bd (f_X12_wantWord_1001 12 s10) (fun r11 s12 =>
        if r11 = 0 then
          some (0, s12)
        else
          bd (f_X12_stepTo (a2 + 1) s12) (fun r13 s14 =>
          if r13 = 0 then
            some (0, s14)
          else
            some (1, s14)
          )
        )
      )
    )
  else
  if a1 = 21 then
    bd (f_X12_stepTo (a2 + 1) s) (fun r15 s16 =>
    ck (r15 = 0 ∨ r15 = 1) (some (r15, s16))
    )
  else
  if a1 = 22 then
    bd (f_X12_number (a2 + 1) 0 99 s) (fun r17 s18 =>
    ck (r17 = 0 ∨ r17 = 1) (some (r17, s18))
    )
  else
  if a1 = 23 then
    some (1, s)
  else
  if a1 = 24 then
    bd (f_X12_test a2 s) (fun r19 s20 =>
    ck (r19 = 0 ∨ r19 = 1) (some (r19, s20))
    )
  else
  if a1 = 25 then
    bd (f_X12_number (a2 + 1) 1 99 s) (fun r21 s22 =>
    ck (r21 = 0 ∨ r21 = 1) (some (r21, s22))
    )
  else
    some (1, s)
set_option maxRecDepth 100000 in
theorem w_X12_dayOrder {d : Nat} {s : Sg} {Q : Qt} (a1 : Int32) (a2 : Int32) (H : OQ (f_X12_dayOrder a1 a2 s) (fun r9 s9 => Q (some (.int r9)) s9)) : WpM SHM MT (d + 7) 235 [.ref 0, .int a1, .int a2] s Q := by
  refine WpM.enter me_X12_dayOrder rfl rfl ?_
  show Y_X12_dayOrder d Q 0 [(0, .ref 0), (1, .int a1), (2, .int a2)] [] s
  unfold f_X12_dayOrder at H
  refine Wp.r_iload_n1 (pc := 0) o_X12_dayOrder rfl rfl (show Y_X12_dayOrder d Q 1 [(0, .ref 0), (1, .int a1), (2, .int a2)] [.int a1] s from ?_)
  refine Wp.tsw2 (l := [(4, 201), (5, 240), (6, 240), (7, 240), (8, 240), (9, 240), (10, 240), (11, 240), (12, 240), (13, 240), (14, 240), (15, 240), (16, 240), (17, 240), (18, 240), (19, 104), (20, 134), (21, 193), (22, 212), (23, 240), (24, 223), (25, 229)]) o_X12_dayOrder rfl (by decide +kernel) ?_
  show sw [(4, 201), (5, 240), (6, 240), (7, 240), (8, 240), (9, 240), (10, 240), (11, 240), (12, 240), (13, 240), (14, 240), (15, 240), (16, 240), (17, 240), (18, 240), (19, 104), (20, 134), (21, 193), (22, 212), (23, 240), (24, 223), (25, 229)] 240 a1 (fun t9 => Y_X12_dayOrder d Q t9 [(0, .ref 0), (1, .int a1), (2, .int a2)] [] s)
  refine sw_c (fun e9 => ?_) (fun c9_0 => (sw_c (fun e9 => ?_) (fun c9_1 => (sw_c (fun e9 => ?_) (fun c9_2 => (sw_c (fun e9 => ?_) (fun c9_3 => (sw_c (fun e9 => ?_) (fun c9_4 => (sw_c (fun e9 => ?_) (fun c9_5 => (sw_c (fun e9 => ?_) (fun c9_6 => (sw_c (fun e9 => ?_) (fun c9_7 => (sw_c (fun e9 => ?_) (fun c9_8 => (sw_c (fun e9 => ?_) (fun c9_9 => (sw_c (fun e9 => ?_) (fun c9_10 => (sw_c (fun e9 => ?_) (fun c9_11 => (sw_c (fun e9 => ?_) (fun c9_12 => (sw_c (fun e9 => ?_) (fun c9_13 => (sw_c (fun e9 => ?_) (fun c9_14 => (sw_c (fun e9 => ?_) (fun c9_15 => (sw_c (fun e9 => ?_) (fun c9_16 => (sw_c (fun e9 => ?_) (fun c9_17 => (sw_c (fun e9 => ?_) (fun c9_18 => (sw_c (fun e9 => ?_) (fun c9_19 => (sw_c (fun e9 => ?_) (fun c9_20 => (sw_c (fun e9 => ?_) (fun c9_21 => ?_)))))))))))))))))))))))))))))))))))))))))))
  · have H := oq_t e9 H
    refine Wp.r_aload_n0 (pc := 201) o_X12_dayOrder rfl rfl (Wp.r_iload_n2 (pc := 202) o_X12_dayOrder rfl rfl (Wp.r_iconst (pc := 203) o_X12_dayOrder rfl (Wp.r_iadd (pc := 204) o_X12_dayOrder rfl (Wp.r_iconst (pc := 205) o_X12_dayOrder rfl (Wp.r_bipush (pc := 206) o_X12_dayOrder rfl (Wp.r_cv4 (pc := 208) o_X12_dayOrder rfl fk_M_0_0 (⟨rm8_ rfl, ?_⟩)))))))
    refine w_X12_number (d := d + 3) _ _ _ ?_
    refine oq_bd H (fun r1 s2 H => ?_)
    obtain ⟨c9, H⟩ := oq_ck H
    exact Wp.r_ireturn (pc := 211) o_X12_dayOrder rfl (⟨b01_n c9, H⟩)
  · have H := oq_f c9_0 H; have H := oq_t e9 H
    exact Wp.r_iconst (pc := 240) o_X12_dayOrder rfl (Wp.r_ireturn (pc := 241) o_X12_dayOrder rfl (⟨rfl, H⟩))
  · have H := oq_f c9_0 H; have H := oq_f c9_1 H; have H := oq_t e9 H
    exact Wp.r_iconst (pc := 240) o_X12_dayOrder rfl (Wp.r_ireturn (pc := 241) o_X12_dayOrder rfl (⟨rfl, H⟩))
  · have H := oq_f c9_0 H; have H := oq_f c9_1 H; have H := oq_f c9_2 H; have H := oq_t e9 H
    exact Wp.r_iconst (pc := 240) o_X12_dayOrder rfl (Wp.r_ireturn (pc := 241) o_X12_dayOrder rfl (⟨rfl, H⟩))
  · have H := oq_f c9_0 H; have H := oq_f c9_1 H; have H := oq_f c9_2 H; have H := oq_f c9_3 H; have H := oq_t e9 H
    exact Wp.r_iconst (pc := 240) o_X12_dayOrder rfl (Wp.r_ireturn (pc := 241) o_X12_dayOrder rfl (⟨rfl, H⟩))
  · have H := oq_f c9_0 H; have H := oq_f c9_1 H; have H := oq_f c9_2 H; have H := oq_f c9_3 H; have H := oq_f c9_4 H; have H := oq_t e9 H
    exact Wp.r_iconst (pc := 240) o_X12_dayOrder rfl (Wp.r_ireturn (pc := 241) o_X12_dayOrder rfl (⟨rfl, H⟩))
  · have H := oq_f c9_0 H; have H := oq_f c9_1 H; have H := oq_f c9_2 H; have H := oq_f c9_3 H; have H := oq_f c9_4 H; have H := oq_f c9_5 H; have H := oq_t e9 H
    exact Wp.r_iconst (pc := 240) o_X12_dayOrder rfl (Wp.r_ireturn (pc := 241) o_X12_dayOrder rfl (⟨rfl, H⟩))
  · have H := oq_f c9_0 H; have H := oq_f c9_1 H; have H := oq_f c9_2 H; have H := oq_f c9_3 H; have H := oq_f c9_4 H; have H := oq_f c9_5 H; have H := oq_f c9_6 H; have H := oq_t e9 H
    exact Wp.r_iconst (pc := 240) o_X12_dayOrder rfl (Wp.r_ireturn (pc := 241) o_X12_dayOrder rfl (⟨rfl, H⟩))
  · have H := oq_f c9_0 H; have H := oq_f c9_1 H; have H := oq_f c9_2 H; have H := oq_f c9_3 H; have H := oq_f c9_4 H; have H := oq_f c9_5 H; have H := oq_f c9_6 H; have H := oq_f c9_7 H; have H := oq_t e9 H
    exact Wp.r_iconst (pc := 240) o_X12_dayOrder rfl (Wp.r_ireturn (pc := 241) o_X12_dayOrder rfl (⟨rfl, H⟩))
  · have H := oq_f c9_0 H; have H := oq_f c9_1 H; have H := oq_f c9_2 H; have H := oq_f c9_3 H; have H := oq_f c9_4 H; have H := oq_f c9_5 H; have H := oq_f c9_6 H; have H := oq_f c9_7 H; have H := oq_f c9_8 H; have H := oq_t e9 H
    exact Wp.r_iconst (pc := 240) o_X12_dayOrder rfl (Wp.r_ireturn (pc := 241) o_X12_dayOrder rfl (⟨rfl, H⟩))
  · have H := oq_f c9_0 H; have H := oq_f c9_1 H; have H := oq_f c9_2 H; have H := oq_f c9_3 H; have H := oq_f c9_4 H; have H := oq_f c9_5 H; have H := oq_f c9_6 H; have H := oq_f c9_7 H; have H := oq_f c9_8 H; have H := oq_f c9_9 H; have H := oq_t e9 H
    exact Wp.r_iconst (pc := 240) o_X12_dayOrder rfl (Wp.r_ireturn (pc := 241) o_X12_dayOrder rfl (⟨rfl, H⟩))
  · have H := oq_f c9_0 H; have H := oq_f c9_1 H; have H := oq_f c9_2 H; have H := oq_f c9_3 H; have H := oq_f c9_4 H; have H := oq_f c9_5 H; have H := oq_f c9_6 H; have H := oq_f c9_7 H; have H := oq_f c9_8 H; have H := oq_f c9_9 H; have H := oq_f c9_10 H; have H := oq_t e9 H
    exact Wp.r_iconst (pc := 240) o_X12_dayOrder rfl (Wp.r_ireturn (pc := 241) o_X12_dayOrder rfl (⟨rfl, H⟩))
  · have H := oq_f c9_0 H; have H := oq_f c9_1 H; have H := oq_f c9_2 H; have H := oq_f c9_3 H; have H := oq_f c9_4 H; have H := oq_f c9_5 H; have H := oq_f c9_6 H; have H := oq_f c9_7 H; have H := oq_f c9_8 H; have H := oq_f c9_9 H; have H := oq_f c9_10 H; have H := oq_f c9_11 H; have H := oq_t e9 H
    exact Wp.r_iconst (pc := 240) o_X12_dayOrder rfl (Wp.r_ireturn (pc := 241) o_X12_dayOrder rfl (⟨rfl, H⟩))
  · have H := oq_f c9_0 H; have H := oq_f c9_1 H; have H := oq_f c9_2 H; have H := oq_f c9_3 H; have H := oq_f c9_4 H; have H := oq_f c9_5 H; have H := oq_f c9_6 H; have H := oq_f c9_7 H; have H := oq_f c9_8 H; have H := oq_f c9_9 H; have H := oq_f c9_10 H; have H := oq_f c9_11 H; have H := oq_f c9_12 H; have H := oq_t e9 H
    exact Wp.r_iconst (pc := 240) o_X12_dayOrder rfl (Wp.r_ireturn (pc := 241) o_X12_dayOrder rfl (⟨rfl, H⟩))
  · have H := oq_f c9_0 H; have H := oq_f c9_1 H; have H := oq_f c9_2 H; have H := oq_f c9_3 H; have H := oq_f c9_4 H; have H := oq_f c9_5 H; have H := oq_f c9_6 H; have H := oq_f c9_7 H; have H := oq_f c9_8 H; have H := oq_f c9_9 H; have H := oq_f c9_10 H; have H := oq_f c9_11 H; have H := oq_f c9_12 H; have H := oq_f c9_13 H; have H := oq_t e9 H
    exact Wp.r_iconst (pc := 240) o_X12_dayOrder rfl (Wp.r_ireturn (pc := 241) o_X12_dayOrder rfl (⟨rfl, H⟩))
  · have H := oq_f c9_0 H; have H := oq_f c9_1 H; have H := oq_f c9_2 H; have H := oq_f c9_3 H; have H := oq_f c9_4 H; have H := oq_f c9_5 H; have H := oq_f c9_6 H; have H := oq_f c9_7 H; have H := oq_f c9_8 H; have H := oq_f c9_9 H; have H := oq_f c9_10 H; have H := oq_f c9_11 H; have H := oq_f c9_12 H; have H := oq_f c9_13 H; have H := oq_f c9_14 H; have H := oq_t e9 H
    refine Wp.r_aload_n0 (pc := 104) o_X12_dayOrder rfl rfl (Wp.r_iload_n2 (pc := 105) o_X12_dayOrder rfl rfl (Wp.r_iconst (pc := 106) o_X12_dayOrder rfl (Wp.r_iadd (pc := 107) o_X12_dayOrder rfl (Wp.r_cv2 (pc := 108) o_X12_dayOrder rfl fk_M_0_0 (⟨rm8_ rfl, ?_⟩)))))
    refine w_X12_stepTo (d := d + 1) _ ?_
    refine oq_bd H (fun r3 s4 H => ?_)
    refine Wp.r_if_eq (pc := 111) o_X12_dayOrder rfl (fun c9 => ?_) (fun c9 => ?_)
    · have H := oq_t c9 H
      exact Wp.r_iconst (pc := 132) o_X12_dayOrder rfl (Wp.r_ireturn (pc := 133) o_X12_dayOrder rfl (⟨rfl, H⟩))
    · have H := oq_f c9 H
      refine Wp.r_aload_n0 (pc := 114) o_X12_dayOrder rfl rfl (Wp.r_iload_n2 (pc := 115) o_X12_dayOrder rfl rfl (Wp.r_iconst (pc := 116) o_X12_dayOrder rfl (Wp.r_iadd (pc := 117) o_X12_dayOrder rfl (Wp.r_iconst (pc := 118) o_X12_dayOrder rfl (Wp.r_sipush (pc := 119) o_X12_dayOrder rfl (Wp.r_cv4 (pc := 122) o_X12_dayOrder rfl fk_M_0_0 (⟨rm8_ rfl, ?_⟩)))))))
      refine w_X12_number (d := d + 3) _ _ _ ?_
      refine oq_bd H (fun r5 s6 H => ?_)
      refine Wp.r_if_eq (pc := 125) o_X12_dayOrder rfl (fun c9 => ?_) (fun c9 => ?_)
      · have H := oq_t c9 H
        exact Wp.r_iconst (pc := 132) o_X12_dayOrder rfl (Wp.r_ireturn (pc := 133) o_X12_dayOrder rfl (⟨rfl, H⟩))
      · have H := oq_f c9 H
        exact Wp.r_iconst (pc := 128) o_X12_dayOrder rfl (Wp.r_goto (pc := 129) o_X12_dayOrder rfl (Wp.r_ireturn (pc := 133) o_X12_dayOrder rfl (⟨rfl, H⟩)))
  · have H := oq_f c9_0 H; have H := oq_f c9_1 H; have H := oq_f c9_2 H; have H := oq_f c9_3 H; have H := oq_f c9_4 H; have H := oq_f c9_5 H; have H := oq_f c9_6 H; have H := oq_f c9_7 H; have H := oq_f c9_8 H; have H := oq_f c9_9 H; have H := oq_f c9_10 H; have H := oq_f c9_11 H; have H := oq_f c9_12 H; have H := oq_f c9_13 H; have H := oq_f c9_14 H; have H := oq_f c9_15 H; have H := oq_t e9 H
    refine Wp.r_aload_n0 (pc := 134) o_X12_dayOrder rfl rfl (Wp.r_bipush (pc := 135) o_X12_dayOrder rfl (Wp.f_al0_gfr (pc := 137) o_X12_dayOrder rfl rfl rfl fk_M_0_0 (Wp.r_iconst (pc := 141) o_X12_dayOrder rfl (Wp.r_iaload (pc := 142) o_X12_dayOrder rfl ak_M_1 (show (vp_in 3 2880) ∧ Y_X12_dayOrder d Q 143 [(0, .ref 0), (1, .int a1), (2, .int a2)] [.int (s.1 1 3), .int 20, .ref 0] s from ⟨by unfold vp_in; decide, ?_⟩)))))
    refine Wp.r_iload_n2 (pc := 143) o_X12_dayOrder rfl rfl (Wp.r_iconst (pc := 144) o_X12_dayOrder rfl (Wp.r_iadd (pc := 145) o_X12_dayOrder rfl (Wp.r_cv4 (pc := 146) o_X12_dayOrder rfl fk_M_0_0 (⟨rm8_ rfl, ?_⟩))))
    refine w_X12_oldOne (d := d + 2) _ _ _ ?_
    refine oq_bd H (fun r7 s8 H => ?_)
    refine Wp.r_if_eq (pc := 149) o_X12_dayOrder rfl (fun c9 => ?_) (fun c9 => ?_)
    · have H := oq_t c9 H
      exact Wp.r_iconst (pc := 191) o_X12_dayOrder rfl (Wp.r_ireturn (pc := 192) o_X12_dayOrder rfl (⟨rfl, H⟩))
    · have H := oq_f c9 H
      refine Wp.r_aload_n0 (pc := 152) o_X12_dayOrder rfl rfl (Wp.r_iload_n2 (pc := 153) o_X12_dayOrder rfl rfl (Wp.r_iconst (pc := 154) o_X12_dayOrder rfl (Wp.r_iadd (pc := 155) o_X12_dayOrder rfl (Wp.r_iconst (pc := 156) o_X12_dayOrder rfl (Wp.r_sipush (pc := 157) o_X12_dayOrder rfl (Wp.r_cv4 (pc := 160) o_X12_dayOrder rfl fk_M_0_0 (⟨rm8_ rfl, ?_⟩)))))))
      refine w_X12_number (d := d + 3) _ _ _ ?_
      refine oq_bd H (fun r9 s10 H => ?_)
      refine Wp.r_if_eq (pc := 163) o_X12_dayOrder rfl (fun c9 => ?_) (fun c9 => ?_)
      · have H := oq_t c9 H
        exact Wp.r_iconst (pc := 191) o_X12_dayOrder rfl (Wp.r_ireturn (pc := 192) o_X12_dayOrder rfl (⟨rfl, H⟩))
      · have H := oq_f c9 H
        refine Wp.r_aload_n0 (pc := 166) o_X12_dayOrder rfl rfl (Wp.r_ldcs (pc := 167) o_X12_dayOrder rfl (Wp.r_bipush (pc := 169) o_X12_dayOrder rfl (Wp.r_cv3 (pc := 171) o_X12_dayOrder rfl fk_M_0_0 (⟨rm8_ rfl, ?_⟩))))
        refine w_X12_wantWord_1001 (d := d + 3) _ ?_
        refine oq_bd H (fun r11 s12 H => ?_)
        refine Wp.r_if_eq (pc := 174) o_X12_dayOrder rfl (fun c9 => ?_) (fun c9 => ?_)
        · have H := oq_t c9 H
          exact Wp.r_iconst (pc := 191) o_X12_dayOrder rfl (Wp.r_ireturn (pc := 192) o_X12_dayOrder rfl (⟨rfl, H⟩))
        · have H := oq_f c9 H
          refine Wp.r_aload_n0 (pc := 177) o_X12_dayOrder rfl rfl (Wp.r_iload_n2 (pc := 178) o_X12_dayOrder rfl rfl (Wp.r_iconst (pc := 179) o_X12_dayOrder rfl (Wp.r_iadd (pc := 180) o_X12_dayOrder rfl (Wp.r_cv2 (pc := 181) o_X12_dayOrder rfl fk_M_0_0 (⟨rm8_ rfl, ?_⟩)))))
          refine w_X12_stepTo (d := d + 1) _ ?_
          refine oq_bd H (fun r13 s14 H => ?_)
          refine Wp.r_if_eq (pc := 184) o_X12_dayOrder rfl (fun c9 => ?_) (fun c9 => ?_)
          · have H := oq_t c9 H
            exact Wp.r_iconst (pc := 191) o_X12_dayOrder rfl (Wp.r_ireturn (pc := 192) o_X12_dayOrder rfl (⟨rfl, H⟩))
          · have H := oq_f c9 H
            exact Wp.r_iconst (pc := 187) o_X12_dayOrder rfl (Wp.r_goto (pc := 188) o_X12_dayOrder rfl (Wp.r_ireturn (pc := 192) o_X12_dayOrder rfl (⟨rfl, H⟩)))
  · have H := oq_f c9_0 H; have H := oq_f c9_1 H; have H := oq_f c9_2 H; have H := oq_f c9_3 H; have H := oq_f c9_4 H; have H := oq_f c9_5 H; have H := oq_f c9_6 H; have H := oq_f c9_7 H; have H := oq_f c9_8 H; have H := oq_f c9_9 H; have H := oq_f c9_10 H; have H := oq_f c9_11 H; have H := oq_f c9_12 H; have H := oq_f c9_13 H; have H := oq_f c9_14 H; have H := oq_f c9_15 H; have H := oq_f c9_16 H; have H := oq_t e9 H
    refine Wp.r_aload_n0 (pc := 193) o_X12_dayOrder rfl rfl (Wp.r_iload_n2 (pc := 194) o_X12_dayOrder rfl rfl (Wp.r_iconst (pc := 195) o_X12_dayOrder rfl (Wp.r_iadd (pc := 196) o_X12_dayOrder rfl (Wp.r_cv2 (pc := 197) o_X12_dayOrder rfl fk_M_0_0 (⟨rm8_ rfl, ?_⟩)))))
    refine w_X12_stepTo (d := d + 1) _ ?_
    refine oq_bd H (fun r15 s16 H => ?_)
    obtain ⟨c9, H⟩ := oq_ck H
    exact Wp.r_ireturn (pc := 200) o_X12_dayOrder rfl (⟨b01_n c9, H⟩)
  · have H := oq_f c9_0 H; have H := oq_f c9_1 H; have H := oq_f c9_2 H; have H := oq_f c9_3 H; have H := oq_f c9_4 H; have H := oq_f c9_5 H; have H := oq_f c9_6 H; have H := oq_f c9_7 H; have H := oq_f c9_8 H; have H := oq_f c9_9 H; have H := oq_f c9_10 H; have H := oq_f c9_11 H; have H := oq_f c9_12 H; have H := oq_f c9_13 H; have H := oq_f c9_14 H; have H := oq_f c9_15 H; have H := oq_f c9_16 H; have H := oq_f c9_17 H; have H := oq_t e9 H
    refine Wp.r_aload_n0 (pc := 212) o_X12_dayOrder rfl rfl (Wp.r_iload_n2 (pc := 213) o_X12_dayOrder rfl rfl (Wp.r_iconst (pc := 214) o_X12_dayOrder rfl (Wp.r_iadd (pc := 215) o_X12_dayOrder rfl (Wp.r_iconst (pc := 216) o_X12_dayOrder rfl (Wp.r_bipush (pc := 217) o_X12_dayOrder rfl (Wp.r_cv4 (pc := 219) o_X12_dayOrder rfl fk_M_0_0 (⟨rm8_ rfl, ?_⟩)))))))
    refine w_X12_number (d := d + 3) _ _ _ ?_
    refine oq_bd H (fun r17 s18 H => ?_)
    obtain ⟨c9, H⟩ := oq_ck H
    exact Wp.r_ireturn (pc := 222) o_X12_dayOrder rfl (⟨b01_n c9, H⟩)
  · have H := oq_f c9_0 H; have H := oq_f c9_1 H; have H := oq_f c9_2 H; have H := oq_f c9_3 H; have H := oq_f c9_4 H; have H := oq_f c9_5 H; have H := oq_f c9_6 H; have H := oq_f c9_7 H; have H := oq_f c9_8 H; have H := oq_f c9_9 H; have H := oq_f c9_10 H; have H := oq_f c9_11 H; have H := oq_f c9_12 H; have H := oq_f c9_13 H; have H := oq_f c9_14 H; have H := oq_f c9_15 H; have H := oq_f c9_16 H; have H := oq_f c9_17 H; have H := oq_f c9_18 H; have H := oq_t e9 H
    exact Wp.r_iconst (pc := 240) o_X12_dayOrder rfl (Wp.r_ireturn (pc := 241) o_X12_dayOrder rfl (⟨rfl, H⟩))
  · have H := oq_f c9_0 H; have H := oq_f c9_1 H; have H := oq_f c9_2 H; have H := oq_f c9_3 H; have H := oq_f c9_4 H; have H := oq_f c9_5 H; have H := oq_f c9_6 H; have H := oq_f c9_7 H; have H := oq_f c9_8 H; have H := oq_f c9_9 H; have H := oq_f c9_10 H; have H := oq_f c9_11 H; have H := oq_f c9_12 H; have H := oq_f c9_13 H; have H := oq_f c9_14 H; have H := oq_f c9_15 H; have H := oq_f c9_16 H; have H := oq_f c9_17 H; have H := oq_f c9_18 H; have H := oq_f c9_19 H; have H := oq_t e9 H
    refine Wp.r_aload_n0 (pc := 223) o_X12_dayOrder rfl rfl (Wp.r_iload_n2 (pc := 224) o_X12_dayOrder rfl rfl (Wp.r_cv2 (pc := 225) o_X12_dayOrder rfl fk_M_0_0 (⟨rm8_ rfl, ?_⟩)))
    refine w_X12_test (d := d) _ ?_
    refine oq_bd H (fun r19 s20 H => ?_)
    obtain ⟨c9, H⟩ := oq_ck H
    exact Wp.r_ireturn (pc := 228) o_X12_dayOrder rfl (⟨b01_n c9, H⟩)
  · have H := oq_f c9_0 H; have H := oq_f c9_1 H; have H := oq_f c9_2 H; have H := oq_f c9_3 H; have H := oq_f c9_4 H; have H := oq_f c9_5 H; have H := oq_f c9_6 H; have H := oq_f c9_7 H; have H := oq_f c9_8 H; have H := oq_f c9_9 H; have H := oq_f c9_10 H; have H := oq_f c9_11 H; have H := oq_f c9_12 H; have H := oq_f c9_13 H; have H := oq_f c9_14 H; have H := oq_f c9_15 H; have H := oq_f c9_16 H; have H := oq_f c9_17 H; have H := oq_f c9_18 H; have H := oq_f c9_19 H; have H := oq_f c9_20 H; have H := oq_t e9 H
    refine Wp.r_aload_n0 (pc := 229) o_X12_dayOrder rfl rfl (Wp.r_iload_n2 (pc := 230) o_X12_dayOrder rfl rfl (Wp.r_iconst (pc := 231) o_X12_dayOrder rfl (Wp.r_iadd (pc := 232) o_X12_dayOrder rfl (Wp.r_iconst (pc := 233) o_X12_dayOrder rfl (Wp.r_bipush (pc := 234) o_X12_dayOrder rfl (Wp.r_cv4 (pc := 236) o_X12_dayOrder rfl fk_M_0_0 (⟨rm8_ rfl, ?_⟩)))))))
    refine w_X12_number (d := d + 3) _ _ _ ?_
    refine oq_bd H (fun r21 s22 H => ?_)
    obtain ⟨c9, H⟩ := oq_ck H
    exact Wp.r_ireturn (pc := 239) o_X12_dayOrder rfl (⟨b01_n c9, H⟩)
  · have H := oq_f c9_0 H; have H := oq_f c9_1 H; have H := oq_f c9_2 H; have H := oq_f c9_3 H; have H := oq_f c9_4 H; have H := oq_f c9_5 H; have H := oq_f c9_6 H; have H := oq_f c9_7 H; have H := oq_f c9_8 H; have H := oq_f c9_9 H; have H := oq_f c9_10 H; have H := oq_f c9_11 H; have H := oq_f c9_12 H; have H := oq_f c9_13 H; have H := oq_f c9_14 H; have H := oq_f c9_15 H; have H := oq_f c9_16 H; have H := oq_f c9_17 H; have H := oq_f c9_18 H; have H := oq_f c9_19 H; have H := oq_f c9_20 H; have H := oq_f c9_21 H
    exact Wp.r_iconst (pc := 240) o_X12_dayOrder rfl (Wp.r_ireturn (pc := 241) o_X12_dayOrder rfl (⟨rfl, H⟩))
