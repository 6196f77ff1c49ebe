abbrev Y_X6_takeEnd_62 (d : Nat) (Q : Qt) : Xt := Wp SHC (WpM SHC MT (d + 3)) cd_X6_takeEnd (some .boolean) Q
def f_X6_takeEnd_62 (a2 : Int32) (a3 : Int32) (a4 : Int32) (s : Sg) : Option (Int32 × Sg) :=
  bd (f_X7_findName_52 100 s) (fun r1 s2 =>
  if r1 = 0 then
    some (0, s2)
  else
    if (s2.1 7 7) = a3 then
      bd (f_X7_wrong 5 s2) (fun r3 s4 =>
      ck (r3 = 0 ∨ r3 = 1) (some (r3, s4))
      )
    else
      bd (f_X11_has a4 (s2.1 7 7) s2) (fun r5 s6 =>
      if r5 = 0 then
        ck (inr a2 4) (
        nmx (pI s6 62 a2.toNatClampNeg (s6.1 7 7)) (fun s8 =>
        bd (f_X7_advance s8) (fun _ s10 =>
        some (1, s10)
        )
        )
        )
      else
        bd (f_X7_wrong 5 s6) (fun r11 s12 =>
        ck (r11 = 0 ∨ r11 = 1) (some (r11, s12))
        )
      )
  )
set_option maxRecDepth 100000 in
theorem w_X6_takeEnd_62 {d : Nat} {s : Sg} {Q : Qt} (a2 : Int32) (a3 : Int32) (a4 : Int32) (H : OQ (f_X6_takeEnd_62 a2 a3 a4 s) (fun r9 s9 => Q (some (.int r9)) s9)) : WpM SHC MT (d + 4) 69 [.ref 8, .ref 62, .int a2, .int a3, .int a4] s Q := by
  refine WpM.enter me_X6_takeEnd rfl rfl ?_
  show Y_X6_takeEnd_62 d Q 0 [(0, .ref 8), (1, .ref 62), (2, .int a2), (3, .int a3), (4, .int a4)] [] s
  unfold f_X6_takeEnd_62 at H
  refine Wp.run 6 (show room8 [] ∧ WpM SHC MT (d + 3) 84 [.ref 7, .ref 52, .int 100] s (fun v9 s9 => Y_X6_takeEnd_62 d Q 13 [(0, .ref 8), (1, .ref 62), (2, .int a2), (3, .int a3), (4, .int a4)] (v9.toList ++ []) s9) from ⟨rm8_ rfl, ?_⟩)
  refine w_X7_findName_52 (d := d + 1) _ ?_
  refine oq_bd H (fun r1 s2 H => ?_)
  show Y_X6_takeEnd_62 d Q 13 [(0, .ref 8), (1, .ref 62), (2, .int a2), (3, .int a3), (4, .int a4)] [.int r1] s2
  refine Wp.run 1 (show br (r1 = 0) (Y_X6_takeEnd_62 d Q 16 [(0, .ref 8), (1, .ref 62), (2, .int a2), (3, .int a3), (4, .int a4)] [] s2) (Y_X6_takeEnd_62 d Q 18 [(0, .ref 8), (1, .ref 62), (2, .int a2), (3, .int a3), (4, .int a4)] [] s2) from ⟨fun c9 => ?_, fun c9 => ?_⟩)
  · have H := oq_t c9 H
    exact Wp.run 2 ⟨rfl, H⟩
  · have H := oq_f c9 H
    refine Wp.run 5 (show br ((s2.1 7 7) = a3) (Y_X6_takeEnd_62 d Q 44 [(0, .ref 8), (1, .ref 62), (2, .int a2), (3, .int a3), (4, .int a4)] [] s2) (Y_X6_takeEnd_62 d Q 29 [(0, .ref 8), (1, .ref 62), (2, .int a2), (3, .int a3), (4, .int a4)] [] s2) from ⟨fun c9 => ?_, fun c9 => ?_⟩)
    · have H := oq_t c9 H
      refine Wp.run 4 (show room8 [] ∧ WpM SHC MT (d + 3) 81 [.ref 7, .int 5] s2 (fun v9 s9 => Y_X6_takeEnd_62 d Q 52 [(0, .ref 8), (1, .ref 62), (2, .int a2), (3, .int a3), (4, .int a4)] (v9.toList ++ []) s9) from ⟨rm8_ rfl, ?_⟩)
      refine w_X7_wrong (d := d + 2) _ ?_
      refine oq_bd H (fun r3 s4 H => ?_)
      show Y_X6_takeEnd_62 d Q 52 [(0, .ref 8), (1, .ref 62), (2, .int a2), (3, .int a3), (4, .int a4)] [.int r3] s4
      obtain ⟨c9, H⟩ := oq_ck H
      exact Wp.run 1 ⟨b01_n c9, H⟩
    · have H := oq_f c9 H
      refine Wp.run 5 (show room8 [] ∧ WpM SHC MT (d + 3) 170 [.int a4, .int (s2.1 7 7)] s2 (fun v9 s9 => Y_X6_takeEnd_62 d Q 41 [(0, .ref 8), (1, .ref 62), (2, .int a2), (3, .int a3), (4, .int a4)] (v9.toList ++ []) s9) from ⟨rm8_ rfl, ?_⟩)
      refine w_X11_has (d := d + 2) _ _ ?_
      refine oq_bd H (fun r5 s6 H => ?_)
      show Y_X6_takeEnd_62 d Q 41 [(0, .ref 8), (1, .ref 62), (2, .int a2), (3, .int a3), (4, .int a4)] [.int r5] s6
      refine Wp.run 1 (show br (r5 = 0) (Y_X6_takeEnd_62 d Q 53 [(0, .ref 8), (1, .ref 62), (2, .int a2), (3, .int a3), (4, .int a4)] [] s6) (Y_X6_takeEnd_62 d Q 44 [(0, .ref 8), (1, .ref 62), (2, .int a2), (3, .int a3), (4, .int a4)] [] s6) from ⟨fun c9 => ?_, fun c9 => ?_⟩)
      · have H := oq_t c9 H
        obtain ⟨hc7, H⟩ := oq_ck H
        refine Wp.run 6 (show (vp_in a2 4) ∧ Y_X6_takeEnd_62 d Q 63 [(0, .ref 8), (1, .ref 62), (2, .int a2), (3, .int a3), (4, .int a4)] [] (pI s6 62 a2.toNatClampNeg (s6.1 7 7)) from ⟨hc7, ?_⟩)
        revert H
        generalize pI s6 62 a2.toNatClampNeg (s6.1 7 7) = s8
        intro H
        have H := nmx_e H
        refine Wp.run 3 (show room8 [] ∧ WpM SHC MT (d + 3) 74 [.ref 7] s8 (fun v9 s9 => Y_X6_takeEnd_62 d Q 70 [(0, .ref 8), (1, .ref 62), (2, .int a2), (3, .int a3), (4, .int a4)] (v9.toList ++ []) s9) from ⟨rm8_ rfl, ?_⟩)
        refine w_X7_advance (d := d)  ?_
        refine oq_bd H (fun _ s10 H => ?_)
        show Y_X6_takeEnd_62 d Q 70 [(0, .ref 8), (1, .ref 62), (2, .int a2), (3, .int a3), (4, .int a4)] [] s10
        exact Wp.run 2 ⟨rfl, H⟩
      · have H := oq_f c9 H
        refine Wp.run 4 (show room8 [] ∧ WpM SHC MT (d + 3) 81 [.ref 7, .int 5] s6 (fun v9 s9 => Y_X6_takeEnd_62 d Q 52 [(0, .ref 8), (1, .ref 62), (2, .int a2), (3, .int a3), (4, .int a4)] (v9.toList ++ []) s9) from ⟨rm8_ rfl, ?_⟩)
        refine w_X7_wrong (d := d + 2) _ ?_
        refine oq_bd H (fun r11 s12 H => ?_)
        show Y_X6_takeEnd_62 d Q 52 [(0, .ref 8), (1, .ref 62), (2, .int a2), (3, .int a3), (4, .int a4)] [.int r11] s12
        obtain ⟨c9, H⟩ := oq_ck H
        exact Wp.run 1 ⟨b01_n c9, H⟩
abbrev Y_X6_takeEnd_63 (d : Nat) (Q : Qt) : Xt := Wp SHC (WpM SHC MT (d + 3)) cd_X6_takeEnd (some .boolean) Q
def f_X6_takeEnd_63 (a2 : Int32) (a3 : Int32) (a4 : Int32) (s : Sg) : Option (Int32 × Sg) :=
  bd (f_X7_findName_52 100 s) (fun r1 s2 =>
  if r1 = 0 then
    some (0, s2)
  else
    if (s2.1 7 7) = a3 then
      bd (f_X7_wrong 5 s2) (fun r3 s4 =>
      ck (r3 = 0 ∨ r3 = 1) (some (r3, s4))
      )
    else
      bd (f_X11_has a4 (s2.1 7 7) s2) (fun r5 s6 =>
      if r5 = 0 then
        ck (inr a2 4) (
        nmx (pI s6 63 a2.toNatClampNeg (s6.1 7 7)) (fun s8 =>
        bd (f_X7_advance s8) (fun _ s10 =>
        some (1, s10)
        )
        )
        )
      else
        bd (f_X7_wrong 5 s6) (fun r11 s12 =>
        ck (r11 = 0 ∨ r11 = 1) (some (r11, s12))
        )
      )
  )
set_option maxRecDepth 100000 in
theorem w_X6_takeEnd_63 {d : Nat} {s : Sg} {Q : Qt} (a2 : Int32) (a3 : Int32) (a4 : Int32) (H : OQ (f_X6_takeEnd_63 a2 a3 a4 s) (fun r9 s9 => Q (some (.int r9)) s9)) : WpM SHC MT (d + 4) 69 [.ref 8, .ref 63, .int a2, .int a3, .int a4] s Q := by
  refine WpM.enter me_X6_takeEnd rfl rfl ?_
  show Y_X6_takeEnd_63 d Q 0 [(0, .ref 8), (1, .ref 63), (2, .int a2), (3, .int a3), (4, .int a4)] [] s
  unfold f_X6_takeEnd_63 at H
  refine Wp.run 6 (show room8 [] ∧ WpM SHC MT (d + 3) 84 [.ref 7, .ref 52, .int 100] s (fun v9 s9 => Y_X6_takeEnd_63 d Q 13 [(0, .ref 8), (1, .ref 63), (2, .int a2), (3, .int a3), (4, .int a4)] (v9.toList ++ []) s9) from ⟨rm8_ rfl, ?_⟩)
  refine w_X7_findName_52 (d := d + 1) _ ?_
  refine oq_bd H (fun r1 s2 H => ?_)
  show Y_X6_takeEnd_63 d Q 13 [(0, .ref 8), (1, .ref 63), (2, .int a2), (3, .int a3), (4, .int a4)] [.int r1] s2
  refine Wp.run 1 (show br (r1 = 0) (Y_X6_takeEnd_63 d Q 16 [(0, .ref 8), (1, .ref 63), (2, .int a2), (3, .int a3), (4, .int a4)] [] s2) (Y_X6_takeEnd_63 d Q 18 [(0, .ref 8), (1, .ref 63), (2, .int a2), (3, .int a3), (4, .int a4)] [] s2) from ⟨fun c9 => ?_, fun c9 => ?_⟩)
  · have H := oq_t c9 H
    exact Wp.run 2 ⟨rfl, H⟩
  · have H := oq_f c9 H
    refine Wp.run 5 (show br ((s2.1 7 7) = a3) (Y_X6_takeEnd_63 d Q 44 [(0, .ref 8), (1, .ref 63), (2, .int a2), (3, .int a3), (4, .int a4)] [] s2) (Y_X6_takeEnd_63 d Q 29 [(0, .ref 8), (1, .ref 63), (2, .int a2), (3, .int a3), (4, .int a4)] [] s2) from ⟨fun c9 => ?_, fun c9 => ?_⟩)
    · have H := oq_t c9 H
      refine Wp.run 4 (show room8 [] ∧ WpM SHC MT (d + 3) 81 [.ref 7, .int 5] s2 (fun v9 s9 => Y_X6_takeEnd_63 d Q 52 [(0, .ref 8), (1, .ref 63), (2, .int a2), (3, .int a3), (4, .int a4)] (v9.toList ++ []) s9) from ⟨rm8_ rfl, ?_⟩)
      refine w_X7_wrong (d := d + 2) _ ?_
      refine oq_bd H (fun r3 s4 H => ?_)
      show Y_X6_takeEnd_63 d Q 52 [(0, .ref 8), (1, .ref 63), (2, .int a2), (3, .int a3), (4, .int a4)] [.int r3] s4
      obtain ⟨c9, H⟩ := oq_ck H
      exact Wp.run 1 ⟨b01_n c9, H⟩
    · have H := oq_f c9 H
      refine Wp.run 5 (show room8 [] ∧ WpM SHC MT (d + 3) 170 [.int a4, .int (s2.1 7 7)] s2 (fun v9 s9 => Y_X6_takeEnd_63 d Q 41 [(0, .ref 8), (1, .ref 63), (2, .int a2), (3, .int a3), (4, .int a4)] (v9.toList ++ []) s9) from ⟨rm8_ rfl, ?_⟩)
      refine w_X11_has (d := d + 2) _ _ ?_
      refine oq_bd H (fun r5 s6 H => ?_)
      show Y_X6_takeEnd_63 d Q 41 [(0, .ref 8), (1, .ref 63), (2, .int a2), (3, .int a3), (4, .int a4)] [.int r5] s6
      refine Wp.run 1 (show br (r5 = 0) (Y_X6_takeEnd_63 d Q 53 [(0, .ref 8), (1, .ref 63), (2, .int a2), (3, .int a3), (4, .int a4)] [] s6) (Y_X6_takeEnd_63 d Q 44 [(0, .ref 8), (1, .ref 63), (2, .int a2), (3, .int a3), (4, .int a4)] [] s6) from ⟨fun c9 => ?_, fun c9 => ?_⟩)
      · have H := oq_t c9 H
        obtain ⟨hc7, H⟩ := oq_ck H
        refine Wp.run 6 (show (vp_in a2 4) ∧ Y_X6_takeEnd_63 d Q 63 [(0, .ref 8), (1, .ref 63), (2, .int a2), (3, .int a3), (4, .int a4)] [] (pI s6 63 a2.toNatClampNeg (s6.1 7 7)) from ⟨hc7, ?_⟩)
        revert H
        generalize pI s6 63 a2.toNatClampNeg (s6.1 7 7) = s8
        intro H
        have H := nmx_e H
        refine Wp.run 3 (show room8 [] ∧ WpM SHC MT (d + 3) 74 [.ref 7] s8 (fun v9 s9 => Y_X6_takeEnd_63 d Q 70 [(0, .ref 8), (1, .ref 63), (2, .int a2), (3, .int a3), (4, .int a4)] (v9.toList ++ []) s9) from ⟨rm8_ rfl, ?_⟩)
        refine w_X7_advance (d := d)  ?_
        refine oq_bd H (fun _ s10 H => ?_)
        show Y_X6_takeEnd_63 d Q 70 [(0, .ref 8), (1, .ref 63), (2, .int a2), (3, .int a3), (4, .int a4)] [] s10
        exact Wp.run 2 ⟨rfl, H⟩
      · have H := oq_f c9 H
        refine Wp.run 4 (show room8 [] ∧ WpM SHC MT (d + 3) 81 [.ref 7, .int 5] s6 (fun v9 s9 => Y_X6_takeEnd_63 d Q 52 [(0, .ref 8), (1, .ref 63), (2, .int a2), (3, .int a3), (4, .int a4)] (v9.toList ++ []) s9) from ⟨rm8_ rfl, ?_⟩)
        refine w_X7_wrong (d := d + 2) _ ?_
        refine oq_bd H (fun r11 s12 H => ?_)
        show Y_X6_takeEnd_63 d Q 52 [(0, .ref 8), (1, .ref 63), (2, .int a2), (3, .int a3), (4, .int a4)] [.int r11] s12
        obtain ⟨c9, H⟩ := oq_ck H
        exact Wp.run 1 ⟨b01_n c9, H⟩
abbrev Y_X6_takeCat (d : Nat) (Q : Qt) : Xt := Wp SHC (WpM SHC MT (d + 4)) cd_X6_takeCat (some .boolean) Q
def f_X6_takeCat  (s : Sg) : Option (Int32 × Sg) :=
  bd (f_X6_takeNew 108 (s.1 52 15) 4 s) (fun r1 s2 =>
  if r1 = 0 then
    some (0, s2)
  else
    bd (f_X7_pass 109 s2) (fun r3 s4 =>
    if r3 = 0 then
      some (0, s4)
    else
      bd (f_X6_takeEnd_62 (s.1 52 15) (-1) (s4.1 52 17) s4) (fun r5 s6 =>
      if r5 = 0 then
        some (0, s6)
      else
        bd (f_X7_pass 110 s6) (fun r7 s8 =>
        if r7 = 0 then
          some (0, s8)
        else
          ck (inr (s.1 52 15) 4) (
          bd (f_X6_takeEnd_63 (s.1 52 15) (s8.1 62 ((s.1 52 15).toNatClampNeg)) (s8.1 52 17) s8) (fun r10 s11 =>
          if r10 = 0 then
            some (0, s11)
          else
            bd (f_X7_pass 111 s11) (fun r12 s13 =>
            if r12 = 0 then
              some (0, s13)
            else
              bd (f_X7_passNumber 1 99 s13) (fun r14 s15 =>
              if r14 = 0 then
                some (0, s15)
              else
                nmx (pI s15 64 ((s.1 52 15).toNatClampNeg) (s15.1 7 7)) (fun s16 =>
                nmx (pI s16 52 15 ((s16.1 52 15) + 1)) (fun s17 =>
                bd (f_X7_pass 59 s17) (fun r18 s19 =>
                ck (r18 = 0 ∨ r18 = 1) (some (r18, s19))
                )
                )
                )
              )
            )
          )
          )
        )
      )
    )
  )
set_option maxRecDepth 100000 in
theorem w_X6_takeCat {d : Nat} {s : Sg} {Q : Qt}  (H : OQ (f_X6_takeCat  s) (fun r9 s9 => Q (some (.int r9)) s9)) : WpM SHC MT (d + 5) 68 [.ref 8] s Q := by
  refine WpM.enter me_X6_takeCat rfl rfl ?_
  show Y_X6_takeCat d Q 0 [(0, .ref 8)] [] s
  unfold f_X6_takeCat at H
  refine Wp.run 9 (show room8 [] ∧ WpM SHC MT (d + 4) 64 [.ref 8, .int 108, .int (s.1 52 15), .int 4] s (fun v9 s9 => Y_X6_takeCat d Q 16 [(1, .int (s.1 52 15)), (0, .ref 8)] (v9.toList ++ []) s9) from ⟨rm8_ rfl, ?_⟩)
  refine w_X6_takeNew (d := d) _ _ _ ?_
  refine oq_bd H (fun r1 s2 H => ?_)
  show Y_X6_takeCat d Q 16 [(1, .int (s.1 52 15)), (0, .ref 8)] [.int r1] s2
  refine Wp.run 1 (show br (r1 = 0) (Y_X6_takeCat d Q 19 [(1, .int (s.1 52 15)), (0, .ref 8)] [] s2) (Y_X6_takeCat d Q 21 [(1, .int (s.1 52 15)), (0, .ref 8)] [] s2) from ⟨fun c9 => ?_, fun c9 => ?_⟩)
  · have H := oq_t c9 H
    exact Wp.run 2 ⟨rfl, H⟩
  · have H := oq_f c9 H
    refine Wp.run 4 (show room8 [] ∧ WpM SHC MT (d + 4) 82 [.ref 7, .int 109] s2 (fun v9 s9 => Y_X6_takeCat d Q 30 [(1, .int (s.1 52 15)), (0, .ref 8)] (v9.toList ++ []) s9) from ⟨rm8_ rfl, ?_⟩)
    refine w_X7_pass (d := d) _ ?_
    refine oq_bd H (fun r3 s4 H => ?_)
    show Y_X6_takeCat d Q 30 [(1, .int (s.1 52 15)), (0, .ref 8)] [.int r3] s4
    refine Wp.run 1 (show br (r3 = 0) (Y_X6_takeCat d Q 56 [(1, .int (s.1 52 15)), (0, .ref 8)] [] s4) (Y_X6_takeCat d Q 33 [(1, .int (s.1 52 15)), (0, .ref 8)] [] s4) from ⟨fun c9 => ?_, fun c9 => ?_⟩)
    · have H := oq_t c9 H
      exact Wp.run 2 ⟨rfl, H⟩
    · have H := oq_f c9 H
      refine Wp.run 10 (show room8 [] ∧ WpM SHC MT (d + 4) 69 [.ref 8, .ref 62, .int (s.1 52 15), .int (-1), .int (s4.1 52 17)] s4 (fun v9 s9 => Y_X6_takeCat d Q 53 [(1, .int (s.1 52 15)), (0, .ref 8)] (v9.toList ++ []) s9) from ⟨rm8_ rfl, ?_⟩)
      refine w_X6_takeEnd_62 (d := d) _ _ _ ?_
      refine oq_bd H (fun r5 s6 H => ?_)
      show Y_X6_takeCat d Q 53 [(1, .int (s.1 52 15)), (0, .ref 8)] [.int r5] s6
      refine Wp.run 1 (show br (r5 = 0) (Y_X6_takeCat d Q 56 [(1, .int (s.1 52 15)), (0, .ref 8)] [] s6) (Y_X6_takeCat d Q 58 [(1, .int (s.1 52 15)), (0, .ref 8)] [] s6) from ⟨fun c9 => ?_, fun c9 => ?_⟩)
      · have H := oq_t c9 H
        exact Wp.run 2 ⟨rfl, H⟩
      · have H := oq_f c9 H
        refine Wp.run 4 (show room8 [] ∧ WpM SHC MT (d + 4) 82 [.ref 7, .int 110] s6 (fun v9 s9 => Y_X6_takeCat d Q 67 [(1, .int (s.1 52 15)), (0, .ref 8)] (v9.toList ++ []) s9) from ⟨rm8_ rfl, ?_⟩)
        refine w_X7_pass (d := d) _ ?_
        refine oq_bd H (fun r7 s8 H => ?_)
        show Y_X6_takeCat d Q 67 [(1, .int (s.1 52 15)), (0, .ref 8)] [.int r7] s8
        refine Wp.run 1 (show br (r7 = 0) (Y_X6_takeCat d Q 101 [(1, .int (s.1 52 15)), (0, .ref 8)] [] s8) (Y_X6_takeCat d Q 70 [(1, .int (s.1 52 15)), (0, .ref 8)] [] s8) from ⟨fun c9 => ?_, fun c9 => ?_⟩)
        · have H := oq_t c9 H
          exact Wp.run 2 ⟨rfl, H⟩
        · have H := oq_f c9 H
          obtain ⟨hc9, H⟩ := oq_ck H
          refine Wp.run 10 (show (vp_in (s.1 52 15) 4) ∧ Y_X6_takeCat d Q 88 [(1, .int (s.1 52 15)), (0, .ref 8)] [.int (s8.1 62 ((s.1 52 15).toNatClampNeg)), .int (s.1 52 15), .ref 63, .ref 8] s8 from ⟨hc9, ?_⟩)
          refine Wp.run 4 (show room8 [] ∧ WpM SHC MT (d + 4) 69 [.ref 8, .ref 63, .int (s.1 52 15), .int (s8.1 62 ((s.1 52 15).toNatClampNeg)), .int (s8.1 52 17)] s8 (fun v9 s9 => Y_X6_takeCat d Q 98 [(1, .int (s.1 52 15)), (0, .ref 8)] (v9.toList ++ []) s9) from ⟨rm8_ rfl, ?_⟩)
          refine w_X6_takeEnd_63 (d := d) _ _ _ ?_
          refine oq_bd H (fun r10 s11 H => ?_)
          show Y_X6_takeCat d Q 98 [(1, .int (s.1 52 15)), (0, .ref 8)] [.int r10] s11
          refine Wp.run 1 (show br (r10 = 0) (Y_X6_takeCat d Q 101 [(1, .int (s.1 52 15)), (0, .ref 8)] [] s11) (Y_X6_takeCat d Q 103 [(1, .int (s.1 52 15)), (0, .ref 8)] [] s11) from ⟨fun c9 => ?_, fun c9 => ?_⟩)
          · have H := oq_t c9 H
            exact Wp.run 2 ⟨rfl, H⟩
          · have H := oq_f c9 H
            refine Wp.run 4 (show room8 [] ∧ WpM SHC MT (d + 4) 82 [.ref 7, .int 111] s11 (fun v9 s9 => Y_X6_takeCat d Q 112 [(1, .int (s.1 52 15)), (0, .ref 8)] (v9.toList ++ []) s9) from ⟨rm8_ rfl, ?_⟩)
            refine w_X7_pass (d := d) _ ?_
            refine oq_bd H (fun r12 s13 H => ?_)
            show Y_X6_takeCat d Q 112 [(1, .int (s.1 52 15)), (0, .ref 8)] [.int r12] s13
            refine Wp.run 1 (show br (r12 = 0) (Y_X6_takeCat d Q 128 [(1, .int (s.1 52 15)), (0, .ref 8)] [] s13) (Y_X6_takeCat d Q 115 [(1, .int (s.1 52 15)), (0, .ref 8)] [] s13) from ⟨fun c9 => ?_, fun c9 => ?_⟩)
            · have H := oq_t c9 H
              exact Wp.run 2 ⟨rfl, H⟩
            · have H := oq_f c9 H
              refine Wp.run 5 (show room8 [] ∧ WpM SHC MT (d + 4) 83 [.ref 7, .int 1, .int 99] s13 (fun v9 s9 => Y_X6_takeCat d Q 125 [(1, .int (s.1 52 15)), (0, .ref 8)] (v9.toList ++ []) s9) from ⟨rm8_ rfl, ?_⟩)
              refine w_X7_passNumber (d := d) _ _ ?_
              refine oq_bd H (fun r14 s15 H => ?_)
              show Y_X6_takeCat d Q 125 [(1, .int (s.1 52 15)), (0, .ref 8)] [.int r14] s15
              refine Wp.run 1 (show br (r14 = 0) (Y_X6_takeCat d Q 128 [(1, .int (s.1 52 15)), (0, .ref 8)] [] s15) (Y_X6_takeCat d Q 130 [(1, .int (s.1 52 15)), (0, .ref 8)] [] s15) from ⟨fun c9 => ?_, fun c9 => ?_⟩)
              · have H := oq_t c9 H
                exact Wp.run 2 ⟨rfl, H⟩
              · have H := oq_f c9 H
                refine Wp.run 8 (show (vp_in (s.1 52 15) 4) ∧ Y_X6_takeCat d Q 146 [(1, .int (s.1 52 15)), (0, .ref 8)] [] (pI s15 64 ((s.1 52 15).toNatClampNeg) (s15.1 7 7)) from ⟨hc9, ?_⟩)
                revert H
                generalize pI s15 64 ((s.1 52 15).toNatClampNeg) (s15.1 7 7) = s16
                intro H
                have H := nmx_e H
                refine Wp.run 7 (show Y_X6_takeCat d Q 159 [(1, .int (s.1 52 15)), (0, .ref 8)] [] (pI s16 52 15 ((s16.1 52 15) + 1)) from ?_)
                revert H
                generalize pI s16 52 15 ((s16.1 52 15) + 1) = s17
                intro H
                have H := nmx_e H
                refine Wp.run 4 (show room8 [] ∧ WpM SHC MT (d + 4) 82 [.ref 7, .int 59] s17 (fun v9 s9 => Y_X6_takeCat d Q 168 [(1, .int (s.1 52 15)), (0, .ref 8)] (v9.toList ++ []) s9) from ⟨rm8_ rfl, ?_⟩)
                refine w_X7_pass (d := d) _ ?_
                refine oq_bd H (fun r18 s19 H => ?_)
                show Y_X6_takeCat d Q 168 [(1, .int (s.1 52 15)), (0, .ref 8)] [.int r18] s19
                obtain ⟨c9, H⟩ := oq_ck H
                exact Wp.run 1 ⟨b01_n c9, H⟩
abbrev Y_X6_takeGrocer (d : Nat) (Q : Qt) : Xt := Wp SHC (WpM SHC MT (d + 4)) cd_X6_takeGrocer (some .boolean) Q
def f_X6_takeGrocer_b171  (s : Sg) : Option (Int32 × Sg) :=
  bd (f_X7_pass 59 (pI s 52 16 ((s.1 52 16) + 1))) (fun r20 s21 =>
  ck (r20 = 0 ∨ r20 = 1) (some (r20, s21))
  )
set_option maxRecDepth 100000 in
theorem w_X6_takeGrocer_b171 {d : Nat} {Q : Qt}  (s : Sg) (H : OQ (f_X6_takeGrocer_b171  s) (fun r9 s9 => Q (some (.int r9)) s9)) : Y_X6_takeGrocer d Q 171 [(0, .ref 8)] [] s := by
  unfold f_X6_takeGrocer_b171 at H
  refine Wp.run 11 (show room8 [] ∧ WpM SHC MT (d + 4) 82 [.ref 7, .int 59] (pI s 52 16 ((s.1 52 16) + 1)) (fun v9 s9 => Y_X6_takeGrocer d Q 193 [(0, .ref 8)] (v9.toList ++ []) s9) from ⟨rm8_ rfl, ?_⟩)
  refine w_X7_pass (d := d) _ ?_
  refine oq_bd H (fun r20 s21 H => ?_)
  show Y_X6_takeGrocer d Q 193 [(0, .ref 8)] [.int r20] s21
  obtain ⟨c9, H⟩ := oq_ck H
  exact Wp.run 1 ⟨b01_n c9, H⟩
def f_X6_takeGrocer  (s : Sg) : Option (Int32 × Sg) :=
  bd (f_X6_takeNew 112 (s.1 52 16) 4 s) (fun r1 s2 =>
  if r1 = 0 then
    some (0, s2)
  else
    bd (f_X7_pass 113 s2) (fun r3 s4 =>
    if r3 = 0 then
      some (0, s4)
    else
      bd (f_X7_passNumber 0 999 s4) (fun r5 s6 =>
      if r5 = 0 then
        some (0, s6)
      else
        ck (inr (s.1 52 16) 4) (
        nmx (pI s6 71 ((s.1 52 16).toNatClampNeg) (s6.1 7 7)) (fun s8 =>
        bd (f_X7_pass 114 s8) (fun r9 s10 =>
        if r9 = 0 then
          some (0, s10)
        else
          bd (f_X7_passNumber 1 99 s10) (fun r11 s12 =>
          if r11 = 0 then
            some (0, s12)
          else
            nmx (pI s12 65 ((s.1 52 16).toNatClampNeg) (s12.1 7 7)) (fun s13 =>
            nmx (pI s13 66 ((s.1 52 16).toNatClampNeg) 0) (fun s14 =>
            if (s14.1 7 3) = 115 then
              bd (f_X7_advance s14) (fun _ s16 =>
              bd (f_X7_passNumber 0 16 s16) (fun r17 s18 =>
              if r17 = 0 then
                some (0, s18)
              else
                nmx (pI s18 66 ((s.1 52 16).toNatClampNeg) (s18.1 7 7)) (fun s19 =>
                f_X6_takeGrocer_b171 s19
                )
              )
              )
            else
              f_X6_takeGrocer_b171 s14
            )
            )
          )
        )
        )
        )
      )
    )
  )
set_option maxRecDepth 100000 in
theorem w_X6_takeGrocer {d : Nat} {s : Sg} {Q : Qt}  (H : OQ (f_X6_takeGrocer  s) (fun r9 s9 => Q (some (.int r9)) s9)) : WpM SHC MT (d + 5) 70 [.ref 8] s Q := by
  refine WpM.enter me_X6_takeGrocer rfl rfl ?_
  show Y_X6_takeGrocer d Q 0 [(0, .ref 8)] [] s
  unfold f_X6_takeGrocer at H
  refine Wp.run 9 (show room8 [] ∧ WpM SHC MT (d + 4) 64 [.ref 8, .int 112, .int (s.1 52 16), .int 4] s (fun v9 s9 => Y_X6_takeGrocer d Q 16 [(1, .int (s.1 52 16)), (0, .ref 8)] (v9.toList ++ []) s9) from ⟨rm8_ rfl, ?_⟩)
  refine w_X6_takeNew (d := d) _ _ _ ?_
  refine oq_bd H (fun r1 s2 H => ?_)
  show Y_X6_takeGrocer d Q 16 [(1, .int (s.1 52 16)), (0, .ref 8)] [.int r1] s2
  refine Wp.run 1 (show br (r1 = 0) (Y_X6_takeGrocer d Q 19 [(1, .int (s.1 52 16)), (0, .ref 8)] [] s2) (Y_X6_takeGrocer d Q 21 [(1, .int (s.1 52 16)), (0, .ref 8)] [] s2) from ⟨fun c9 => ?_, fun c9 => ?_⟩)
  · have H := oq_t c9 H
    exact Wp.run 2 ⟨rfl, H⟩
  · have H := oq_f c9 H
    refine Wp.run 4 (show room8 [] ∧ WpM SHC MT (d + 4) 82 [.ref 7, .int 113] s2 (fun v9 s9 => Y_X6_takeGrocer d Q 30 [(1, .int (s.1 52 16)), (0, .ref 8)] (v9.toList ++ []) s9) from ⟨rm8_ rfl, ?_⟩)
    refine w_X7_pass (d := d) _ ?_
    refine oq_bd H (fun r3 s4 H => ?_)
    show Y_X6_takeGrocer d Q 30 [(1, .int (s.1 52 16)), (0, .ref 8)] [.int r3] s4
    refine Wp.run 1 (show br (r3 = 0) (Y_X6_takeGrocer d Q 47 [(1, .int (s.1 52 16)), (0, .ref 8)] [] s4) (Y_X6_takeGrocer d Q 33 [(1, .int (s.1 52 16)), (0, .ref 8)] [] s4) from ⟨fun c9 => ?_, fun c9 => ?_⟩)
    · have H := oq_t c9 H
      exact Wp.run 2 ⟨rfl, H⟩
    · have H := oq_f c9 H
      refine Wp.run 5 (show room8 [] ∧ WpM SHC MT (d + 4) 83 [.ref 7, .int 0, .int 999] s4 (fun v9 s9 => Y_X6_takeGrocer d Q 44 [(1, .int (s.1 52 16)), (0, .ref 8)] (v9.toList ++ []) s9) from ⟨rm8_ rfl, ?_⟩)
      refine w_X7_passNumber (d := d) _ _ ?_
      refine oq_bd H (fun r5 s6 H => ?_)
      show Y_X6_takeGrocer d Q 44 [(1, .int (s.1 52 16)), (0, .ref 8)] [.int r5] s6
      refine Wp.run 1 (show br (r5 = 0) (Y_X6_takeGrocer d Q 47 [(1, .int (s.1 52 16)), (0, .ref 8)] [] s6) (Y_X6_takeGrocer d Q 49 [(1, .int (s.1 52 16)), (0, .ref 8)] [] s6) from ⟨fun c9 => ?_, fun c9 => ?_⟩)
      · have H := oq_t c9 H
        exact Wp.run 2 ⟨rfl, H⟩
      · have H := oq_f c9 H
        obtain ⟨hc7, H⟩ := oq_ck H
        refine Wp.run 9 (show (vp_in (s.1 52 16) 4) ∧ Y_X6_takeGrocer d Q 68 [(1, .int (s.1 52 16)), (0, .ref 8)] [] (pI s6 71 ((s.1 52 16).toNatClampNeg) (s6.1 7 7)) from ⟨hc7, ?_⟩)
        revert H
        generalize pI s6 71 ((s.1 52 16).toNatClampNeg) (s6.1 7 7) = s8
        intro H
        have H := nmx_e H
        refine Wp.run 4 (show room8 [] ∧ WpM SHC MT (d + 4) 82 [.ref 7, .int 114] s8 (fun v9 s9 => Y_X6_takeGrocer d Q 77 [(1, .int (s.1 52 16)), (0, .ref 8)] (v9.toList ++ []) s9) from ⟨rm8_ rfl, ?_⟩)
        refine w_X7_pass (d := d) _ ?_
        refine oq_bd H (fun r9 s10 H => ?_)
        show Y_X6_takeGrocer d Q 77 [(1, .int (s.1 52 16)), (0, .ref 8)] [.int r9] s10
        refine Wp.run 1 (show br (r9 = 0) (Y_X6_takeGrocer d Q 93 [(1, .int (s.1 52 16)), (0, .ref 8)] [] s10) (Y_X6_takeGrocer d Q 80 [(1, .int (s.1 52 16)), (0, .ref 8)] [] s10) from ⟨fun c9 => ?_, fun c9 => ?_⟩)
        · have H := oq_t c9 H
          exact Wp.run 2 ⟨rfl, H⟩
        · have H := oq_f c9 H
          refine Wp.run 5 (show room8 [] ∧ WpM SHC MT (d + 4) 83 [.ref 7, .int 1, .int 99] s10 (fun v9 s9 => Y_X6_takeGrocer d Q 90 [(1, .int (s.1 52 16)), (0, .ref 8)] (v9.toList ++ []) s9) from ⟨rm8_ rfl, ?_⟩)
          refine w_X7_passNumber (d := d) _ _ ?_
          refine oq_bd H (fun r11 s12 H => ?_)
          show Y_X6_takeGrocer d Q 90 [(1, .int (s.1 52 16)), (0, .ref 8)] [.int r11] s12
          refine Wp.run 1 (show br (r11 = 0) (Y_X6_takeGrocer d Q 93 [(1, .int (s.1 52 16)), (0, .ref 8)] [] s12) (Y_X6_takeGrocer d Q 95 [(1, .int (s.1 52 16)), (0, .ref 8)] [] s12) from ⟨fun c9 => ?_, fun c9 => ?_⟩)
          · have H := oq_t c9 H
            exact Wp.run 2 ⟨rfl, H⟩
          · have H := oq_f c9 H
            refine Wp.run 8 (show (vp_in (s.1 52 16) 4) ∧ Y_X6_takeGrocer d Q 111 [(1, .int (s.1 52 16)), (0, .ref 8)] [] (pI s12 65 ((s.1 52 16).toNatClampNeg) (s12.1 7 7)) from ⟨hc7, ?_⟩)
            revert H
            generalize pI s12 65 ((s.1 52 16).toNatClampNeg) (s12.1 7 7) = s13
            intro H
            have H := nmx_e H
            refine Wp.run 6 (show (vp_in (s.1 52 16) 4) ∧ Y_X6_takeGrocer d Q 121 [(1, .int (s.1 52 16)), (0, .ref 8)] [] (pI s13 66 ((s.1 52 16).toNatClampNeg) 0) from ⟨hc7, ?_⟩)
            revert H
            generalize pI s13 66 ((s.1 52 16).toNatClampNeg) 0 = s14
            intro H
            have H := nmx_e H
            refine Wp.run 5 (show br ((s14.1 7 3) = 115) (Y_X6_takeGrocer d Q 133 [(1, .int (s.1 52 16)), (0, .ref 8)] [] s14) (Y_X6_takeGrocer d Q 171 [(1, .int (s.1 52 16)), (0, .ref 8)] [] s14) from ⟨fun c9 => ?_, fun c9 => ?_⟩)
            · have H := oq_t c9 H
              refine Wp.run 3 (show room8 [] ∧ WpM SHC MT (d + 4) 74 [.ref 7] s14 (fun v9 s9 => Y_X6_takeGrocer d Q 140 [(1, .int (s.1 52 16)), (0, .ref 8)] (v9.toList ++ []) s9) from ⟨rm8_ rfl, ?_⟩)
              refine w_X7_advance (d := d + 1)  ?_
              refine oq_bd H (fun _ s16 H => ?_)
              show Y_X6_takeGrocer d Q 140 [(1, .int (s.1 52 16)), (0, .ref 8)] [] s16
              refine Wp.run 5 (show room8 [] ∧ WpM SHC MT (d + 4) 83 [.ref 7, .int 0, .int 16] s16 (fun v9 s9 => Y_X6_takeGrocer d Q 150 [(1, .int (s.1 52 16)), (0, .ref 8)] (v9.toList ++ []) s9) from ⟨rm8_ rfl, ?_⟩)
              refine w_X7_passNumber (d := d) _ _ ?_
              refine oq_bd H (fun r17 s18 H => ?_)
              show Y_X6_takeGrocer d Q 150 [(1, .int (s.1 52 16)), (0, .ref 8)] [.int r17] s18
              refine Wp.run 1 (show br (r17 = 0) (Y_X6_takeGrocer d Q 153 [(1, .int (s.1 52 16)), (0, .ref 8)] [] s18) (Y_X6_takeGrocer d Q 155 [(1, .int (s.1 52 16)), (0, .ref 8)] [] s18) from ⟨fun c9 => ?_, fun c9 => ?_⟩)
              · have H := oq_t c9 H
                exact Wp.run 2 ⟨rfl, H⟩
              · have H := oq_f c9 H
                refine Wp.run 8 (show (vp_in (s.1 52 16) 4) ∧ Y_X6_takeGrocer d Q 171 [(1, .int (s.1 52 16)), (0, .ref 8)] [] (pI s18 66 ((s.1 52 16).toNatClampNeg) (s18.1 7 7)) from ⟨hc7, ?_⟩)
                revert H
                generalize pI s18 66 ((s.1 52 16).toNatClampNeg) (s18.1 7 7) = s19
                intro H
                have H := nmx_e H
                refine Wp.weak [1] (lv' := [(0, .ref 8)]) rfl ?_
                exact w_X6_takeGrocer_b171 _ H
            · have H := oq_f c9 H
              refine Wp.weak [1] (lv' := [(0, .ref 8)]) rfl ?_
              exact w_X6_takeGrocer_b171 _ H
abbrev Y_X6_takeWashes (d : Nat) (Q : Qt) : Xt := Wp SHC (WpM SHC MT (d + 4)) cd_X6_takeWashes (some .boolean) Q
def f_X6_takeWashes_b35  (s : Sg) : Option (Int32 × Sg) :=
  bd (f_X7_pass 117 s) (fun r3 s4 =>
  if r3 = 0 then
    some (0, s4)
  else
    bd (f_X7_passNumber 0 99 s4) (fun r5 s6 =>
    if r5 = 0 then
      some (0, s6)
    else
      nmx (pI (pI s6 8 3 1) 52 18 ((pI s6 8 3 1).1 7 7)) (fun s7 =>
      bd (f_X7_pass 59 s7) (fun r8 s9 =>
      ck (r8 = 0 ∨ r8 = 1) (some (r8, s9))
      )
      )
    )
  )
set_option maxRecDepth 100000 in
theorem w_X6_takeWashes_b35 {d : Nat} {Q : Qt}  (s : Sg) (H : OQ (f_X6_takeWashes_b35  s) (fun r9 s9 => Q (some (.int r9)) s9)) : Y_X6_takeWashes d Q 35 [(0, .ref 8)] [] s := by
  unfold f_X6_takeWashes_b35 at H
  refine Wp.run 4 (show room8 [] ∧ WpM SHC MT (d + 4) 82 [.ref 7, .int 117] s (fun v9 s9 => Y_X6_takeWashes d Q 44 [(0, .ref 8)] (v9.toList ++ []) s9) from ⟨rm8_ rfl, ?_⟩)
  refine w_X7_pass (d := d) _ ?_
  refine oq_bd H (fun r3 s4 H => ?_)
  show Y_X6_takeWashes d Q 44 [(0, .ref 8)] [.int r3] s4
  refine Wp.run 1 (show br (r3 = 0) (Y_X6_takeWashes d Q 60 [(0, .ref 8)] [] s4) (Y_X6_takeWashes d Q 47 [(0, .ref 8)] [] s4) from ⟨fun c9 => ?_, fun c9 => ?_⟩)
  · have H := oq_t c9 H
    exact Wp.run 2 ⟨rfl, H⟩
  · have H := oq_f c9 H
    refine Wp.run 5 (show room8 [] ∧ WpM SHC MT (d + 4) 83 [.ref 7, .int 0, .int 99] s4 (fun v9 s9 => Y_X6_takeWashes d Q 57 [(0, .ref 8)] (v9.toList ++ []) s9) from ⟨rm8_ rfl, ?_⟩)
    refine w_X7_passNumber (d := d) _ _ ?_
    refine oq_bd H (fun r5 s6 H => ?_)
    show Y_X6_takeWashes d Q 57 [(0, .ref 8)] [.int r5] s6
    refine Wp.run 1 (show br (r5 = 0) (Y_X6_takeWashes d Q 60 [(0, .ref 8)] [] s6) (Y_X6_takeWashes d Q 62 [(0, .ref 8)] [] s6) from ⟨fun c9 => ?_, fun c9 => ?_⟩)
    · have H := oq_t c9 H
      exact Wp.run 2 ⟨rfl, H⟩
    · have H := oq_f c9 H
      refine Wp.run 3 (show ((1 : Int32) = 0 ∨ 1 = 1) ∧ Y_X6_takeWashes d Q 67 [(0, .ref 8)] [] (pI s6 8 3 1) from ⟨Or.inr rfl, ?_⟩)
      refine Wp.run 6 (show Y_X6_takeWashes d Q 81 [(0, .ref 8)] [] (pI (pI s6 8 3 1) 52 18 ((pI s6 8 3 1).1 7 7)) from ?_)
      revert H
      generalize pI (pI s6 8 3 1) 52 18 ((pI s6 8 3 1).1 7 7) = s7
      intro H
      have H := nmx_e H
      refine Wp.run 4 (show room8 [] ∧ WpM SHC MT (d + 4) 82 [.ref 7, .int 59] s7 (fun v9 s9 => Y_X6_takeWashes d Q 90 [(0, .ref 8)] (v9.toList ++ []) s9) from ⟨rm8_ rfl, ?_⟩)
      refine w_X7_pass (d := d) _ ?_
      refine oq_bd H (fun r8 s9 H => ?_)
      show Y_X6_takeWashes d Q 90 [(0, .ref 8)] [.int r8] s9
      obtain ⟨c9, H⟩ := oq_ck H
      exact Wp.run 1 ⟨b01_n c9, H⟩
def f_X6_takeWashes  (s : Sg) : Option (Int32 × Sg) :=
  bd (f_X7_advance s) (fun _ s2 =>
  if (s2.1 7 3) = 117 then
    if (s2.1 8 3) = 0 then
      f_X6_takeWashes_b35 s2
    else
      bd (f_X7_wrong 5 s2) (fun r10 s11 =>
      ck (r10 = 0 ∨ r10 = 1) (some (r10, s11))
      )
  else
    f_X6_takeWashes_b35 s2
  )
set_option maxRecDepth 100000 in
theorem w_X6_takeWashes {d : Nat} {s : Sg} {Q : Qt}  (H : OQ (f_X6_takeWashes  s) (fun r9 s9 => Q (some (.int r9)) s9)) : WpM SHC MT (d + 5) 71 [.ref 8] s Q := by
  refine WpM.enter me_X6_takeWashes rfl rfl ?_
  show Y_X6_takeWashes d Q 0 [(0, .ref 8)] [] s
  unfold f_X6_takeWashes at H
  refine Wp.run 3 (show room8 [] ∧ WpM SHC MT (d + 4) 74 [.ref 7] s (fun v9 s9 => Y_X6_takeWashes d Q 7 [(0, .ref 8)] (v9.toList ++ []) s9) from ⟨rm8_ rfl, ?_⟩)
  refine w_X7_advance (d := d + 1)  ?_
  refine oq_bd H (fun _ s2 H => ?_)
  show Y_X6_takeWashes d Q 7 [(0, .ref 8)] [] s2
  refine Wp.run 5 (show br ((s2.1 7 3) = 117) (Y_X6_takeWashes d Q 19 [(0, .ref 8)] [] s2) (Y_X6_takeWashes d Q 35 [(0, .ref 8)] [] s2) from ⟨fun c9 => ?_, fun c9 => ?_⟩)
  · have H := oq_t c9 H
    refine Wp.run 3 (show br ((s2.1 8 3) = 0) (Y_X6_takeWashes d Q 35 [(0, .ref 8)] [] s2) (Y_X6_takeWashes d Q 26 [(0, .ref 8)] [] s2) from ⟨fun c9 => ?_, fun c9 => ?_⟩)
    · have H := oq_t c9 H
      refine Wp.weak [0] (lv' := [(0, .ref 8)]) rfl ?_
      exact w_X6_takeWashes_b35 _ H
    · have H := oq_f c9 H
      refine Wp.run 4 (show room8 [] ∧ WpM SHC MT (d + 4) 81 [.ref 7, .int 5] s2 (fun v9 s9 => Y_X6_takeWashes d Q 34 [(0, .ref 8)] (v9.toList ++ []) s9) from ⟨rm8_ rfl, ?_⟩)
      refine w_X7_wrong (d := d + 3) _ ?_
      refine oq_bd H (fun r10 s11 H => ?_)
      show Y_X6_takeWashes d Q 34 [(0, .ref 8)] [.int r10] s11
      obtain ⟨c9, H⟩ := oq_ck H
      exact Wp.run 1 ⟨b01_n c9, H⟩
  · have H := oq_f c9 H
    refine Wp.weak [0] (lv' := [(0, .ref 8)]) rfl ?_
    exact w_X6_takeWashes_b35 _ H
abbrev Y_X6_takeText (d : Nat) (Q : Qt) : Xt := Wp SHC (WpM SHC MT (d + 6)) cd_X6_takeText (some .boolean) Q
def f_X6_takeText_b21 : Nat → Int32 → Int32 → Sg → Option (Int32 × Sg)
  | 0, _, _, _ => none
  | n + 1, v1, v2, s =>
    if 900 < v2 then
      ck (v1 = 0 ∨ v1 = 1) (some (v1, s))
    else
      if v1 = 0 then
        ck (v1 = 0 ∨ v1 = 1) (some (v1, s))
      else
        if (s.1 7 3) = 0 then
          ck (v1 = 0 ∨ v1 = 1) (some (v1, s))
        else
          if (s.1 7 3) = 100 then
            bd (f_X6_takeHouse s) (fun r3 s4 =>
            (f_X6_takeText_b21 n) r3 (v2 + 1) s4
            )
          else
          if (s.1 7 3) = 101 then
            bd (f_X7_wrong 2 s) (fun r5 s6 =>
            (f_X6_takeText_b21 n) r5 (v2 + 1) s6
            )
          else
          if (s.1 7 3) = 102 then
            bd (f_X7_wrong 2 s) (fun r7 s8 =>
            (f_X6_takeText_b21 n) r7 (v2 + 1) s8
            )
          else
          if (s.1 7 3) = 103 then
            bd (f_X6_takeCounts s) (fun r9 s10 =>
            (f_X6_takeText_b21 n) r9 (v2 + 1) s10
            )
          else
          if (s.1 7 3) = 104 then
            bd (f_X6_takeQuarrel s) (fun r11 s12 =>
            (f_X6_takeText_b21 n) r11 (v2 + 1) s12
            )
          else
          if (s.1 7 3) = 105 then
            bd (f_X7_wrong 2 s) (fun r13 s14 =>
            (f_X6_takeText_b21 n) r13 (v2 + 1) s14
            )
          else
          if (s.1 7 3) = 106 then
            bd (f_X7_wrong 2 s) (fun r15 s16 =>
            (f_X6_takeText_b21 n) r15 (v2 + 1) s16
            )
          else
          if (s.1 7 3) = 107 then
            bd (f_X7_wrong 2 s) (fun r17 s18 =>
            (f_X6_takeText_b21 n) r17 (v2 + 1) s18
            )
          else
          if (s.1 7 3) = 108 then
            bd (f_X6_takeCat s) (fun r19 s20 =>
            (f_X6_takeText_b21 n) r19 (v2 + 1) s20
            )
          else
          if (s.1 7 3) = 109 then
            bd (f_X7_wrong 2 s) (fun r21 s22 =>
            (f_X6_takeText_b21 n) r21 (v2 + 1) s22
            )
          else
          if (s.1 7 3) = 110 then
            bd (f_X7_wrong 2 s) (fun r23 s24 =>
            (f_X6_takeText_b21 n) r23 (v2 + 1) s24
            )
          else
          if (s.1 7 3) = 111 then
            bd (f_X7_wrong 2 s) (fun r25 s26 =>
            (f_X6_takeText_b21 n) r25 (v2 + 1) s26
            )
          else
          if (s.1 7 3) = 112 then
            bd (f_X6_takeGrocer s) (fun r27 s28 =>
            (f_X6_takeText_b21 n) r27 (v2 + 1) s28
            )
          else
          if (s.1 7 3) = 113 then
            bd (f_X7_wrong 2 s) (fun r29 s30 =>
            (f_X6_takeText_b21 n) r29 (v2 + 1) s30
            )
          else
          if (s.1 7 3) = 114 then
            bd (f_X7_wrong 2 s) (fun r31 s32 =>
            (f_X6_takeText_b21 n) r31 (v2 + 1) s32
            )
          else
          if (s.1 7 3) = 115 then
            bd (f_X7_wrong 2 s) (fun r33 s34 =>
            (f_X6_takeText_b21 n) r33 (v2 + 1) s34
            )
          else
          if (s.1 7 3) = 116 then
            bd (f_X6_takeWashes s) (fun r35 s36 =>
            (f_X6_takeText_b21 n) r35 (v2 + 1) s36
            )
          else
            bd (f_X7_wrong 2 s) (fun r37 s38 =>
            (f_X6_takeText_b21 n) r37 (v2 + 1) s38
            )
set_option maxRecDepth 100000 in
theorem w_X6_takeText_b21 {d : Nat} {Q : Qt} (n : Nat) : ∀ (v1 : Int32) (v2 : Int32) (s : Sg), OQ (f_X6_takeText_b21 n v1 v2 s) (fun r9 s9 => Q (some (.int r9)) s9) → Y_X6_takeText d Q 21 [(0, .ref 8), (1, .int v1), (2, .int v2)] [] s := by
  induction n with
  | zero => intro v1 v2 s H; exact H.elim
  | succ n ih =>
    intro v1 v2 s H
    unfold f_X6_takeText_b21 at H
    refine Wp.run 3 (show br (900 < v2) (Y_X6_takeText d Q 195 [(0, .ref 8), (1, .int v1), (2, .int v2)] [] s) (Y_X6_takeText d Q 28 [(0, .ref 8), (1, .int v1), (2, .int v2)] [] s) from ⟨fun c9 => ?_, fun c9 => ?_⟩)
    · have H := oq_t c9 H
      obtain ⟨c9, H⟩ := oq_ck H
      exact Wp.run 2 ⟨b01_n c9, H⟩
    · have H := oq_f c9 H
      refine Wp.run 2 (show br (v1 = 0) (Y_X6_takeText d Q 195 [(0, .ref 8), (1, .int v1), (2, .int v2)] [] s) (Y_X6_takeText d Q 32 [(0, .ref 8), (1, .int v1), (2, .int v2)] [] s) from ⟨fun c9 => ?_, fun c9 => ?_⟩)
      · have H := oq_t c9 H
        obtain ⟨c9, H⟩ := oq_ck H
        exact Wp.run 2 ⟨b01_n c9, H⟩
      · have H := oq_f c9 H
        refine Wp.run 4 (show br ((s.1 7 3) = 0) (Y_X6_takeText d Q 195 [(0, .ref 8), (1, .int v1), (2, .int v2)] [] s) (Y_X6_takeText d Q 42 [(0, .ref 8), (1, .int v1), (2, .int v2)] [] s) from ⟨fun c9 => ?_, fun c9 => ?_⟩)
        · have H := oq_t c9 H
          obtain ⟨c9, H⟩ := oq_ck H
          exact Wp.run 2 ⟨b01_n c9, H⟩
        · have H := oq_f c9 H
          refine Wp.run 4 (show ((s.1 7 3) = 100 → Y_X6_takeText d Q 132 [(0, .ref 8), (1, .int v1), (2, .int v2)] [] s) ∧ (¬ (s.1 7 3) = 100 → ((s.1 7 3) = 101 → Y_X6_takeText d Q 180 [(0, .ref 8), (1, .int v1), (2, .int v2)] [] s) ∧ (¬ (s.1 7 3) = 101 → ((s.1 7 3) = 102 → Y_X6_takeText d Q 180 [(0, .ref 8), (1, .int v1), (2, .int v2)] [] s) ∧ (¬ (s.1 7 3) = 102 → ((s.1 7 3) = 103 → Y_X6_takeText d Q 172 [(0, .ref 8), (1, .int v1), (2, .int v2)] [] s) ∧ (¬ (s.1 7 3) = 103 → ((s.1 7 3) = 104 → Y_X6_takeText d Q 140 [(0, .ref 8), (1, .int v1), (2, .int v2)] [] s) ∧ (¬ (s.1 7 3) = 104 → ((s.1 7 3) = 105 → Y_X6_takeText d Q 180 [(0, .ref 8), (1, .int v1), (2, .int v2)] [] s) ∧ (¬ (s.1 7 3) = 105 → ((s.1 7 3) = 106 → Y_X6_takeText d Q 180 [(0, .ref 8), (1, .int v1), (2, .int v2)] [] s) ∧ (¬ (s.1 7 3) = 106 → ((s.1 7 3) = 107 → Y_X6_takeText d Q 180 [(0, .ref 8), (1, .int v1), (2, .int v2)] [] s) ∧ (¬ (s.1 7 3) = 107 → ((s.1 7 3) = 108 → Y_X6_takeText d Q 148 [(0, .ref 8), (1, .int v1), (2, .int v2)] [] s) ∧ (¬ (s.1 7 3) = 108 → ((s.1 7 3) = 109 → Y_X6_takeText d Q 180 [(0, .ref 8), (1, .int v1), (2, .int v2)] [] s) ∧ (¬ (s.1 7 3) = 109 → ((s.1 7 3) = 110 → Y_X6_takeText d Q 180 [(0, .ref 8), (1, .int v1), (2, .int v2)] [] s) ∧ (¬ (s.1 7 3) = 110 → ((s.1 7 3) = 111 → Y_X6_takeText d Q 180 [(0, .ref 8), (1, .int v1), (2, .int v2)] [] s) ∧ (¬ (s.1 7 3) = 111 → ((s.1 7 3) = 112 → Y_X6_takeText d Q 156 [(0, .ref 8), (1, .int v1), (2, .int v2)] [] s) ∧ (¬ (s.1 7 3) = 112 → ((s.1 7 3) = 113 → Y_X6_takeText d Q 180 [(0, .ref 8), (1, .int v1), (2, .int v2)] [] s) ∧ (¬ (s.1 7 3) = 113 → ((s.1 7 3) = 114 → Y_X6_takeText d Q 180 [(0, .ref 8), (1, .int v1), (2, .int v2)] [] s) ∧ (¬ (s.1 7 3) = 114 → ((s.1 7 3) = 115 → Y_X6_takeText d Q 180 [(0, .ref 8), (1, .int v1), (2, .int v2)] [] s) ∧ (¬ (s.1 7 3) = 115 → ((s.1 7 3) = 116 → Y_X6_takeText d Q 164 [(0, .ref 8), (1, .int v1), (2, .int v2)] [] s) ∧ (¬ (s.1 7 3) = 116 → Y_X6_takeText d Q 180 [(0, .ref 8), (1, .int v1), (2, .int v2)] [] s))))))))))))))))) from ⟨fun e9 => ?_, fun c9_0 => ⟨fun e9 => ?_, fun c9_1 => ⟨fun e9 => ?_, fun c9_2 => ⟨fun e9 => ?_, fun c9_3 => ⟨fun e9 => ?_, fun c9_4 => ⟨fun e9 => ?_, fun c9_5 => ⟨fun e9 => ?_, fun c9_6 => ⟨fun e9 => ?_, fun c9_7 => ⟨fun e9 => ?_, fun c9_8 => ⟨fun e9 => ?_, fun c9_9 => ⟨fun e9 => ?_, fun c9_10 => ⟨fun e9 => ?_, fun c9_11 => ⟨fun e9 => ?_, fun c9_12 => ⟨fun e9 => ?_, fun c9_13 => ⟨fun e9 => ?_, fun c9_14 => ⟨fun e9 => ?_, fun c9_15 => ⟨fun e9 => ?_, fun c9_16 => ?_⟩⟩⟩⟩⟩⟩⟩⟩⟩⟩⟩⟩⟩⟩⟩⟩⟩)
          · have H := oq_t e9 H
            refine Wp.run 2 (show room8 [] ∧ WpM SHC MT (d + 6) 65 [.ref 8] s (fun v9 s9 => Y_X6_takeText d Q 136 [(0, .ref 8), (1, .int v1), (2, .int v2)] (v9.toList ++ []) s9) from ⟨rm8_ rfl, ?_⟩)
            refine w_X6_takeHouse (d := d)  ?_
            refine oq_bd H (fun r3 s4 H => ?_)
            show Y_X6_takeText d Q 136 [(0, .ref 8), (1, .int v1), (2, .int v2)] [.int r3] s4
            refine Wp.run 4 (show Y_X6_takeText d Q 21 [(2, .int (v2 + 1)), (1, .int r3), (0, .ref 8)] [] s4 from ?_)
            refine Wp.weak [2, 1, 0] (lv' := [(0, .ref 8), (1, .int r3), (2, .int (v2 + 1))]) rfl ?_
            exact ih _ _ _ H
          · have H := oq_f c9_0 H; have H := oq_t e9 H
            refine Wp.run 4 (show room8 [] ∧ WpM SHC MT (d + 6) 81 [.ref 7, .int 2] s (fun v9 s9 => Y_X6_takeText d Q 188 [(0, .ref 8), (1, .int v1), (2, .int v2)] (v9.toList ++ []) s9) from ⟨rm8_ rfl, ?_⟩)
            refine w_X7_wrong (d := d + 5) _ ?_
            refine oq_bd H (fun r5 s6 H => ?_)
            show Y_X6_takeText d Q 188 [(0, .ref 8), (1, .int v1), (2, .int v2)] [.int r5] s6
            refine Wp.run 3 (show Y_X6_takeText d Q 21 [(2, .int (v2 + 1)), (1, .int r5), (0, .ref 8)] [] s6 from ?_)
            refine Wp.weak [2, 1, 0] (lv' := [(0, .ref 8), (1, .int r5), (2, .int (v2 + 1))]) rfl ?_
            exact ih _ _ _ H
          · have H := oq_f c9_0 H; have H := oq_f c9_1 H; have H := oq_t e9 H
            refine Wp.run 4 (show room8 [] ∧ WpM SHC MT (d + 6) 81 [.ref 7, .int 2] s (fun v9 s9 => Y_X6_takeText d Q 188 [(0, .ref 8), (1, .int v1), (2, .int v2)] (v9.toList ++ []) s9) from ⟨rm8_ rfl, ?_⟩)
            refine w_X7_wrong (d := d + 5) _ ?_
            refine oq_bd H (fun r7 s8 H => ?_)
            show Y_X6_takeText d Q 188 [(0, .ref 8), (1, .int v1), (2, .int v2)] [.int r7] s8
            refine Wp.run 3 (show Y_X6_takeText d Q 21 [(2, .int (v2 + 1)), (1, .int r7), (0, .ref 8)] [] s8 from ?_)
            refine Wp.weak [2, 1, 0] (lv' := [(0, .ref 8), (1, .int r7), (2, .int (v2 + 1))]) rfl ?_
            exact ih _ _ _ H
          · have H := oq_f c9_0 H; have H := oq_f c9_1 H; have H := oq_f c9_2 H; have H := oq_t e9 H
            refine Wp.run 2 (show room8 [] ∧ WpM SHC MT (d + 6) 72 [.ref 8] s (fun v9 s9 => Y_X6_takeText d Q 176 [(0, .ref 8), (1, .int v1), (2, .int v2)] (v9.toList ++ []) s9) from ⟨rm8_ rfl, ?_⟩)
            refine w_X6_takeCounts (d := d + 1)  ?_
            refine oq_bd H (fun r9 s10 H => ?_)
            show Y_X6_takeText d Q 176 [(0, .ref 8), (1, .int v1), (2, .int v2)] [.int r9] s10
            refine Wp.run 4 (show Y_X6_takeText d Q 21 [(2, .int (v2 + 1)), (1, .int r9), (0, .ref 8)] [] s10 from ?_)
            refine Wp.weak [2, 1, 0] (lv' := [(0, .ref 8), (1, .int r9), (2, .int (v2 + 1))]) rfl ?_
            exact ih _ _ _ H
          · have H := oq_f c9_0 H; have H := oq_f c9_1 H; have H := oq_f c9_2 H; have H := oq_f c9_3 H; have H := oq_t e9 H
            refine Wp.run 2 (show room8 [] ∧ WpM SHC MT (d + 6) 67 [.ref 8] s (fun v9 s9 => Y_X6_takeText d Q 144 [(0, .ref 8), (1, .int v1), (2, .int v2)] (v9.toList ++ []) s9) from ⟨rm8_ rfl, ?_⟩)
            refine w_X6_takeQuarrel (d := d + 1)  ?_
            refine oq_bd H (fun r11 s12 H => ?_)
            show Y_X6_takeText d Q 144 [(0, .ref 8), (1, .int v1), (2, .int v2)] [.int r11] s12
            refine Wp.run 4 (show Y_X6_takeText d Q 21 [(2, .int (v2 + 1)), (1, .int r11), (0, .ref 8)] [] s12 from ?_)
            refine Wp.weak [2, 1, 0] (lv' := [(0, .ref 8), (1, .int r11), (2, .int (v2 + 1))]) rfl ?_
            exact ih _ _ _ H
          · have H := oq_f c9_0 H; have H := oq_f c9_1 H; have H := oq_f c9_2 H; have H := oq_f c9_3 H; have H := oq_f c9_4 H; have H := oq_t e9 H
            refine Wp.run 4 (show room8 [] ∧ WpM SHC MT (d + 6) 81 [.ref 7, .int 2] s (fun v9 s9 => Y_X6_takeText d Q 188 [(0, .ref 8), (1, .int v1), (2, .int v2)] (v9.toList ++ []) s9) from ⟨rm8_ rfl, ?_⟩)
            refine w_X7_wrong (d := d + 5) _ ?_
            refine oq_bd H (fun r13 s14 H => ?_)
            show Y_X6_takeText d Q 188 [(0, .ref 8), (1, .int v1), (2, .int v2)] [.int r13] s14
            refine Wp.run 3 (show Y_X6_takeText d Q 21 [(2, .int (v2 + 1)), (1, .int r13), (0, .ref 8)] [] s14 from ?_)
            refine Wp.weak [2, 1, 0] (lv' := [(0, .ref 8), (1, .int r13), (2, .int (v2 + 1))]) rfl ?_
            exact ih _ _ _ H
          · have H := oq_f c9_0 H; have H := oq_f c9_1 H; have H := oq_f c9_2 H; have H := oq_f c9_3 H; have H := oq_f c9_4 H; have H := oq_f c9_5 H; have H := oq_t e9 H
            refine Wp.run 4 (show room8 [] ∧ WpM SHC MT (d + 6) 81 [.ref 7, .int 2] s (fun v9 s9 => Y_X6_takeText d Q 188 [(0, .ref 8), (1, .int v1), (2, .int v2)] (v9.toList ++ []) s9) from ⟨rm8_ rfl, ?_⟩)
            refine w_X7_wrong (d := d + 5) _ ?_
            refine oq_bd H (fun r15 s16 H => ?_)
            show Y_X6_takeText d Q 188 [(0, .ref 8), (1, .int v1), (2, .int v2)] [.int r15] s16
            refine Wp.run 3 (show Y_X6_takeText d Q 21 [(2, .int (v2 + 1)), (1, .int r15), (0, .ref 8)] [] s16 from ?_)
            refine Wp.weak [2, 1, 0] (lv' := [(0, .ref 8), (1, .int r15), (2, .int (v2 + 1))]) rfl ?_
            exact ih _ _ _ H
          · have H := oq_f c9_0 H; have H := oq_f c9_1 H; have H := oq_f c9_2 H; have H := oq_f c9_3 H; have H := oq_f c9_4 H; have H := oq_f c9_5 H; have H := oq_f c9_6 H; have H := oq_t e9 H
            refine Wp.run 4 (show room8 [] ∧ WpM SHC MT (d + 6) 81 [.ref 7, .int 2] s (fun v9 s9 => Y_X6_takeText d Q 188 [(0, .ref 8), (1, .int v1), (2, .int v2)] (v9.toList ++ []) s9) from ⟨rm8_ rfl, ?_⟩)
            refine w_X7_wrong (d := d + 5) _ ?_
            refine oq_bd H (fun r17 s18 H => ?_)
            show Y_X6_takeText d Q 188 [(0, .ref 8), (1, .int v1), (2, .int v2)] [.int r17] s18
            refine Wp.run 3 (show Y_X6_takeText d Q 21 [(2, .int (v2 + 1)), (1, .int r17), (0, .ref 8)] [] s18 from ?_)
            refine Wp.weak [2, 1, 0] (lv' := [(0, .ref 8), (1, .int r17), (2, .int (v2 + 1))]) rfl ?_
            exact ih _ _ _ H
          · have H := oq_f c9_0 H; have H := oq_f c9_1 H; have H := oq_f c9_2 H; have H := oq_f c9_3 H; have H := oq_f c9_4 H; have H := oq_f c9_5 H; have H := oq_f c9_6 H; have H := oq_f c9_7 H; have H := oq_t e9 H
            refine Wp.run 2 (show room8 [] ∧ WpM SHC MT (d + 6) 68 [.ref 8] s (fun v9 s9 => Y_X6_takeText d Q 152 [(0, .ref 8), (1, .int v1), (2, .int v2)] (v9.toList ++ []) s9) from ⟨rm8_ rfl, ?_⟩)
            refine w_X6_takeCat (d := d + 1)  ?_
            refine oq_bd H (fun r19 s20 H => ?_)
            show Y_X6_takeText d Q 152 [(0, .ref 8), (1, .int v1), (2, .int v2)] [.int r19] s20
            refine Wp.run 4 (show Y_X6_takeText d Q 21 [(2, .int (v2 + 1)), (1, .int r19), (0, .ref 8)] [] s20 from ?_)
            refine Wp.weak [2, 1, 0] (lv' := [(0, .ref 8), (1, .int r19), (2, .int (v2 + 1))]) rfl ?_
            exact ih _ _ _ H
          · have H := oq_f c9_0 H; have H := oq_f c9_1 H; have H := oq_f c9_2 H; have H := oq_f c9_3 H; have H := oq_f c9_4 H; have H := oq_f c9_5 H; have H := oq_f c9_6 H; have H := oq_f c9_7 H; have H := oq_f c9_8 H; have H := oq_t e9 H
            refine Wp.run 4 (show room8 [] ∧ WpM SHC MT (d + 6) 81 [.ref 7, .int 2] s (fun v9 s9 => Y_X6_takeText d Q 188 [(0, .ref 8), (1, .int v1), (2, .int v2)] (v9.toList ++ []) s9) from ⟨rm8_ rfl, ?_⟩)
            refine w_X7_wrong (d := d + 5) _ ?_
            refine oq_bd H (fun r21 s22 H => ?_)
            show Y_X6_takeText d Q 188 [(0, .ref 8), (1, .int v1), (2, .int v2)] [.int r21] s22
            refine Wp.run 3 (show Y_X6_takeText d Q 21 [(2, .int (v2 + 1)), (1, .int r21), (0, .ref 8)] [] s22 from ?_)
            refine Wp.weak [2, 1, 0] (lv' := [(0, .ref 8), (1, .int r21), (2, .int (v2 + 1))]) rfl ?_
            exact ih _ _ _ H
          · have H := oq_f c9_0 H; have H := oq_f c9_1 H; have H := oq_f c9_2 H; have H := oq_f c9_3 H; have H := oq_f c9_4 H; have H := oq_f c9_5 H; have H := oq_f c9_6 H; have H := oq_f c9_7 H; have H := oq_f c9_8 H; have H := oq_f c9_9 H; have H := oq_t e9 H
            refine Wp.run 4 (show room8 [] ∧ WpM SHC MT (d + 6) 81 [.ref 7, .int 2] s (fun v9 s9 => Y_X6_takeText d Q 188 [(0, .ref 8), (1, .int v1), (2, .int v2)] (v9.toList ++ []) s9) from ⟨rm8_ rfl, ?_⟩)
            refine w_X7_wrong (d := d + 5) _ ?_
            refine oq_bd H (fun r23 s24 H => ?_)
            show Y_X6_takeText d Q 188 [(0, .ref 8), (1, .int v1), (2, .int v2)] [.int r23] s24
            refine Wp.run 3 (show Y_X6_takeText d Q 21 [(2, .int (v2 + 1)), (1, .int r23), (0, .ref 8)] [] s24 from ?_)
            refine Wp.weak [2, 1, 0] (lv' := [(0, .ref 8), (1, .int r23), (2, .int (v2 + 1))]) rfl ?_
            exact ih _ _ _ H
          · have H := oq_f c9_0 H; have H := oq_f c9_1 H; have H := oq_f c9_2 H; have H := oq_f c9_3 H; have H := oq_f c9_4 H; have H := oq_f c9_5 H; have H := oq_f c9_6 H; have H := oq_f c9_7 H; have H := oq_f c9_8 H; have H := oq_f c9_9 H; have H := oq_f c9_10 H; have H := oq_t e9 H
            refine Wp.run 4 (show room8 [] ∧ WpM SHC MT (d + 6) 81 [.ref 7, .int 2] s (fun v9 s9 => Y_X6_takeText d Q 188 [(0, .ref 8), (1, .int v1), (2, .int v2)] (v9.toList ++ []) s9) from ⟨rm8_ rfl, ?_⟩)
            refine w_X7_wrong (d := d + 5) _ ?_
            refine oq_bd H (fun r25 s26 H => ?_)
            show Y_X6_takeText d Q 188 [(0, .ref 8), (1, .int v1), (2, .int v2)] [.int r25] s26
            refine Wp.run 3 (show Y_X6_takeText d Q 21 [(2, .int (v2 + 1)), (1, .int r25), (0, .ref 8)] [] s26 from ?_)
            refine Wp.weak [2, 1, 0] (lv' := [(0, .ref 8), (1, .int r25), (2, .int (v2 + 1))]) rfl ?_
            exact ih _ _ _ H
          · have H := oq_f c9_0 H; have H := oq_f c9_1 H; have H := oq_f c9_2 H; have H := oq_f c9_3 H; have H := oq_f c9_4 H; have H := oq_f c9_5 H; have H := oq_f c9_6 H; have H := oq_f c9_7 H; have H := oq_f c9_8 H; have H := oq_f c9_9 H; have H := oq_f c9_10 H; have H := oq_f c9_11 H; have H := oq_t e9 H
            refine Wp.run 2 (show room8 [] ∧ WpM SHC MT (d + 6) 70 [.ref 8] s (fun v9 s9 => Y_X6_takeText d Q 160 [(0, .ref 8), (1, .int v1), (2, .int v2)] (v9.toList ++ []) s9) from ⟨rm8_ rfl, ?_⟩)
            refine w_X6_takeGrocer (d := d + 1)  ?_
            refine oq_bd H (fun r27 s28 H => ?_)
            show Y_X6_takeText d Q 160 [(0, .ref 8), (1, .int v1), (2, .int v2)] [.int r27] s28
            refine Wp.run 4 (show Y_X6_takeText d Q 21 [(2, .int (v2 + 1)), (1, .int r27), (0, .ref 8)] [] s28 from ?_)
            refine Wp.weak [2, 1, 0] (lv' := [(0, .ref 8), (1, .int r27), (2, .int (v2 + 1))]) rfl ?_
            exact ih _ _ _ H
          · have H := oq_f c9_0 H; have H := oq_f c9_1 H; have H := oq_f c9_2 H; have H := oq_f c9_3 H; have H := oq_f c9_4 H; have H := oq_f c9_5 H; have H := oq_f c9_6 H; have H := oq_f c9_7 H; have H := oq_f c9_8 H; have H := oq_f c9_9 H; have H := oq_f c9_10 H; have H := oq_f c9_11 H; have H := oq_f c9_12 H; have H := oq_t e9 H
            refine Wp.run 4 (show room8 [] ∧ WpM SHC MT (d + 6) 81 [.ref 7, .int 2] s (fun v9 s9 => Y_X6_takeText d Q 188 [(0, .ref 8), (1, .int v1), (2, .int v2)] (v9.toList ++ []) s9) from ⟨rm8_ rfl, ?_⟩)
            refine w_X7_wrong (d := d + 5) _ ?_
            refine oq_bd H (fun r29 s30 H => ?_)
            show Y_X6_takeText d Q 188 [(0, .ref 8), (1, .int v1), (2, .int v2)] [.int r29] s30
            refine Wp.run 3 (show Y_X6_takeText d Q 21 [(2, .int (v2 + 1)), (1, .int r29), (0, .ref 8)] [] s30 from ?_)
            refine Wp.weak [2, 1, 0] (lv' := [(0, .ref 8), (1, .int r29), (2, .int (v2 + 1))]) rfl ?_
            exact ih _ _ _ H
          · have H := oq_f c9_0 H; have H := oq_f c9_1 H; have H := oq_f c9_2 H; have H := oq_f c9_3 H; have H := oq_f c9_4 H; have H := oq_f c9_5 H; have H := oq_f c9_6 H; have H := oq_f c9_7 H; have H := oq_f c9_8 H; have H := oq_f c9_9 H; have H := oq_f c9_10 H; have H := oq_f c9_11 H; have H := oq_f c9_12 H; have H := oq_f c9_13 H; have H := oq_t e9 H
            refine Wp.run 4 (show room8 [] ∧ WpM SHC MT (d + 6) 81 [.ref 7, .int 2] s (fun v9 s9 => Y_X6_takeText d Q 188 [(0, .ref 8), (1, .int v1), (2, .int v2)] (v9.toList ++ []) s9) from ⟨rm8_ rfl, ?_⟩)
            refine w_X7_wrong (d := d + 5) _ ?_
            refine oq_bd H (fun r31 s32 H => ?_)
            show Y_X6_takeText d Q 188 [(0, .ref 8), (1, .int v1), (2, .int v2)] [.int r31] s32
            refine Wp.run 3 (show Y_X6_takeText d Q 21 [(2, .int (v2 + 1)), (1, .int r31), (0, .ref 8)] [] s32 from ?_)
            refine Wp.weak [2, 1, 0] (lv' := [(0, .ref 8), (1, .int r31), (2, .int (v2 + 1))]) rfl ?_
            exact ih _ _ _ H
          · have H := oq_f c9_0 H; have H := oq_f c9_1 H; have H := oq_f c9_2 H; have H := oq_f c9_3 H; have H := oq_f c9_4 H; have H := oq_f c9_5 H; have H := oq_f c9_6 H; have H := oq_f c9_7 H; have H := oq_f c9_8 H; have H := oq_f c9_9 H; have H := oq_f c9_10 H; have H := oq_f c9_11 H; have H := oq_f c9_12 H; have H := oq_f c9_13 H; have H := oq_f c9_14 H; have H := oq_t e9 H
            refine Wp.run 4 (show room8 [] ∧ WpM SHC MT (d + 6) 81 [.ref 7, .int 2] s (fun v9 s9 => Y_X6_takeText d Q 188 [(0, .ref 8), (1, .int v1), (2, .int v2)] (v9.toList ++ []) s9) from ⟨rm8_ rfl, ?_⟩)
            refine w_X7_wrong (d := d + 5) _ ?_
            refine oq_bd H (fun r33 s34 H => ?_)
            show Y_X6_takeText d Q 188 [(0, .ref 8), (1, .int v1), (2, .int v2)] [.int r33] s34
            refine Wp.run 3 (show Y_X6_takeText d Q 21 [(2, .int (v2 + 1)), (1, .int r33), (0, .ref 8)] [] s34 from ?_)
            refine Wp.weak [2, 1, 0] (lv' := [(0, .ref 8), (1, .int r33), (2, .int (v2 + 1))]) rfl ?_
            exact ih _ _ _ H
          · have H := oq_f c9_0 H; have H := oq_f c9_1 H; have H := oq_f c9_2 H; have H := oq_f c9_3 H; have H := oq_f c9_4 H; have H := oq_f c9_5 H; have H := oq_f c9_6 H; have H := oq_f c9_7 H; have H := oq_f c9_8 H; have H := oq_f c9_9 H; have H := oq_f c9_10 H; have H := oq_f c9_11 H; have H := oq_f c9_12 H; have H := oq_f c9_13 H; have H := oq_f c9_14 H; have H := oq_f c9_15 H; have H := oq_t e9 H
            refine Wp.run 2 (show room8 [] ∧ WpM SHC MT (d + 6) 71 [.ref 8] s (fun v9 s9 => Y_X6_takeText d Q 168 [(0, .ref 8), (1, .int v1), (2, .int v2)] (v9.toList ++ []) s9) from ⟨rm8_ rfl, ?_⟩)
            refine w_X6_takeWashes (d := d + 1)  ?_
            refine oq_bd H (fun r35 s36 H => ?_)
            show Y_X6_takeText d Q 168 [(0, .ref 8), (1, .int v1), (2, .int v2)] [.int r35] s36
            refine Wp.run 4 (show Y_X6_takeText d Q 21 [(2, .int (v2 + 1)), (1, .int r35), (0, .ref 8)] [] s36 from ?_)
            refine Wp.weak [2, 1, 0] (lv' := [(0, .ref 8), (1, .int r35), (2, .int (v2 + 1))]) rfl ?_
            exact ih _ _ _ H
          · have H := oq_f c9_0 H; have H := oq_f c9_1 H; have H := oq_f c9_2 H; have H := oq_f c9_3 H; have H := oq_f c9_4 H; have H := oq_f c9_5 H; have H := oq_f c9_6 H; have H := oq_f c9_7 H; have H := oq_f c9_8 H; have H := oq_f c9_9 H; have H := oq_f c9_10 H; have H := oq_f c9_11 H; have H := oq_f c9_12 H; have H := oq_f c9_13 H; have H := oq_f c9_14 H; have H := oq_f c9_15 H; have H := oq_f c9_16 H
            refine Wp.run 4 (show room8 [] ∧ WpM SHC MT (d + 6) 81 [.ref 7, .int 2] s (fun v9 s9 => Y_X6_takeText d Q 188 [(0, .ref 8), (1, .int v1), (2, .int v2)] (v9.toList ++ []) s9) from ⟨rm8_ rfl, ?_⟩)
            refine w_X7_wrong (d := d + 5) _ ?_
            refine oq_bd H (fun r37 s38 H => ?_)
            show Y_X6_takeText d Q 188 [(0, .ref 8), (1, .int v1), (2, .int v2)] [.int r37] s38
            refine Wp.run 3 (show Y_X6_takeText d Q 21 [(2, .int (v2 + 1)), (1, .int r37), (0, .ref 8)] [] s38 from ?_)
            refine Wp.weak [2, 1, 0] (lv' := [(0, .ref 8), (1, .int r37), (2, .int (v2 + 1))]) rfl ?_
            exact ih _ _ _ H
def f_X6_takeText  (s : Sg) : Option (Int32 × Sg) :=
  bd (f_X10_clear_51 s) (fun _ s2 =>
  f_X6_takeText_b21 BIG 1 0 (pI (pI s2 8 3 0) 8 4 0)
  )
set_option maxRecDepth 100000 in
theorem w_X6_takeText {d : Nat} {s : Sg} {Q : Qt}  (H : OQ (f_X6_takeText  s) (fun r9 s9 => Q (some (.int r9)) s9)) : WpM SHC MT (d + 7) 63 [.ref 8] s Q := by
  refine WpM.enter me_X6_takeText rfl rfl ?_
  show Y_X6_takeText d Q 0 [(0, .ref 8)] [] s
  unfold f_X6_takeText at H
  refine Wp.run 3 (show room8 [] ∧ WpM SHC MT (d + 6) 100 [.ref 51] s (fun v9 s9 => Y_X6_takeText d Q 7 [(0, .ref 8)] (v9.toList ++ []) s9) from ⟨rm8_ rfl, ?_⟩)
  refine w_X10_clear_51 (d := d + 3)  ?_
  refine oq_bd H (fun _ s2 H => ?_)
  show Y_X6_takeText d Q 7 [(0, .ref 8)] [] s2
  refine Wp.run 3 (show ((0 : Int32) = 0 ∨ 0 = 1) ∧ Y_X6_takeText d Q 12 [(0, .ref 8)] [] (pI s2 8 3 0) from ⟨Or.inl rfl, ?_⟩)
  refine Wp.run 3 (show ((0 : Int32) = 0 ∨ 0 = 1) ∧ Y_X6_takeText d Q 17 [(0, .ref 8)] [] (pI (pI s2 8 3 0) 8 4 0) from ⟨Or.inl rfl, ?_⟩)
  refine Wp.run 4 (show Y_X6_takeText d Q 21 [(2, .int 0), (1, .int 1), (0, .ref 8)] [] (pI (pI s2 8 3 0) 8 4 0) from ?_)
  refine Wp.weak [2, 1, 0] (lv' := [(0, .ref 8), (1, .int 1), (2, .int 0)]) rfl ?_
  exact w_X6_takeText_b21 _ _ _ _ H
abbrev Y_X11_closeText (d : Nat) (Q : Qt) : Xt := Wp SHC (WpM SHC MT (d + 0)) cd_X11_closeText (none) Q
def f_X11_closeText  (s : Sg) : Option (Unit × Sg) :=
  nmx (pI (pI s 0 13 0) 0 18 ((pI s 0 13 0).1 7 8)) (fun s1 =>
  some ((), pI s1 0 19 (s1.1 7 9))
  )
set_option maxRecDepth 100000 in
theorem w_X11_closeText {d : Nat} {s : Sg} {Q : Qt}  (H : OQ (f_X11_closeText  s) (fun _ s9 => Q none s9)) : WpM SHC MT (d + 1) 179 [.ref 0] s Q := by
  refine WpM.enter me_X11_closeText rfl rfl ?_
  show Y_X11_closeText d Q 0 [(0, .ref 0)] [] s
  unfold f_X11_closeText at H
  refine Wp.run 8 (show Y_X11_closeText d Q 16 [(0, .ref 0)] [] (pI (pI s 0 13 0) 0 18 ((pI s 0 13 0).1 7 8)) from ?_)
  revert H
  generalize pI (pI s 0 13 0) 0 18 ((pI s 0 13 0).1 7 8) = s1
  intro H
  have H := nmx_e H
  exact Wp.run 6 H
abbrev Y_X11_copyRow_29_56 (d : Nat) (Q : Qt) : Xt := Wp SHC (WpM SHC MT (d + 0)) cd_X11_copyRow (none) Q
def f_X11_copyRow_29_56  (s : Sg) : Option (Unit × Sg) :=
  ck (¬ (0 : Int32) < 0 ∧ ¬ (0 : Int32) < 0 ∧ ¬ (if 24 < (24 : Int32) then 24 else (24 : Int32)) < 0 ∧ 0 + (if 24 < (24 : Int32) then 24 else (24 : Int32)).toNatClampNeg ≤ 24 ∧ 0 + (if 24 < (24 : Int32) then 24 else (24 : Int32)).toNatClampNeg ≤ 24) (
  some ((), pA s 29 (va_cpy (s.1 56) (s.1 29) 0 0 (if 24 < (24 : Int32) then 24 else (24 : Int32)).toNatClampNeg))
  )
set_option maxRecDepth 100000 in
theorem w_X11_copyRow_29_56 {d : Nat} {s : Sg} {Q : Qt}  (H : OQ (f_X11_copyRow_29_56  s) (fun _ s9 => Q none s9)) : WpM SHC MT (d + 1) 184 [.ref 56, .ref 29] s Q := by
  refine WpM.enter me_X11_copyRow rfl rfl ?_
  show Y_X11_copyRow_29_56 d Q 0 [(0, .ref 56), (1, .ref 29)] [] s
  unfold f_X11_copyRow_29_56 at H
  refine Wp.run 9 (show room8 [.int 0, .ref 29, .int 0, .ref 56] ∧ Y_X11_copyRow_29_56 d Q 11 [(0, .ref 56), (1, .ref 29)] [.int (if 24 < (24 : Int32) then 24 else (24 : Int32)), .int 0, .ref 29, .int 0, .ref 56] s from ⟨rm8_ rfl, ?_⟩)
  obtain ⟨c9, H⟩ := oq_ck H
  refine Wp.run 1 (show room8 [] ∧ (¬ (0 : Int32) < 0 ∧ ¬ (0 : Int32) < 0 ∧ ¬ (if 24 < (24 : Int32) then 24 else (24 : Int32)) < 0 ∧ 0 + (if 24 < (24 : Int32) then 24 else (24 : Int32)).toNatClampNeg ≤ 24 ∧ 0 + (if 24 < (24 : Int32) then 24 else (24 : Int32)).toNatClampNeg ≤ 24) ∧ Y_X11_copyRow_29_56 d Q 14 [(0, .ref 56), (1, .ref 29)] [] (pA s 29 (va_cpy (s.1 56) (s.1 29) 0 0 (if 24 < (24 : Int32) then 24 else (24 : Int32)).toNatClampNeg)) from ⟨rm8_ rfl, c9, ?_⟩)
  exact Wp.run 1 H
abbrev Y_X11_copyRow_30_57 (d : Nat) (Q : Qt) : Xt := Wp SHC (WpM SHC MT (d + 0)) cd_X11_copyRow (none) Q
def f_X11_copyRow_30_57  (s : Sg) : Option (Unit × Sg) :=
  ck (¬ (0 : Int32) < 0 ∧ ¬ (0 : Int32) < 0 ∧ ¬ (if 24 < (24 : Int32) then 24 else (24 : Int32)) < 0 ∧ 0 + (if 24 < (24 : Int32) then 24 else (24 : Int32)).toNatClampNeg ≤ 24 ∧ 0 + (if 24 < (24 : Int32) then 24 else (24 : Int32)).toNatClampNeg ≤ 24) (
  some ((), pA s 30 (va_cpy (s.1 57) (s.1 30) 0 0 (if 24 < (24 : Int32) then 24 else (24 : Int32)).toNatClampNeg))
  )
set_option maxRecDepth 100000 in
theorem w_X11_copyRow_30_57 {d : Nat} {s : Sg} {Q : Qt}  (H : OQ (f_X11_copyRow_30_57  s) (fun _ s9 => Q none s9)) : WpM SHC MT (d + 1) 184 [.ref 57, .ref 30] s Q := by
  refine WpM.enter me_X11_copyRow rfl rfl ?_
  show Y_X11_copyRow_30_57 d Q 0 [(0, .ref 57), (1, .ref 30)] [] s
  unfold f_X11_copyRow_30_57 at H
  refine Wp.run 9 (show room8 [.int 0, .ref 30, .int 0, .ref 57] ∧ Y_X11_copyRow_30_57 d Q 11 [(0, .ref 57), (1, .ref 30)] [.int (if 24 < (24 : Int32) then 24 else (24 : Int32)), .int 0, .ref 30, .int 0, .ref 57] s from ⟨rm8_ rfl, ?_⟩)
  obtain ⟨c9, H⟩ := oq_ck H
  refine Wp.run 1 (show room8 [] ∧ (¬ (0 : Int32) < 0 ∧ ¬ (0 : Int32) < 0 ∧ ¬ (if 24 < (24 : Int32) then 24 else (24 : Int32)) < 0 ∧ 0 + (if 24 < (24 : Int32) then 24 else (24 : Int32)).toNatClampNeg ≤ 24 ∧ 0 + (if 24 < (24 : Int32) then 24 else (24 : Int32)).toNatClampNeg ≤ 24) ∧ Y_X11_copyRow_30_57 d Q 14 [(0, .ref 57), (1, .ref 30)] [] (pA s 30 (va_cpy (s.1 57) (s.1 30) 0 0 (if 24 < (24 : Int32) then 24 else (24 : Int32)).toNatClampNeg)) from ⟨rm8_ rfl, c9, ?_⟩)
  exact Wp.run 1 H
abbrev Y_X11_copyRow_31_58 (d : Nat) (Q : Qt) : Xt := Wp SHC (WpM SHC MT (d + 0)) cd_X11_copyRow (none) Q
def f_X11_copyRow_31_58  (s : Sg) : Option (Unit × Sg) :=
  ck (¬ (0 : Int32) < 0 ∧ ¬ (0 : Int32) < 0 ∧ ¬ (if 8 < (8 : Int32) then 8 else (8 : Int32)) < 0 ∧ 0 + (if 8 < (8 : Int32) then 8 else (8 : Int32)).toNatClampNeg ≤ 8 ∧ 0 + (if 8 < (8 : Int32) then 8 else (8 : Int32)).toNatClampNeg ≤ 8) (
  some ((), pA s 31 (va_cpy (s.1 58) (s.1 31) 0 0 (if 8 < (8 : Int32) then 8 else (8 : Int32)).toNatClampNeg))
  )
set_option maxRecDepth 100000 in
theorem w_X11_copyRow_31_58 {d : Nat} {s : Sg} {Q : Qt}  (H : OQ (f_X11_copyRow_31_58  s) (fun _ s9 => Q none s9)) : WpM SHC MT (d + 1) 184 [.ref 58, .ref 31] s Q := by
  refine WpM.enter me_X11_copyRow rfl rfl ?_
  show Y_X11_copyRow_31_58 d Q 0 [(0, .ref 58), (1, .ref 31)] [] s
  unfold f_X11_copyRow_31_58 at H
  refine Wp.run 9 (show room8 [.int 0, .ref 31, .int 0, .ref 58] ∧ Y_X11_copyRow_31_58 d Q 11 [(0, .ref 58), (1, .ref 31)] [.int (if 8 < (8 : Int32) then 8 else (8 : Int32)), .int 0, .ref 31, .int 0, .ref 58] s from ⟨rm8_ rfl, ?_⟩)
  obtain ⟨c9, H⟩ := oq_ck H
  refine Wp.run 1 (show room8 [] ∧ (¬ (0 : Int32) < 0 ∧ ¬ (0 : Int32) < 0 ∧ ¬ (if 8 < (8 : Int32) then 8 else (8 : Int32)) < 0 ∧ 0 + (if 8 < (8 : Int32) then 8 else (8 : Int32)).toNatClampNeg ≤ 8 ∧ 0 + (if 8 < (8 : Int32) then 8 else (8 : Int32)).toNatClampNeg ≤ 8) ∧ Y_X11_copyRow_31_58 d Q 14 [(0, .ref 58), (1, .ref 31)] [] (pA s 31 (va_cpy (s.1 58) (s.1 31) 0 0 (if 8 < (8 : Int32) then 8 else (8 : Int32)).toNatClampNeg)) from ⟨rm8_ rfl, c9, ?_⟩)
  exact Wp.run 1 H
abbrev Y_X11_copyRow_32_59 (d : Nat) (Q : Qt) : Xt := Wp SHC (WpM SHC MT (d + 0)) cd_X11_copyRow (none) Q
def f_X11_copyRow_32_59  (s : Sg) : Option (Unit × Sg) :=
  ck (¬ (0 : Int32) < 0 ∧ ¬ (0 : Int32) < 0 ∧ ¬ (if 8 < (8 : Int32) then 8 else (8 : Int32)) < 0 ∧ 0 + (if 8 < (8 : Int32) then 8 else (8 : Int32)).toNatClampNeg ≤ 8 ∧ 0 + (if 8 < (8 : Int32) then 8 else (8 : Int32)).toNatClampNeg ≤ 8) (
  some ((), pA s 32 (va_cpy (s.1 59) (s.1 32) 0 0 (if 8 < (8 : Int32) then 8 else (8 : Int32)).toNatClampNeg))
  )
set_option maxRecDepth 100000 in
theorem w_X11_copyRow_32_59 {d : Nat} {s : Sg} {Q : Qt}  (H : OQ (f_X11_copyRow_32_59  s) (fun _ s9 => Q none s9)) : WpM SHC MT (d + 1) 184 [.ref 59, .ref 32] s Q := by
  refine WpM.enter me_X11_copyRow rfl rfl ?_
  show Y_X11_copyRow_32_59 d Q 0 [(0, .ref 59), (1, .ref 32)] [] s
  unfold f_X11_copyRow_32_59 at H
  refine Wp.run 9 (show room8 [.int 0, .ref 32, .int 0, .ref 59] ∧ Y_X11_copyRow_32_59 d Q 11 [(0, .ref 59), (1, .ref 32)] [.int (if 8 < (8 : Int32) then 8 else (8 : Int32)), .int 0, .ref 32, .int 0, .ref 59] s from ⟨rm8_ rfl, ?_⟩)
  obtain ⟨c9, H⟩ := oq_ck H
  refine Wp.run 1 (show room8 [] ∧ (¬ (0 : Int32) < 0 ∧ ¬ (0 : Int32) < 0 ∧ ¬ (if 8 < (8 : Int32) then 8 else (8 : Int32)) < 0 ∧ 0 + (if 8 < (8 : Int32) then 8 else (8 : Int32)).toNatClampNeg ≤ 8 ∧ 0 + (if 8 < (8 : Int32) then 8 else (8 : Int32)).toNatClampNeg ≤ 8) ∧ Y_X11_copyRow_32_59 d Q 14 [(0, .ref 59), (1, .ref 32)] [] (pA s 32 (va_cpy (s.1 59) (s.1 32) 0 0 (if 8 < (8 : Int32) then 8 else (8 : Int32)).toNatClampNeg)) from ⟨rm8_ rfl, c9, ?_⟩)
  exact Wp.run 1 H
abbrev Y_X11_copyRow_33_60 (d : Nat) (Q : Qt) : Xt := Wp SHC (WpM SHC MT (d + 0)) cd_X11_copyRow (none) Q
def f_X11_copyRow_33_60  (s : Sg) : Option (Unit × Sg) :=
  ck (¬ (0 : Int32) < 0 ∧ ¬ (0 : Int32) < 0 ∧ ¬ (if 8 < (8 : Int32) then 8 else (8 : Int32)) < 0 ∧ 0 + (if 8 < (8 : Int32) then 8 else (8 : Int32)).toNatClampNeg ≤ 8 ∧ 0 + (if 8 < (8 : Int32) then 8 else (8 : Int32)).toNatClampNeg ≤ 8) (
  some ((), pA s 33 (va_cpy (s.1 60) (s.1 33) 0 0 (if 8 < (8 : Int32) then 8 else (8 : Int32)).toNatClampNeg))
  )
set_option maxRecDepth 100000 in
theorem w_X11_copyRow_33_60 {d : Nat} {s : Sg} {Q : Qt}  (H : OQ (f_X11_copyRow_33_60  s) (fun _ s9 => Q none s9)) : WpM SHC MT (d + 1) 184 [.ref 60, .ref 33] s Q := by
  refine WpM.enter me_X11_copyRow rfl rfl ?_
  show Y_X11_copyRow_33_60 d Q 0 [(0, .ref 60), (1, .ref 33)] [] s
  unfold f_X11_copyRow_33_60 at H
  refine Wp.run 9 (show room8 [.int 0, .ref 33, .int 0, .ref 60] ∧ Y_X11_copyRow_33_60 d Q 11 [(0, .ref 60), (1, .ref 33)] [.int (if 8 < (8 : Int32) then 8 else (8 : Int32)), .int 0, .ref 33, .int 0, .ref 60] s from ⟨rm8_ rfl, ?_⟩)
  obtain ⟨c9, H⟩ := oq_ck H
  refine Wp.run 1 (show room8 [] ∧ (¬ (0 : Int32) < 0 ∧ ¬ (0 : Int32) < 0 ∧ ¬ (if 8 < (8 : Int32) then 8 else (8 : Int32)) < 0 ∧ 0 + (if 8 < (8 : Int32) then 8 else (8 : Int32)).toNatClampNeg ≤ 8 ∧ 0 + (if 8 < (8 : Int32) then 8 else (8 : Int32)).toNatClampNeg ≤ 8) ∧ Y_X11_copyRow_33_60 d Q 14 [(0, .ref 60), (1, .ref 33)] [] (pA s 33 (va_cpy (s.1 60) (s.1 33) 0 0 (if 8 < (8 : Int32) then 8 else (8 : Int32)).toNatClampNeg)) from ⟨rm8_ rfl, c9, ?_⟩)
  exact Wp.run 1 H
abbrev Y_X11_copyRow_34_61 (d : Nat) (Q : Qt) : Xt := Wp SHC (WpM SHC MT (d + 0)) cd_X11_copyRow (none) Q
def f_X11_copyRow_34_61  (s : Sg) : Option (Unit × Sg) :=
  ck (¬ (0 : Int32) < 0 ∧ ¬ (0 : Int32) < 0 ∧ ¬ (if 8 < (8 : Int32) then 8 else (8 : Int32)) < 0 ∧ 0 + (if 8 < (8 : Int32) then 8 else (8 : Int32)).toNatClampNeg ≤ 8 ∧ 0 + (if 8 < (8 : Int32) then 8 else (8 : Int32)).toNatClampNeg ≤ 8) (
  some ((), pA s 34 (va_cpy (s.1 61) (s.1 34) 0 0 (if 8 < (8 : Int32) then 8 else (8 : Int32)).toNatClampNeg))
  )
set_option maxRecDepth 100000 in
theorem w_X11_copyRow_34_61 {d : Nat} {s : Sg} {Q : Qt}  (H : OQ (f_X11_copyRow_34_61  s) (fun _ s9 => Q none s9)) : WpM SHC MT (d + 1) 184 [.ref 61, .ref 34] s Q := by
  refine WpM.enter me_X11_copyRow rfl rfl ?_
  show Y_X11_copyRow_34_61 d Q 0 [(0, .ref 61), (1, .ref 34)] [] s
  unfold f_X11_copyRow_34_61 at H
  refine Wp.run 9 (show room8 [.int 0, .ref 34, .int 0, .ref 61] ∧ Y_X11_copyRow_34_61 d Q 11 [(0, .ref 61), (1, .ref 34)] [.int (if 8 < (8 : Int32) then 8 else (8 : Int32)), .int 0, .ref 34, .int 0, .ref 61] s from ⟨rm8_ rfl, ?_⟩)
  obtain ⟨c9, H⟩ := oq_ck H
  refine Wp.run 1 (show room8 [] ∧ (¬ (0 : Int32) < 0 ∧ ¬ (0 : Int32) < 0 ∧ ¬ (if 8 < (8 : Int32) then 8 else (8 : Int32)) < 0 ∧ 0 + (if 8 < (8 : Int32) then 8 else (8 : Int32)).toNatClampNeg ≤ 8 ∧ 0 + (if 8 < (8 : Int32) then 8 else (8 : Int32)).toNatClampNeg ≤ 8) ∧ Y_X11_copyRow_34_61 d Q 14 [(0, .ref 61), (1, .ref 34)] [] (pA s 34 (va_cpy (s.1 61) (s.1 34) 0 0 (if 8 < (8 : Int32) then 8 else (8 : Int32)).toNatClampNeg)) from ⟨rm8_ rfl, c9, ?_⟩)
  exact Wp.run 1 H
abbrev Y_X11_copyRow_35_62 (d : Nat) (Q : Qt) : Xt := Wp SHC (WpM SHC MT (d + 0)) cd_X11_copyRow (none) Q
def f_X11_copyRow_35_62  (s : Sg) : Option (Unit × Sg) :=
  ck (¬ (0 : Int32) < 0 ∧ ¬ (0 : Int32) < 0 ∧ ¬ (if 4 < (4 : Int32) then 4 else (4 : Int32)) < 0 ∧ 0 + (if 4 < (4 : Int32) then 4 else (4 : Int32)).toNatClampNeg ≤ 4 ∧ 0 + (if 4 < (4 : Int32) then 4 else (4 : Int32)).toNatClampNeg ≤ 4) (
  some ((), pA s 35 (va_cpy (s.1 62) (s.1 35) 0 0 (if 4 < (4 : Int32) then 4 else (4 : Int32)).toNatClampNeg))
  )
set_option maxRecDepth 100000 in
theorem w_X11_copyRow_35_62 {d : Nat} {s : Sg} {Q : Qt}  (H : OQ (f_X11_copyRow_35_62  s) (fun _ s9 => Q none s9)) : WpM SHC MT (d + 1) 184 [.ref 62, .ref 35] s Q := by
  refine WpM.enter me_X11_copyRow rfl rfl ?_
  show Y_X11_copyRow_35_62 d Q 0 [(0, .ref 62), (1, .ref 35)] [] s
  unfold f_X11_copyRow_35_62 at H
  refine Wp.run 9 (show room8 [.int 0, .ref 35, .int 0, .ref 62] ∧ Y_X11_copyRow_35_62 d Q 11 [(0, .ref 62), (1, .ref 35)] [.int (if 4 < (4 : Int32) then 4 else (4 : Int32)), .int 0, .ref 35, .int 0, .ref 62] s from ⟨rm8_ rfl, ?_⟩)
  obtain ⟨c9, H⟩ := oq_ck H
  refine Wp.run 1 (show room8 [] ∧ (¬ (0 : Int32) < 0 ∧ ¬ (0 : Int32) < 0 ∧ ¬ (if 4 < (4 : Int32) then 4 else (4 : Int32)) < 0 ∧ 0 + (if 4 < (4 : Int32) then 4 else (4 : Int32)).toNatClampNeg ≤ 4 ∧ 0 + (if 4 < (4 : Int32) then 4 else (4 : Int32)).toNatClampNeg ≤ 4) ∧ Y_X11_copyRow_35_62 d Q 14 [(0, .ref 62), (1, .ref 35)] [] (pA s 35 (va_cpy (s.1 62) (s.1 35) 0 0 (if 4 < (4 : Int32) then 4 else (4 : Int32)).toNatClampNeg)) from ⟨rm8_ rfl, c9, ?_⟩)
  exact Wp.run 1 H
abbrev Y_X11_copyRow_36_63 (d : Nat) (Q : Qt) : Xt := Wp SHC (WpM SHC MT (d + 0)) cd_X11_copyRow (none) Q
def f_X11_copyRow_36_63  (s : Sg) : Option (Unit × Sg) :=
  ck (¬ (0 : Int32) < 0 ∧ ¬ (0 : Int32) < 0 ∧ ¬ (if 4 < (4 : Int32) then 4 else (4 : Int32)) < 0 ∧ 0 + (if 4 < (4 : Int32) then 4 else (4 : Int32)).toNatClampNeg ≤ 4 ∧ 0 + (if 4 < (4 : Int32) then 4 else (4 : Int32)).toNatClampNeg ≤ 4) (
  some ((), pA s 36 (va_cpy (s.1 63) (s.1 36) 0 0 (if 4 < (4 : Int32) then 4 else (4 : Int32)).toNatClampNeg))
  )
set_option maxRecDepth 100000 in
theorem w_X11_copyRow_36_63 {d : Nat} {s : Sg} {Q : Qt}  (H : OQ (f_X11_copyRow_36_63  s) (fun _ s9 => Q none s9)) : WpM SHC MT (d + 1) 184 [.ref 63, .ref 36] s Q := by
  refine WpM.enter me_X11_copyRow rfl rfl ?_
  show Y_X11_copyRow_36_63 d Q 0 [(0, .ref 63), (1, .ref 36)] [] s
  unfold f_X11_copyRow_36_63 at H
  refine Wp.run 9 (show room8 [.int 0, .ref 36, .int 0, .ref 63] ∧ Y_X11_copyRow_36_63 d Q 11 [(0, .ref 63), (1, .ref 36)] [.int (if 4 < (4 : Int32) then 4 else (4 : Int32)), .int 0, .ref 36, .int 0, .ref 63] s from ⟨rm8_ rfl, ?_⟩)
  obtain ⟨c9, H⟩ := oq_ck H
  refine Wp.run 1 (show room8 [] ∧ (¬ (0 : Int32) < 0 ∧ ¬ (0 : Int32) < 0 ∧ ¬ (if 4 < (4 : Int32) then 4 else (4 : Int32)) < 0 ∧ 0 + (if 4 < (4 : Int32) then 4 else (4 : Int32)).toNatClampNeg ≤ 4 ∧ 0 + (if 4 < (4 : Int32) then 4 else (4 : Int32)).toNatClampNeg ≤ 4) ∧ Y_X11_copyRow_36_63 d Q 14 [(0, .ref 63), (1, .ref 36)] [] (pA s 36 (va_cpy (s.1 63) (s.1 36) 0 0 (if 4 < (4 : Int32) then 4 else (4 : Int32)).toNatClampNeg)) from ⟨rm8_ rfl, c9, ?_⟩)
  exact Wp.run 1 H
abbrev Y_X11_copyRow_37_64 (d : Nat) (Q : Qt) : Xt := Wp SHC (WpM SHC MT (d + 0)) cd_X11_copyRow (none) Q
def f_X11_copyRow_37_64  (s : Sg) : Option (Unit × Sg) :=
  ck (¬ (0 : Int32) < 0 ∧ ¬ (0 : Int32) < 0 ∧ ¬ (if 4 < (4 : Int32) then 4 else (4 : Int32)) < 0 ∧ 0 + (if 4 < (4 : Int32) then 4 else (4 : Int32)).toNatClampNeg ≤ 4 ∧ 0 + (if 4 < (4 : Int32) then 4 else (4 : Int32)).toNatClampNeg ≤ 4) (
  some ((), pA s 37 (va_cpy (s.1 64) (s.1 37) 0 0 (if 4 < (4 : Int32) then 4 else (4 : Int32)).toNatClampNeg))
  )
set_option maxRecDepth 100000 in
theorem w_X11_copyRow_37_64 {d : Nat} {s : Sg} {Q : Qt}  (H : OQ (f_X11_copyRow_37_64  s) (fun _ s9 => Q none s9)) : WpM SHC MT (d + 1) 184 [.ref 64, .ref 37] s Q := by
  refine WpM.enter me_X11_copyRow rfl rfl ?_
  show Y_X11_copyRow_37_64 d Q 0 [(0, .ref 64), (1, .ref 37)] [] s
  unfold f_X11_copyRow_37_64 at H
  refine Wp.run 9 (show room8 [.int 0, .ref 37, .int 0, .ref 64] ∧ Y_X11_copyRow_37_64 d Q 11 [(0, .ref 64), (1, .ref 37)] [.int (if 4 < (4 : Int32) then 4 else (4 : Int32)), .int 0, .ref 37, .int 0, .ref 64] s from ⟨rm8_ rfl, ?_⟩)
  obtain ⟨c9, H⟩ := oq_ck H
  refine Wp.run 1 (show room8 [] ∧ (¬ (0 : Int32) < 0 ∧ ¬ (0 : Int32) < 0 ∧ ¬ (if 4 < (4 : Int32) then 4 else (4 : Int32)) < 0 ∧ 0 + (if 4 < (4 : Int32) then 4 else (4 : Int32)).toNatClampNeg ≤ 4 ∧ 0 + (if 4 < (4 : Int32) then 4 else (4 : Int32)).toNatClampNeg ≤ 4) ∧ Y_X11_copyRow_37_64 d Q 14 [(0, .ref 64), (1, .ref 37)] [] (pA s 37 (va_cpy (s.1 64) (s.1 37) 0 0 (if 4 < (4 : Int32) then 4 else (4 : Int32)).toNatClampNeg)) from ⟨rm8_ rfl, c9, ?_⟩)
  exact Wp.run 1 H
abbrev Y_X11_copyRow_38_65 (d : Nat) (Q : Qt) : Xt := Wp SHC (WpM SHC MT (d + 0)) cd_X11_copyRow (none) Q
def f_X11_copyRow_38_65  (s : Sg) : Option (Unit × Sg) :=
  ck (¬ (0 : Int32) < 0 ∧ ¬ (0 : Int32) < 0 ∧ ¬ (if 4 < (4 : Int32) then 4 else (4 : Int32)) < 0 ∧ 0 + (if 4 < (4 : Int32) then 4 else (4 : Int32)).toNatClampNeg ≤ 4 ∧ 0 + (if 4 < (4 : Int32) then 4 else (4 : Int32)).toNatClampNeg ≤ 4) (
  some ((), pA s 38 (va_cpy (s.1 65) (s.1 38) 0 0 (if 4 < (4 : Int32) then 4 else (4 : Int32)).toNatClampNeg))
  )
set_option maxRecDepth 100000 in
theorem w_X11_copyRow_38_65 {d : Nat} {s : Sg} {Q : Qt}  (H : OQ (f_X11_copyRow_38_65  s) (fun _ s9 => Q none s9)) : WpM SHC MT (d + 1) 184 [.ref 65, .ref 38] s Q := by
  refine WpM.enter me_X11_copyRow rfl rfl ?_
  show Y_X11_copyRow_38_65 d Q 0 [(0, .ref 65), (1, .ref 38)] [] s
  unfold f_X11_copyRow_38_65 at H
  refine Wp.run 9 (show room8 [.int 0, .ref 38, .int 0, .ref 65] ∧ Y_X11_copyRow_38_65 d Q 11 [(0, .ref 65), (1, .ref 38)] [.int (if 4 < (4 : Int32) then 4 else (4 : Int32)), .int 0, .ref 38, .int 0, .ref 65] s from ⟨rm8_ rfl, ?_⟩)
  obtain ⟨c9, H⟩ := oq_ck H
  refine Wp.run 1 (show room8 [] ∧ (¬ (0 : Int32) < 0 ∧ ¬ (0 : Int32) < 0 ∧ ¬ (if 4 < (4 : Int32) then 4 else (4 : Int32)) < 0 ∧ 0 + (if 4 < (4 : Int32) then 4 else (4 : Int32)).toNatClampNeg ≤ 4 ∧ 0 + (if 4 < (4 : Int32) then 4 else (4 : Int32)).toNatClampNeg ≤ 4) ∧ Y_X11_copyRow_38_65 d Q 14 [(0, .ref 65), (1, .ref 38)] [] (pA s 38 (va_cpy (s.1 65) (s.1 38) 0 0 (if 4 < (4 : Int32) then 4 else (4 : Int32)).toNatClampNeg)) from ⟨rm8_ rfl, c9, ?_⟩)
  exact Wp.run 1 H
abbrev Y_X11_copyRow_39_66 (d : Nat) (Q : Qt) : Xt := Wp SHC (WpM SHC MT (d + 0)) cd_X11_copyRow (none) Q
def f_X11_copyRow_39_66  (s : Sg) : Option (Unit × Sg) :=
  ck (¬ (0 : Int32) < 0 ∧ ¬ (0 : Int32) < 0 ∧ ¬ (if 4 < (4 : Int32) then 4 else (4 : Int32)) < 0 ∧ 0 + (if 4 < (4 : Int32) then 4 else (4 : Int32)).toNatClampNeg ≤ 4 ∧ 0 + (if 4 < (4 : Int32) then 4 else (4 : Int32)).toNatClampNeg ≤ 4) (
  some ((), pA s 39 (va_cpy (s.1 66) (s.1 39) 0 0 (if 4 < (4 : Int32) then 4 else (4 : Int32)).toNatClampNeg))
  )
set_option maxRecDepth 100000 in
theorem w_X11_copyRow_39_66 {d : Nat} {s : Sg} {Q : Qt}  (H : OQ (f_X11_copyRow_39_66  s) (fun _ s9 => Q none s9)) : WpM SHC MT (d + 1) 184 [.ref 66, .ref 39] s Q := by
  refine WpM.enter me_X11_copyRow rfl rfl ?_
  show Y_X11_copyRow_39_66 d Q 0 [(0, .ref 66), (1, .ref 39)] [] s
  unfold f_X11_copyRow_39_66 at H
  refine Wp.run 9 (show room8 [.int 0, .ref 39, .int 0, .ref 66] ∧ Y_X11_copyRow_39_66 d Q 11 [(0, .ref 66), (1, .ref 39)] [.int (if 4 < (4 : Int32) then 4 else (4 : Int32)), .int 0, .ref 39, .int 0, .ref 66] s from ⟨rm8_ rfl, ?_⟩)
  obtain ⟨c9, H⟩ := oq_ck H
  refine Wp.run 1 (show room8 [] ∧ (¬ (0 : Int32) < 0 ∧ ¬ (0 : Int32) < 0 ∧ ¬ (if 4 < (4 : Int32) then 4 else (4 : Int32)) < 0 ∧ 0 + (if 4 < (4 : Int32) then 4 else (4 : Int32)).toNatClampNeg ≤ 4 ∧ 0 + (if 4 < (4 : Int32) then 4 else (4 : Int32)).toNatClampNeg ≤ 4) ∧ Y_X11_copyRow_39_66 d Q 14 [(0, .ref 66), (1, .ref 39)] [] (pA s 39 (va_cpy (s.1 66) (s.1 39) 0 0 (if 4 < (4 : Int32) then 4 else (4 : Int32)).toNatClampNeg)) from ⟨rm8_ rfl, c9, ?_⟩)
  exact Wp.run 1 H
abbrev Y_X4_copyFrom_52 (d : Nat) (Q : Qt) : Xt := Wp SHC (WpM SHC MT (d + 1)) cd_X4_copyFrom (none) Q
def f_X4_copyFrom_52  (s : Sg) : Option (Unit × Sg) :=
  bd (f_X11_copyRow_29_56 (pB s 28 (va_cpy (s.2 55) (s.2 28) 0 0 24))) (fun _ s2 =>
  bd (f_X11_copyRow_30_57 s2) (fun _ s4 =>
  bd (f_X11_copyRow_31_58 s4) (fun _ s6 =>
  bd (f_X11_copyRow_32_59 s6) (fun _ s8 =>
  bd (f_X11_copyRow_33_60 s8) (fun _ s10 =>
  bd (f_X11_copyRow_34_61 s10) (fun _ s12 =>
  bd (f_X11_copyRow_35_62 s12) (fun _ s14 =>
  bd (f_X11_copyRow_36_63 s14) (fun _ s16 =>
  bd (f_X11_copyRow_37_64 s16) (fun _ s18 =>
  bd (f_X11_copyRow_38_65 s18) (fun _ s20 =>
  bd (f_X11_copyRow_39_66 s20) (fun _ s22 =>
  nmx (pI (pI s22 25 12 (s22.1 52 12)) 25 13 ((pI s22 25 12 (s22.1 52 12)).1 52 13)) (fun s23 =>
  nmx (pI (pI s23 25 14 (s23.1 52 14)) 25 15 ((pI s23 25 14 (s23.1 52 14)).1 52 15)) (fun s24 =>
  nmx (pI (pI s24 25 16 (s24.1 52 16)) 25 17 ((pI s24 25 16 (s24.1 52 16)).1 52 17)) (fun s25 =>
  ck (((pI s25 25 18 (s25.1 52 18)).1 52 19) = 0 ∨ ((pI s25 25 18 (s25.1 52 18)).1 52 19) = 1) (
  some ((), pI (pI s25 25 18 (s25.1 52 18)) 25 19 ((pI s25 25 18 (s25.1 52 18)).1 52 19))
  )
  )
  )
  )
  )
  )
  )
  )
  )
  )
  )
  )
  )
  )
  )
set_option maxRecDepth 100000 in
theorem w_X4_copyFrom_52 {d : Nat} {s : Sg} {Q : Qt}  (H : OQ (f_X4_copyFrom_52  s) (fun _ s9 => Q none s9)) : WpM SHC MT (d + 2) 50 [.ref 25, .ref 52] s Q := by
  refine WpM.enter me_X4_copyFrom rfl rfl ?_
  show Y_X4_copyFrom_52 d Q 0 [(0, .ref 25), (1, .ref 52)] [] s
  unfold f_X4_copyFrom_52 at H
  refine Wp.run 8 (show room8 [] ∧ (¬ (0 : Int32) < 0 ∧ ¬ (0 : Int32) < 0 ∧ ¬ (24 : Int32) < 0 ∧ 0 + 24 ≤ 24 ∧ 0 + 24 ≤ 24) ∧ Y_X4_copyFrom_52 d Q 15 [(0, .ref 25), (1, .ref 52)] [] (pB s 28 (va_cpy (s.2 55) (s.2 28) 0 0 24)) from ⟨rm8_ rfl, by decide, ?_⟩)
  refine Wp.run 5 (show room8 [] ∧ WpM SHC MT (d + 1) 184 [.ref 56, .ref 29] (pB s 28 (va_cpy (s.2 55) (s.2 28) 0 0 24)) (fun v9 s9 => Y_X4_copyFrom_52 d Q 26 [(0, .ref 25), (1, .ref 52)] (v9.toList ++ []) s9) from ⟨rm8_ rfl, ?_⟩)
  refine w_X11_copyRow_29_56 (d := d)  ?_
  refine oq_bd H (fun _ s2 H => ?_)
  show Y_X4_copyFrom_52 d Q 26 [(0, .ref 25), (1, .ref 52)] [] s2
  refine Wp.run 5 (show room8 [] ∧ WpM SHC MT (d + 1) 184 [.ref 57, .ref 30] s2 (fun v9 s9 => Y_X4_copyFrom_52 d Q 37 [(0, .ref 25), (1, .ref 52)] (v9.toList ++ []) s9) from ⟨rm8_ rfl, ?_⟩)
  refine w_X11_copyRow_30_57 (d := d)  ?_
  refine oq_bd H (fun _ s4 H => ?_)
  show Y_X4_copyFrom_52 d Q 37 [(0, .ref 25), (1, .ref 52)] [] s4
  refine Wp.run 5 (show room8 [] ∧ WpM SHC MT (d + 1) 184 [.ref 58, .ref 31] s4 (fun v9 s9 => Y_X4_copyFrom_52 d Q 48 [(0, .ref 25), (1, .ref 52)] (v9.toList ++ []) s9) from ⟨rm8_ rfl, ?_⟩)
  refine w_X11_copyRow_31_58 (d := d)  ?_
  refine oq_bd H (fun _ s6 H => ?_)
  show Y_X4_copyFrom_52 d Q 48 [(0, .ref 25), (1, .ref 52)] [] s6
  refine Wp.run 5 (show room8 [] ∧ WpM SHC MT (d + 1) 184 [.ref 59, .ref 32] s6 (fun v9 s9 => Y_X4_copyFrom_52 d Q 59 [(0, .ref 25), (1, .ref 52)] (v9.toList ++ []) s9) from ⟨rm8_ rfl, ?_⟩)
  refine w_X11_copyRow_32_59 (d := d)  ?_
  refine oq_bd H (fun _ s8 H => ?_)
  show Y_X4_copyFrom_52 d Q 59 [(0, .ref 25), (1, .ref 52)] [] s8
  refine Wp.run 5 (show room8 [] ∧ WpM SHC MT (d + 1) 184 [.ref 60, .ref 33] s8 (fun v9 s9 => Y_X4_copyFrom_52 d Q 70 [(0, .ref 25), (1, .ref 52)] (v9.toList ++ []) s9) from ⟨rm8_ rfl, ?_⟩)
  refine w_X11_copyRow_33_60 (d := d)  ?_
  refine oq_bd H (fun _ s10 H => ?_)
  show Y_X4_copyFrom_52 d Q 70 [(0, .ref 25), (1, .ref 52)] [] s10
  refine Wp.run 5 (show room8 [] ∧ WpM SHC MT (d + 1) 184 [.ref 61, .ref 34] s10 (fun v9 s9 => Y_X4_copyFrom_52 d Q 81 [(0, .ref 25), (1, .ref 52)] (v9.toList ++ []) s9) from ⟨rm8_ rfl, ?_⟩)
  refine w_X11_copyRow_34_61 (d := d)  ?_
  refine oq_bd H (fun _ s12 H => ?_)
  show Y_X4_copyFrom_52 d Q 81 [(0, .ref 25), (1, .ref 52)] [] s12
  refine Wp.run 5 (show room8 [] ∧ WpM SHC MT (d + 1) 184 [.ref 62, .ref 35] s12 (fun v9 s9 => Y_X4_copyFrom_52 d Q 92 [(0, .ref 25), (1, .ref 52)] (v9.toList ++ []) s9) from ⟨rm8_ rfl, ?_⟩)
  refine w_X11_copyRow_35_62 (d := d)  ?_
  refine oq_bd H (fun _ s14 H => ?_)
  show Y_X4_copyFrom_52 d Q 92 [(0, .ref 25), (1, .ref 52)] [] s14
  refine Wp.run 5 (show room8 [] ∧ WpM SHC MT (d + 1) 184 [.ref 63, .ref 36] s14 (fun v9 s9 => Y_X4_copyFrom_52 d Q 103 [(0, .ref 25), (1, .ref 52)] (v9.toList ++ []) s9) from ⟨rm8_ rfl, ?_⟩)
  refine w_X11_copyRow_36_63 (d := d)  ?_
  refine oq_bd H (fun _ s16 H => ?_)
  show Y_X4_copyFrom_52 d Q 103 [(0, .ref 25), (1, .ref 52)] [] s16
  refine Wp.run 5 (show room8 [] ∧ WpM SHC MT (d + 1) 184 [.ref 64, .ref 37] s16 (fun v9 s9 => Y_X4_copyFrom_52 d Q 114 [(0, .ref 25), (1, .ref 52)] (v9.toList ++ []) s9) from ⟨rm8_ rfl, ?_⟩)
  refine w_X11_copyRow_37_64 (d := d)  ?_
  refine oq_bd H (fun _ s18 H => ?_)
  show Y_X4_copyFrom_52 d Q 114 [(0, .ref 25), (1, .ref 52)] [] s18
  refine Wp.run 5 (show room8 [] ∧ WpM SHC MT (d + 1) 184 [.ref 65, .ref 38] s18 (fun v9 s9 => Y_X4_copyFrom_52 d Q 125 [(0, .ref 25), (1, .ref 52)] (v9.toList ++ []) s9) from ⟨rm8_ rfl, ?_⟩)
  refine w_X11_copyRow_38_65 (d := d)  ?_
  refine oq_bd H (fun _ s20 H => ?_)
  show Y_X4_copyFrom_52 d Q 125 [(0, .ref 25), (1, .ref 52)] [] s20
  refine Wp.run 5 (show room8 [] ∧ WpM SHC MT (d + 1) 184 [.ref 66, .ref 39] s20 (fun v9 s9 => Y_X4_copyFrom_52 d Q 136 [(0, .ref 25), (1, .ref 52)] (v9.toList ++ []) s9) from ⟨rm8_ rfl, ?_⟩)
  refine w_X11_copyRow_39_66 (d := d)  ?_
  refine oq_bd H (fun _ s22 H => ?_)
  show Y_X4_copyFrom_52 d Q 136 [(0, .ref 25), (1, .ref 52)] [] s22
  refine Wp.run 8 (show Y_X4_copyFrom_52 d Q 152 [(0, .ref 25), (1, .ref 52)] [] (pI (pI s22 25 12 (s22.1 52 12)) 25 13 ((pI s22 25 12 (s22.1 52 12)).1 52 13)) from ?_)
  revert H
  generalize pI (pI s22 25 12 (s22.1 52 12)) 25 13 ((pI s22 25 12 (s22.1 52 12)).1 52 13) = s23
  intro H
  have H := nmx_e H
  refine Wp.run 8 (show Y_X4_copyFrom_52 d Q 168 [(0, .ref 25), (1, .ref 52)] [] (pI (pI s23 25 14 (s23.1 52 14)) 25 15 ((pI s23 25 14 (s23.1 52 14)).1 52 15)) from ?_)
  revert H
  generalize pI (pI s23 25 14 (s23.1 52 14)) 25 15 ((pI s23 25 14 (s23.1 52 14)).1 52 15) = s24
  intro H
  have H := nmx_e H
  refine Wp.run 8 (show Y_X4_copyFrom_52 d Q 184 [(0, .ref 25), (1, .ref 52)] [] (pI (pI s24 25 16 (s24.1 52 16)) 25 17 ((pI s24 25 16 (s24.1 52 16)).1 52 17)) from ?_)
  revert H
  generalize pI (pI s24 25 16 (s24.1 52 16)) 25 17 ((pI s24 25 16 (s24.1 52 16)).1 52 17) = s25
  intro H
  have H := nmx_e H
  obtain ⟨hc26, H⟩ := oq_ck H
  refine Wp.run 8 (show (((pI s25 25 18 (s25.1 52 18)).1 52 19) = 0 ∨ ((pI s25 25 18 (s25.1 52 18)).1 52 19) = 1) ∧ Y_X4_copyFrom_52 d Q 200 [(0, .ref 25), (1, .ref 52)] [] (pI (pI s25 25 18 (s25.1 52 18)) 25 19 ((pI s25 25 18 (s25.1 52 18)).1 52 19)) from ⟨hc26, ?_⟩)
  exact Wp.run 1 H
abbrev Y_X11_copyRow_40_67 (d : Nat) (Q : Qt) : Xt := Wp SHC (WpM SHC MT (d + 0)) cd_X11_copyRow (none) Q
def f_X11_copyRow_40_67  (s : Sg) : Option (Unit × Sg) :=
  ck (¬ (0 : Int32) < 0 ∧ ¬ (0 : Int32) < 0 ∧ ¬ (if 8 < (8 : Int32) then 8 else (8 : Int32)) < 0 ∧ 0 + (if 8 < (8 : Int32) then 8 else (8 : Int32)).toNatClampNeg ≤ 8 ∧ 0 + (if 8 < (8 : Int32) then 8 else (8 : Int32)).toNatClampNeg ≤ 8) (
  some ((), pA s 40 (va_cpy (s.1 67) (s.1 40) 0 0 (if 8 < (8 : Int32) then 8 else (8 : Int32)).toNatClampNeg))
  )
set_option maxRecDepth 100000 in
theorem w_X11_copyRow_40_67 {d : Nat} {s : Sg} {Q : Qt}  (H : OQ (f_X11_copyRow_40_67  s) (fun _ s9 => Q none s9)) : WpM SHC MT (d + 1) 184 [.ref 67, .ref 40] s Q := by
  refine WpM.enter me_X11_copyRow rfl rfl ?_
  show Y_X11_copyRow_40_67 d Q 0 [(0, .ref 67), (1, .ref 40)] [] s
  unfold f_X11_copyRow_40_67 at H
  refine Wp.run 9 (show room8 [.int 0, .ref 40, .int 0, .ref 67] ∧ Y_X11_copyRow_40_67 d Q 11 [(0, .ref 67), (1, .ref 40)] [.int (if 8 < (8 : Int32) then 8 else (8 : Int32)), .int 0, .ref 40, .int 0, .ref 67] s from ⟨rm8_ rfl, ?_⟩)
  obtain ⟨c9, H⟩ := oq_ck H
  refine Wp.run 1 (show room8 [] ∧ (¬ (0 : Int32) < 0 ∧ ¬ (0 : Int32) < 0 ∧ ¬ (if 8 < (8 : Int32) then 8 else (8 : Int32)) < 0 ∧ 0 + (if 8 < (8 : Int32) then 8 else (8 : Int32)).toNatClampNeg ≤ 8 ∧ 0 + (if 8 < (8 : Int32) then 8 else (8 : Int32)).toNatClampNeg ≤ 8) ∧ Y_X11_copyRow_40_67 d Q 14 [(0, .ref 67), (1, .ref 40)] [] (pA s 40 (va_cpy (s.1 67) (s.1 40) 0 0 (if 8 < (8 : Int32) then 8 else (8 : Int32)).toNatClampNeg)) from ⟨rm8_ rfl, c9, ?_⟩)
  exact Wp.run 1 H
abbrev Y_X11_copyRow_41_68 (d : Nat) (Q : Qt) : Xt := Wp SHC (WpM SHC MT (d + 0)) cd_X11_copyRow (none) Q
def f_X11_copyRow_41_68  (s : Sg) : Option (Unit × Sg) :=
  ck (¬ (0 : Int32) < 0 ∧ ¬ (0 : Int32) < 0 ∧ ¬ (if 8 < (8 : Int32) then 8 else (8 : Int32)) < 0 ∧ 0 + (if 8 < (8 : Int32) then 8 else (8 : Int32)).toNatClampNeg ≤ 8 ∧ 0 + (if 8 < (8 : Int32) then 8 else (8 : Int32)).toNatClampNeg ≤ 8) (
  some ((), pA s 41 (va_cpy (s.1 68) (s.1 41) 0 0 (if 8 < (8 : Int32) then 8 else (8 : Int32)).toNatClampNeg))
  )
set_option maxRecDepth 100000 in
theorem w_X11_copyRow_41_68 {d : Nat} {s : Sg} {Q : Qt}  (H : OQ (f_X11_copyRow_41_68  s) (fun _ s9 => Q none s9)) : WpM SHC MT (d + 1) 184 [.ref 68, .ref 41] s Q := by
  refine WpM.enter me_X11_copyRow rfl rfl ?_
  show Y_X11_copyRow_41_68 d Q 0 [(0, .ref 68), (1, .ref 41)] [] s
  unfold f_X11_copyRow_41_68 at H
  refine Wp.run 9 (show room8 [.int 0, .ref 41, .int 0, .ref 68] ∧ Y_X11_copyRow_41_68 d Q 11 [(0, .ref 68), (1, .ref 41)] [.int (if 8 < (8 : Int32) then 8 else (8 : Int32)), .int 0, .ref 41, .int 0, .ref 68] s from ⟨rm8_ rfl, ?_⟩)
  obtain ⟨c9, H⟩ := oq_ck H
  refine Wp.run 1 (show room8 [] ∧ (¬ (0 : Int32) < 0 ∧ ¬ (0 : Int32) < 0 ∧ ¬ (if 8 < (8 : Int32) then 8 else (8 : Int32)) < 0 ∧ 0 + (if 8 < (8 : Int32) then 8 else (8 : Int32)).toNatClampNeg ≤ 8 ∧ 0 + (if 8 < (8 : Int32) then 8 else (8 : Int32)).toNatClampNeg ≤ 8) ∧ Y_X11_copyRow_41_68 d Q 14 [(0, .ref 68), (1, .ref 41)] [] (pA s 41 (va_cpy (s.1 68) (s.1 41) 0 0 (if 8 < (8 : Int32) then 8 else (8 : Int32)).toNatClampNeg)) from ⟨rm8_ rfl, c9, ?_⟩)
  exact Wp.run 1 H
abbrev Y_X11_copyRow_42_69 (d : Nat) (Q : Qt) : Xt := Wp SHC (WpM SHC MT (d + 0)) cd_X11_copyRow (none) Q
def f_X11_copyRow_42_69  (s : Sg) : Option (Unit × Sg) :=
  ck (¬ (0 : Int32) < 0 ∧ ¬ (0 : Int32) < 0 ∧ ¬ (if 8 < (8 : Int32) then 8 else (8 : Int32)) < 0 ∧ 0 + (if 8 < (8 : Int32) then 8 else (8 : Int32)).toNatClampNeg ≤ 8 ∧ 0 + (if 8 < (8 : Int32) then 8 else (8 : Int32)).toNatClampNeg ≤ 8) (
  some ((), pA s 42 (va_cpy (s.1 69) (s.1 42) 0 0 (if 8 < (8 : Int32) then 8 else (8 : Int32)).toNatClampNeg))
  )
set_option maxRecDepth 100000 in
theorem w_X11_copyRow_42_69 {d : Nat} {s : Sg} {Q : Qt}  (H : OQ (f_X11_copyRow_42_69  s) (fun _ s9 => Q none s9)) : WpM SHC MT (d + 1) 184 [.ref 69, .ref 42] s Q := by
  refine WpM.enter me_X11_copyRow rfl rfl ?_
  show Y_X11_copyRow_42_69 d Q 0 [(0, .ref 69), (1, .ref 42)] [] s
  unfold f_X11_copyRow_42_69 at H
  refine Wp.run 9 (show room8 [.int 0, .ref 42, .int 0, .ref 69] ∧ Y_X11_copyRow_42_69 d Q 11 [(0, .ref 69), (1, .ref 42)] [.int (if 8 < (8 : Int32) then 8 else (8 : Int32)), .int 0, .ref 42, .int 0, .ref 69] s from ⟨rm8_ rfl, ?_⟩)
  obtain ⟨c9, H⟩ := oq_ck H
  refine Wp.run 1 (show room8 [] ∧ (¬ (0 : Int32) < 0 ∧ ¬ (0 : Int32) < 0 ∧ ¬ (if 8 < (8 : Int32) then 8 else (8 : Int32)) < 0 ∧ 0 + (if 8 < (8 : Int32) then 8 else (8 : Int32)).toNatClampNeg ≤ 8 ∧ 0 + (if 8 < (8 : Int32) then 8 else (8 : Int32)).toNatClampNeg ≤ 8) ∧ Y_X11_copyRow_42_69 d Q 14 [(0, .ref 69), (1, .ref 42)] [] (pA s 42 (va_cpy (s.1 69) (s.1 42) 0 0 (if 8 < (8 : Int32) then 8 else (8 : Int32)).toNatClampNeg)) from ⟨rm8_ rfl, c9, ?_⟩)
  exact Wp.run 1 H
abbrev Y_X11_copyRow_43_70 (d : Nat) (Q : Qt) : Xt := Wp SHC (WpM SHC MT (d + 0)) cd_X11_copyRow (none) Q
def f_X11_copyRow_43_70  (s : Sg) : Option (Unit × Sg) :=
  ck (¬ (0 : Int32) < 0 ∧ ¬ (0 : Int32) < 0 ∧ ¬ (if 8 < (8 : Int32) then 8 else (8 : Int32)) < 0 ∧ 0 + (if 8 < (8 : Int32) then 8 else (8 : Int32)).toNatClampNeg ≤ 8 ∧ 0 + (if 8 < (8 : Int32) then 8 else (8 : Int32)).toNatClampNeg ≤ 8) (
  some ((), pA s 43 (va_cpy (s.1 70) (s.1 43) 0 0 (if 8 < (8 : Int32) then 8 else (8 : Int32)).toNatClampNeg))
  )
set_option maxRecDepth 100000 in
theorem w_X11_copyRow_43_70 {d : Nat} {s : Sg} {Q : Qt}  (H : OQ (f_X11_copyRow_43_70  s) (fun _ s9 => Q none s9)) : WpM SHC MT (d + 1) 184 [.ref 70, .ref 43] s Q := by
  refine WpM.enter me_X11_copyRow rfl rfl ?_
  show Y_X11_copyRow_43_70 d Q 0 [(0, .ref 70), (1, .ref 43)] [] s
  unfold f_X11_copyRow_43_70 at H
  refine Wp.run 9 (show room8 [.int 0, .ref 43, .int 0, .ref 70] ∧ Y_X11_copyRow_43_70 d Q 11 [(0, .ref 70), (1, .ref 43)] [.int (if 8 < (8 : Int32) then 8 else (8 : Int32)), .int 0, .ref 43, .int 0, .ref 70] s from ⟨rm8_ rfl, ?_⟩)
  obtain ⟨c9, H⟩ := oq_ck H
  refine Wp.run 1 (show room8 [] ∧ (¬ (0 : Int32) < 0 ∧ ¬ (0 : Int32) < 0 ∧ ¬ (if 8 < (8 : Int32) then 8 else (8 : Int32)) < 0 ∧ 0 + (if 8 < (8 : Int32) then 8 else (8 : Int32)).toNatClampNeg ≤ 8 ∧ 0 + (if 8 < (8 : Int32) then 8 else (8 : Int32)).toNatClampNeg ≤ 8) ∧ Y_X11_copyRow_43_70 d Q 14 [(0, .ref 70), (1, .ref 43)] [] (pA s 43 (va_cpy (s.1 70) (s.1 43) 0 0 (if 8 < (8 : Int32) then 8 else (8 : Int32)).toNatClampNeg)) from ⟨rm8_ rfl, c9, ?_⟩)
  exact Wp.run 1 H
abbrev Y_X11_copyRow_44_71 (d : Nat) (Q : Qt) : Xt := Wp SHC (WpM SHC MT (d + 0)) cd_X11_copyRow (none) Q
def f_X11_copyRow_44_71  (s : Sg) : Option (Unit × Sg) :=
  ck (¬ (0 : Int32) < 0 ∧ ¬ (0 : Int32) < 0 ∧ ¬ (if 4 < (4 : Int32) then 4 else (4 : Int32)) < 0 ∧ 0 + (if 4 < (4 : Int32) then 4 else (4 : Int32)).toNatClampNeg ≤ 4 ∧ 0 + (if 4 < (4 : Int32) then 4 else (4 : Int32)).toNatClampNeg ≤ 4) (
  some ((), pA s 44 (va_cpy (s.1 71) (s.1 44) 0 0 (if 4 < (4 : Int32) then 4 else (4 : Int32)).toNatClampNeg))
  )
set_option maxRecDepth 100000 in
theorem w_X11_copyRow_44_71 {d : Nat} {s : Sg} {Q : Qt}  (H : OQ (f_X11_copyRow_44_71  s) (fun _ s9 => Q none s9)) : WpM SHC MT (d + 1) 184 [.ref 71, .ref 44] s Q := by
  refine WpM.enter me_X11_copyRow rfl rfl ?_
  show Y_X11_copyRow_44_71 d Q 0 [(0, .ref 71), (1, .ref 44)] [] s
  unfold f_X11_copyRow_44_71 at H
  refine Wp.run 9 (show room8 [.int 0, .ref 44, .int 0, .ref 71] ∧ Y_X11_copyRow_44_71 d Q 11 [(0, .ref 71), (1, .ref 44)] [.int (if 4 < (4 : Int32) then 4 else (4 : Int32)), .int 0, .ref 44, .int 0, .ref 71] s from ⟨rm8_ rfl, ?_⟩)
  obtain ⟨c9, H⟩ := oq_ck H
  refine Wp.run 1 (show room8 [] ∧ (¬ (0 : Int32) < 0 ∧ ¬ (0 : Int32) < 0 ∧ ¬ (if 4 < (4 : Int32) then 4 else (4 : Int32)) < 0 ∧ 0 + (if 4 < (4 : Int32) then 4 else (4 : Int32)).toNatClampNeg ≤ 4 ∧ 0 + (if 4 < (4 : Int32) then 4 else (4 : Int32)).toNatClampNeg ≤ 4) ∧ Y_X11_copyRow_44_71 d Q 14 [(0, .ref 71), (1, .ref 44)] [] (pA s 44 (va_cpy (s.1 71) (s.1 44) 0 0 (if 4 < (4 : Int32) then 4 else (4 : Int32)).toNatClampNeg)) from ⟨rm8_ rfl, c9, ?_⟩)
  exact Wp.run 1 H
abbrev Y_X2_copyFrom_53 (d : Nat) (Q : Qt) : Xt := Wp SHC (WpM SHC MT (d + 1)) cd_X2_copyFrom (none) Q
def f_X2_copyFrom_53  (s : Sg) : Option (Unit × Sg) :=
  bd (f_X11_copyRow_40_67 s) (fun _ s2 =>
  bd (f_X11_copyRow_41_68 s2) (fun _ s4 =>
  bd (f_X11_copyRow_42_69 s4) (fun _ s6 =>
  bd (f_X11_copyRow_43_70 s6) (fun _ s8 =>
  bd (f_X11_copyRow_44_71 s8) (fun _ s10 =>
  nmx (pI (pI s10 26 5 (s10.1 53 5)) 26 6 ((pI s10 26 5 (s10.1 53 5)).1 53 6)) (fun s11 =>
  ck ((s11.1 53 7) = 0 ∨ (s11.1 53 7) = 1) (
  nmx (pI (pI s11 26 7 (s11.1 53 7)) 26 8 ((pI s11 26 7 (s11.1 53 7)).1 53 8)) (fun s13 =>
  nmx (pI (pI s13 26 9 (s13.1 53 9)) 26 10 ((pI s13 26 9 (s13.1 53 9)).1 53 10)) (fun s14 =>
  nmx (pI (pI s14 26 11 (s14.1 53 11)) 26 12 ((pI s14 26 11 (s14.1 53 11)).1 53 12)) (fun s15 =>
  some ((), s15)
  )
  )
  )
  )
  )
  )
  )
  )
  )
  )
set_option maxRecDepth 100000 in
theorem w_X2_copyFrom_53 {d : Nat} {s : Sg} {Q : Qt}  (H : OQ (f_X2_copyFrom_53  s) (fun _ s9 => Q none s9)) : WpM SHC MT (d + 2) 21 [.ref 26, .ref 53] s Q := by
  refine WpM.enter me_X2_copyFrom rfl rfl ?_
  show Y_X2_copyFrom_53 d Q 0 [(0, .ref 26), (1, .ref 53)] [] s
  unfold f_X2_copyFrom_53 at H
  refine Wp.run 5 (show room8 [] ∧ WpM SHC MT (d + 1) 184 [.ref 67, .ref 40] s (fun v9 s9 => Y_X2_copyFrom_53 d Q 11 [(0, .ref 26), (1, .ref 53)] (v9.toList ++ []) s9) from ⟨rm8_ rfl, ?_⟩)
  refine w_X11_copyRow_40_67 (d := d)  ?_
  refine oq_bd H (fun _ s2 H => ?_)
  show Y_X2_copyFrom_53 d Q 11 [(0, .ref 26), (1, .ref 53)] [] s2
  refine Wp.run 5 (show room8 [] ∧ WpM SHC MT (d + 1) 184 [.ref 68, .ref 41] s2 (fun v9 s9 => Y_X2_copyFrom_53 d Q 22 [(0, .ref 26), (1, .ref 53)] (v9.toList ++ []) s9) from ⟨rm8_ rfl, ?_⟩)
  refine w_X11_copyRow_41_68 (d := d)  ?_
  refine oq_bd H (fun _ s4 H => ?_)
  show Y_X2_copyFrom_53 d Q 22 [(0, .ref 26), (1, .ref 53)] [] s4
  refine Wp.run 5 (show room8 [] ∧ WpM SHC MT (d + 1) 184 [.ref 69, .ref 42] s4 (fun v9 s9 => Y_X2_copyFrom_53 d Q 33 [(0, .ref 26), (1, .ref 53)] (v9.toList ++ []) s9) from ⟨rm8_ rfl, ?_⟩)
  refine w_X11_copyRow_42_69 (d := d)  ?_
  refine oq_bd H (fun _ s6 H => ?_)
  show Y_X2_copyFrom_53 d Q 33 [(0, .ref 26), (1, .ref 53)] [] s6
  refine Wp.run 5 (show room8 [] ∧ WpM SHC MT (d + 1) 184 [.ref 70, .ref 43] s6 (fun v9 s9 => Y_X2_copyFrom_53 d Q 44 [(0, .ref 26), (1, .ref 53)] (v9.toList ++ []) s9) from ⟨rm8_ rfl, ?_⟩)
  refine w_X11_copyRow_43_70 (d := d)  ?_
  refine oq_bd H (fun _ s8 H => ?_)
  show Y_X2_copyFrom_53 d Q 44 [(0, .ref 26), (1, .ref 53)] [] s8
  refine Wp.run 5 (show room8 [] ∧ WpM SHC MT (d + 1) 184 [.ref 71, .ref 44] s8 (fun v9 s9 => Y_X2_copyFrom_53 d Q 55 [(0, .ref 26), (1, .ref 53)] (v9.toList ++ []) s9) from ⟨rm8_ rfl, ?_⟩)
  refine w_X11_copyRow_44_71 (d := d)  ?_
  refine oq_bd H (fun _ s10 H => ?_)
  show Y_X2_copyFrom_53 d Q 55 [(0, .ref 26), (1, .ref 53)] [] s10
  refine Wp.run 8 (show Y_X2_copyFrom_53 d Q 71 [(0, .ref 26), (1, .ref 53)] [] (pI (pI s10 26 5 (s10.1 53 5)) 26 6 ((pI s10 26 5 (s10.1 53 5)).1 53 6)) from ?_)
  revert H
  generalize pI (pI s10 26 5 (s10.1 53 5)) 26 6 ((pI s10 26 5 (s10.1 53 5)).1 53 6) = s11
  intro H
  have H := nmx_e H
  obtain ⟨hc12, H⟩ := oq_ck H
  refine Wp.run 4 (show ((s11.1 53 7) = 0 ∨ (s11.1 53 7) = 1) ∧ Y_X2_copyFrom_53 d Q 79 [(0, .ref 26), (1, .ref 53)] [] (pI s11 26 7 (s11.1 53 7)) from ⟨hc12, ?_⟩)
  refine Wp.run 4 (show Y_X2_copyFrom_53 d Q 87 [(0, .ref 26), (1, .ref 53)] [] (pI (pI s11 26 7 (s11.1 53 7)) 26 8 ((pI s11 26 7 (s11.1 53 7)).1 53 8)) from ?_)
  revert H
  generalize pI (pI s11 26 7 (s11.1 53 7)) 26 8 ((pI s11 26 7 (s11.1 53 7)).1 53 8) = s13
  intro H
  have H := nmx_e H
  refine Wp.run 8 (show Y_X2_copyFrom_53 d Q 103 [(0, .ref 26), (1, .ref 53)] [] (pI (pI s13 26 9 (s13.1 53 9)) 26 10 ((pI s13 26 9 (s13.1 53 9)).1 53 10)) from ?_)
  revert H
  generalize pI (pI s13 26 9 (s13.1 53 9)) 26 10 ((pI s13 26 9 (s13.1 53 9)).1 53 10) = s14
  intro H
  have H := nmx_e H
  refine Wp.run 8 (show Y_X2_copyFrom_53 d Q 119 [(0, .ref 26), (1, .ref 53)] [] (pI (pI s14 26 11 (s14.1 53 11)) 26 12 ((pI s14 26 11 (s14.1 53 11)).1 53 12)) from ?_)
  revert H
  generalize pI (pI s14 26 11 (s14.1 53 11)) 26 12 ((pI s14 26 11 (s14.1 53 11)).1 53 12) = s15
  intro H
  have H := nmx_e H
  exact Wp.run 1 H
abbrev Y_X11_copyRow_45_72 (d : Nat) (Q : Qt) : Xt := Wp SHC (WpM SHC MT (d + 0)) cd_X11_copyRow (none) Q
def f_X11_copyRow_45_72  (s : Sg) : Option (Unit × Sg) :=
  ck (¬ (0 : Int32) < 0 ∧ ¬ (0 : Int32) < 0 ∧ ¬ (if 60 < (60 : Int32) then 60 else (60 : Int32)) < 0 ∧ 0 + (if 60 < (60 : Int32) then 60 else (60 : Int32)).toNatClampNeg ≤ 60 ∧ 0 + (if 60 < (60 : Int32) then 60 else (60 : Int32)).toNatClampNeg ≤ 60) (
  some ((), pA s 45 (va_cpy (s.1 72) (s.1 45) 0 0 (if 60 < (60 : Int32) then 60 else (60 : Int32)).toNatClampNeg))
  )
set_option maxRecDepth 100000 in
theorem w_X11_copyRow_45_72 {d : Nat} {s : Sg} {Q : Qt}  (H : OQ (f_X11_copyRow_45_72  s) (fun _ s9 => Q none s9)) : WpM SHC MT (d + 1) 184 [.ref 72, .ref 45] s Q := by
  refine WpM.enter me_X11_copyRow rfl rfl ?_
  show Y_X11_copyRow_45_72 d Q 0 [(0, .ref 72), (1, .ref 45)] [] s
  unfold f_X11_copyRow_45_72 at H
  refine Wp.run 9 (show room8 [.int 0, .ref 45, .int 0, .ref 72] ∧ Y_X11_copyRow_45_72 d Q 11 [(0, .ref 72), (1, .ref 45)] [.int (if 60 < (60 : Int32) then 60 else (60 : Int32)), .int 0, .ref 45, .int 0, .ref 72] s from ⟨rm8_ rfl, ?_⟩)
  obtain ⟨c9, H⟩ := oq_ck H
  refine Wp.run 1 (show room8 [] ∧ (¬ (0 : Int32) < 0 ∧ ¬ (0 : Int32) < 0 ∧ ¬ (if 60 < (60 : Int32) then 60 else (60 : Int32)) < 0 ∧ 0 + (if 60 < (60 : Int32) then 60 else (60 : Int32)).toNatClampNeg ≤ 60 ∧ 0 + (if 60 < (60 : Int32) then 60 else (60 : Int32)).toNatClampNeg ≤ 60) ∧ Y_X11_copyRow_45_72 d Q 14 [(0, .ref 72), (1, .ref 45)] [] (pA s 45 (va_cpy (s.1 72) (s.1 45) 0 0 (if 60 < (60 : Int32) then 60 else (60 : Int32)).toNatClampNeg)) from ⟨rm8_ rfl, c9, ?_⟩)
  exact Wp.run 1 H
abbrev Y_X11_copyRow_46_73 (d : Nat) (Q : Qt) : Xt := Wp SHC (WpM SHC MT (d + 0)) cd_X11_copyRow (none) Q
def f_X11_copyRow_46_73  (s : Sg) : Option (Unit × Sg) :=
  ck (¬ (0 : Int32) < 0 ∧ ¬ (0 : Int32) < 0 ∧ ¬ (if 60 < (60 : Int32) then 60 else (60 : Int32)) < 0 ∧ 0 + (if 60 < (60 : Int32) then 60 else (60 : Int32)).toNatClampNeg ≤ 60 ∧ 0 + (if 60 < (60 : Int32) then 60 else (60 : Int32)).toNatClampNeg ≤ 60) (
  some ((), pA s 46 (va_cpy (s.1 73) (s.1 46) 0 0 (if 60 < (60 : Int32) then 60 else (60 : Int32)).toNatClampNeg))
  )
set_option maxRecDepth 100000 in
theorem w_X11_copyRow_46_73 {d : Nat} {s : Sg} {Q : Qt}  (H : OQ (f_X11_copyRow_46_73  s) (fun _ s9 => Q none s9)) : WpM SHC MT (d + 1) 184 [.ref 73, .ref 46] s Q := by
  refine WpM.enter me_X11_copyRow rfl rfl ?_
  show Y_X11_copyRow_46_73 d Q 0 [(0, .ref 73), (1, .ref 46)] [] s
  unfold f_X11_copyRow_46_73 at H
  refine Wp.run 9 (show room8 [.int 0, .ref 46, .int 0, .ref 73] ∧ Y_X11_copyRow_46_73 d Q 11 [(0, .ref 73), (1, .ref 46)] [.int (if 60 < (60 : Int32) then 60 else (60 : Int32)), .int 0, .ref 46, .int 0, .ref 73] s from ⟨rm8_ rfl, ?_⟩)
  obtain ⟨c9, H⟩ := oq_ck H
  refine Wp.run 1 (show room8 [] ∧ (¬ (0 : Int32) < 0 ∧ ¬ (0 : Int32) < 0 ∧ ¬ (if 60 < (60 : Int32) then 60 else (60 : Int32)) < 0 ∧ 0 + (if 60 < (60 : Int32) then 60 else (60 : Int32)).toNatClampNeg ≤ 60 ∧ 0 + (if 60 < (60 : Int32) then 60 else (60 : Int32)).toNatClampNeg ≤ 60) ∧ Y_X11_copyRow_46_73 d Q 14 [(0, .ref 73), (1, .ref 46)] [] (pA s 46 (va_cpy (s.1 73) (s.1 46) 0 0 (if 60 < (60 : Int32) then 60 else (60 : Int32)).toNatClampNeg)) from ⟨rm8_ rfl, c9, ?_⟩)
  exact Wp.run 1 H
abbrev Y_X11_copyRow_47_74 (d : Nat) (Q : Qt) : Xt := Wp SHC (WpM SHC MT (d + 0)) cd_X11_copyRow (none) Q
def f_X11_copyRow_47_74  (s : Sg) : Option (Unit × Sg) :=
  ck (¬ (0 : Int32) < 0 ∧ ¬ (0 : Int32) < 0 ∧ ¬ (if 60 < (60 : Int32) then 60 else (60 : Int32)) < 0 ∧ 0 + (if 60 < (60 : Int32) then 60 else (60 : Int32)).toNatClampNeg ≤ 60 ∧ 0 + (if 60 < (60 : Int32) then 60 else (60 : Int32)).toNatClampNeg ≤ 60) (
  some ((), pA s 47 (va_cpy (s.1 74) (s.1 47) 0 0 (if 60 < (60 : Int32) then 60 else (60 : Int32)).toNatClampNeg))
  )
set_option maxRecDepth 100000 in
theorem w_X11_copyRow_47_74 {d : Nat} {s : Sg} {Q : Qt}  (H : OQ (f_X11_copyRow_47_74  s) (fun _ s9 => Q none s9)) : WpM SHC MT (d + 1) 184 [.ref 74, .ref 47] s Q := by
  refine WpM.enter me_X11_copyRow rfl rfl ?_
  show Y_X11_copyRow_47_74 d Q 0 [(0, .ref 74), (1, .ref 47)] [] s
  unfold f_X11_copyRow_47_74 at H
  refine Wp.run 9 (show room8 [.int 0, .ref 47, .int 0, .ref 74] ∧ Y_X11_copyRow_47_74 d Q 11 [(0, .ref 74), (1, .ref 47)] [.int (if 60 < (60 : Int32) then 60 else (60 : Int32)), .int 0, .ref 47, .int 0, .ref 74] s from ⟨rm8_ rfl, ?_⟩)
  obtain ⟨c9, H⟩ := oq_ck H
  refine Wp.run 1 (show room8 [] ∧ (¬ (0 : Int32) < 0 ∧ ¬ (0 : Int32) < 0 ∧ ¬ (if 60 < (60 : Int32) then 60 else (60 : Int32)) < 0 ∧ 0 + (if 60 < (60 : Int32) then 60 else (60 : Int32)).toNatClampNeg ≤ 60 ∧ 0 + (if 60 < (60 : Int32) then 60 else (60 : Int32)).toNatClampNeg ≤ 60) ∧ Y_X11_copyRow_47_74 d Q 14 [(0, .ref 74), (1, .ref 47)] [] (pA s 47 (va_cpy (s.1 74) (s.1 47) 0 0 (if 60 < (60 : Int32) then 60 else (60 : Int32)).toNatClampNeg)) from ⟨rm8_ rfl, c9, ?_⟩)
  exact Wp.run 1 H
abbrev Y_X11_copyRow_48_75 (d : Nat) (Q : Qt) : Xt := Wp SHC (WpM SHC MT (d + 0)) cd_X11_copyRow (none) Q
def f_X11_copyRow_48_75  (s : Sg) : Option (Unit × Sg) :=
  ck (¬ (0 : Int32) < 0 ∧ ¬ (0 : Int32) < 0 ∧ ¬ (if 60 < (60 : Int32) then 60 else (60 : Int32)) < 0 ∧ 0 + (if 60 < (60 : Int32) then 60 else (60 : Int32)).toNatClampNeg ≤ 60 ∧ 0 + (if 60 < (60 : Int32) then 60 else (60 : Int32)).toNatClampNeg ≤ 60) (
  some ((), pA s 48 (va_cpy (s.1 75) (s.1 48) 0 0 (if 60 < (60 : Int32) then 60 else (60 : Int32)).toNatClampNeg))
  )
set_option maxRecDepth 100000 in
theorem w_X11_copyRow_48_75 {d : Nat} {s : Sg} {Q : Qt}  (H : OQ (f_X11_copyRow_48_75  s) (fun _ s9 => Q none s9)) : WpM SHC MT (d + 1) 184 [.ref 75, .ref 48] s Q := by
  refine WpM.enter me_X11_copyRow rfl rfl ?_
  show Y_X11_copyRow_48_75 d Q 0 [(0, .ref 75), (1, .ref 48)] [] s
  unfold f_X11_copyRow_48_75 at H
  refine Wp.run 9 (show room8 [.int 0, .ref 48, .int 0, .ref 75] ∧ Y_X11_copyRow_48_75 d Q 11 [(0, .ref 75), (1, .ref 48)] [.int (if 60 < (60 : Int32) then 60 else (60 : Int32)), .int 0, .ref 48, .int 0, .ref 75] s from ⟨rm8_ rfl, ?_⟩)
  obtain ⟨c9, H⟩ := oq_ck H
  refine Wp.run 1 (show room8 [] ∧ (¬ (0 : Int32) < 0 ∧ ¬ (0 : Int32) < 0 ∧ ¬ (if 60 < (60 : Int32) then 60 else (60 : Int32)) < 0 ∧ 0 + (if 60 < (60 : Int32) then 60 else (60 : Int32)).toNatClampNeg ≤ 60 ∧ 0 + (if 60 < (60 : Int32) then 60 else (60 : Int32)).toNatClampNeg ≤ 60) ∧ Y_X11_copyRow_48_75 d Q 14 [(0, .ref 75), (1, .ref 48)] [] (pA s 48 (va_cpy (s.1 75) (s.1 48) 0 0 (if 60 < (60 : Int32) then 60 else (60 : Int32)).toNatClampNeg)) from ⟨rm8_ rfl, c9, ?_⟩)
  exact Wp.run 1 H
abbrev Y_X11_copyRow_49_76 (d : Nat) (Q : Qt) : Xt := Wp SHC (WpM SHC MT (d + 0)) cd_X11_copyRow (none) Q
def f_X11_copyRow_49_76  (s : Sg) : Option (Unit × Sg) :=
  ck (¬ (0 : Int32) < 0 ∧ ¬ (0 : Int32) < 0 ∧ ¬ (if 60 < (60 : Int32) then 60 else (60 : Int32)) < 0 ∧ 0 + (if 60 < (60 : Int32) then 60 else (60 : Int32)).toNatClampNeg ≤ 60 ∧ 0 + (if 60 < (60 : Int32) then 60 else (60 : Int32)).toNatClampNeg ≤ 60) (
  some ((), pA s 49 (va_cpy (s.1 76) (s.1 49) 0 0 (if 60 < (60 : Int32) then 60 else (60 : Int32)).toNatClampNeg))
  )
set_option maxRecDepth 100000 in
theorem w_X11_copyRow_49_76 {d : Nat} {s : Sg} {Q : Qt}  (H : OQ (f_X11_copyRow_49_76  s) (fun _ s9 => Q none s9)) : WpM SHC MT (d + 1) 184 [.ref 76, .ref 49] s Q := by
  refine WpM.enter me_X11_copyRow rfl rfl ?_
  show Y_X11_copyRow_49_76 d Q 0 [(0, .ref 76), (1, .ref 49)] [] s
  unfold f_X11_copyRow_49_76 at H
  refine Wp.run 9 (show room8 [.int 0, .ref 49, .int 0, .ref 76] ∧ Y_X11_copyRow_49_76 d Q 11 [(0, .ref 76), (1, .ref 49)] [.int (if 60 < (60 : Int32) then 60 else (60 : Int32)), .int 0, .ref 49, .int 0, .ref 76] s from ⟨rm8_ rfl, ?_⟩)
  obtain ⟨c9, H⟩ := oq_ck H
  refine Wp.run 1 (show room8 [] ∧ (¬ (0 : Int32) < 0 ∧ ¬ (0 : Int32) < 0 ∧ ¬ (if 60 < (60 : Int32) then 60 else (60 : Int32)) < 0 ∧ 0 + (if 60 < (60 : Int32) then 60 else (60 : Int32)).toNatClampNeg ≤ 60 ∧ 0 + (if 60 < (60 : Int32) then 60 else (60 : Int32)).toNatClampNeg ≤ 60) ∧ Y_X11_copyRow_49_76 d Q 14 [(0, .ref 76), (1, .ref 49)] [] (pA s 49 (va_cpy (s.1 76) (s.1 49) 0 0 (if 60 < (60 : Int32) then 60 else (60 : Int32)).toNatClampNeg)) from ⟨rm8_ rfl, c9, ?_⟩)
  exact Wp.run 1 H
abbrev Y_X11_copyRow_50_77 (d : Nat) (Q : Qt) : Xt := Wp SHC (WpM SHC MT (d + 0)) cd_X11_copyRow (none) Q
def f_X11_copyRow_50_77  (s : Sg) : Option (Unit × Sg) :=
  ck (¬ (0 : Int32) < 0 ∧ ¬ (0 : Int32) < 0 ∧ ¬ (if 60 < (60 : Int32) then 60 else (60 : Int32)) < 0 ∧ 0 + (if 60 < (60 : Int32) then 60 else (60 : Int32)).toNatClampNeg ≤ 60 ∧ 0 + (if 60 < (60 : Int32) then 60 else (60 : Int32)).toNatClampNeg ≤ 60) (
  some ((), pA s 50 (va_cpy (s.1 77) (s.1 50) 0 0 (if 60 < (60 : Int32) then 60 else (60 : Int32)).toNatClampNeg))
  )
set_option maxRecDepth 100000 in
theorem w_X11_copyRow_50_77 {d : Nat} {s : Sg} {Q : Qt}  (H : OQ (f_X11_copyRow_50_77  s) (fun _ s9 => Q none s9)) : WpM SHC MT (d + 1) 184 [.ref 77, .ref 50] s Q := by
  refine WpM.enter me_X11_copyRow rfl rfl ?_
  show Y_X11_copyRow_50_77 d Q 0 [(0, .ref 77), (1, .ref 50)] [] s
  unfold f_X11_copyRow_50_77 at H
  refine Wp.run 9 (show room8 [.int 0, .ref 50, .int 0, .ref 77] ∧ Y_X11_copyRow_50_77 d Q 11 [(0, .ref 77), (1, .ref 50)] [.int (if 60 < (60 : Int32) then 60 else (60 : Int32)), .int 0, .ref 50, .int 0, .ref 77] s from ⟨rm8_ rfl, ?_⟩)
  obtain ⟨c9, H⟩ := oq_ck H
  refine Wp.run 1 (show room8 [] ∧ (¬ (0 : Int32) < 0 ∧ ¬ (0 : Int32) < 0 ∧ ¬ (if 60 < (60 : Int32) then 60 else (60 : Int32)) < 0 ∧ 0 + (if 60 < (60 : Int32) then 60 else (60 : Int32)).toNatClampNeg ≤ 60 ∧ 0 + (if 60 < (60 : Int32) then 60 else (60 : Int32)).toNatClampNeg ≤ 60) ∧ Y_X11_copyRow_50_77 d Q 14 [(0, .ref 77), (1, .ref 50)] [] (pA s 50 (va_cpy (s.1 77) (s.1 50) 0 0 (if 60 < (60 : Int32) then 60 else (60 : Int32)).toNatClampNeg)) from ⟨rm8_ rfl, c9, ?_⟩)
  exact Wp.run 1 H
abbrev Y_X5_copyFrom_54 (d : Nat) (Q : Qt) : Xt := Wp SHC (WpM SHC MT (d + 1)) cd_X5_copyFrom (none) Q
def f_X5_copyFrom_54  (s : Sg) : Option (Unit × Sg) :=
  bd (f_X11_copyRow_45_72 s) (fun _ s2 =>
  bd (f_X11_copyRow_46_73 s2) (fun _ s4 =>
  bd (f_X11_copyRow_47_74 s4) (fun _ s6 =>
  bd (f_X11_copyRow_48_75 s6) (fun _ s8 =>
  bd (f_X11_copyRow_49_76 s8) (fun _ s10 =>
  bd (f_X11_copyRow_50_77 s10) (fun _ s12 =>
  ck ((s12.1 54 6) = 0 ∨ (s12.1 54 6) = 1) (
  nmx (pI (pI s12 27 6 (s12.1 54 6)) 27 7 ((pI s12 27 6 (s12.1 54 6)).1 54 7)) (fun s14 =>
  some ((), pI s14 27 8 (s14.1 54 8))
  )
  )
  )
  )
  )
  )
  )
  )
set_option maxRecDepth 100000 in
theorem w_X5_copyFrom_54 {d : Nat} {s : Sg} {Q : Qt}  (H : OQ (f_X5_copyFrom_54  s) (fun _ s9 => Q none s9)) : WpM SHC MT (d + 2) 62 [.ref 27, .ref 54] s Q := by
  refine WpM.enter me_X5_copyFrom rfl rfl ?_
  show Y_X5_copyFrom_54 d Q 0 [(0, .ref 27), (1, .ref 54)] [] s
  unfold f_X5_copyFrom_54 at H
  refine Wp.run 5 (show room8 [] ∧ WpM SHC MT (d + 1) 184 [.ref 72, .ref 45] s (fun v9 s9 => Y_X5_copyFrom_54 d Q 11 [(0, .ref 27), (1, .ref 54)] (v9.toList ++ []) s9) from ⟨rm8_ rfl, ?_⟩)
  refine w_X11_copyRow_45_72 (d := d)  ?_
  refine oq_bd H (fun _ s2 H => ?_)
  show Y_X5_copyFrom_54 d Q 11 [(0, .ref 27), (1, .ref 54)] [] s2
  refine Wp.run 5 (show room8 [] ∧ WpM SHC MT (d + 1) 184 [.ref 73, .ref 46] s2 (fun v9 s9 => Y_X5_copyFrom_54 d Q 22 [(0, .ref 27), (1, .ref 54)] (v9.toList ++ []) s9) from ⟨rm8_ rfl, ?_⟩)
  refine w_X11_copyRow_46_73 (d := d)  ?_
  refine oq_bd H (fun _ s4 H => ?_)
  show Y_X5_copyFrom_54 d Q 22 [(0, .ref 27), (1, .ref 54)] [] s4
  refine Wp.run 5 (show room8 [] ∧ WpM SHC MT (d + 1) 184 [.ref 74, .ref 47] s4 (fun v9 s9 => Y_X5_copyFrom_54 d Q 33 [(0, .ref 27), (1, .ref 54)] (v9.toList ++ []) s9) from ⟨rm8_ rfl, ?_⟩)
  refine w_X11_copyRow_47_74 (d := d)  ?_
  refine oq_bd H (fun _ s6 H => ?_)
  show Y_X5_copyFrom_54 d Q 33 [(0, .ref 27), (1, .ref 54)] [] s6
  refine Wp.run 5 (show room8 [] ∧ WpM SHC MT (d + 1) 184 [.ref 75, .ref 48] s6 (fun v9 s9 => Y_X5_copyFrom_54 d Q 44 [(0, .ref 27), (1, .ref 54)] (v9.toList ++ []) s9) from ⟨rm8_ rfl, ?_⟩)
  refine w_X11_copyRow_48_75 (d := d)  ?_
  refine oq_bd H (fun _ s8 H => ?_)
  show Y_X5_copyFrom_54 d Q 44 [(0, .ref 27), (1, .ref 54)] [] s8
  refine Wp.run 5 (show room8 [] ∧ WpM SHC MT (d + 1) 184 [.ref 76, .ref 49] s8 (fun v9 s9 => Y_X5_copyFrom_54 d Q 55 [(0, .ref 27), (1, .ref 54)] (v9.toList ++ []) s9) from ⟨rm8_ rfl, ?_⟩)
  refine w_X11_copyRow_49_76 (d := d)  ?_
  refine oq_bd H (fun _ s10 H => ?_)
  show Y_X5_copyFrom_54 d Q 55 [(0, .ref 27), (1, .ref 54)] [] s10
  refine Wp.run 5 (show room8 [] ∧ WpM SHC MT (d + 1) 184 [.ref 77, .ref 50] s10 (fun v9 s9 => Y_X5_copyFrom_54 d Q 66 [(0, .ref 27), (1, .ref 54)] (v9.toList ++ []) s9) from ⟨rm8_ rfl, ?_⟩)
  refine w_X11_copyRow_50_77 (d := d)  ?_
  refine oq_bd H (fun _ s12 H => ?_)
  show Y_X5_copyFrom_54 d Q 66 [(0, .ref 27), (1, .ref 54)] [] s12
  obtain ⟨hc13, H⟩ := oq_ck H
  refine Wp.run 4 (show ((s12.1 54 6) = 0 ∨ (s12.1 54 6) = 1) ∧ Y_X5_copyFrom_54 d Q 74 [(0, .ref 27), (1, .ref 54)] [] (pI s12 27 6 (s12.1 54 6)) from ⟨hc13, ?_⟩)
  refine Wp.run 4 (show Y_X5_copyFrom_54 d Q 82 [(0, .ref 27), (1, .ref 54)] [] (pI (pI s12 27 6 (s12.1 54 6)) 27 7 ((pI s12 27 6 (s12.1 54 6)).1 54 7)) from ?_)
  revert H
  generalize pI (pI s12 27 6 (s12.1 54 6)) 27 7 ((pI s12 27 6 (s12.1 54 6)).1 54 7) = s14
  intro H
  have H := nmx_e H
  exact Wp.run 5 H
abbrev Y_X10_copyFrom_51 (d : Nat) (Q : Qt) : Xt := Wp SHC (WpM SHC MT (d + 2)) cd_X10_copyFrom (none) Q
def f_X10_copyFrom_51  (s : Sg) : Option (Unit × Sg) :=
  bd (f_X4_copyFrom_52 s) (fun _ s2 =>
  bd (f_X2_copyFrom_53 s2) (fun _ s4 =>
  bd (f_X5_copyFrom_54 s4) (fun _ s6 =>
  some ((), s6)
  )
  )
  )
set_option maxRecDepth 100000 in
theorem w_X10_copyFrom_51 {d : Nat} {s : Sg} {Q : Qt}  (H : OQ (f_X10_copyFrom_51  s) (fun _ s9 => Q none s9)) : WpM SHC MT (d + 3) 101 [.ref 24, .ref 51] s Q := by
  refine WpM.enter me_X10_copyFrom rfl rfl ?_
  show Y_X10_copyFrom_51 d Q 0 [(0, .ref 24), (1, .ref 51)] [] s
  unfold f_X10_copyFrom_51 at H
  refine Wp.run 5 (show room8 [] ∧ WpM SHC MT (d + 2) 50 [.ref 25, .ref 52] s (fun v9 s9 => Y_X10_copyFrom_51 d Q 11 [(0, .ref 24), (1, .ref 51)] (v9.toList ++ []) s9) from ⟨rm8_ rfl, ?_⟩)
  refine w_X4_copyFrom_52 (d := d)  ?_
  refine oq_bd H (fun _ s2 H => ?_)
  show Y_X10_copyFrom_51 d Q 11 [(0, .ref 24), (1, .ref 51)] [] s2
  refine Wp.run 5 (show room8 [] ∧ WpM SHC MT (d + 2) 21 [.ref 26, .ref 53] s2 (fun v9 s9 => Y_X10_copyFrom_51 d Q 22 [(0, .ref 24), (1, .ref 51)] (v9.toList ++ []) s9) from ⟨rm8_ rfl, ?_⟩)
  refine w_X2_copyFrom_53 (d := d)  ?_
  refine oq_bd H (fun _ s4 H => ?_)
  show Y_X10_copyFrom_51 d Q 22 [(0, .ref 24), (1, .ref 51)] [] s4
  refine Wp.run 5 (show room8 [] ∧ WpM SHC MT (d + 2) 62 [.ref 27, .ref 54] s4 (fun v9 s9 => Y_X10_copyFrom_51 d Q 33 [(0, .ref 24), (1, .ref 51)] (v9.toList ++ []) s9) from ⟨rm8_ rfl, ?_⟩)
  refine w_X5_copyFrom_54 (d := d)  ?_
  refine oq_bd H (fun _ s6 H => ?_)
  show Y_X10_copyFrom_51 d Q 33 [(0, .ref 24), (1, .ref 51)] [] s6
  exact Wp.run 1 H
abbrev Y_X11_answer (d : Nat) (Q : Qt) : Xt := Wp SHC (WpM SHC MT (d + 0)) cd_X11_answer (some .int) Q
def f_X11_answer (a1 : Int32) (s : Sg) : Option (Int32 × Sg) :=
  some (a1, pI s 0 15 0)
set_option maxRecDepth 100000 in
theorem w_X11_answer {d : Nat} {s : Sg} {Q : Qt} (a1 : Int32) (H : OQ (f_X11_answer a1 s) (fun r9 s9 => Q (some (.int r9)) s9)) : WpM SHC MT (d + 1) 164 [.ref 0, .int a1] s Q := by
  refine WpM.enter me_X11_answer rfl rfl ?_
  show Y_X11_answer d Q 0 [(0, .ref 0), (1, .int a1)] [] s
  unfold f_X11_answer at H
  exact Wp.run 5 ⟨rfl, H⟩
abbrev Y_X11_street (d : Nat) (Q : Qt) : Xt := Wp SHC (WpM SHC MT (d + 7)) cd_X11_street (some .int) Q
def f_X11_street (a1 : Int32) (s : Sg) : Option (Int32 × Sg) :=
  bd (f_X11_within a1 0 (s.1 0 13) s) (fun r1 s2 =>
  if r1 = 0 then
    bd (f_X11_refuse 1 s2) (fun r3 s4 =>
    some (r3, s4)
    )
  else
    bd (f_X7_begin a1 s2) (fun _ s6 =>
    bd (f_X6_takeText s6) (fun r7 s8 =>
    bd (f_X11_closeText s8) (fun _ s10 =>
    if r7 = 0 then
      bd (f_X11_refuse 9 s10) (fun r11 s12 =>
      some (r11, s12)
      )
    else
      bd (f_X10_copyFrom_51 s10) (fun _ s14 =>
      bd (f_X11_answer (s14.1 25 14) s14) (fun r15 s16 =>
      some (r15, s16)
      )
      )
    )
    )
    )
  )
set_option maxRecDepth 100000 in
theorem w_X11_street {d : Nat} {s : Sg} {Q : Qt} (a1 : Int32) (H : OQ (f_X11_street a1 s) (fun r9 s9 => Q (some (.int r9)) s9)) : WpM SHC MT (d + 8) 110 [.ref 0, .int a1] s Q := by
  refine WpM.enter me_X11_street rfl rfl ?_
  show Y_X11_street d Q 0 [(0, .ref 0), (1, .int a1)] [] s
  unfold f_X11_street at H
  refine Wp.run 5 (show room8 [] ∧ WpM SHC MT (d + 7) 169 [.int a1, .int 0, .int (s.1 0 13)] s (fun v9 s9 => Y_X11_street d Q 9 [(0, .ref 0), (1, .int a1)] (v9.toList ++ []) s9) from ⟨rm8_ rfl, ?_⟩)
  refine w_X11_within (d := d + 6) _ _ _ ?_
  refine oq_bd H (fun r1 s2 H => ?_)
  show Y_X11_street d Q 9 [(0, .ref 0), (1, .int a1)] [.int r1] s2
  refine Wp.run 1 (show br (r1 = 0) (Y_X11_street d Q 12 [(0, .ref 0), (1, .int a1)] [] s2) (Y_X11_street d Q 18 [(0, .ref 0), (1, .int a1)] [] s2) from ⟨fun c9 => ?_, fun c9 => ?_⟩)
  · have H := oq_t c9 H
    refine Wp.run 3 (show room8 [] ∧ WpM SHC MT (d + 7) 166 [.ref 0, .int 1] s2 (fun v9 s9 => Y_X11_street d Q 17 [(0, .ref 0), (1, .int a1)] (v9.toList ++ []) s9) from ⟨rm8_ rfl, ?_⟩)
    refine w_X11_refuse (d := d + 6) _ ?_
    refine oq_bd H (fun r3 s4 H => ?_)
    show Y_X11_street d Q 17 [(0, .ref 0), (1, .int a1)] [.int r3] s4
    exact Wp.run 1 ⟨rfl, H⟩
  · have H := oq_f c9 H
    refine Wp.run 4 (show room8 [] ∧ WpM SHC MT (d + 7) 73 [.ref 7, .int a1] s2 (fun v9 s9 => Y_X11_street d Q 26 [(0, .ref 0), (1, .int a1)] (v9.toList ++ []) s9) from ⟨rm8_ rfl, ?_⟩)
    refine w_X7_begin (d := d + 3) _ ?_
    refine oq_bd H (fun _ s6 H => ?_)
    show Y_X11_street d Q 26 [(0, .ref 0), (1, .int a1)] [] s6
    refine Wp.run 3 (show room8 [] ∧ WpM SHC MT (d + 7) 63 [.ref 8] s6 (fun v9 s9 => Y_X11_street d Q 33 [(0, .ref 0), (1, .int a1)] (v9.toList ++ []) s9) from ⟨rm8_ rfl, ?_⟩)
    refine w_X6_takeText (d := d)  ?_
    refine oq_bd H (fun r7 s8 H => ?_)
    show Y_X11_street d Q 33 [(0, .ref 0), (1, .int a1)] [.int r7] s8
    refine Wp.run 3 (show room8 [] ∧ WpM SHC MT (d + 7) 179 [.ref 0] s8 (fun v9 s9 => Y_X11_street d Q 38 [(2, .int r7), (0, .ref 0), (1, .int a1)] (v9.toList ++ []) s9) from ⟨rm8_ rfl, ?_⟩)
    refine w_X11_closeText (d := d + 6)  ?_
    refine oq_bd H (fun _ s10 H => ?_)
    show Y_X11_street d Q 38 [(2, .int r7), (0, .ref 0), (1, .int a1)] [] s10
    refine Wp.run 2 (show br (r7 = 0) (Y_X11_street d Q 42 [(2, .int r7), (0, .ref 0), (1, .int a1)] [] s10) (Y_X11_street d Q 49 [(2, .int r7), (0, .ref 0), (1, .int a1)] [] s10) from ⟨fun c9 => ?_, fun c9 => ?_⟩)
    · have H := oq_t c9 H
      refine Wp.run 3 (show room8 [] ∧ WpM SHC MT (d + 7) 166 [.ref 0, .int 9] s10 (fun v9 s9 => Y_X11_street d Q 48 [(2, .int r7), (0, .ref 0), (1, .int a1)] (v9.toList ++ []) s9) from ⟨rm8_ rfl, ?_⟩)
      refine w_X11_refuse (d := d + 6) _ ?_
      refine oq_bd H (fun r11 s12 H => ?_)
      show Y_X11_street d Q 48 [(2, .int r7), (0, .ref 0), (1, .int a1)] [.int r11] s12
      exact Wp.run 1 ⟨rfl, H⟩
    · have H := oq_f c9 H
      refine Wp.run 5 (show room8 [] ∧ WpM SHC MT (d + 7) 101 [.ref 24, .ref 51] s10 (fun v9 s9 => Y_X11_street d Q 60 [(2, .int r7), (0, .ref 0), (1, .int a1)] (v9.toList ++ []) s9) from ⟨rm8_ rfl, ?_⟩)
      refine w_X10_copyFrom_51 (d := d + 4)  ?_
      refine oq_bd H (fun _ s14 H => ?_)
      show Y_X11_street d Q 60 [(2, .int r7), (0, .ref 0), (1, .int a1)] [] s14
      refine Wp.run 5 (show room8 [] ∧ WpM SHC MT (d + 7) 164 [.ref 0, .int (s14.1 25 14)] s14 (fun v9 s9 => Y_X11_street d Q 71 [(2, .int r7), (0, .ref 0), (1, .int a1)] (v9.toList ++ []) s9) from ⟨rm8_ rfl, ?_⟩)
      refine w_X11_answer (d := d + 6) _ ?_
      refine oq_bd H (fun r15 s16 H => ?_)
      show Y_X11_street d Q 71 [(2, .int r7), (0, .ref 0), (1, .int a1)] [.int r15] s16
      exact Wp.run 1 ⟨rfl, H⟩
abbrev Y_X1_takeEnd (d : Nat) (Q : Qt) : Xt := Wp SHC (WpM SHC MT (d + 4)) cd_X1_takeEnd (some .boolean) Q
def f_X1_takeEnd  (s : Sg) : Option (Int32 × Sg) :=
  if (s.1 9 4) = 0 then
    bd (f_X7_wrong 2 s) (fun r1 s2 =>
    ck (r1 = 0 ∨ r1 = 1) (some (r1, s2))
    )
  else
    if (s.1 54 7) < 60 then
      ck (inr ((pI s 9 4 ((s.1 9 4) - 1)).1 9 4) 3) (
      nmx ((pI s 9 4 ((s.1 9 4) - 1)).1 23 (((pI s 9 4 ((s.1 9 4) - 1)).1 9 4).toNatClampNeg) : Int32) (fun x4 =>
      ck (inr ((pI s 9 4 ((s.1 9 4) - 1)).1 54 7) 60) (
      nmx (pI (pI s 9 4 ((s.1 9 4) - 1)) 72 (((pI s 9 4 ((s.1 9 4) - 1)).1 54 7).toNatClampNeg) 129) (fun s6 =>
      ck (inr (s6.1 54 7) 60) (
      nmx (pI s6 77 ((s6.1 54 7).toNatClampNeg) x4) (fun s8 =>
      ck (inr x4 60) (
      nmx (pI s8 77 x4.toNatClampNeg (s8.1 54 7)) (fun s10 =>
      bd (f_X7_advance (pI s10 54 7 ((s10.1 54 7) + 1))) (fun _ s12 =>
      bd (f_X7_pass 59 s12) (fun r13 s14 =>
      ck (r13 = 0 ∨ r13 = 1) (some (r13, s14))
      )
      )
      )
      )
      )
      )
      )
      )
      )
      )
    else
      bd (f_X7_wrong 2 s) (fun r15 s16 =>
      ck (r15 = 0 ∨ r15 = 1) (some (r15, s16))
      )
set_option maxRecDepth 100000 in
theorem w_X1_takeEnd {d : Nat} {s : Sg} {Q : Qt}  (H : OQ (f_X1_takeEnd  s) (fun r9 s9 => Q (some (.int r9)) s9)) : WpM SHC MT (d + 5) 12 [.ref 9] s Q := by
  refine WpM.enter me_X1_takeEnd rfl rfl ?_
  show Y_X1_takeEnd d Q 0 [(0, .ref 9)] [] s
  unfold f_X1_takeEnd at H
  refine Wp.run 3 (show br ((s.1 9 4) = 0) (Y_X1_takeEnd d Q 19 [(0, .ref 9)] [] s) (Y_X1_takeEnd d Q 7 [(0, .ref 9)] [] s) from ⟨fun c9 => ?_, fun c9 => ?_⟩)
  · have H := oq_t c9 H
    refine Wp.run 4 (show room8 [] ∧ WpM SHC MT (d + 4) 81 [.ref 7, .int 2] s (fun v9 s9 => Y_X1_takeEnd d Q 27 [(0, .ref 9)] (v9.toList ++ []) s9) from ⟨rm8_ rfl, ?_⟩)
    refine w_X7_wrong (d := d + 3) _ ?_
    refine oq_bd H (fun r1 s2 H => ?_)
    show Y_X1_takeEnd d Q 27 [(0, .ref 9)] [.int r1] s2
    obtain ⟨c9, H⟩ := oq_ck H
    exact Wp.run 1 ⟨b01_n c9, H⟩
  · have H := oq_f c9 H
    refine Wp.run 5 (show br ((s.1 54 7) < 60) (Y_X1_takeEnd d Q 28 [(0, .ref 9)] [] s) (Y_X1_takeEnd d Q 19 [(0, .ref 9)] [] s) from ⟨fun c9 => ?_, fun c9 => ?_⟩)
    · have H := oq_t c9 H
      obtain ⟨hc3, H⟩ := oq_ck H
      refine Wp.run 11 (show (vp_in ((pI s 9 4 ((s.1 9 4) - 1)).1 9 4) 3) ∧ Y_X1_takeEnd d Q 47 [(0, .ref 9)] [.int ((pI s 9 4 ((s.1 9 4) - 1)).1 23 (((pI s 9 4 ((s.1 9 4) - 1)).1 9 4).toNatClampNeg))] (pI s 9 4 ((s.1 9 4) - 1)) from ⟨hc3, ?_⟩)
      refine Wp.run 1 (show Y_X1_takeEnd d Q 48 [(1, .int ((pI s 9 4 ((s.1 9 4) - 1)).1 23 (((pI s 9 4 ((s.1 9 4) - 1)).1 9 4).toNatClampNeg))), (0, .ref 9)] [] (pI s 9 4 ((s.1 9 4) - 1)) from ?_)
      revert H
      generalize ((pI s 9 4 ((s.1 9 4) - 1)).1 23 (((pI s 9 4 ((s.1 9 4) - 1)).1 9 4).toNatClampNeg) : Int32) = x4
      intro H
      have H := nmx_e H
      obtain ⟨hc5, H⟩ := oq_ck H
      refine Wp.run 8 (show (vp_in ((pI s 9 4 ((s.1 9 4) - 1)).1 54 7) 60) ∧ Y_X1_takeEnd d Q 66 [(1, .int x4), (0, .ref 9)] [] (pI (pI s 9 4 ((s.1 9 4) - 1)) 72 (((pI s 9 4 ((s.1 9 4) - 1)).1 54 7).toNatClampNeg) 129) from ⟨hc5, ?_⟩)
      revert H
      generalize pI (pI s 9 4 ((s.1 9 4) - 1)) 72 (((pI s 9 4 ((s.1 9 4) - 1)).1 54 7).toNatClampNeg) 129 = s6
      intro H
      have H := nmx_e H
      obtain ⟨hc7, H⟩ := oq_ck H
      refine Wp.run 8 (show (vp_in (s6.1 54 7) 60) ∧ Y_X1_takeEnd d Q 82 [(1, .int x4), (0, .ref 9)] [] (pI s6 77 ((s6.1 54 7).toNatClampNeg) x4) from ⟨hc7, ?_⟩)
      revert H
      generalize pI s6 77 ((s6.1 54 7).toNatClampNeg) x4 = s8
      intro H
      have H := nmx_e H
      obtain ⟨hc9, H⟩ := oq_ck H
      refine Wp.run 8 (show (vp_in x4 60) ∧ Y_X1_takeEnd d Q 98 [(1, .int x4), (0, .ref 9)] [] (pI s8 77 x4.toNatClampNeg (s8.1 54 7)) from ⟨hc9, ?_⟩)
      revert H
      generalize pI s8 77 x4.toNatClampNeg (s8.1 54 7) = s10
      intro H
      have H := nmx_e H
      refine Wp.run 10 (show room8 [] ∧ WpM SHC MT (d + 4) 74 [.ref 7] (pI s10 54 7 ((s10.1 54 7) + 1)) (fun v9 s9 => Y_X1_takeEnd d Q 118 [(1, .int x4), (0, .ref 9)] (v9.toList ++ []) s9) from ⟨rm8_ rfl, ?_⟩)
      refine w_X7_advance (d := d + 1)  ?_
      refine oq_bd H (fun _ s12 H => ?_)
      show Y_X1_takeEnd d Q 118 [(1, .int x4), (0, .ref 9)] [] s12
      refine Wp.run 4 (show room8 [] ∧ WpM SHC MT (d + 4) 82 [.ref 7, .int 59] s12 (fun v9 s9 => Y_X1_takeEnd d Q 127 [(1, .int x4), (0, .ref 9)] (v9.toList ++ []) s9) from ⟨rm8_ rfl, ?_⟩)
      refine w_X7_pass (d := d) _ ?_
      refine oq_bd H (fun r13 s14 H => ?_)
      show Y_X1_takeEnd d Q 127 [(1, .int x4), (0, .ref 9)] [.int r13] s14
      obtain ⟨c9, H⟩ := oq_ck H
      exact Wp.run 1 ⟨b01_n c9, H⟩
    · have H := oq_f c9 H
      refine Wp.run 4 (show room8 [] ∧ WpM SHC MT (d + 4) 81 [.ref 7, .int 2] s (fun v9 s9 => Y_X1_takeEnd d Q 27 [(0, .ref 9)] (v9.toList ++ []) s9) from ⟨rm8_ rfl, ?_⟩)
      refine w_X7_wrong (d := d + 3) _ ?_
      refine oq_bd H (fun r15 s16 H => ?_)
      show Y_X1_takeEnd d Q 27 [(0, .ref 9)] [.int r15] s16
      obtain ⟨c9, H⟩ := oq_ck H
      exact Wp.run 1 ⟨b01_n c9, H⟩
abbrev Y_X1_isStepWord (d : Nat) (Q : Qt) : Xt := Wp SHC (WpM SHC MT (d + 1)) cd_X1_isStepWord (some .boolean) Q
def f_X1_isStepWord (a0 : Int32) (s : Sg) : Option (Int32 × Sg) :=
  if a0 = 116 then
    some (1, s)
  else
    if a0 = 130 then
      some (1, s)
    else
      if a0 = 128 then
        some (1, s)
      else
        bd (f_X11_within a0 119 124 s) (fun r1 s2 =>
        if r1 = 0 then
          some (0, s2)
        else
          some (1, s2)
        )
set_option maxRecDepth 100000 in
theorem w_X1_isStepWord {d : Nat} {s : Sg} {Q : Qt} (a0 : Int32) (H : OQ (f_X1_isStepWord a0 s) (fun r9 s9 => Q (some (.int r9)) s9)) : WpM SHC MT (d + 2) 15 [.int a0] s Q := by
  refine WpM.enter me_X1_isStepWord rfl rfl ?_
  show Y_X1_isStepWord d Q 0 [(0, .int a0)] [] s
  unfold f_X1_isStepWord at H
  refine Wp.run 3 (show br (a0 = 116) (Y_X1_isStepWord d Q 31 [(0, .int a0)] [] s) (Y_X1_isStepWord d Q 6 [(0, .int a0)] [] s) from ⟨fun c9 => ?_, fun c9 => ?_⟩)
  · have H := oq_t c9 H
    exact Wp.run 3 ⟨rfl, H⟩
  · have H := oq_f c9 H
    refine Wp.run 3 (show br (a0 = 130) (Y_X1_isStepWord d Q 31 [(0, .int a0)] [] s) (Y_X1_isStepWord d Q 13 [(0, .int a0)] [] s) from ⟨fun c9 => ?_, fun c9 => ?_⟩)
    · have H := oq_t c9 H
      exact Wp.run 3 ⟨rfl, H⟩
    · have H := oq_f c9 H
      refine Wp.run 3 (show br (a0 = 128) (Y_X1_isStepWord d Q 31 [(0, .int a0)] [] s) (Y_X1_isStepWord d Q 20 [(0, .int a0)] [] s) from ⟨fun c9 => ?_, fun c9 => ?_⟩)
      · have H := oq_t c9 H
        exact Wp.run 3 ⟨rfl, H⟩
      · have H := oq_f c9 H
        refine Wp.run 4 (show room8 [] ∧ WpM SHC MT (d + 1) 169 [.int a0, .int 119, .int 124] s (fun v9 s9 => Y_X1_isStepWord d Q 28 [(0, .int a0)] (v9.toList ++ []) s9) from ⟨rm8_ rfl, ?_⟩)
        refine w_X11_within (d := d) _ _ _ ?_
        refine oq_bd H (fun r1 s2 H => ?_)
        show Y_X1_isStepWord d Q 28 [(0, .int a0)] [.int r1] s2
        refine Wp.run 1 (show br (r1 = 0) (Y_X1_isStepWord d Q 35 [(0, .int a0)] [] s2) (Y_X1_isStepWord d Q 31 [(0, .int a0)] [] s2) from ⟨fun c9 => ?_, fun c9 => ?_⟩)
        · have H := oq_t c9 H
          exact Wp.run 2 ⟨rfl, H⟩
        · have H := oq_f c9 H
          exact Wp.run 3 ⟨rfl, H⟩
abbrev Y_X1_beginStep (d : Nat) (Q : Qt) : Xt := Wp SHC (WpM SHC MT (d + 3)) cd_X1_beginStep (some .boolean) Q
def f_X1_beginStep_b129 (v1 : Int32) (s : Sg) : Option (Int32 × Sg) :=
  ck (inr (s.1 54 7) 60) (
  nmx (pI s 72 ((s.1 54 7).toNatClampNeg) v1) (fun s8 =>
  nmx (pI (pI s8 54 7 ((s8.1 54 7) + 1)) 54 8 (((pI s8 54 7 ((s8.1 54 7) + 1)).1 54 8) + 1)) (fun s9 =>
  bd (f_X7_advance s9) (fun _ s11 =>
  some (1, s11)
  )
  )
  )
  )
set_option maxRecDepth 100000 in
theorem w_X1_beginStep_b129 {d : Nat} {Q : Qt} (v1 : Int32) (s : Sg) (H : OQ (f_X1_beginStep_b129 v1 s) (fun r9 s9 => Q (some (.int r9)) s9)) : Y_X1_beginStep d Q 129 [(0, .ref 9), (1, .int v1)] [] s := by
  unfold f_X1_beginStep_b129 at H
  obtain ⟨hc7, H⟩ := oq_ck H
  refine Wp.run 8 (show (vp_in (s.1 54 7) 60) ∧ Y_X1_beginStep d Q 145 [(0, .ref 9), (1, .int v1)] [] (pI s 72 ((s.1 54 7).toNatClampNeg) v1) from ⟨hc7, ?_⟩)
  revert H
  generalize pI s 72 ((s.1 54 7).toNatClampNeg) v1 = s8
  intro H
  have H := nmx_e H
  refine Wp.run 14 (show Y_X1_beginStep d Q 171 [(0, .ref 9), (1, .int v1)] [] (pI (pI s8 54 7 ((s8.1 54 7) + 1)) 54 8 (((pI s8 54 7 ((s8.1 54 7) + 1)).1 54 8) + 1)) from ?_)
  revert H
  generalize pI (pI s8 54 7 ((s8.1 54 7) + 1)) 54 8 (((pI s8 54 7 ((s8.1 54 7) + 1)).1 54 8) + 1) = s9
  intro H
  have H := nmx_e H
  refine Wp.run 3 (show room8 [] ∧ WpM SHC MT (d + 3) 74 [.ref 7] s9 (fun v9 s9 => Y_X1_beginStep d Q 178 [(0, .ref 9), (1, .int v1)] (v9.toList ++ []) s9) from ⟨rm8_ rfl, ?_⟩)
  refine w_X7_advance (d := d)  ?_
  refine oq_bd H (fun _ s11 H => ?_)
  show Y_X1_beginStep d Q 178 [(0, .ref 9), (1, .int v1)] [] s11
  exact Wp.run 2 ⟨rfl, H⟩
def f_X1_beginStep_b99 (v1 : Int32) (v2 : Int32) (s : Sg) : Option (Int32 × Sg) :=
  if v2 = 0 then
    f_X1_beginStep_b129 v1 s
  else
    ck (inr (s.1 9 4) 3) (
    nmx (pI s 23 ((s.1 9 4).toNatClampNeg) (s.1 54 7)) (fun s13 =>
    f_X1_beginStep_b129 v1 (pI s13 9 4 ((s13.1 9 4) + 1))
    )
    )
set_option maxRecDepth 100000 in
theorem w_X1_beginStep_b99 {d : Nat} {Q : Qt} (v1 : Int32) (v2 : Int32) (s : Sg) (H : OQ (f_X1_beginStep_b99 v1 v2 s) (fun r9 s9 => Q (some (.int r9)) s9)) : Y_X1_beginStep d Q 99 [(0, .ref 9), (1, .int v1), (2, .int v2)] [] s := by
  unfold f_X1_beginStep_b99 at H
  refine Wp.run 2 (show br (v2 = 0) (Y_X1_beginStep d Q 129 [(0, .ref 9), (1, .int v1), (2, .int v2)] [] s) (Y_X1_beginStep d Q 103 [(0, .ref 9), (1, .int v1), (2, .int v2)] [] s) from ⟨fun c9 => ?_, fun c9 => ?_⟩)
  · have H := oq_t c9 H
    refine Wp.weak [0, 1] (lv' := [(0, .ref 9), (1, .int v1)]) rfl ?_
    exact w_X1_beginStep_b129 _ _ H
  · have H := oq_f c9 H
    obtain ⟨hc12, H⟩ := oq_ck H
    refine Wp.run 8 (show (vp_in (s.1 9 4) 3) ∧ Y_X1_beginStep d Q 119 [(0, .ref 9), (1, .int v1), (2, .int v2)] [] (pI s 23 ((s.1 9 4).toNatClampNeg) (s.1 54 7)) from ⟨hc12, ?_⟩)
    revert H
    generalize pI s 23 ((s.1 9 4).toNatClampNeg) (s.1 54 7) = s13
    intro H
    have H := nmx_e H
    refine Wp.run 6 (show Y_X1_beginStep d Q 129 [(0, .ref 9), (1, .int v1), (2, .int v2)] [] (pI s13 9 4 ((s13.1 9 4) + 1)) from ?_)
    refine Wp.weak [0, 1] (lv' := [(0, .ref 9), (1, .int v1)]) rfl ?_
    exact w_X1_beginStep_b129 _ _ H
def f_X1_beginStep_b26 (v1 : Int32) (t0 : Int32) (s : Sg) : Option (Int32 × Sg) :=
  bd (f_X1_isStepWord v1 s) (fun r1 s2 =>
  if r1 = 0 then
    bd (f_X7_wrong 2 s2) (fun r3 s4 =>
    ck (r3 = 0 ∨ r3 = 1) (some (r3, s4))
    )
  else
    if 30 ≤ (s2.1 54 8) then
      bd (f_X7_wrong 6 s2) (fun r5 s6 =>
      ck (r5 = 0 ∨ r5 = 1) (some (r5, s6))
      )
    else
      if (s2.1 54 7) < 60 then
        if t0 = 0 then
          f_X1_beginStep_b99 v1 t0 s2
        else
          if (s2.1 9 4) < 3 then
            f_X1_beginStep_b99 v1 t0 s2
          else
            bd (f_X7_wrong 7 s2) (fun r14 s15 =>
            ck (r14 = 0 ∨ r14 = 1) (some (r14, s15))
            )
      else
        bd (f_X7_wrong 6 s2) (fun r16 s17 =>
        ck (r16 = 0 ∨ r16 = 1) (some (r16, s17))
        )
  )
set_option maxRecDepth 100000 in
theorem w_X1_beginStep_b26 {d : Nat} {Q : Qt} (v1 : Int32) (t0 : Int32) (s : Sg) (H : OQ (f_X1_beginStep_b26 v1 t0 s) (fun r9 s9 => Q (some (.int r9)) s9)) : Y_X1_beginStep d Q 26 [(0, .ref 9), (1, .int v1)] [.int t0] s := by
  unfold f_X1_beginStep_b26 at H
  refine Wp.run 3 (show room8 [] ∧ WpM SHC MT (d + 3) 15 [.int v1] s (fun v9 s9 => Y_X1_beginStep d Q 31 [(2, .int t0), (0, .ref 9), (1, .int v1)] (v9.toList ++ []) s9) from ⟨rm8_ rfl, ?_⟩)
  refine w_X1_isStepWord (d := d + 1) _ ?_
  refine oq_bd H (fun r1 s2 H => ?_)
  show Y_X1_beginStep d Q 31 [(2, .int t0), (0, .ref 9), (1, .int v1)] [.int r1] s2
  refine Wp.run 1 (show br (r1 = 0) (Y_X1_beginStep d Q 34 [(2, .int t0), (0, .ref 9), (1, .int v1)] [] s2) (Y_X1_beginStep d Q 43 [(2, .int t0), (0, .ref 9), (1, .int v1)] [] s2) from ⟨fun c9 => ?_, fun c9 => ?_⟩)
  · have H := oq_t c9 H
    refine Wp.run 4 (show room8 [] ∧ WpM SHC MT (d + 3) 81 [.ref 7, .int 2] s2 (fun v9 s9 => Y_X1_beginStep d Q 42 [(2, .int t0), (0, .ref 9), (1, .int v1)] (v9.toList ++ []) s9) from ⟨rm8_ rfl, ?_⟩)
    refine w_X7_wrong (d := d + 2) _ ?_
    refine oq_bd H (fun r3 s4 H => ?_)
    show Y_X1_beginStep d Q 42 [(2, .int t0), (0, .ref 9), (1, .int v1)] [.int r3] s4
    obtain ⟨c9, H⟩ := oq_ck H
    exact Wp.run 1 ⟨b01_n c9, H⟩
  · have H := oq_f c9 H
    refine Wp.run 5 (show br (30 ≤ (s2.1 54 8)) (Y_X1_beginStep d Q 67 [(2, .int t0), (0, .ref 9), (1, .int v1)] [] s2) (Y_X1_beginStep d Q 55 [(2, .int t0), (0, .ref 9), (1, .int v1)] [] s2) from ⟨fun c9 => ?_, fun c9 => ?_⟩)
    · have H := oq_t c9 H
      refine Wp.run 4 (show room8 [] ∧ WpM SHC MT (d + 3) 81 [.ref 7, .int 6] s2 (fun v9 s9 => Y_X1_beginStep d Q 76 [(2, .int t0), (0, .ref 9), (1, .int v1)] (v9.toList ++ []) s9) from ⟨rm8_ rfl, ?_⟩)
      refine w_X7_wrong (d := d + 2) _ ?_
      refine oq_bd H (fun r5 s6 H => ?_)
      show Y_X1_beginStep d Q 76 [(2, .int t0), (0, .ref 9), (1, .int v1)] [.int r5] s6
      obtain ⟨c9, H⟩ := oq_ck H
      exact Wp.run 1 ⟨b01_n c9, H⟩
    · have H := oq_f c9 H
      refine Wp.run 5 (show br ((s2.1 54 7) < 60) (Y_X1_beginStep d Q 77 [(2, .int t0), (0, .ref 9), (1, .int v1)] [] s2) (Y_X1_beginStep d Q 67 [(2, .int t0), (0, .ref 9), (1, .int v1)] [] s2) from ⟨fun c9 => ?_, fun c9 => ?_⟩)
      · have H := oq_t c9 H
        refine Wp.run 2 (show br (t0 = 0) (Y_X1_beginStep d Q 99 [(2, .int t0), (0, .ref 9), (1, .int v1)] [] s2) (Y_X1_beginStep d Q 81 [(2, .int t0), (0, .ref 9), (1, .int v1)] [] s2) from ⟨fun c9 => ?_, fun c9 => ?_⟩)
        · have H := oq_t c9 H
          refine Wp.weak [1, 2, 0] (lv' := [(0, .ref 9), (1, .int v1), (2, .int t0)]) rfl ?_
          exact w_X1_beginStep_b99 _ _ _ H
        · have H := oq_f c9 H
          refine Wp.run 4 (show br ((s2.1 9 4) < 3) (Y_X1_beginStep d Q 99 [(2, .int t0), (0, .ref 9), (1, .int v1)] [] s2) (Y_X1_beginStep d Q 89 [(2, .int t0), (0, .ref 9), (1, .int v1)] [] s2) from ⟨fun c9 => ?_, fun c9 => ?_⟩)
          · have H := oq_t c9 H
            refine Wp.weak [1, 2, 0] (lv' := [(0, .ref 9), (1, .int v1), (2, .int t0)]) rfl ?_
            exact w_X1_beginStep_b99 _ _ _ H
          · have H := oq_f c9 H
            refine Wp.run 4 (show room8 [] ∧ WpM SHC MT (d + 3) 81 [.ref 7, .int 7] s2 (fun v9 s9 => Y_X1_beginStep d Q 98 [(2, .int t0), (0, .ref 9), (1, .int v1)] (v9.toList ++ []) s9) from ⟨rm8_ rfl, ?_⟩)
            refine w_X7_wrong (d := d + 2) _ ?_
            refine oq_bd H (fun r14 s15 H => ?_)
            show Y_X1_beginStep d Q 98 [(2, .int t0), (0, .ref 9), (1, .int v1)] [.int r14] s15
            obtain ⟨c9, H⟩ := oq_ck H
            exact Wp.run 1 ⟨b01_n c9, H⟩
      · have H := oq_f c9 H
        refine Wp.run 4 (show room8 [] ∧ WpM SHC MT (d + 3) 81 [.ref 7, .int 6] s2 (fun v9 s9 => Y_X1_beginStep d Q 76 [(2, .int t0), (0, .ref 9), (1, .int v1)] (v9.toList ++ []) s9) from ⟨rm8_ rfl, ?_⟩)
        refine w_X7_wrong (d := d + 2) _ ?_
        refine oq_bd H (fun r16 s17 H => ?_)
        show Y_X1_beginStep d Q 76 [(2, .int t0), (0, .ref 9), (1, .int v1)] [.int r16] s17
        obtain ⟨c9, H⟩ := oq_ck H
        exact Wp.run 1 ⟨b01_n c9, H⟩
def f_X1_beginStep_b21 (v1 : Int32) (s : Sg) : Option (Int32 × Sg) :=
  f_X1_beginStep_b26 v1 1 s
set_option maxRecDepth 100000 in
theorem w_X1_beginStep_b21 {d : Nat} {Q : Qt} (v1 : Int32) (s : Sg) (H : OQ (f_X1_beginStep_b21 v1 s) (fun r9 s9 => Q (some (.int r9)) s9)) : Y_X1_beginStep d Q 21 [(0, .ref 9), (1, .int v1)] [] s := by
  unfold f_X1_beginStep_b21 at H
  refine Wp.run 2 (show Y_X1_beginStep d Q 26 [(0, .ref 9), (1, .int v1)] [.int 1] s from ?_)
  refine Wp.weak [0, 1] (lv' := [(0, .ref 9), (1, .int v1)]) rfl ?_
  exact w_X1_beginStep_b26 _ _ _ H
def f_X1_beginStep  (s : Sg) : Option (Int32 × Sg) :=
  if (s.1 7 3) = 124 then
    f_X1_beginStep_b21 (s.1 7 3) s
  else
    if (s.1 7 3) = 128 then
      f_X1_beginStep_b21 (s.1 7 3) s
    else
      f_X1_beginStep_b26 (s.1 7 3) 0 s
set_option maxRecDepth 100000 in
theorem w_X1_beginStep {d : Nat} {s : Sg} {Q : Qt}  (H : OQ (f_X1_beginStep  s) (fun r9 s9 => Q (some (.int r9)) s9)) : WpM SHC MT (d + 4) 14 [.ref 9] s Q := by
  refine WpM.enter me_X1_beginStep rfl rfl ?_
  show Y_X1_beginStep d Q 0 [(0, .ref 9)] [] s
  unfold f_X1_beginStep at H
  refine Wp.run 7 (show br ((s.1 7 3) = 124) (Y_X1_beginStep d Q 21 [(1, .int (s.1 7 3)), (0, .ref 9)] [] s) (Y_X1_beginStep d Q 14 [(1, .int (s.1 7 3)), (0, .ref 9)] [] s) from ⟨fun c9 => ?_, fun c9 => ?_⟩)
  · have H := oq_t c9 H
    refine Wp.weak [1, 0] (lv' := [(0, .ref 9), (1, .int (s.1 7 3))]) rfl ?_
    exact w_X1_beginStep_b21 _ _ H
  · have H := oq_f c9 H
    refine Wp.run 3 (show br ((s.1 7 3) = 128) (Y_X1_beginStep d Q 21 [(1, .int (s.1 7 3)), (0, .ref 9)] [] s) (Y_X1_beginStep d Q 25 [(1, .int (s.1 7 3)), (0, .ref 9)] [] s) from ⟨fun c9 => ?_, fun c9 => ?_⟩)
    · have H := oq_t c9 H
      refine Wp.weak [1, 0] (lv' := [(0, .ref 9), (1, .int (s.1 7 3))]) rfl ?_
      exact w_X1_beginStep_b21 _ _ H
    · have H := oq_f c9 H
      refine Wp.run 1 (show Y_X1_beginStep d Q 26 [(1, .int (s.1 7 3)), (0, .ref 9)] [.int 0] s from ?_)
      refine Wp.weak [1, 0] (lv' := [(0, .ref 9), (1, .int (s.1 7 3))]) rfl ?_
      exact w_X1_beginStep_b26 _ _ _ H
abbrev Y_X1_takeNumber (d : Nat) (Q : Qt) : Xt := Wp SHC (WpM SHC MT (d + 4)) cd_X1_takeNumber (some .boolean) Q
def f_X1_takeNumber (a1 : Int32) (a2 : Int32) (a3 : Int32) (s : Sg) : Option (Int32 × Sg) :=
  bd (f_X7_passNumber a2 a3 s) (fun r1 s2 =>
  if r1 = 0 then
    some (0, s2)
  else
    ck (inr a1 60) (
    nmx (pI s2 74 a1.toNatClampNeg (s2.1 7 7)) (fun s4 =>
    some (1, s4)
    )
    )
  )
set_option maxRecDepth 100000 in
theorem w_X1_takeNumber {d : Nat} {s : Sg} {Q : Qt} (a1 : Int32) (a2 : Int32) (a3 : Int32) (H : OQ (f_X1_takeNumber a1 a2 a3 s) (fun r9 s9 => Q (some (.int r9)) s9)) : WpM SHC MT (d + 5) 19 [.ref 9, .int a1, .int a2, .int a3] s Q := by
  refine WpM.enter me_X1_takeNumber rfl rfl ?_
  show Y_X1_takeNumber d Q 0 [(0, .ref 9), (1, .int a1), (2, .int a2), (3, .int a3)] [] s
  unfold f_X1_takeNumber at H
  refine Wp.run 5 (show room8 [] ∧ WpM SHC MT (d + 4) 83 [.ref 7, .int a2, .int a3] s (fun v9 s9 => Y_X1_takeNumber d Q 9 [(0, .ref 9), (1, .int a1), (2, .int a2), (3, .int a3)] (v9.toList ++ []) s9) from ⟨rm8_ rfl, ?_⟩)
  refine w_X7_passNumber (d := d) _ _ ?_
  refine oq_bd H (fun r1 s2 H => ?_)
  show Y_X1_takeNumber d Q 9 [(0, .ref 9), (1, .int a1), (2, .int a2), (3, .int a3)] [.int r1] s2
  refine Wp.run 1 (show br (r1 = 0) (Y_X1_takeNumber d Q 12 [(0, .ref 9), (1, .int a1), (2, .int a2), (3, .int a3)] [] s2) (Y_X1_takeNumber d Q 14 [(0, .ref 9), (1, .int a1), (2, .int a2), (3, .int a3)] [] s2) from ⟨fun c9 => ?_, fun c9 => ?_⟩)
  · have H := oq_t c9 H
    exact Wp.run 2 ⟨rfl, H⟩
  · have H := oq_f c9 H
    obtain ⟨hc3, H⟩ := oq_ck H
    refine Wp.run 8 (show (vp_in a1 60) ∧ Y_X1_takeNumber d Q 30 [(0, .ref 9), (1, .int a1), (2, .int a2), (3, .int a3)] [] (pI s2 74 a1.toNatClampNeg (s2.1 7 7)) from ⟨hc3, ?_⟩)
    revert H
    generalize pI s2 74 a1.toNatClampNeg (s2.1 7 7) = s4
    intro H
    have H := nmx_e H
    exact Wp.run 2 ⟨rfl, H⟩
abbrev Y_X4_numberOf (d : Nat) (Q : Qt) : Xt := Wp SHC (WpM SHC MT (d + 0)) cd_X4_numberOf (some .int) Q
def f_X4_numberOf_b3 : Nat → Int64 → Int32 → Int32 → Sg → Option (Int32 × Sg)
  | 0, _, _, _, _ => none
  | n + 1, v1, v3, v4, s =>
    if (s.1 25 12) ≤ v4 then
      some ((-1), s)
    else
      ck (inr v4 24) (
      if (lg_cmp (s.2 28 v4.toNatClampNeg) v1) = 0 then
        if (s.1 29 v4.toNatClampNeg) = v3 then
          some (s.1 30 v4.toNatClampNeg, s)
        else
          (f_X4_numberOf_b3 n) v1 v3 (v4 + 1) s
      else
        (f_X4_numberOf_b3 n) v1 v3 (v4 + 1) s
      )
set_option maxRecDepth 100000 in
theorem w_X4_numberOf_b3 {d : Nat} {Q : Qt} (n : Nat) : ∀ (v1 : Int64) (v3 : Int32) (v4 : Int32) (s : Sg), OQ (f_X4_numberOf_b3 n v1 v3 v4 s) (fun r9 s9 => Q (some (.int r9)) s9) → Y_X4_numberOf d Q 3 [(0, .ref 25), (1, .long v1), (3, .int v3), (4, .int v4)] [] s := by
  induction n with
  | zero => intro v1 v3 v4 s H; exact H.elim
  | succ n ih =>
    intro v1 v3 v4 s H
    unfold f_X4_numberOf_b3 at H
    refine Wp.run 4 (show br ((s.1 25 12) ≤ v4) (Y_X4_numberOf d Q 49 [(0, .ref 25), (1, .long v1), (3, .int v3), (4, .int v4)] [] s) (Y_X4_numberOf d Q 12 [(0, .ref 25), (1, .long v1), (3, .int v3), (4, .int v4)] [] s) from ⟨fun c9 => ?_, fun c9 => ?_⟩)
    · have H := oq_t c9 H
      exact Wp.run 2 ⟨rfl, H⟩
    · have H := oq_f c9 H
      obtain ⟨hc1, H⟩ := oq_ck H
      refine Wp.run 4 (show (vp_in v4 24) ∧ Y_X4_numberOf d Q 19 [(0, .ref 25), (1, .long v1), (3, .int v3), (4, .int v4)] [.long (s.2 28 v4.toNatClampNeg)] s from ⟨hc1, ?_⟩)
      refine Wp.run 3 (show br ((lg_cmp (s.2 28 v4.toNatClampNeg) v1) = 0) (Y_X4_numberOf d Q 24 [(0, .ref 25), (1, .long v1), (3, .int v3), (4, .int v4)] [] s) (Y_X4_numberOf d Q 43 [(0, .ref 25), (1, .long v1), (3, .int v3), (4, .int v4)] [] s) from ⟨fun c9 => ?_, fun c9 => ?_⟩)
      · have H := oq_t c9 H
        refine Wp.run 4 (show (vp_in v4 24) ∧ Y_X4_numberOf d Q 31 [(0, .ref 25), (1, .long v1), (3, .int v3), (4, .int v4)] [.int (s.1 29 v4.toNatClampNeg)] s from ⟨hc1, ?_⟩)
        refine Wp.run 2 (show br ((s.1 29 v4.toNatClampNeg) = v3) (Y_X4_numberOf d Q 35 [(0, .ref 25), (1, .long v1), (3, .int v3), (4, .int v4)] [] s) (Y_X4_numberOf d Q 43 [(0, .ref 25), (1, .long v1), (3, .int v3), (4, .int v4)] [] s) from ⟨fun c9 => ?_, fun c9 => ?_⟩)
        · have H := oq_t c9 H
          refine Wp.run 4 (show (vp_in v4 24) ∧ Y_X4_numberOf d Q 42 [(0, .ref 25), (1, .long v1), (3, .int v3), (4, .int v4)] [.int (s.1 30 v4.toNatClampNeg)] s from ⟨hc1, ?_⟩)
          exact Wp.run 1 ⟨rfl, H⟩
        · have H := oq_f c9 H
          refine Wp.run 2 (show Y_X4_numberOf d Q 3 [(4, .int (v4 + 1)), (0, .ref 25), (1, .long v1), (3, .int v3)] [] s from ?_)
          refine Wp.weak [1, 2, 3, 0] (lv' := [(0, .ref 25), (1, .long v1), (3, .int v3), (4, .int (v4 + 1))]) rfl ?_
          exact ih _ _ _ _ H
      · have H := oq_f c9 H
        refine Wp.run 2 (show Y_X4_numberOf d Q 3 [(4, .int (v4 + 1)), (0, .ref 25), (1, .long v1), (3, .int v3)] [] s from ?_)
        refine Wp.weak [1, 2, 3, 0] (lv' := [(0, .ref 25), (1, .long v1), (3, .int v3), (4, .int (v4 + 1))]) rfl ?_
        exact ih _ _ _ _ H
def f_X4_numberOf (a1 : Int64) (a2 : Int32) (s : Sg) : Option (Int32 × Sg) :=
  f_X4_numberOf_b3 BIG a1 a2 0 s
set_option maxRecDepth 100000 in
theorem w_X4_numberOf {d : Nat} {s : Sg} {Q : Qt} (a1 : Int64) (a2 : Int32) (H : OQ (f_X4_numberOf a1 a2 s) (fun r9 s9 => Q (some (.int r9)) s9)) : WpM SHC MT (d + 1) 52 [.ref 25, .long a1, .int a2] s Q := by
  refine WpM.enter me_X4_numberOf rfl rfl ?_
  show Y_X4_numberOf d Q 0 [(0, .ref 25), (1, .long a1), (3, .int a2)] [] s
  unfold f_X4_numberOf at H
  refine Wp.run 2 (show Y_X4_numberOf d Q 3 [(4, .int 0), (0, .ref 25), (1, .long a1), (3, .int a2)] [] s from ?_)
  refine Wp.weak [1, 2, 3, 0] (lv' := [(0, .ref 25), (1, .long a1), (3, .int a2), (4, .int 0)]) rfl ?_
  exact w_X4_numberOf_b3 _ _ _ _ _ H
abbrev Y_X7_findName_25 (d : Nat) (Q : Qt) : Xt := Wp SHC (WpM SHC MT (d + 1)) cd_X7_findName (some .boolean) Q
def f_X7_findName_25 (a2 : Int32) (s : Sg) : Option (Int32 × Sg) :=
  if (s.1 7 3) = 1 then
    bd (f_X4_numberOf (s.2 7 6) a2 s) (fun r1 s2 =>
    if ((pI s2 7 7 r1).1 7 7) = (-1) then
      bd (f_X7_wrong 3 (pI s2 7 7 r1)) (fun r3 s4 =>
      if r3 = 0 then
        some (0, s4)
      else
        some (1, s4)
      )
    else
      some (1, pI s2 7 7 r1)
    )
  else
    bd (f_X7_wrong 2 s) (fun r5 s6 =>
    ck (r5 = 0 ∨ r5 = 1) (some (r5, s6))
    )
set_option maxRecDepth 100000 in
theorem w_X7_findName_25 {d : Nat} {s : Sg} {Q : Qt} (a2 : Int32) (H : OQ (f_X7_findName_25 a2 s) (fun r9 s9 => Q (some (.int r9)) s9)) : WpM SHC MT (d + 2) 84 [.ref 7, .ref 25, .int a2] s Q := by
  refine WpM.enter me_X7_findName rfl rfl ?_
  show Y_X7_findName_25 d Q 0 [(0, .ref 7), (1, .ref 25), (2, .int a2)] [] s
  unfold f_X7_findName_25 at H
  refine Wp.run 4 (show br ((s.1 7 3) = 1) (Y_X7_findName_25 d Q 14 [(0, .ref 7), (1, .ref 25), (2, .int a2)] [] s) (Y_X7_findName_25 d Q 8 [(0, .ref 7), (1, .ref 25), (2, .int a2)] [] s) from ⟨fun c9 => ?_, fun c9 => ?_⟩)
  · have H := oq_t c9 H
    refine Wp.run 6 (show room8 [.ref 7] ∧ WpM SHC MT (d + 1) 52 [.ref 25, .long (s.2 7 6), .int a2] s (fun v9 s9 => Y_X7_findName_25 d Q 24 [(0, .ref 7), (1, .ref 25), (2, .int a2)] (v9.toList ++ [.ref 7]) s9) from ⟨rm8_ rfl, ?_⟩)
    refine w_X4_numberOf (d := d) _ _ ?_
    refine oq_bd H (fun r1 s2 H => ?_)
    show Y_X7_findName_25 d Q 24 [(0, .ref 7), (1, .ref 25), (2, .int a2)] [.int r1, .ref 7] s2
    refine Wp.run 5 (show br (((pI s2 7 7 r1).1 7 7) = (-1)) (Y_X7_findName_25 d Q 35 [(0, .ref 7), (1, .ref 25), (2, .int a2)] [] (pI s2 7 7 r1)) (Y_X7_findName_25 d Q 43 [(0, .ref 7), (1, .ref 25), (2, .int a2)] [] (pI s2 7 7 r1)) from ⟨fun c9 => ?_, fun c9 => ?_⟩)
    · have H := oq_t c9 H
      refine Wp.run 3 (show room8 [] ∧ WpM SHC MT (d + 1) 81 [.ref 7, .int 3] (pI s2 7 7 r1) (fun v9 s9 => Y_X7_findName_25 d Q 40 [(0, .ref 7), (1, .ref 25), (2, .int a2)] (v9.toList ++ []) s9) from ⟨rm8_ rfl, ?_⟩)
      refine w_X7_wrong (d := d) _ ?_
      refine oq_bd H (fun r3 s4 H => ?_)
      show Y_X7_findName_25 d Q 40 [(0, .ref 7), (1, .ref 25), (2, .int a2)] [.int r3] s4
      refine Wp.run 1 (show br (r3 = 0) (Y_X7_findName_25 d Q 47 [(0, .ref 7), (1, .ref 25), (2, .int a2)] [] s4) (Y_X7_findName_25 d Q 43 [(0, .ref 7), (1, .ref 25), (2, .int a2)] [] s4) from ⟨fun c9 => ?_, fun c9 => ?_⟩)
      · have H := oq_t c9 H
        exact Wp.run 2 ⟨rfl, H⟩
      · have H := oq_f c9 H
        exact Wp.run 3 ⟨rfl, H⟩
    · have H := oq_f c9 H
      exact Wp.run 3 ⟨rfl, H⟩
  · have H := oq_f c9 H
    refine Wp.run 3 (show room8 [] ∧ WpM SHC MT (d + 1) 81 [.ref 7, .int 2] s (fun v9 s9 => Y_X7_findName_25 d Q 13 [(0, .ref 7), (1, .ref 25), (2, .int a2)] (v9.toList ++ []) s9) from ⟨rm8_ rfl, ?_⟩)
    refine w_X7_wrong (d := d) _ ?_
    refine oq_bd H (fun r5 s6 H => ?_)
    show Y_X7_findName_25 d Q 13 [(0, .ref 7), (1, .ref 25), (2, .int a2)] [.int r5] s6
    obtain ⟨c9, H⟩ := oq_ck H
    exact Wp.run 1 ⟨b01_n c9, H⟩
abbrev Y_X1_takeGrocer (d : Nat) (Q : Qt) : Xt := Wp SHC (WpM SHC MT (d + 3)) cd_X1_takeGrocer (some .boolean) Q
def f_X1_takeGrocer (a1 : Int32) (s : Sg) : Option (Int32 × Sg) :=
  bd (f_X7_findName_25 112 s) (fun r1 s2 =>
  if r1 = 0 then
    some (0, s2)
  else
    ck (inr a1 60) (
    nmx (pI s2 73 a1.toNatClampNeg (s2.1 7 7)) (fun s4 =>
    bd (f_X7_advance s4) (fun _ s6 =>
    some (1, s6)
    )
    )
    )
  )
set_option maxRecDepth 100000 in
theorem w_X1_takeGrocer {d : Nat} {s : Sg} {Q : Qt} (a1 : Int32) (H : OQ (f_X1_takeGrocer a1 s) (fun r9 s9 => Q (some (.int r9)) s9)) : WpM SHC MT (d + 4) 18 [.ref 9, .int a1] s Q := by
  refine WpM.enter me_X1_takeGrocer rfl rfl ?_
  show Y_X1_takeGrocer d Q 0 [(0, .ref 9), (1, .int a1)] [] s
  unfold f_X1_takeGrocer at H
  refine Wp.run 6 (show room8 [] ∧ WpM SHC MT (d + 3) 84 [.ref 7, .ref 25, .int 112] s (fun v9 s9 => Y_X1_takeGrocer d Q 13 [(0, .ref 9), (1, .int a1)] (v9.toList ++ []) s9) from ⟨rm8_ rfl, ?_⟩)
  refine w_X7_findName_25 (d := d + 1) _ ?_
  refine oq_bd H (fun r1 s2 H => ?_)
  show Y_X1_takeGrocer d Q 13 [(0, .ref 9), (1, .int a1)] [.int r1] s2
  refine Wp.run 1 (show br (r1 = 0) (Y_X1_takeGrocer d Q 16 [(0, .ref 9), (1, .int a1)] [] s2) (Y_X1_takeGrocer d Q 18 [(0, .ref 9), (1, .int a1)] [] s2) from ⟨fun c9 => ?_, fun c9 => ?_⟩)
  · have H := oq_t c9 H
    exact Wp.run 2 ⟨rfl, H⟩
  · have H := oq_f c9 H
    obtain ⟨hc3, H⟩ := oq_ck H
    refine Wp.run 8 (show (vp_in a1 60) ∧ Y_X1_takeGrocer d Q 34 [(0, .ref 9), (1, .int a1)] [] (pI s2 73 a1.toNatClampNeg (s2.1 7 7)) from ⟨hc3, ?_⟩)
    revert H
    generalize pI s2 73 a1.toNatClampNeg (s2.1 7 7) = s4
    intro H
    have H := nmx_e H
    refine Wp.run 3 (show room8 [] ∧ WpM SHC MT (d + 3) 74 [.ref 7] s4 (fun v9 s9 => Y_X1_takeGrocer d Q 41 [(0, .ref 9), (1, .int a1)] (v9.toList ++ []) s9) from ⟨rm8_ rfl, ?_⟩)
    refine w_X7_advance (d := d)  ?_
    refine oq_bd H (fun _ s6 H => ?_)
    show Y_X1_takeGrocer d Q 41 [(0, .ref 9), (1, .int a1)] [] s6
    exact Wp.run 2 ⟨rfl, H⟩
abbrev Y_X4_isGone (d : Nat) (Q : Qt) : Xt := Wp SHC (WpM SHC MT (d + 0)) cd_X4_isGone (some .boolean) Q
def f_X4_isGone (a1 : Int32) (s : Sg) : Option (Int32 × Sg) :=
  if (((s.1 25 17) >>> (a1 &&& 31)) &&& 1) = 0 then
    some (0, s)
  else
    some (1, s)
set_option maxRecDepth 100000 in
theorem w_X4_isGone {d : Nat} {s : Sg} {Q : Qt} (a1 : Int32) (H : OQ (f_X4_isGone a1 s) (fun r9 s9 => Q (some (.int r9)) s9)) : WpM SHC MT (d + 1) 55 [.ref 25, .int a1] s Q := by
  refine WpM.enter me_X4_isGone rfl rfl ?_
  show Y_X4_isGone d Q 0 [(0, .ref 25), (1, .int a1)] [] s
  unfold f_X4_isGone at H
  refine Wp.run 7 (show br ((((s.1 25 17) >>> (a1 &&& 31)) &&& 1) = 0) (Y_X4_isGone d Q 15 [(0, .ref 25), (1, .int a1)] [] s) (Y_X4_isGone d Q 11 [(0, .ref 25), (1, .int a1)] [] s) from ⟨fun c9 => ?_, fun c9 => ?_⟩)
  · have H := oq_t c9 H
    exact Wp.run 2 ⟨rfl, H⟩
  · have H := oq_f c9 H
    exact Wp.run 3 ⟨rfl, H⟩
abbrev Y_X1_takeHouse_75 (d : Nat) (Q : Qt) : Xt := Wp SHC (WpM SHC MT (d + 3)) cd_X1_takeHouse (some .boolean) Q
def f_X1_takeHouse_75 (a2 : Int32) (s : Sg) : Option (Int32 × Sg) :=
  bd (f_X7_findName_25 100 s) (fun r1 s2 =>
  if r1 = 0 then
    some (0, s2)
  else
    bd (f_X4_isGone (s2.1 7 7) s2) (fun r3 s4 =>
    if r3 = 0 then
      ck (inr a2 60) (
      nmx (pI s4 75 a2.toNatClampNeg (s4.1 7 7)) (fun s6 =>
      bd (f_X7_advance s6) (fun _ s8 =>
      some (1, s8)
      )
      )
      )
    else
      bd (f_X7_wrong 5 s4) (fun r9 s10 =>
      ck (r9 = 0 ∨ r9 = 1) (some (r9, s10))
      )
    )
  )
set_option maxRecDepth 100000 in
theorem w_X1_takeHouse_75 {d : Nat} {s : Sg} {Q : Qt} (a2 : Int32) (H : OQ (f_X1_takeHouse_75 a2 s) (fun r9 s9 => Q (some (.int r9)) s9)) : WpM SHC MT (d + 4) 17 [.ref 9, .ref 75, .int a2] s Q := by
  refine WpM.enter me_X1_takeHouse rfl rfl ?_
  show Y_X1_takeHouse_75 d Q 0 [(0, .ref 9), (1, .ref 75), (2, .int a2)] [] s
  unfold f_X1_takeHouse_75 at H
  refine Wp.run 6 (show room8 [] ∧ WpM SHC MT (d + 3) 84 [.ref 7, .ref 25, .int 100] s (fun v9 s9 => Y_X1_takeHouse_75 d Q 13 [(0, .ref 9), (1, .ref 75), (2, .int a2)] (v9.toList ++ []) s9) from ⟨rm8_ rfl, ?_⟩)
  refine w_X7_findName_25 (d := d + 1) _ ?_
  refine oq_bd H (fun r1 s2 H => ?_)
  show Y_X1_takeHouse_75 d Q 13 [(0, .ref 9), (1, .ref 75), (2, .int a2)] [.int r1] s2
  refine Wp.run 1 (show br (r1 = 0) (Y_X1_takeHouse_75 d Q 16 [(0, .ref 9), (1, .ref 75), (2, .int a2)] [] s2) (Y_X1_takeHouse_75 d Q 18 [(0, .ref 9), (1, .ref 75), (2, .int a2)] [] s2) from ⟨fun c9 => ?_, fun c9 => ?_⟩)
  · have H := oq_t c9 H
    exact Wp.run 2 ⟨rfl, H⟩
  · have H := oq_f c9 H
    refine Wp.run 6 (show room8 [] ∧ WpM SHC MT (d + 3) 55 [.ref 25, .int (s2.1 7 7)] s2 (fun v9 s9 => Y_X1_takeHouse_75 d Q 32 [(0, .ref 9), (1, .ref 75), (2, .int a2)] (v9.toList ++ []) s9) from ⟨rm8_ rfl, ?_⟩)
    refine w_X4_isGone (d := d + 2) _ ?_
    refine oq_bd H (fun r3 s4 H => ?_)
    show Y_X1_takeHouse_75 d Q 32 [(0, .ref 9), (1, .ref 75), (2, .int a2)] [.int r3] s4
    refine Wp.run 1 (show br (r3 = 0) (Y_X1_takeHouse_75 d Q 44 [(0, .ref 9), (1, .ref 75), (2, .int a2)] [] s4) (Y_X1_takeHouse_75 d Q 35 [(0, .ref 9), (1, .ref 75), (2, .int a2)] [] s4) from ⟨fun c9 => ?_, fun c9 => ?_⟩)
    · have H := oq_t c9 H
      obtain ⟨hc5, H⟩ := oq_ck H
      refine Wp.run 6 (show (vp_in a2 60) ∧ Y_X1_takeHouse_75 d Q 54 [(0, .ref 9), (1, .ref 75), (2, .int a2)] [] (pI s4 75 a2.toNatClampNeg (s4.1 7 7)) from ⟨hc5, ?_⟩)
      revert H
      generalize pI s4 75 a2.toNatClampNeg (s4.1 7 7) = s6
      intro H
      have H := nmx_e H
      refine Wp.run 3 (show room8 [] ∧ WpM SHC MT (d + 3) 74 [.ref 7] s6 (fun v9 s9 => Y_X1_takeHouse_75 d Q 61 [(0, .ref 9), (1, .ref 75), (2, .int a2)] (v9.toList ++ []) s9) from ⟨rm8_ rfl, ?_⟩)
      refine w_X7_advance (d := d)  ?_
      refine oq_bd H (fun _ s8 H => ?_)
      show Y_X1_takeHouse_75 d Q 61 [(0, .ref 9), (1, .ref 75), (2, .int a2)] [] s8
      exact Wp.run 2 ⟨rfl, H⟩
    · have H := oq_f c9 H
      refine Wp.run 4 (show room8 [] ∧ WpM SHC MT (d + 3) 81 [.ref 7, .int 5] s4 (fun v9 s9 => Y_X1_takeHouse_75 d Q 43 [(0, .ref 9), (1, .ref 75), (2, .int a2)] (v9.toList ++ []) s9) from ⟨rm8_ rfl, ?_⟩)
      refine w_X7_wrong (d := d + 2) _ ?_
      refine oq_bd H (fun r9 s10 H => ?_)
      show Y_X1_takeHouse_75 d Q 43 [(0, .ref 9), (1, .ref 75), (2, .int a2)] [.int r9] s10
      obtain ⟨c9, H⟩ := oq_ck H
      exact Wp.run 1 ⟨b01_n c9, H⟩
abbrev Y_X1_takeHouse_73 (d : Nat) (Q : Qt) : Xt := Wp SHC (WpM SHC MT (d + 3)) cd_X1_takeHouse (some .boolean) Q
def f_X1_takeHouse_73 (a2 : Int32) (s : Sg) : Option (Int32 × Sg) :=
  bd (f_X7_findName_25 100 s) (fun r1 s2 =>
  if r1 = 0 then
    some (0, s2)
  else
    bd (f_X4_isGone (s2.1 7 7) s2) (fun r3 s4 =>
    if r3 = 0 then
      ck (inr a2 60) (
      nmx (pI s4 73 a2.toNatClampNeg (s4.1 7 7)) (fun s6 =>
      bd (f_X7_advance s6) (fun _ s8 =>
      some (1, s8)
      )
      )
      )
    else
      bd (f_X7_wrong 5 s4) (fun r9 s10 =>
      ck (r9 = 0 ∨ r9 = 1) (some (r9, s10))
      )
    )
  )
set_option maxRecDepth 100000 in
theorem w_X1_takeHouse_73 {d : Nat} {s : Sg} {Q : Qt} (a2 : Int32) (H : OQ (f_X1_takeHouse_73 a2 s) (fun r9 s9 => Q (some (.int r9)) s9)) : WpM SHC MT (d + 4) 17 [.ref 9, .ref 73, .int a2] s Q := by
  refine WpM.enter me_X1_takeHouse rfl rfl ?_
  show Y_X1_takeHouse_73 d Q 0 [(0, .ref 9), (1, .ref 73), (2, .int a2)] [] s
  unfold f_X1_takeHouse_73 at H
  refine Wp.run 6 (show room8 [] ∧ WpM SHC MT (d + 3) 84 [.ref 7, .ref 25, .int 100] s (fun v9 s9 => Y_X1_takeHouse_73 d Q 13 [(0, .ref 9), (1, .ref 73), (2, .int a2)] (v9.toList ++ []) s9) from ⟨rm8_ rfl, ?_⟩)
  refine w_X7_findName_25 (d := d + 1) _ ?_
  refine oq_bd H (fun r1 s2 H => ?_)
  show Y_X1_takeHouse_73 d Q 13 [(0, .ref 9), (1, .ref 73), (2, .int a2)] [.int r1] s2
  refine Wp.run 1 (show br (r1 = 0) (Y_X1_takeHouse_73 d Q 16 [(0, .ref 9), (1, .ref 73), (2, .int a2)] [] s2) (Y_X1_takeHouse_73 d Q 18 [(0, .ref 9), (1, .ref 73), (2, .int a2)] [] s2) from ⟨fun c9 => ?_, fun c9 => ?_⟩)
  · have H := oq_t c9 H
    exact Wp.run 2 ⟨rfl, H⟩
  · have H := oq_f c9 H
    refine Wp.run 6 (show room8 [] ∧ WpM SHC MT (d + 3) 55 [.ref 25, .int (s2.1 7 7)] s2 (fun v9 s9 => Y_X1_takeHouse_73 d Q 32 [(0, .ref 9), (1, .ref 73), (2, .int a2)] (v9.toList ++ []) s9) from ⟨rm8_ rfl, ?_⟩)
    refine w_X4_isGone (d := d + 2) _ ?_
    refine oq_bd H (fun r3 s4 H => ?_)
    show Y_X1_takeHouse_73 d Q 32 [(0, .ref 9), (1, .ref 73), (2, .int a2)] [.int r3] s4
    refine Wp.run 1 (show br (r3 = 0) (Y_X1_takeHouse_73 d Q 44 [(0, .ref 9), (1, .ref 73), (2, .int a2)] [] s4) (Y_X1_takeHouse_73 d Q 35 [(0, .ref 9), (1, .ref 73), (2, .int a2)] [] s4) from ⟨fun c9 => ?_, fun c9 => ?_⟩)
    · have H := oq_t c9 H
      obtain ⟨hc5, H⟩ := oq_ck H
      refine Wp.run 6 (show (vp_in a2 60) ∧ Y_X1_takeHouse_73 d Q 54 [(0, .ref 9), (1, .ref 73), (2, .int a2)] [] (pI s4 73 a2.toNatClampNeg (s4.1 7 7)) from ⟨hc5, ?_⟩)
      revert H
      generalize pI s4 73 a2.toNatClampNeg (s4.1 7 7) = s6
      intro H
      have H := nmx_e H
      refine Wp.run 3 (show room8 [] ∧ WpM SHC MT (d + 3) 74 [.ref 7] s6 (fun v9 s9 => Y_X1_takeHouse_73 d Q 61 [(0, .ref 9), (1, .ref 73), (2, .int a2)] (v9.toList ++ []) s9) from ⟨rm8_ rfl, ?_⟩)
      refine w_X7_advance (d := d)  ?_
      refine oq_bd H (fun _ s8 H => ?_)
      show Y_X1_takeHouse_73 d Q 61 [(0, .ref 9), (1, .ref 73), (2, .int a2)] [] s8
      exact Wp.run 2 ⟨rfl, H⟩
    · have H := oq_f c9 H
      refine Wp.run 4 (show room8 [] ∧ WpM SHC MT (d + 3) 81 [.ref 7, .int 5] s4 (fun v9 s9 => Y_X1_takeHouse_73 d Q 43 [(0, .ref 9), (1, .ref 73), (2, .int a2)] (v9.toList ++ []) s9) from ⟨rm8_ rfl, ?_⟩)
      refine w_X7_wrong (d := d + 2) _ ?_
      refine oq_bd H (fun r9 s10 H => ?_)
      show Y_X1_takeHouse_73 d Q 43 [(0, .ref 9), (1, .ref 73), (2, .int a2)] [.int r9] s10
      obtain ⟨c9, H⟩ := oq_ck H
      exact Wp.run 1 ⟨b01_n c9, H⟩
abbrev Y_X1_takeTest (d : Nat) (Q : Qt) : Xt := Wp SHC (WpM SHC MT (d + 4)) cd_X1_takeTest (some .boolean) Q
def f_X1_takeTest_b40 (v1 : Int32) (s : Sg) : Option (Int32 × Sg) :=
  bd (f_X7_advance s) (fun _ s4 =>
  bd (f_X7_findName_25 104 s4) (fun r5 s6 =>
  if r5 = 0 then
    some (0, s6)
  else
    ck (inr v1 60) (
    nmx (pI s6 73 v1.toNatClampNeg (s6.1 7 7)) (fun s8 =>
    bd (f_X7_advance s8) (fun _ s10 =>
    some (1, s10)
    )
    )
    )
  )
  )
set_option maxRecDepth 100000 in
theorem w_X1_takeTest_b40 {d : Nat} {Q : Qt} (v1 : Int32) (s : Sg) (H : OQ (f_X1_takeTest_b40 v1 s) (fun r9 s9 => Q (some (.int r9)) s9)) : Y_X1_takeTest d Q 40 [(0, .ref 9), (1, .int v1)] [] s := by
  unfold f_X1_takeTest_b40 at H
  refine Wp.run 3 (show room8 [] ∧ WpM SHC MT (d + 4) 74 [.ref 7] s (fun v9 s9 => Y_X1_takeTest d Q 47 [(0, .ref 9), (1, .int v1)] (v9.toList ++ []) s9) from ⟨rm8_ rfl, ?_⟩)
  refine w_X7_advance (d := d + 1)  ?_
  refine oq_bd H (fun _ s4 H => ?_)
  show Y_X1_takeTest d Q 47 [(0, .ref 9), (1, .int v1)] [] s4
  refine Wp.run 6 (show room8 [] ∧ WpM SHC MT (d + 4) 84 [.ref 7, .ref 25, .int 104] s4 (fun v9 s9 => Y_X1_takeTest d Q 60 [(0, .ref 9), (1, .int v1)] (v9.toList ++ []) s9) from ⟨rm8_ rfl, ?_⟩)
  refine w_X7_findName_25 (d := d + 2) _ ?_
  refine oq_bd H (fun r5 s6 H => ?_)
  show Y_X1_takeTest d Q 60 [(0, .ref 9), (1, .int v1)] [.int r5] s6
  refine Wp.run 1 (show br (r5 = 0) (Y_X1_takeTest d Q 63 [(0, .ref 9), (1, .int v1)] [] s6) (Y_X1_takeTest d Q 65 [(0, .ref 9), (1, .int v1)] [] s6) from ⟨fun c9 => ?_, fun c9 => ?_⟩)
  · have H := oq_t c9 H
    exact Wp.run 2 ⟨rfl, H⟩
  · have H := oq_f c9 H
    obtain ⟨hc7, H⟩ := oq_ck H
    refine Wp.run 8 (show (vp_in v1 60) ∧ Y_X1_takeTest d Q 81 [(0, .ref 9), (1, .int v1)] [] (pI s6 73 v1.toNatClampNeg (s6.1 7 7)) from ⟨hc7, ?_⟩)
    revert H
    generalize pI s6 73 v1.toNatClampNeg (s6.1 7 7) = s8
    intro H
    have H := nmx_e H
    refine Wp.run 3 (show room8 [] ∧ WpM SHC MT (d + 4) 74 [.ref 7] s8 (fun v9 s9 => Y_X1_takeTest d Q 88 [(0, .ref 9), (1, .int v1)] (v9.toList ++ []) s9) from ⟨rm8_ rfl, ?_⟩)
    refine w_X7_advance (d := d + 1)  ?_
    refine oq_bd H (fun _ s10 H => ?_)
    show Y_X1_takeTest d Q 88 [(0, .ref 9), (1, .int v1)] [] s10
    exact Wp.run 2 ⟨rfl, H⟩
def f_X1_takeTest_b180 (v1 : Int32) (s : Sg) : Option (Int32 × Sg) :=
  bd (f_X7_advance s) (fun _ s17 =>
  bd (f_X7_passNumber 0 9999 s17) (fun r18 s19 =>
  ck (inr v1 60) (
  nmx (pI s19 74 v1.toNatClampNeg (s19.1 7 7)) (fun s21 =>
  ck (r18 = 0 ∨ r18 = 1) (some (r18, s21))
  )
  )
  )
  )
set_option maxRecDepth 100000 in
theorem w_X1_takeTest_b180 {d : Nat} {Q : Qt} (v1 : Int32) (s : Sg) (H : OQ (f_X1_takeTest_b180 v1 s) (fun r9 s9 => Q (some (.int r9)) s9)) : Y_X1_takeTest d Q 180 [(0, .ref 9), (1, .int v1)] [] s := by
  unfold f_X1_takeTest_b180 at H
  refine Wp.run 3 (show room8 [] ∧ WpM SHC MT (d + 4) 74 [.ref 7] s (fun v9 s9 => Y_X1_takeTest d Q 187 [(0, .ref 9), (1, .int v1)] (v9.toList ++ []) s9) from ⟨rm8_ rfl, ?_⟩)
  refine w_X7_advance (d := d + 1)  ?_
  refine oq_bd H (fun _ s17 H => ?_)
  show Y_X1_takeTest d Q 187 [(0, .ref 9), (1, .int v1)] [] s17
  refine Wp.run 5 (show room8 [] ∧ WpM SHC MT (d + 4) 83 [.ref 7, .int 0, .int 9999] s17 (fun v9 s9 => Y_X1_takeTest d Q 198 [(0, .ref 9), (1, .int v1)] (v9.toList ++ []) s9) from ⟨rm8_ rfl, ?_⟩)
  refine w_X7_passNumber (d := d) _ _ ?_
  refine oq_bd H (fun r18 s19 H => ?_)
  show Y_X1_takeTest d Q 198 [(0, .ref 9), (1, .int v1)] [.int r18] s19
  obtain ⟨hc20, H⟩ := oq_ck H
  refine Wp.run 9 (show (vp_in v1 60) ∧ Y_X1_takeTest d Q 215 [(2, .int r18), (0, .ref 9), (1, .int v1)] [] (pI s19 74 v1.toNatClampNeg (s19.1 7 7)) from ⟨hc20, ?_⟩)
  revert H
  generalize pI s19 74 v1.toNatClampNeg (s19.1 7 7) = s21
  intro H
  have H := nmx_e H
  obtain ⟨c9, H⟩ := oq_ck H
  exact Wp.run 2 ⟨b01_n c9, H⟩
def f_X1_takeTest (a1 : Int32) (s : Sg) : Option (Int32 × Sg) :=
  ck (inr a1 60) (
  nmx (pI s 76 a1.toNatClampNeg (s.1 7 3)) (fun s2 =>
  if (s2.1 7 3) = 125 then
    f_X1_takeTest_b40 a1 s2
  else
    if (s2.1 7 3) = 126 then
      f_X1_takeTest_b40 a1 s2
    else
      bd (f_X7_pass 127 s2) (fun r11 s12 =>
      if r11 = 0 then
        some (0, s12)
      else
        bd (f_X1_takeHouse_73 a1 s12) (fun r13 s14 =>
        if r13 = 0 then
          some (0, s14)
        else
          nmx (pI s14 76 a1.toNatClampNeg (s14.1 7 3)) (fun s15 =>
          if (s15.1 7 3) = 60 then
            f_X1_takeTest_b180 a1 s15
          else
            if (s15.1 7 3) = 62 then
              f_X1_takeTest_b180 a1 s15
            else
              if (s15.1 7 3) = 61 then
                f_X1_takeTest_b180 a1 s15
              else
                bd (f_X7_wrong 2 s15) (fun r22 s23 =>
                ck (r22 = 0 ∨ r22 = 1) (some (r22, s23))
                )
          )
        )
      )
  )
  )
set_option maxRecDepth 100000 in
theorem w_X1_takeTest {d : Nat} {s : Sg} {Q : Qt} (a1 : Int32) (H : OQ (f_X1_takeTest a1 s) (fun r9 s9 => Q (some (.int r9)) s9)) : WpM SHC MT (d + 5) 16 [.ref 9, .int a1] s Q := by
  refine WpM.enter me_X1_takeTest rfl rfl ?_
  show Y_X1_takeTest d Q 0 [(0, .ref 9), (1, .int a1)] [] s
  unfold f_X1_takeTest at H
  obtain ⟨hc1, H⟩ := oq_ck H
  refine Wp.run 8 (show (vp_in a1 60) ∧ Y_X1_takeTest d Q 16 [(0, .ref 9), (1, .int a1)] [] (pI s 76 a1.toNatClampNeg (s.1 7 3)) from ⟨hc1, ?_⟩)
  revert H
  generalize pI s 76 a1.toNatClampNeg (s.1 7 3) = s2
  intro H
  have H := nmx_e H
  refine Wp.run 5 (show br ((s2.1 7 3) = 125) (Y_X1_takeTest d Q 40 [(0, .ref 9), (1, .int a1)] [] s2) (Y_X1_takeTest d Q 28 [(0, .ref 9), (1, .int a1)] [] s2) from ⟨fun c9 => ?_, fun c9 => ?_⟩)
  · have H := oq_t c9 H
    refine Wp.weak [0, 1] (lv' := [(0, .ref 9), (1, .int a1)]) rfl ?_
    exact w_X1_takeTest_b40 _ _ H
  · have H := oq_f c9 H
    refine Wp.run 5 (show br ((s2.1 7 3) = 126) (Y_X1_takeTest d Q 40 [(0, .ref 9), (1, .int a1)] [] s2) (Y_X1_takeTest d Q 90 [(0, .ref 9), (1, .int a1)] [] s2) from ⟨fun c9 => ?_, fun c9 => ?_⟩)
    · have H := oq_t c9 H
      refine Wp.weak [0, 1] (lv' := [(0, .ref 9), (1, .int a1)]) rfl ?_
      exact w_X1_takeTest_b40 _ _ H
    · have H := oq_f c9 H
      refine Wp.run 4 (show room8 [] ∧ WpM SHC MT (d + 4) 82 [.ref 7, .int 127] s2 (fun v9 s9 => Y_X1_takeTest d Q 99 [(0, .ref 9), (1, .int a1)] (v9.toList ++ []) s9) from ⟨rm8_ rfl, ?_⟩)
      refine w_X7_pass (d := d) _ ?_
      refine oq_bd H (fun r11 s12 H => ?_)
      show Y_X1_takeTest d Q 99 [(0, .ref 9), (1, .int a1)] [.int r11] s12
      refine Wp.run 1 (show br (r11 = 0) (Y_X1_takeTest d Q 117 [(0, .ref 9), (1, .int a1)] [] s12) (Y_X1_takeTest d Q 102 [(0, .ref 9), (1, .int a1)] [] s12) from ⟨fun c9 => ?_, fun c9 => ?_⟩)
      · have H := oq_t c9 H
        exact Wp.run 2 ⟨rfl, H⟩
      · have H := oq_f c9 H
        refine Wp.run 6 (show room8 [] ∧ WpM SHC MT (d + 4) 17 [.ref 9, .ref 73, .int a1] s12 (fun v9 s9 => Y_X1_takeTest d Q 114 [(0, .ref 9), (1, .int a1)] (v9.toList ++ []) s9) from ⟨rm8_ rfl, ?_⟩)
        refine w_X1_takeHouse_73 (d := d) _ ?_
        refine oq_bd H (fun r13 s14 H => ?_)
        show Y_X1_takeTest d Q 114 [(0, .ref 9), (1, .int a1)] [.int r13] s14
        refine Wp.run 1 (show br (r13 = 0) (Y_X1_takeTest d Q 117 [(0, .ref 9), (1, .int a1)] [] s14) (Y_X1_takeTest d Q 119 [(0, .ref 9), (1, .int a1)] [] s14) from ⟨fun c9 => ?_, fun c9 => ?_⟩)
        · have H := oq_t c9 H
          exact Wp.run 2 ⟨rfl, H⟩
        · have H := oq_f c9 H
          refine Wp.run 8 (show (vp_in a1 60) ∧ Y_X1_takeTest d Q 135 [(0, .ref 9), (1, .int a1)] [] (pI s14 76 a1.toNatClampNeg (s14.1 7 3)) from ⟨hc1, ?_⟩)
          revert H
          generalize pI s14 76 a1.toNatClampNeg (s14.1 7 3) = s15
          intro H
          have H := nmx_e H
          refine Wp.run 5 (show br ((s15.1 7 3) = 60) (Y_X1_takeTest d Q 180 [(0, .ref 9), (1, .int a1)] [] s15) (Y_X1_takeTest d Q 147 [(0, .ref 9), (1, .int a1)] [] s15) from ⟨fun c9 => ?_, fun c9 => ?_⟩)
          · have H := oq_t c9 H
            refine Wp.weak [0, 1] (lv' := [(0, .ref 9), (1, .int a1)]) rfl ?_
            exact w_X1_takeTest_b180 _ _ H
          · have H := oq_f c9 H
            refine Wp.run 5 (show br ((s15.1 7 3) = 62) (Y_X1_takeTest d Q 180 [(0, .ref 9), (1, .int a1)] [] s15) (Y_X1_takeTest d Q 159 [(0, .ref 9), (1, .int a1)] [] s15) from ⟨fun c9 => ?_, fun c9 => ?_⟩)
            · have H := oq_t c9 H
              refine Wp.weak [0, 1] (lv' := [(0, .ref 9), (1, .int a1)]) rfl ?_
              exact w_X1_takeTest_b180 _ _ H
            · have H := oq_f c9 H
              refine Wp.run 5 (show br ((s15.1 7 3) = 61) (Y_X1_takeTest d Q 180 [(0, .ref 9), (1, .int a1)] [] s15) (Y_X1_takeTest d Q 171 [(0, .ref 9), (1, .int a1)] [] s15) from ⟨fun c9 => ?_, fun c9 => ?_⟩)
              · have H := oq_t c9 H
                refine Wp.weak [0, 1] (lv' := [(0, .ref 9), (1, .int a1)]) rfl ?_
                exact w_X1_takeTest_b180 _ _ H
              · have H := oq_f c9 H
                refine Wp.run 4 (show room8 [] ∧ WpM SHC MT (d + 4) 81 [.ref 7, .int 2] s15 (fun v9 s9 => Y_X1_takeTest d Q 179 [(0, .ref 9), (1, .int a1)] (v9.toList ++ []) s9) from ⟨rm8_ rfl, ?_⟩)
                refine w_X7_wrong (d := d + 3) _ ?_
                refine oq_bd H (fun r22 s23 H => ?_)
                show Y_X1_takeTest d Q 179 [(0, .ref 9), (1, .int a1)] [.int r22] s23
                obtain ⟨c9, H⟩ := oq_ck H
                exact Wp.run 1 ⟨b01_n c9, H⟩
abbrev Y_X1_takeStep (d : Nat) (Q : Qt) : Xt := Wp SHC (WpM SHC MT (d + 5)) cd_X1_takeStep (some .boolean) Q
def f_X1_takeStep_b249 (v2 : Int32) (s : Sg) : Option (Int32 × Sg) :=
  if v2 = 0 then
    some (0, s)
  else
    bd (f_X7_pass 59 s) (fun r6 s7 =>
    if r6 = 0 then
      some (0, s7)
    else
      some (1, s7)
    )
set_option maxRecDepth 100000 in
theorem w_X1_takeStep_b249 {d : Nat} {Q : Qt} (v2 : Int32) (s : Sg) (H : OQ (f_X1_takeStep_b249 v2 s) (fun r9 s9 => Q (some (.int r9)) s9)) : Y_X1_takeStep d Q 249 [(0, .ref 9), (2, .int v2)] [] s := by
  unfold f_X1_takeStep_b249 at H
  refine Wp.run 2 (show br (v2 = 0) (Y_X1_takeStep d Q 269 [(0, .ref 9), (2, .int v2)] [] s) (Y_X1_takeStep d Q 253 [(0, .ref 9), (2, .int v2)] [] s) from ⟨fun c9 => ?_, fun c9 => ?_⟩)
  · have H := oq_t c9 H
    exact Wp.run 2 ⟨rfl, H⟩
  · have H := oq_f c9 H
    refine Wp.run 4 (show room8 [] ∧ WpM SHC MT (d + 5) 82 [.ref 7, .int 59] s (fun v9 s9 => Y_X1_takeStep d Q 262 [(0, .ref 9), (2, .int v2)] (v9.toList ++ []) s9) from ⟨rm8_ rfl, ?_⟩)
    refine w_X7_pass (d := d + 1) _ ?_
    refine oq_bd H (fun r6 s7 H => ?_)
    show Y_X1_takeStep d Q 262 [(0, .ref 9), (2, .int v2)] [.int r6] s7
    refine Wp.run 1 (show br (r6 = 0) (Y_X1_takeStep d Q 269 [(0, .ref 9), (2, .int v2)] [] s7) (Y_X1_takeStep d Q 265 [(0, .ref 9), (2, .int v2)] [] s7) from ⟨fun c9 => ?_, fun c9 => ?_⟩)
    · have H := oq_t c9 H
      exact Wp.run 2 ⟨rfl, H⟩
    · have H := oq_f c9 H
      exact Wp.run 3 ⟨rfl, H⟩
def f_X1_takeStep_b184 (t0 : Int32) (s : Sg) : Option (Int32 × Sg) :=
  f_X1_takeStep_b249 t0 s
set_option maxRecDepth 100000 in
theorem w_X1_takeStep_b184 {d : Nat} {Q : Qt} (t0 : Int32) (s : Sg) (H : OQ (f_X1_takeStep_b184 t0 s) (fun r9 s9 => Q (some (.int r9)) s9)) : Y_X1_takeStep d Q 184 [(0, .ref 9)] [.int t0] s := by
  unfold f_X1_takeStep_b184 at H
  refine Wp.run 2 (show Y_X1_takeStep d Q 249 [(2, .int t0), (0, .ref 9)] [] s from ?_)
  refine Wp.weak [1, 0] (lv' := [(0, .ref 9), (2, .int t0)]) rfl ?_
  exact w_X1_takeStep_b249 _ _ H
def f_X1_takeStep_b183  (s : Sg) : Option (Int32 × Sg) :=
  f_X1_takeStep_b184 0 s
set_option maxRecDepth 100000 in
theorem w_X1_takeStep_b183 {d : Nat} {Q : Qt}  (s : Sg) (H : OQ (f_X1_takeStep_b183  s) (fun r9 s9 => Q (some (.int r9)) s9)) : Y_X1_takeStep d Q 183 [(0, .ref 9)] [] s := by
  unfold f_X1_takeStep_b183 at H
  refine Wp.run 1 (show Y_X1_takeStep d Q 184 [(0, .ref 9)] [.int 0] s from ?_)
  refine Wp.weak [0] (lv' := [(0, .ref 9)]) rfl ?_
  exact w_X1_takeStep_b184 _ _ H
def f_X1_takeStep_b128 (t0 : Int32) (s : Sg) : Option (Int32 × Sg) :=
  f_X1_takeStep_b249 t0 s
set_option maxRecDepth 100000 in
theorem w_X1_takeStep_b128 {d : Nat} {Q : Qt} (t0 : Int32) (s : Sg) (H : OQ (f_X1_takeStep_b128 t0 s) (fun r9 s9 => Q (some (.int r9)) s9)) : Y_X1_takeStep d Q 128 [(0, .ref 9)] [.int t0] s := by
  unfold f_X1_takeStep_b128 at H
  refine Wp.run 2 (show Y_X1_takeStep d Q 249 [(2, .int t0), (0, .ref 9)] [] s from ?_)
  refine Wp.weak [1, 0] (lv' := [(0, .ref 9), (2, .int t0)]) rfl ?_
  exact w_X1_takeStep_b249 _ _ H
def f_X1_takeStep_b127  (s : Sg) : Option (Int32 × Sg) :=
  f_X1_takeStep_b128 0 s
set_option maxRecDepth 100000 in
theorem w_X1_takeStep_b127 {d : Nat} {Q : Qt}  (s : Sg) (H : OQ (f_X1_takeStep_b127  s) (fun r9 s9 => Q (some (.int r9)) s9)) : Y_X1_takeStep d Q 127 [(0, .ref 9)] [] s := by
  unfold f_X1_takeStep_b127 at H
  refine Wp.run 1 (show Y_X1_takeStep d Q 128 [(0, .ref 9)] [.int 0] s from ?_)
  refine Wp.weak [0] (lv' := [(0, .ref 9)]) rfl ?_
  exact w_X1_takeStep_b128 _ _ H
def f_X1_takeStep  (s : Sg) : Option (Int32 × Sg) :=
  bd (f_X1_beginStep s) (fun r1 s2 =>
  if r1 = 0 then
    some (0, s2)
  else
    ck (inr (s.1 54 7) 60) (
    if (s2.1 72 ((s.1 54 7).toNatClampNeg)) = 116 then
      bd (f_X1_takeNumber (s.1 54 7) 0 16 s2) (fun r4 s5 =>
      f_X1_takeStep_b249 r4 s5
      )
    else
    if (s2.1 72 ((s.1 54 7).toNatClampNeg)) = 117 then
      f_X1_takeStep_b249 1 s2
    else
    if (s2.1 72 ((s.1 54 7).toNatClampNeg)) = 118 then
      f_X1_takeStep_b249 1 s2
    else
    if (s2.1 72 ((s.1 54 7).toNatClampNeg)) = 119 then
      bd (f_X1_takeGrocer (s.1 54 7) s2) (fun r8 s9 =>
      if r8 = 0 then
        f_X1_takeStep_b183 s9
      else
        bd (f_X1_takeNumber (s.1 54 7) 1 999 s9) (fun r10 s11 =>
        if r10 = 0 then
          f_X1_takeStep_b183 s11
        else
          bd (f_X7_pass 110 s11) (fun r12 s13 =>
          if r12 = 0 then
            f_X1_takeStep_b183 s13
          else
            bd (f_X1_takeHouse_75 (s.1 54 7) s13) (fun r14 s15 =>
            if r14 = 0 then
              f_X1_takeStep_b183 s15
            else
              f_X1_takeStep_b184 1 s15
            )
          )
        )
      )
    else
    if (s2.1 72 ((s.1 54 7).toNatClampNeg)) = 120 then
      bd (f_X1_takeHouse_73 (s.1 54 7) s2) (fun r16 s17 =>
      if r16 = 0 then
        f_X1_takeStep_b127 s17
      else
        bd (f_X1_takeNumber (s.1 54 7) 1 999 s17) (fun r18 s19 =>
        if r18 = 0 then
          f_X1_takeStep_b127 s19
        else
          f_X1_takeStep_b128 1 s19
        )
      )
    else
    if (s2.1 72 ((s.1 54 7).toNatClampNeg)) = 121 then
      bd (f_X1_takeHouse_73 (s.1 54 7) s2) (fun r20 s21 =>
      f_X1_takeStep_b249 r20 s21
      )
    else
    if (s2.1 72 ((s.1 54 7).toNatClampNeg)) = 122 then
      bd (f_X1_takeNumber (s.1 54 7) 0 99 s2) (fun r22 s23 =>
      f_X1_takeStep_b249 r22 s23
      )
    else
    if (s2.1 72 ((s.1 54 7).toNatClampNeg)) = 123 then
      f_X1_takeStep_b249 1 s2
    else
    if (s2.1 72 ((s.1 54 7).toNatClampNeg)) = 124 then
      bd (f_X1_takeTest (s.1 54 7) s2) (fun r24 s25 =>
      f_X1_takeStep_b249 r24 s25
      )
    else
    if (s2.1 72 ((s.1 54 7).toNatClampNeg)) = 125 then
      f_X1_takeStep_b249 1 s2
    else
    if (s2.1 72 ((s.1 54 7).toNatClampNeg)) = 126 then
      f_X1_takeStep_b249 1 s2
    else
    if (s2.1 72 ((s.1 54 7).toNatClampNeg)) = 127 then
      f_X1_takeStep_b249 1 s2
    else
    if (s2.1 72 ((s.1 54 7).toNatClampNeg)) = 128 then
      bd (f_X1_takeNumber (s.1 54 7) 1 99 s2) (fun r26 s27 =>
      f_X1_takeStep_b249 r26 s27
      )
    else
      f_X1_takeStep_b249 1 s2
    )
  )
set_option maxRecDepth 100000 in
theorem w_X1_takeStep {d : Nat} {s : Sg} {Q : Qt}  (H : OQ (f_X1_takeStep  s) (fun r9 s9 => Q (some (.int r9)) s9)) : WpM SHC MT (d + 6) 13 [.ref 9] s Q := by
  refine WpM.enter me_X1_takeStep rfl rfl ?_
  show Y_X1_takeStep d Q 0 [(0, .ref 9)] [] s
  unfold f_X1_takeStep at H
  refine Wp.run 6 (show room8 [] ∧ WpM SHC MT (d + 5) 14 [.ref 9] s (fun v9 s9 => Y_X1_takeStep d Q 12 [(1, .int (s.1 54 7)), (0, .ref 9)] (v9.toList ++ []) s9) from ⟨rm8_ rfl, ?_⟩)
  refine w_X1_beginStep (d := d + 1)  ?_
  refine oq_bd H (fun r1 s2 H => ?_)
  show Y_X1_takeStep d Q 12 [(1, .int (s.1 54 7)), (0, .ref 9)] [.int r1] s2
  refine Wp.run 1 (show br (r1 = 0) (Y_X1_takeStep d Q 15 [(1, .int (s.1 54 7)), (0, .ref 9)] [] s2) (Y_X1_takeStep d Q 17 [(1, .int (s.1 54 7)), (0, .ref 9)] [] s2) from ⟨fun c9 => ?_, fun c9 => ?_⟩)
  · have H := oq_t c9 H
    exact Wp.run 2 ⟨rfl, H⟩
  · have H := oq_f c9 H
    obtain ⟨hc3, H⟩ := oq_ck H
    refine Wp.run 7 (show (vp_in (s.1 54 7) 60) ∧ Y_X1_takeStep d Q 28 [(2, .int 1), (1, .int (s.1 54 7)), (0, .ref 9)] [.int (s2.1 72 ((s.1 54 7).toNatClampNeg))] s2 from ⟨hc3, ?_⟩)
    refine Wp.run 1 (show ((s2.1 72 ((s.1 54 7).toNatClampNeg)) = 116 → Y_X1_takeStep d Q 204 [(2, .int 1), (1, .int (s.1 54 7)), (0, .ref 9)] [] s2) ∧ (¬ (s2.1 72 ((s.1 54 7).toNatClampNeg)) = 116 → ((s2.1 72 ((s.1 54 7).toNatClampNeg)) = 117 → Y_X1_takeStep d Q 249 [(2, .int 1), (1, .int (s.1 54 7)), (0, .ref 9)] [] s2) ∧ (¬ (s2.1 72 ((s.1 54 7).toNatClampNeg)) = 117 → ((s2.1 72 ((s.1 54 7).toNatClampNeg)) = 118 → Y_X1_takeStep d Q 249 [(2, .int 1), (1, .int (s.1 54 7)), (0, .ref 9)] [] s2) ∧ (¬ (s2.1 72 ((s.1 54 7).toNatClampNeg)) = 118 → ((s2.1 72 ((s.1 54 7).toNatClampNeg)) = 119 → Y_X1_takeStep d Q 132 [(2, .int 1), (1, .int (s.1 54 7)), (0, .ref 9)] [] s2) ∧ (¬ (s2.1 72 ((s.1 54 7).toNatClampNeg)) = 119 → ((s2.1 72 ((s.1 54 7).toNatClampNeg)) = 120 → Y_X1_takeStep d Q 96 [(2, .int 1), (1, .int (s.1 54 7)), (0, .ref 9)] [] s2) ∧ (¬ (s2.1 72 ((s.1 54 7).toNatClampNeg)) = 120 → ((s2.1 72 ((s.1 54 7).toNatClampNeg)) = 121 → Y_X1_takeStep d Q 188 [(2, .int 1), (1, .int (s.1 54 7)), (0, .ref 9)] [] s2) ∧ (¬ (s2.1 72 ((s.1 54 7).toNatClampNeg)) = 121 → ((s2.1 72 ((s.1 54 7).toNatClampNeg)) = 122 → Y_X1_takeStep d Q 216 [(2, .int 1), (1, .int (s.1 54 7)), (0, .ref 9)] [] s2) ∧ (¬ (s2.1 72 ((s.1 54 7).toNatClampNeg)) = 122 → ((s2.1 72 ((s.1 54 7).toNatClampNeg)) = 123 → Y_X1_takeStep d Q 249 [(2, .int 1), (1, .int (s.1 54 7)), (0, .ref 9)] [] s2) ∧ (¬ (s2.1 72 ((s.1 54 7).toNatClampNeg)) = 123 → ((s2.1 72 ((s.1 54 7).toNatClampNeg)) = 124 → Y_X1_takeStep d Q 240 [(2, .int 1), (1, .int (s.1 54 7)), (0, .ref 9)] [] s2) ∧ (¬ (s2.1 72 ((s.1 54 7).toNatClampNeg)) = 124 → ((s2.1 72 ((s.1 54 7).toNatClampNeg)) = 125 → Y_X1_takeStep d Q 249 [(2, .int 1), (1, .int (s.1 54 7)), (0, .ref 9)] [] s2) ∧ (¬ (s2.1 72 ((s.1 54 7).toNatClampNeg)) = 125 → ((s2.1 72 ((s.1 54 7).toNatClampNeg)) = 126 → Y_X1_takeStep d Q 249 [(2, .int 1), (1, .int (s.1 54 7)), (0, .ref 9)] [] s2) ∧ (¬ (s2.1 72 ((s.1 54 7).toNatClampNeg)) = 126 → ((s2.1 72 ((s.1 54 7).toNatClampNeg)) = 127 → Y_X1_takeStep d Q 249 [(2, .int 1), (1, .int (s.1 54 7)), (0, .ref 9)] [] s2) ∧ (¬ (s2.1 72 ((s.1 54 7).toNatClampNeg)) = 127 → ((s2.1 72 ((s.1 54 7).toNatClampNeg)) = 128 → Y_X1_takeStep d Q 228 [(2, .int 1), (1, .int (s.1 54 7)), (0, .ref 9)] [] s2) ∧ (¬ (s2.1 72 ((s.1 54 7).toNatClampNeg)) = 128 → Y_X1_takeStep d Q 249 [(2, .int 1), (1, .int (s.1 54 7)), (0, .ref 9)] [] s2))))))))))))) from ⟨fun e9 => ?_, fun c9_0 => ⟨fun e9 => ?_, fun c9_1 => ⟨fun e9 => ?_, fun c9_2 => ⟨fun e9 => ?_, fun c9_3 => ⟨fun e9 => ?_, fun c9_4 => ⟨fun e9 => ?_, fun c9_5 => ⟨fun e9 => ?_, fun c9_6 => ⟨fun e9 => ?_, fun c9_7 => ⟨fun e9 => ?_, fun c9_8 => ⟨fun e9 => ?_, fun c9_9 => ⟨fun e9 => ?_, fun c9_10 => ⟨fun e9 => ?_, fun c9_11 => ⟨fun e9 => ?_, fun c9_12 => ?_⟩⟩⟩⟩⟩⟩⟩⟩⟩⟩⟩⟩⟩)
    · have H := oq_t e9 H
      refine Wp.run 5 (show room8 [] ∧ WpM SHC MT (d + 5) 19 [.ref 9, .int (s.1 54 7), .int 0, .int 16] s2 (fun v9 s9 => Y_X1_takeStep d Q 212 [(2, .int 1), (1, .int (s.1 54 7)), (0, .ref 9)] (v9.toList ++ []) s9) from ⟨rm8_ rfl, ?_⟩)
      refine w_X1_takeNumber (d := d) _ _ _ ?_
      refine oq_bd H (fun r4 s5 H => ?_)
      show Y_X1_takeStep d Q 212 [(2, .int 1), (1, .int (s.1 54 7)), (0, .ref 9)] [.int r4] s5
      refine Wp.run 2 (show Y_X1_takeStep d Q 249 [(2, .int r4), (1, .int (s.1 54 7)), (0, .ref 9)] [] s5 from ?_)
      refine Wp.weak [2, 0] (lv' := [(0, .ref 9), (2, .int r4)]) rfl ?_
      exact w_X1_takeStep_b249 _ _ H
    · have H := oq_f c9_0 H; have H := oq_t e9 H
      refine Wp.weak [2, 0] (lv' := [(0, .ref 9), (2, .int 1)]) rfl ?_
      exact w_X1_takeStep_b249 _ _ H
    · have H := oq_f c9_0 H; have H := oq_f c9_1 H; have H := oq_t e9 H
      refine Wp.weak [2, 0] (lv' := [(0, .ref 9), (2, .int 1)]) rfl ?_
      exact w_X1_takeStep_b249 _ _ H
    · have H := oq_f c9_0 H; have H := oq_f c9_1 H; have H := oq_f c9_2 H; have H := oq_t e9 H
      refine Wp.run 3 (show room8 [] ∧ WpM SHC MT (d + 5) 18 [.ref 9, .int (s.1 54 7)] s2 (fun v9 s9 => Y_X1_takeStep d Q 137 [(2, .int 1), (1, .int (s.1 54 7)), (0, .ref 9)] (v9.toList ++ []) s9) from ⟨rm8_ rfl, ?_⟩)
      refine w_X1_takeGrocer (d := d + 1) _ ?_
      refine oq_bd H (fun r8 s9 H => ?_)
      show Y_X1_takeStep d Q 137 [(2, .int 1), (1, .int (s.1 54 7)), (0, .ref 9)] [.int r8] s9
      refine Wp.run 1 (show br (r8 = 0) (Y_X1_takeStep d Q 183 [(2, .int 1), (1, .int (s.1 54 7)), (0, .ref 9)] [] s9) (Y_X1_takeStep d Q 140 [(2, .int 1), (1, .int (s.1 54 7)), (0, .ref 9)] [] s9) from ⟨fun c9 => ?_, fun c9 => ?_⟩)
      · have H := oq_t c9 H
        refine Wp.weak [2] (lv' := [(0, .ref 9)]) rfl ?_
        exact w_X1_takeStep_b183 _ H
      · have H := oq_f c9 H
        refine Wp.run 5 (show room8 [] ∧ WpM SHC MT (d + 5) 19 [.ref 9, .int (s.1 54 7), .int 1, .int 999] s9 (fun v9 s9 => Y_X1_takeStep d Q 149 [(2, .int 1), (1, .int (s.1 54 7)), (0, .ref 9)] (v9.toList ++ []) s9) from ⟨rm8_ rfl, ?_⟩)
        refine w_X1_takeNumber (d := d) _ _ _ ?_
        refine oq_bd H (fun r10 s11 H => ?_)
        show Y_X1_takeStep d Q 149 [(2, .int 1), (1, .int (s.1 54 7)), (0, .ref 9)] [.int r10] s11
        refine Wp.run 1 (show br (r10 = 0) (Y_X1_takeStep d Q 183 [(2, .int 1), (1, .int (s.1 54 7)), (0, .ref 9)] [] s11) (Y_X1_takeStep d Q 152 [(2, .int 1), (1, .int (s.1 54 7)), (0, .ref 9)] [] s11) from ⟨fun c9 => ?_, fun c9 => ?_⟩)
        · have H := oq_t c9 H
          refine Wp.weak [2] (lv' := [(0, .ref 9)]) rfl ?_
          exact w_X1_takeStep_b183 _ H
        · have H := oq_f c9 H
          refine Wp.run 4 (show room8 [] ∧ WpM SHC MT (d + 5) 82 [.ref 7, .int 110] s11 (fun v9 s9 => Y_X1_takeStep d Q 161 [(2, .int 1), (1, .int (s.1 54 7)), (0, .ref 9)] (v9.toList ++ []) s9) from ⟨rm8_ rfl, ?_⟩)
          refine w_X7_pass (d := d + 1) _ ?_
          refine oq_bd H (fun r12 s13 H => ?_)
          show Y_X1_takeStep d Q 161 [(2, .int 1), (1, .int (s.1 54 7)), (0, .ref 9)] [.int r12] s13
          refine Wp.run 1 (show br (r12 = 0) (Y_X1_takeStep d Q 183 [(2, .int 1), (1, .int (s.1 54 7)), (0, .ref 9)] [] s13) (Y_X1_takeStep d Q 164 [(2, .int 1), (1, .int (s.1 54 7)), (0, .ref 9)] [] s13) from ⟨fun c9 => ?_, fun c9 => ?_⟩)
          · have H := oq_t c9 H
            refine Wp.weak [2] (lv' := [(0, .ref 9)]) rfl ?_
            exact w_X1_takeStep_b183 _ H
          · have H := oq_f c9 H
            refine Wp.run 6 (show room8 [] ∧ WpM SHC MT (d + 5) 17 [.ref 9, .ref 75, .int (s.1 54 7)] s13 (fun v9 s9 => Y_X1_takeStep d Q 176 [(2, .int 1), (1, .int (s.1 54 7)), (0, .ref 9)] (v9.toList ++ []) s9) from ⟨rm8_ rfl, ?_⟩)
            refine w_X1_takeHouse_75 (d := d + 1) _ ?_
            refine oq_bd H (fun r14 s15 H => ?_)
            show Y_X1_takeStep d Q 176 [(2, .int 1), (1, .int (s.1 54 7)), (0, .ref 9)] [.int r14] s15
            refine Wp.run 1 (show br (r14 = 0) (Y_X1_takeStep d Q 183 [(2, .int 1), (1, .int (s.1 54 7)), (0, .ref 9)] [] s15) (Y_X1_takeStep d Q 179 [(2, .int 1), (1, .int (s.1 54 7)), (0, .ref 9)] [] s15) from ⟨fun c9 => ?_, fun c9 => ?_⟩)
            · have H := oq_t c9 H
              refine Wp.weak [2] (lv' := [(0, .ref 9)]) rfl ?_
              exact w_X1_takeStep_b183 _ H
            · have H := oq_f c9 H
              refine Wp.run 2 (show Y_X1_takeStep d Q 184 [(2, .int 1), (1, .int (s.1 54 7)), (0, .ref 9)] [.int 1] s15 from ?_)
              refine Wp.weak [2] (lv' := [(0, .ref 9)]) rfl ?_
              exact w_X1_takeStep_b184 _ _ H
    · have H := oq_f c9_0 H; have H := oq_f c9_1 H; have H := oq_f c9_2 H; have H := oq_f c9_3 H; have H := oq_t e9 H
      refine Wp.run 6 (show room8 [] ∧ WpM SHC MT (d + 5) 17 [.ref 9, .ref 73, .int (s.1 54 7)] s2 (fun v9 s9 => Y_X1_takeStep d Q 108 [(2, .int 1), (1, .int (s.1 54 7)), (0, .ref 9)] (v9.toList ++ []) s9) from ⟨rm8_ rfl, ?_⟩)
      refine w_X1_takeHouse_73 (d := d + 1) _ ?_
      refine oq_bd H (fun r16 s17 H => ?_)
      show Y_X1_takeStep d Q 108 [(2, .int 1), (1, .int (s.1 54 7)), (0, .ref 9)] [.int r16] s17
      refine Wp.run 1 (show br (r16 = 0) (Y_X1_takeStep d Q 127 [(2, .int 1), (1, .int (s.1 54 7)), (0, .ref 9)] [] s17) (Y_X1_takeStep d Q 111 [(2, .int 1), (1, .int (s.1 54 7)), (0, .ref 9)] [] s17) from ⟨fun c9 => ?_, fun c9 => ?_⟩)
      · have H := oq_t c9 H
        refine Wp.weak [2] (lv' := [(0, .ref 9)]) rfl ?_
        exact w_X1_takeStep_b127 _ H
      · have H := oq_f c9 H
        refine Wp.run 5 (show room8 [] ∧ WpM SHC MT (d + 5) 19 [.ref 9, .int (s.1 54 7), .int 1, .int 999] s17 (fun v9 s9 => Y_X1_takeStep d Q 120 [(2, .int 1), (1, .int (s.1 54 7)), (0, .ref 9)] (v9.toList ++ []) s9) from ⟨rm8_ rfl, ?_⟩)
        refine w_X1_takeNumber (d := d) _ _ _ ?_
        refine oq_bd H (fun r18 s19 H => ?_)
        show Y_X1_takeStep d Q 120 [(2, .int 1), (1, .int (s.1 54 7)), (0, .ref 9)] [.int r18] s19
        refine Wp.run 1 (show br (r18 = 0) (Y_X1_takeStep d Q 127 [(2, .int 1), (1, .int (s.1 54 7)), (0, .ref 9)] [] s19) (Y_X1_takeStep d Q 123 [(2, .int 1), (1, .int (s.1 54 7)), (0, .ref 9)] [] s19) from ⟨fun c9 => ?_, fun c9 => ?_⟩)
        · have H := oq_t c9 H
          refine Wp.weak [2] (lv' := [(0, .ref 9)]) rfl ?_
          exact w_X1_takeStep_b127 _ H
        · have H := oq_f c9 H
          refine Wp.run 2 (show Y_X1_takeStep d Q 128 [(2, .int 1), (1, .int (s.1 54 7)), (0, .ref 9)] [.int 1] s19 from ?_)
          refine Wp.weak [2] (lv' := [(0, .ref 9)]) rfl ?_
          exact w_X1_takeStep_b128 _ _ H
    · have H := oq_f c9_0 H; have H := oq_f c9_1 H; have H := oq_f c9_2 H; have H := oq_f c9_3 H; have H := oq_f c9_4 H; have H := oq_t e9 H
      refine Wp.run 6 (show room8 [] ∧ WpM SHC MT (d + 5) 17 [.ref 9, .ref 73, .int (s.1 54 7)] s2 (fun v9 s9 => Y_X1_takeStep d Q 200 [(2, .int 1), (1, .int (s.1 54 7)), (0, .ref 9)] (v9.toList ++ []) s9) from ⟨rm8_ rfl, ?_⟩)
      refine w_X1_takeHouse_73 (d := d + 1) _ ?_
      refine oq_bd H (fun r20 s21 H => ?_)
      show Y_X1_takeStep d Q 200 [(2, .int 1), (1, .int (s.1 54 7)), (0, .ref 9)] [.int r20] s21
      refine Wp.run 2 (show Y_X1_takeStep d Q 249 [(2, .int r20), (1, .int (s.1 54 7)), (0, .ref 9)] [] s21 from ?_)
      refine Wp.weak [2, 0] (lv' := [(0, .ref 9), (2, .int r20)]) rfl ?_
      exact w_X1_takeStep_b249 _ _ H
    · have H := oq_f c9_0 H; have H := oq_f c9_1 H; have H := oq_f c9_2 H; have H := oq_f c9_3 H; have H := oq_f c9_4 H; have H := oq_f c9_5 H; have H := oq_t e9 H
      refine Wp.run 5 (show room8 [] ∧ WpM SHC MT (d + 5) 19 [.ref 9, .int (s.1 54 7), .int 0, .int 99] s2 (fun v9 s9 => Y_X1_takeStep d Q 224 [(2, .int 1), (1, .int (s.1 54 7)), (0, .ref 9)] (v9.toList ++ []) s9) from ⟨rm8_ rfl, ?_⟩)
      refine w_X1_takeNumber (d := d) _ _ _ ?_
      refine oq_bd H (fun r22 s23 H => ?_)
      show Y_X1_takeStep d Q 224 [(2, .int 1), (1, .int (s.1 54 7)), (0, .ref 9)] [.int r22] s23
      refine Wp.run 2 (show Y_X1_takeStep d Q 249 [(2, .int r22), (1, .int (s.1 54 7)), (0, .ref 9)] [] s23 from ?_)
      refine Wp.weak [2, 0] (lv' := [(0, .ref 9), (2, .int r22)]) rfl ?_
      exact w_X1_takeStep_b249 _ _ H
    · have H := oq_f c9_0 H; have H := oq_f c9_1 H; have H := oq_f c9_2 H; have H := oq_f c9_3 H; have H := oq_f c9_4 H; have H := oq_f c9_5 H; have H := oq_f c9_6 H; have H := oq_t e9 H
      refine Wp.weak [2, 0] (lv' := [(0, .ref 9), (2, .int 1)]) rfl ?_
      exact w_X1_takeStep_b249 _ _ H
    · have H := oq_f c9_0 H; have H := oq_f c9_1 H; have H := oq_f c9_2 H; have H := oq_f c9_3 H; have H := oq_f c9_4 H; have H := oq_f c9_5 H; have H := oq_f c9_6 H; have H := oq_f c9_7 H; have H := oq_t e9 H
      refine Wp.run 3 (show room8 [] ∧ WpM SHC MT (d + 5) 16 [.ref 9, .int (s.1 54 7)] s2 (fun v9 s9 => Y_X1_takeStep d Q 245 [(2, .int 1), (1, .int (s.1 54 7)), (0, .ref 9)] (v9.toList ++ []) s9) from ⟨rm8_ rfl, ?_⟩)
      refine w_X1_takeTest (d := d) _ ?_
      refine oq_bd H (fun r24 s25 H => ?_)
      show Y_X1_takeStep d Q 245 [(2, .int 1), (1, .int (s.1 54 7)), (0, .ref 9)] [.int r24] s25
      refine Wp.run 2 (show Y_X1_takeStep d Q 249 [(2, .int r24), (1, .int (s.1 54 7)), (0, .ref 9)] [] s25 from ?_)
      refine Wp.weak [2, 0] (lv' := [(0, .ref 9), (2, .int r24)]) rfl ?_
      exact w_X1_takeStep_b249 _ _ H
    · have H := oq_f c9_0 H; have H := oq_f c9_1 H; have H := oq_f c9_2 H; have H := oq_f c9_3 H; have H := oq_f c9_4 H; have H := oq_f c9_5 H; have H := oq_f c9_6 H; have H := oq_f c9_7 H; have H := oq_f c9_8 H; have H := oq_t e9 H
      refine Wp.weak [2, 0] (lv' := [(0, .ref 9), (2, .int 1)]) rfl ?_
      exact w_X1_takeStep_b249 _ _ H
    · have H := oq_f c9_0 H; have H := oq_f c9_1 H; have H := oq_f c9_2 H; have H := oq_f c9_3 H; have H := oq_f c9_4 H; have H := oq_f c9_5 H; have H := oq_f c9_6 H; have H := oq_f c9_7 H; have H := oq_f c9_8 H; have H := oq_f c9_9 H; have H := oq_t e9 H
      refine Wp.weak [2, 0] (lv' := [(0, .ref 9), (2, .int 1)]) rfl ?_
      exact w_X1_takeStep_b249 _ _ H
    · have H := oq_f c9_0 H; have H := oq_f c9_1 H; have H := oq_f c9_2 H; have H := oq_f c9_3 H; have H := oq_f c9_4 H; have H := oq_f c9_5 H; have H := oq_f c9_6 H; have H := oq_f c9_7 H; have H := oq_f c9_8 H; have H := oq_f c9_9 H; have H := oq_f c9_10 H; have H := oq_t e9 H
      refine Wp.weak [2, 0] (lv' := [(0, .ref 9), (2, .int 1)]) rfl ?_
      exact w_X1_takeStep_b249 _ _ H
    · have H := oq_f c9_0 H; have H := oq_f c9_1 H; have H := oq_f c9_2 H; have H := oq_f c9_3 H; have H := oq_f c9_4 H; have H := oq_f c9_5 H; have H := oq_f c9_6 H; have H := oq_f c9_7 H; have H := oq_f c9_8 H; have H := oq_f c9_9 H; have H := oq_f c9_10 H; have H := oq_f c9_11 H; have H := oq_t e9 H
      refine Wp.run 5 (show room8 [] ∧ WpM SHC MT (d + 5) 19 [.ref 9, .int (s.1 54 7), .int 1, .int 99] s2 (fun v9 s9 => Y_X1_takeStep d Q 236 [(2, .int 1), (1, .int (s.1 54 7)), (0, .ref 9)] (v9.toList ++ []) s9) from ⟨rm8_ rfl, ?_⟩)
      refine w_X1_takeNumber (d := d) _ _ _ ?_
      refine oq_bd H (fun r26 s27 H => ?_)
      show Y_X1_takeStep d Q 236 [(2, .int 1), (1, .int (s.1 54 7)), (0, .ref 9)] [.int r26] s27
      refine Wp.run 2 (show Y_X1_takeStep d Q 249 [(2, .int r26), (1, .int (s.1 54 7)), (0, .ref 9)] [] s27 from ?_)
      refine Wp.weak [2, 0] (lv' := [(0, .ref 9), (2, .int r26)]) rfl ?_
      exact w_X1_takeStep_b249 _ _ H
    · have H := oq_f c9_0 H; have H := oq_f c9_1 H; have H := oq_f c9_2 H; have H := oq_f c9_3 H; have H := oq_f c9_4 H; have H := oq_f c9_5 H; have H := oq_f c9_6 H; have H := oq_f c9_7 H; have H := oq_f c9_8 H; have H := oq_f c9_9 H; have H := oq_f c9_10 H; have H := oq_f c9_11 H; have H := oq_f c9_12 H
      refine Wp.weak [2, 0] (lv' := [(0, .ref 9), (2, .int 1)]) rfl ?_
      exact w_X1_takeStep_b249 _ _ H
abbrev Y_X1_takeText (d : Nat) (Q : Qt) : Xt := Wp SHC (WpM SHC MT (d + 6)) cd_X1_takeText (some .boolean) Q
def f_X1_takeText_b22 : Nat → Int32 → Sg → Option (Int32 × Sg)
  | 0, _, _ => none
  | n + 1, v1, s =>
    if 300 < v1 then
      bd (f_X7_wrong 2 s) (fun r3 s4 =>
      ck (r3 = 0 ∨ r3 = 1) (some (r3, s4))
      )
    else
      if (s.1 7 3) = 0 then
        if (s.1 9 4) = 0 then
          some (1, s)
        else
          bd (f_X7_wrong 2 s) (fun r5 s6 =>
          if r5 = 0 then
            some (0, s6)
          else
            some (1, s6)
          )
      else
        if (s.1 7 3) = 129 then
          bd (f_X1_takeEnd s) (fun r7 s8 =>
          if r7 = 0 then
            some (0, s8)
          else
            (f_X1_takeText_b22 n) (v1 + 1) s8
          )
        else
          bd (f_X1_takeStep s) (fun r9 s10 =>
          if r9 = 0 then
            some (0, s10)
          else
            (f_X1_takeText_b22 n) (v1 + 1) s10
          )
set_option maxRecDepth 100000 in
theorem w_X1_takeText_b22 {d : Nat} {Q : Qt} (n : Nat) : ∀ (v1 : Int32) (s : Sg), OQ (f_X1_takeText_b22 n v1 s) (fun r9 s9 => Q (some (.int r9)) s9) → Y_X1_takeText d Q 22 [(0, .ref 9), (1, .int v1)] [] s := by
  induction n with
  | zero => intro v1 s H; exact H.elim
  | succ n ih =>
    intro v1 s H
    unfold f_X1_takeText_b22 at H
    refine Wp.run 3 (show br (300 < v1) (Y_X1_takeText d Q 100 [(0, .ref 9), (1, .int v1)] [] s) (Y_X1_takeText d Q 29 [(0, .ref 9), (1, .int v1)] [] s) from ⟨fun c9 => ?_, fun c9 => ?_⟩)
    · have H := oq_t c9 H
      refine Wp.run 4 (show room8 [] ∧ WpM SHC MT (d + 6) 81 [.ref 7, .int 2] s (fun v9 s9 => Y_X1_takeText d Q 108 [(0, .ref 9), (1, .int v1)] (v9.toList ++ []) s9) from ⟨rm8_ rfl, ?_⟩)
      refine w_X7_wrong (d := d + 5) _ ?_
      refine oq_bd H (fun r3 s4 H => ?_)
      show Y_X1_takeText d Q 108 [(0, .ref 9), (1, .int v1)] [.int r3] s4
      obtain ⟨c9, H⟩ := oq_ck H
      exact Wp.run 1 ⟨b01_n c9, H⟩
    · have H := oq_f c9 H
      refine Wp.run 4 (show br ((s.1 7 3) = 0) (Y_X1_takeText d Q 39 [(0, .ref 9), (1, .int v1)] [] s) (Y_X1_takeText d Q 63 [(0, .ref 9), (1, .int v1)] [] s) from ⟨fun c9 => ?_, fun c9 => ?_⟩)
      · have H := oq_t c9 H
        refine Wp.run 3 (show br ((s.1 9 4) = 0) (Y_X1_takeText d Q 57 [(0, .ref 9), (1, .int v1)] [] s) (Y_X1_takeText d Q 46 [(0, .ref 9), (1, .int v1)] [] s) from ⟨fun c9 => ?_, fun c9 => ?_⟩)
        · have H := oq_t c9 H
          exact Wp.run 3 ⟨rfl, H⟩
        · have H := oq_f c9 H
          refine Wp.run 4 (show room8 [] ∧ WpM SHC MT (d + 6) 81 [.ref 7, .int 2] s (fun v9 s9 => Y_X1_takeText d Q 54 [(0, .ref 9), (1, .int v1)] (v9.toList ++ []) s9) from ⟨rm8_ rfl, ?_⟩)
          refine w_X7_wrong (d := d + 5) _ ?_
          refine oq_bd H (fun r5 s6 H => ?_)
          show Y_X1_takeText d Q 54 [(0, .ref 9), (1, .int v1)] [.int r5] s6
          refine Wp.run 1 (show br (r5 = 0) (Y_X1_takeText d Q 61 [(0, .ref 9), (1, .int v1)] [] s6) (Y_X1_takeText d Q 57 [(0, .ref 9), (1, .int v1)] [] s6) from ⟨fun c9 => ?_, fun c9 => ?_⟩)
          · have H := oq_t c9 H
            exact Wp.run 2 ⟨rfl, H⟩
          · have H := oq_f c9 H
            exact Wp.run 3 ⟨rfl, H⟩
      · have H := oq_f c9 H
        refine Wp.run 5 (show br ((s.1 7 3) = 129) (Y_X1_takeText d Q 76 [(0, .ref 9), (1, .int v1)] [] s) (Y_X1_takeText d Q 83 [(0, .ref 9), (1, .int v1)] [] s) from ⟨fun c9 => ?_, fun c9 => ?_⟩)
        · have H := oq_t c9 H
          refine Wp.run 2 (show room8 [] ∧ WpM SHC MT (d + 6) 12 [.ref 9] s (fun v9 s9 => Y_X1_takeText d Q 80 [(0, .ref 9), (1, .int v1)] (v9.toList ++ []) s9) from ⟨rm8_ rfl, ?_⟩)
          refine w_X1_takeEnd (d := d + 1)  ?_
          refine oq_bd H (fun r7 s8 H => ?_)
          show Y_X1_takeText d Q 80 [(0, .ref 9), (1, .int v1)] [.int r7] s8
          refine Wp.run 4 (show br (r7 = 0) (Y_X1_takeText d Q 92 [(2, .int r7), (0, .ref 9), (1, .int v1)] [] s8) (Y_X1_takeText d Q 94 [(2, .int r7), (0, .ref 9), (1, .int v1)] [] s8) from ⟨fun c9 => ?_, fun c9 => ?_⟩)
          · have H := oq_t c9 H
            exact Wp.run 2 ⟨rfl, H⟩
          · have H := oq_f c9 H
            refine Wp.run 2 (show Y_X1_takeText d Q 22 [(1, .int (v1 + 1)), (2, .int r7), (0, .ref 9)] [] s8 from ?_)
            refine Wp.weak [2, 0] (lv' := [(0, .ref 9), (1, .int (v1 + 1))]) rfl ?_
            exact ih _ _ H
        · have H := oq_f c9 H
          refine Wp.run 2 (show room8 [] ∧ WpM SHC MT (d + 6) 13 [.ref 9] s (fun v9 s9 => Y_X1_takeText d Q 87 [(0, .ref 9), (1, .int v1)] (v9.toList ++ []) s9) from ⟨rm8_ rfl, ?_⟩)
          refine w_X1_takeStep (d := d)  ?_
          refine oq_bd H (fun r9 s10 H => ?_)
          show Y_X1_takeText d Q 87 [(0, .ref 9), (1, .int v1)] [.int r9] s10
          refine Wp.run 3 (show br (r9 = 0) (Y_X1_takeText d Q 92 [(2, .int r9), (0, .ref 9), (1, .int v1)] [] s10) (Y_X1_takeText d Q 94 [(2, .int r9), (0, .ref 9), (1, .int v1)] [] s10) from ⟨fun c9 => ?_, fun c9 => ?_⟩)
          · have H := oq_t c9 H
            exact Wp.run 2 ⟨rfl, H⟩
          · have H := oq_f c9 H
            refine Wp.run 2 (show Y_X1_takeText d Q 22 [(1, .int (v1 + 1)), (2, .int r9), (0, .ref 9)] [] s10 from ?_)
            refine Wp.weak [2, 0] (lv' := [(0, .ref 9), (1, .int (v1 + 1))]) rfl ?_
            exact ih _ _ H
def f_X1_takeText  (s : Sg) : Option (Int32 × Sg) :=
  bd (f_X5_clear_54 s) (fun _ s2 =>
  f_X1_takeText_b22 BIG 0 (pI (pI s2 54 6 1) 9 4 0)
  )
set_option maxRecDepth 100000 in
theorem w_X1_takeText {d : Nat} {s : Sg} {Q : Qt}  (H : OQ (f_X1_takeText  s) (fun r9 s9 => Q (some (.int r9)) s9)) : WpM SHC MT (d + 7) 11 [.ref 9] s Q := by
  refine WpM.enter me_X1_takeText rfl rfl ?_
  show Y_X1_takeText d Q 0 [(0, .ref 9)] [] s
  unfold f_X1_takeText at H
  refine Wp.run 3 (show room8 [] ∧ WpM SHC MT (d + 6) 61 [.ref 54] s (fun v9 s9 => Y_X1_takeText d Q 7 [(0, .ref 9)] (v9.toList ++ []) s9) from ⟨rm8_ rfl, ?_⟩)
  refine w_X5_clear_54 (d := d + 5)  ?_
  refine oq_bd H (fun _ s2 H => ?_)
  show Y_X1_takeText d Q 7 [(0, .ref 9)] [] s2
  refine Wp.run 4 (show ((1 : Int32) = 0 ∨ 1 = 1) ∧ Y_X1_takeText d Q 15 [(0, .ref 9)] [] (pI s2 54 6 1) from ⟨Or.inr rfl, ?_⟩)
  refine Wp.run 5 (show Y_X1_takeText d Q 22 [(1, .int 0), (0, .ref 9)] [] (pI (pI s2 54 6 1) 9 4 0) from ?_)
  refine Wp.weak [1, 0] (lv' := [(0, .ref 9), (1, .int 0)]) rfl ?_
  exact w_X1_takeText_b22 _ _ _ H
abbrev Y_X11_days (d : Nat) (Q : Qt) : Xt := Wp SHC (WpM SHC MT (d + 7)) cd_X11_days (some .int) Q
def f_X11_days (a1 : Int32) (s : Sg) : Option (Int32 × Sg) :=
  bd (f_X11_within a1 0 (s.1 0 13) s) (fun r1 s2 =>
  if r1 = 0 then
    bd (f_X11_refuse 1 s2) (fun r3 s4 =>
    some (r3, s4)
    )
  else
    if a1 ≤ 300 then
      bd (f_X7_begin a1 s2) (fun _ s6 =>
      bd (f_X1_takeText s6) (fun r7 s8 =>
      bd (f_X11_closeText s8) (fun _ s10 =>
      if r7 = 0 then
        bd (f_X11_refuse 9 s10) (fun r11 s12 =>
        some (r11, s12)
        )
      else
        bd (f_X5_copyFrom_54 s10) (fun _ s14 =>
        bd (f_X11_answer (s14.1 27 8) s14) (fun r15 s16 =>
        some (r15, s16)
        )
        )
      )
      )
      )
    else
      bd (f_X11_refuse 1 s2) (fun r17 s18 =>
      some (r17, s18)
      )
  )
set_option maxRecDepth 100000 in
theorem w_X11_days {d : Nat} {s : Sg} {Q : Qt} (a1 : Int32) (H : OQ (f_X11_days a1 s) (fun r9 s9 => Q (some (.int r9)) s9)) : WpM SHC MT (d + 8) 111 [.ref 0, .int a1] s Q := by
  refine WpM.enter me_X11_days rfl rfl ?_
  show Y_X11_days d Q 0 [(0, .ref 0), (1, .int a1)] [] s
  unfold f_X11_days at H
  refine Wp.run 5 (show room8 [] ∧ WpM SHC MT (d + 7) 169 [.int a1, .int 0, .int (s.1 0 13)] s (fun v9 s9 => Y_X11_days d Q 9 [(0, .ref 0), (1, .int a1)] (v9.toList ++ []) s9) from ⟨rm8_ rfl, ?_⟩)
  refine w_X11_within (d := d + 6) _ _ _ ?_
  refine oq_bd H (fun r1 s2 H => ?_)
  show Y_X11_days d Q 9 [(0, .ref 0), (1, .int a1)] [.int r1] s2
  refine Wp.run 1 (show br (r1 = 0) (Y_X11_days d Q 19 [(0, .ref 0), (1, .int a1)] [] s2) (Y_X11_days d Q 12 [(0, .ref 0), (1, .int a1)] [] s2) from ⟨fun c9 => ?_, fun c9 => ?_⟩)
  · have H := oq_t c9 H
    refine Wp.run 3 (show room8 [] ∧ WpM SHC MT (d + 7) 166 [.ref 0, .int 1] s2 (fun v9 s9 => Y_X11_days d Q 24 [(0, .ref 0), (1, .int a1)] (v9.toList ++ []) s9) from ⟨rm8_ rfl, ?_⟩)
    refine w_X11_refuse (d := d + 6) _ ?_
    refine oq_bd H (fun r3 s4 H => ?_)
    show Y_X11_days d Q 24 [(0, .ref 0), (1, .int a1)] [.int r3] s4
    exact Wp.run 1 ⟨rfl, H⟩
  · have H := oq_f c9 H
    refine Wp.run 3 (show br (a1 ≤ 300) (Y_X11_days d Q 25 [(0, .ref 0), (1, .int a1)] [] s2) (Y_X11_days d Q 19 [(0, .ref 0), (1, .int a1)] [] s2) from ⟨fun c9 => ?_, fun c9 => ?_⟩)
    · have H := oq_t c9 H
      refine Wp.run 4 (show room8 [] ∧ WpM SHC MT (d + 7) 73 [.ref 7, .int a1] s2 (fun v9 s9 => Y_X11_days d Q 33 [(0, .ref 0), (1, .int a1)] (v9.toList ++ []) s9) from ⟨rm8_ rfl, ?_⟩)
      refine w_X7_begin (d := d + 3) _ ?_
      refine oq_bd H (fun _ s6 H => ?_)
      show Y_X11_days d Q 33 [(0, .ref 0), (1, .int a1)] [] s6
      refine Wp.run 3 (show room8 [] ∧ WpM SHC MT (d + 7) 11 [.ref 9] s6 (fun v9 s9 => Y_X11_days d Q 40 [(0, .ref 0), (1, .int a1)] (v9.toList ++ []) s9) from ⟨rm8_ rfl, ?_⟩)
      refine w_X1_takeText (d := d)  ?_
      refine oq_bd H (fun r7 s8 H => ?_)
      show Y_X11_days d Q 40 [(0, .ref 0), (1, .int a1)] [.int r7] s8
      refine Wp.run 3 (show room8 [] ∧ WpM SHC MT (d + 7) 179 [.ref 0] s8 (fun v9 s9 => Y_X11_days d Q 45 [(2, .int r7), (0, .ref 0), (1, .int a1)] (v9.toList ++ []) s9) from ⟨rm8_ rfl, ?_⟩)
      refine w_X11_closeText (d := d + 6)  ?_
      refine oq_bd H (fun _ s10 H => ?_)
      show Y_X11_days d Q 45 [(2, .int r7), (0, .ref 0), (1, .int a1)] [] s10
      refine Wp.run 2 (show br (r7 = 0) (Y_X11_days d Q 49 [(2, .int r7), (0, .ref 0), (1, .int a1)] [] s10) (Y_X11_days d Q 56 [(2, .int r7), (0, .ref 0), (1, .int a1)] [] s10) from ⟨fun c9 => ?_, fun c9 => ?_⟩)
      · have H := oq_t c9 H
        refine Wp.run 3 (show room8 [] ∧ WpM SHC MT (d + 7) 166 [.ref 0, .int 9] s10 (fun v9 s9 => Y_X11_days d Q 55 [(2, .int r7), (0, .ref 0), (1, .int a1)] (v9.toList ++ []) s9) from ⟨rm8_ rfl, ?_⟩)
        refine w_X11_refuse (d := d + 6) _ ?_
        refine oq_bd H (fun r11 s12 H => ?_)
        show Y_X11_days d Q 55 [(2, .int r7), (0, .ref 0), (1, .int a1)] [.int r11] s12
        exact Wp.run 1 ⟨rfl, H⟩
      · have H := oq_f c9 H
        refine Wp.run 7 (show room8 [] ∧ WpM SHC MT (d + 7) 62 [.ref 27, .ref 54] s10 (fun v9 s9 => Y_X11_days d Q 73 [(2, .int r7), (0, .ref 0), (1, .int a1)] (v9.toList ++ []) s9) from ⟨rm8_ rfl, ?_⟩)
        refine w_X5_copyFrom_54 (d := d + 5)  ?_
        refine oq_bd H (fun _ s14 H => ?_)
        show Y_X11_days d Q 73 [(2, .int r7), (0, .ref 0), (1, .int a1)] [] s14
        refine Wp.run 6 (show room8 [] ∧ WpM SHC MT (d + 7) 164 [.ref 0, .int (s14.1 27 8)] s14 (fun v9 s9 => Y_X11_days d Q 87 [(2, .int r7), (0, .ref 0), (1, .int a1)] (v9.toList ++ []) s9) from ⟨rm8_ rfl, ?_⟩)
        refine w_X11_answer (d := d + 6) _ ?_
        refine oq_bd H (fun r15 s16 H => ?_)
        show Y_X11_days d Q 87 [(2, .int r7), (0, .ref 0), (1, .int a1)] [.int r15] s16
        exact Wp.run 1 ⟨rfl, H⟩
    · have H := oq_f c9 H
      refine Wp.run 3 (show room8 [] ∧ WpM SHC MT (d + 7) 166 [.ref 0, .int 1] s2 (fun v9 s9 => Y_X11_days d Q 24 [(0, .ref 0), (1, .int a1)] (v9.toList ++ []) s9) from ⟨rm8_ rfl, ?_⟩)
      refine w_X11_refuse (d := d + 6) _ ?_
      refine oq_bd H (fun r17 s18 H => ?_)
      show Y_X11_days d Q 24 [(0, .ref 0), (1, .int a1)] [.int r17] s18
      exact Wp.run 1 ⟨rfl, H⟩
abbrev Y_X11_fault (d : Nat) (Q : Qt) : Xt := Wp SHC (WpM SHC MT (d + 0)) cd_X11_fault (some .int) Q
def f_X11_fault (a1 : Int32) (s : Sg) : Option (Int32 × Sg) :=
  if a1 = 0 then
    some (s.1 0 18, s)
  else
    if a1 = 1 then
      some (s.1 0 19, s)
    else
      some ((-1), s)
set_option maxRecDepth 100000 in
theorem w_X11_fault {d : Nat} {s : Sg} {Q : Qt} (a1 : Int32) (H : OQ (f_X11_fault a1 s) (fun r9 s9 => Q (some (.int r9)) s9)) : WpM SHC MT (d + 1) 112 [.ref 0, .int a1] s Q := by
  refine WpM.enter me_X11_fault rfl rfl ?_
  show Y_X11_fault d Q 0 [(0, .ref 0), (1, .int a1)] [] s
  unfold f_X11_fault at H
  refine Wp.run 2 (show br (a1 = 0) (Y_X11_fault d Q 4 [(0, .ref 0), (1, .int a1)] [] s) (Y_X11_fault d Q 9 [(0, .ref 0), (1, .int a1)] [] s) from ⟨fun c9 => ?_, fun c9 => ?_⟩)
  · have H := oq_t c9 H
    exact Wp.run 3 ⟨rfl, H⟩
  · have H := oq_f c9 H
    refine Wp.run 3 (show br (a1 = 1) (Y_X11_fault d Q 14 [(0, .ref 0), (1, .int a1)] [] s) (Y_X11_fault d Q 21 [(0, .ref 0), (1, .int a1)] [] s) from ⟨fun c9 => ?_, fun c9 => ?_⟩)
    · have H := oq_t c9 H
      exact Wp.run 4 ⟨rfl, H⟩
    · have H := oq_f c9 H
      exact Wp.run 2 ⟨rfl, H⟩
abbrev Y_X11_told (d : Nat) (Q : Qt) : Xt := Wp SHC (WpM SHC MT (d + 1)) cd_X11_told (some .int) Q
def f_X11_told (a1 : Int32) (s : Sg) : Option (Int32 × Sg) :=
  if a1 = 0 then
    bd (f_X11_answer (s.1 25 13) s) (fun r1 s2 =>
    some (r1, s2)
    )
  else
  if a1 = 1 then
    bd (f_X11_answer (s.1 25 14) s) (fun r3 s4 =>
    some (r3, s4)
    )
  else
  if a1 = 2 then
    bd (f_X11_answer (s.1 25 15) s) (fun r5 s6 =>
    some (r5, s6)
    )
  else
  if a1 = 3 then
    bd (f_X11_answer (s.1 25 16) s) (fun r7 s8 =>
    some (r7, s8)
    )
  else
  if a1 = 4 then
    bd (f_X11_answer (s.1 26 6) s) (fun r9 s10 =>
    some (r9, s10)
    )
  else
  if a1 = 5 then
    bd (f_X11_answer (s.1 26 9) s) (fun r11 s12 =>
    some (r11, s12)
    )
  else
  if a1 = 6 then
    bd (f_X11_answer (s.1 26 10) s) (fun r13 s14 =>
    some (r13, s14)
    )
  else
  if a1 = 7 then
    bd (f_X11_answer (s.1 26 11) s) (fun r15 s16 =>
    some (r15, s16)
    )
  else
  if a1 = 8 then
    bd (f_X11_answer (s.1 26 12) s) (fun r17 s18 =>
    some (r17, s18)
    )
  else
  if a1 = 9 then
    bd (f_X11_answer (s.1 25 17) s) (fun r19 s20 =>
    some (r19, s20)
    )
  else
  if a1 = 10 then
    if (s.1 26 7) = 0 then
      bd (f_X11_answer 0 s) (fun r21 s22 =>
      some (r21, s22)
      )
    else
      bd (f_X11_answer 1 s) (fun r23 s24 =>
      some (r23, s24)
      )
  else
    bd (f_X11_refuse 1 s) (fun r25 s26 =>
    some (r25, s26)
    )
set_option maxRecDepth 100000 in
theorem w_X11_told {d : Nat} {s : Sg} {Q : Qt} (a1 : Int32) (H : OQ (f_X11_told a1 s) (fun r9 s9 => Q (some (.int r9)) s9)) : WpM SHC MT (d + 2) 113 [.ref 0, .int a1] s Q := by
  refine WpM.enter me_X11_told rfl rfl ?_
  show Y_X11_told d Q 0 [(0, .ref 0), (1, .int a1)] [] s
  unfold f_X11_told at H
  refine Wp.run 2 (show (a1 = 0 → Y_X11_told d Q 60 [(0, .ref 0), (1, .int a1)] [] s) ∧ (¬ a1 = 0 → (a1 = 1 → Y_X11_told d Q 72 [(0, .ref 0), (1, .int a1)] [] s) ∧ (¬ a1 = 1 → (a1 = 2 → Y_X11_told d Q 84 [(0, .ref 0), (1, .int a1)] [] s) ∧ (¬ a1 = 2 → (a1 = 3 → Y_X11_told d Q 96 [(0, .ref 0), (1, .int a1)] [] s) ∧ (¬ a1 = 3 → (a1 = 4 → Y_X11_told d Q 108 [(0, .ref 0), (1, .int a1)] [] s) ∧ (¬ a1 = 4 → (a1 = 5 → Y_X11_told d Q 120 [(0, .ref 0), (1, .int a1)] [] s) ∧ (¬ a1 = 5 → (a1 = 6 → Y_X11_told d Q 132 [(0, .ref 0), (1, .int a1)] [] s) ∧ (¬ a1 = 6 → (a1 = 7 → Y_X11_told d Q 144 [(0, .ref 0), (1, .int a1)] [] s) ∧ (¬ a1 = 7 → (a1 = 8 → Y_X11_told d Q 156 [(0, .ref 0), (1, .int a1)] [] s) ∧ (¬ a1 = 8 → (a1 = 9 → Y_X11_told d Q 168 [(0, .ref 0), (1, .int a1)] [] s) ∧ (¬ a1 = 9 → (a1 = 10 → Y_X11_told d Q 180 [(0, .ref 0), (1, .int a1)] [] s) ∧ (¬ a1 = 10 → Y_X11_told d Q 200 [(0, .ref 0), (1, .int a1)] [] s))))))))))) from ⟨fun e9 => ?_, fun c9_0 => ⟨fun e9 => ?_, fun c9_1 => ⟨fun e9 => ?_, fun c9_2 => ⟨fun e9 => ?_, fun c9_3 => ⟨fun e9 => ?_, fun c9_4 => ⟨fun e9 => ?_, fun c9_5 => ⟨fun e9 => ?_, fun c9_6 => ⟨fun e9 => ?_, fun c9_7 => ⟨fun e9 => ?_, fun c9_8 => ⟨fun e9 => ?_, fun c9_9 => ⟨fun e9 => ?_, fun c9_10 => ?_⟩⟩⟩⟩⟩⟩⟩⟩⟩⟩⟩)
  · have H := oq_t e9 H
    refine Wp.run 5 (show room8 [] ∧ WpM SHC MT (d + 1) 164 [.ref 0, .int (s.1 25 13)] s (fun v9 s9 => Y_X11_told d Q 71 [(0, .ref 0), (1, .int a1)] (v9.toList ++ []) s9) from ⟨rm8_ rfl, ?_⟩)
    refine w_X11_answer (d := d) _ ?_
    refine oq_bd H (fun r1 s2 H => ?_)
    show Y_X11_told d Q 71 [(0, .ref 0), (1, .int a1)] [.int r1] s2
    exact Wp.run 1 ⟨rfl, H⟩
  · have H := oq_f c9_0 H; have H := oq_t e9 H
    refine Wp.run 5 (show room8 [] ∧ WpM SHC MT (d + 1) 164 [.ref 0, .int (s.1 25 14)] s (fun v9 s9 => Y_X11_told d Q 83 [(0, .ref 0), (1, .int a1)] (v9.toList ++ []) s9) from ⟨rm8_ rfl, ?_⟩)
    refine w_X11_answer (d := d) _ ?_
    refine oq_bd H (fun r3 s4 H => ?_)
    show Y_X11_told d Q 83 [(0, .ref 0), (1, .int a1)] [.int r3] s4
    exact Wp.run 1 ⟨rfl, H⟩
  · have H := oq_f c9_0 H; have H := oq_f c9_1 H; have H := oq_t e9 H
    refine Wp.run 5 (show room8 [] ∧ WpM SHC MT (d + 1) 164 [.ref 0, .int (s.1 25 15)] s (fun v9 s9 => Y_X11_told d Q 95 [(0, .ref 0), (1, .int a1)] (v9.toList ++ []) s9) from ⟨rm8_ rfl, ?_⟩)
    refine w_X11_answer (d := d) _ ?_
    refine oq_bd H (fun r5 s6 H => ?_)
    show Y_X11_told d Q 95 [(0, .ref 0), (1, .int a1)] [.int r5] s6
    exact Wp.run 1 ⟨rfl, H⟩
  · have H := oq_f c9_0 H; have H := oq_f c9_1 H; have H := oq_f c9_2 H; have H := oq_t e9 H
    refine Wp.run 5 (show room8 [] ∧ WpM SHC MT (d + 1) 164 [.ref 0, .int (s.1 25 16)] s (fun v9 s9 => Y_X11_told d Q 107 [(0, .ref 0), (1, .int a1)] (v9.toList ++ []) s9) from ⟨rm8_ rfl, ?_⟩)
    refine w_X11_answer (d := d) _ ?_
    refine oq_bd H (fun r7 s8 H => ?_)
    show Y_X11_told d Q 107 [(0, .ref 0), (1, .int a1)] [.int r7] s8
    exact Wp.run 1 ⟨rfl, H⟩
  · have H := oq_f c9_0 H; have H := oq_f c9_1 H; have H := oq_f c9_2 H; have H := oq_f c9_3 H; have H := oq_t e9 H
    refine Wp.run 5 (show room8 [] ∧ WpM SHC MT (d + 1) 164 [.ref 0, .int (s.1 26 6)] s (fun v9 s9 => Y_X11_told d Q 119 [(0, .ref 0), (1, .int a1)] (v9.toList ++ []) s9) from ⟨rm8_ rfl, ?_⟩)
    refine w_X11_answer (d := d) _ ?_
    refine oq_bd H (fun r9 s10 H => ?_)
    show Y_X11_told d Q 119 [(0, .ref 0), (1, .int a1)] [.int r9] s10
    exact Wp.run 1 ⟨rfl, H⟩
  · have H := oq_f c9_0 H; have H := oq_f c9_1 H; have H := oq_f c9_2 H; have H := oq_f c9_3 H; have H := oq_f c9_4 H; have H := oq_t e9 H
    refine Wp.run 5 (show room8 [] ∧ WpM SHC MT (d + 1) 164 [.ref 0, .int (s.1 26 9)] s (fun v9 s9 => Y_X11_told d Q 131 [(0, .ref 0), (1, .int a1)] (v9.toList ++ []) s9) from ⟨rm8_ rfl, ?_⟩)
    refine w_X11_answer (d := d) _ ?_
    refine oq_bd H (fun r11 s12 H => ?_)
    show Y_X11_told d Q 131 [(0, .ref 0), (1, .int a1)] [.int r11] s12
    exact Wp.run 1 ⟨rfl, H⟩
  · have H := oq_f c9_0 H; have H := oq_f c9_1 H; have H := oq_f c9_2 H; have H := oq_f c9_3 H; have H := oq_f c9_4 H; have H := oq_f c9_5 H; have H := oq_t e9 H
    refine Wp.run 5 (show room8 [] ∧ WpM SHC MT (d + 1) 164 [.ref 0, .int (s.1 26 10)] s (fun v9 s9 => Y_X11_told d Q 143 [(0, .ref 0), (1, .int a1)] (v9.toList ++ []) s9) from ⟨rm8_ rfl, ?_⟩)
    refine w_X11_answer (d := d) _ ?_
    refine oq_bd H (fun r13 s14 H => ?_)
    show Y_X11_told d Q 143 [(0, .ref 0), (1, .int a1)] [.int r13] s14
    exact Wp.run 1 ⟨rfl, H⟩
  · have H := oq_f c9_0 H; have H := oq_f c9_1 H; have H := oq_f c9_2 H; have H := oq_f c9_3 H; have H := oq_f c9_4 H; have H := oq_f c9_5 H; have H := oq_f c9_6 H; have H := oq_t e9 H
    refine Wp.run 5 (show room8 [] ∧ WpM SHC MT (d + 1) 164 [.ref 0, .int (s.1 26 11)] s (fun v9 s9 => Y_X11_told d Q 155 [(0, .ref 0), (1, .int a1)] (v9.toList ++ []) s9) from ⟨rm8_ rfl, ?_⟩)
    refine w_X11_answer (d := d) _ ?_
    refine oq_bd H (fun r15 s16 H => ?_)
    show Y_X11_told d Q 155 [(0, .ref 0), (1, .int a1)] [.int r15] s16
    exact Wp.run 1 ⟨rfl, H⟩
  · have H := oq_f c9_0 H; have H := oq_f c9_1 H; have H := oq_f c9_2 H; have H := oq_f c9_3 H; have H := oq_f c9_4 H; have H := oq_f c9_5 H; have H := oq_f c9_6 H; have H := oq_f c9_7 H; have H := oq_t e9 H
    refine Wp.run 5 (show room8 [] ∧ WpM SHC MT (d + 1) 164 [.ref 0, .int (s.1 26 12)] s (fun v9 s9 => Y_X11_told d Q 167 [(0, .ref 0), (1, .int a1)] (v9.toList ++ []) s9) from ⟨rm8_ rfl, ?_⟩)
    refine w_X11_answer (d := d) _ ?_
    refine oq_bd H (fun r17 s18 H => ?_)
    show Y_X11_told d Q 167 [(0, .ref 0), (1, .int a1)] [.int r17] s18
    exact Wp.run 1 ⟨rfl, H⟩
  · have H := oq_f c9_0 H; have H := oq_f c9_1 H; have H := oq_f c9_2 H; have H := oq_f c9_3 H; have H := oq_f c9_4 H; have H := oq_f c9_5 H; have H := oq_f c9_6 H; have H := oq_f c9_7 H; have H := oq_f c9_8 H; have H := oq_t e9 H
    refine Wp.run 5 (show room8 [] ∧ WpM SHC MT (d + 1) 164 [.ref 0, .int (s.1 25 17)] s (fun v9 s9 => Y_X11_told d Q 179 [(0, .ref 0), (1, .int a1)] (v9.toList ++ []) s9) from ⟨rm8_ rfl, ?_⟩)
    refine w_X11_answer (d := d) _ ?_
    refine oq_bd H (fun r19 s20 H => ?_)
    show Y_X11_told d Q 179 [(0, .ref 0), (1, .int a1)] [.int r19] s20
    exact Wp.run 1 ⟨rfl, H⟩
  · have H := oq_f c9_0 H; have H := oq_f c9_1 H; have H := oq_f c9_2 H; have H := oq_f c9_3 H; have H := oq_f c9_4 H; have H := oq_f c9_5 H; have H := oq_f c9_6 H; have H := oq_f c9_7 H; have H := oq_f c9_8 H; have H := oq_f c9_9 H; have H := oq_t e9 H
    refine Wp.run 5 (show br ((s.1 26 7) = 0) (Y_X11_told d Q 195 [(0, .ref 0), (1, .int a1)] [.ref 0] s) (Y_X11_told d Q 191 [(0, .ref 0), (1, .int a1)] [.ref 0] s) from ⟨fun c9 => ?_, fun c9 => ?_⟩)
    · have H := oq_t c9 H
      refine Wp.run 2 (show room8 [] ∧ WpM SHC MT (d + 1) 164 [.ref 0, .int 0] s (fun v9 s9 => Y_X11_told d Q 199 [(0, .ref 0), (1, .int a1)] (v9.toList ++ []) s9) from ⟨rm8_ rfl, ?_⟩)
      refine w_X11_answer (d := d) _ ?_
      refine oq_bd H (fun r21 s22 H => ?_)
      show Y_X11_told d Q 199 [(0, .ref 0), (1, .int a1)] [.int r21] s22
      exact Wp.run 1 ⟨rfl, H⟩
    · have H := oq_f c9 H
      refine Wp.run 3 (show room8 [] ∧ WpM SHC MT (d + 1) 164 [.ref 0, .int 1] s (fun v9 s9 => Y_X11_told d Q 199 [(0, .ref 0), (1, .int a1)] (v9.toList ++ []) s9) from ⟨rm8_ rfl, ?_⟩)
      refine w_X11_answer (d := d) _ ?_
      refine oq_bd H (fun r23 s24 H => ?_)
      show Y_X11_told d Q 199 [(0, .ref 0), (1, .int a1)] [.int r23] s24
      exact Wp.run 1 ⟨rfl, H⟩
  · have H := oq_f c9_0 H; have H := oq_f c9_1 H; have H := oq_f c9_2 H; have H := oq_f c9_3 H; have H := oq_f c9_4 H; have H := oq_f c9_5 H; have H := oq_f c9_6 H; have H := oq_f c9_7 H; have H := oq_f c9_8 H; have H := oq_f c9_9 H; have H := oq_f c9_10 H
    refine Wp.run 3 (show room8 [] ∧ WpM SHC MT (d + 1) 166 [.ref 0, .int 1] s (fun v9 s9 => Y_X11_told d Q 205 [(0, .ref 0), (1, .int a1)] (v9.toList ++ []) s9) from ⟨rm8_ rfl, ?_⟩)
    refine w_X11_refuse (d := d) _ ?_
    refine oq_bd H (fun r25 s26 H => ?_)
    show Y_X11_told d Q 205 [(0, .ref 0), (1, .int a1)] [.int r25] s26
    exact Wp.run 1 ⟨rfl, H⟩
abbrev Y_X11_purse (d : Nat) (Q : Qt) : Xt := Wp SHC (WpM SHC MT (d + 1)) cd_X11_purse (some .int) Q
def f_X11_purse  (s : Sg) : Option (Int32 × Sg) :=
  bd (f_X11_answer (s.1 26 8) s) (fun r1 s2 =>
  some (r1, s2)
  )
set_option maxRecDepth 100000 in
theorem w_X11_purse {d : Nat} {s : Sg} {Q : Qt}  (H : OQ (f_X11_purse  s) (fun r9 s9 => Q (some (.int r9)) s9)) : WpM SHC MT (d + 2) 114 [.ref 0] s Q := by
  refine WpM.enter me_X11_purse rfl rfl ?_
  show Y_X11_purse d Q 0 [(0, .ref 0)] [] s
  unfold f_X11_purse at H
  refine Wp.run 5 (show room8 [] ∧ WpM SHC MT (d + 1) 164 [.ref 0, .int (s.1 26 8)] s (fun v9 s9 => Y_X11_purse d Q 11 [(0, .ref 0)] (v9.toList ++ []) s9) from ⟨rm8_ rfl, ?_⟩)
  refine w_X11_answer (d := d) _ ?_
  refine oq_bd H (fun r1 s2 H => ?_)
  show Y_X11_purse d Q 11 [(0, .ref 0)] [.int r1] s2
  exact Wp.run 1 ⟨rfl, H⟩
abbrev Y_X11_isHouse (d : Nat) (Q : Qt) : Xt := Wp SHC (WpM SHC MT (d + 1)) cd_X11_isHouse (some .boolean) Q
def f_X11_isHouse (a1 : Int32) (s : Sg) : Option (Int32 × Sg) :=
  bd (f_X11_within a1 0 ((s.1 25 13) - 1) s) (fun r1 s2 =>
  ck (r1 = 0 ∨ r1 = 1) (some (r1, s2))
  )
set_option maxRecDepth 100000 in
theorem w_X11_isHouse {d : Nat} {s : Sg} {Q : Qt} (a1 : Int32) (H : OQ (f_X11_isHouse a1 s) (fun r9 s9 => Q (some (.int r9)) s9)) : WpM SHC MT (d + 2) 172 [.ref 0, .int a1] s Q := by
  refine WpM.enter me_X11_isHouse rfl rfl ?_
  show Y_X11_isHouse d Q 0 [(0, .ref 0), (1, .int a1)] [] s
  unfold f_X11_isHouse at H
  refine Wp.run 8 (show room8 [] ∧ WpM SHC MT (d + 1) 169 [.int a1, .int 0, .int ((s.1 25 13) - 1)] s (fun v9 s9 => Y_X11_isHouse d Q 14 [(0, .ref 0), (1, .int a1)] (v9.toList ++ []) s9) from ⟨rm8_ rfl, ?_⟩)
  refine w_X11_within (d := d) _ _ _ ?_
  refine oq_bd H (fun r1 s2 H => ?_)
  show Y_X11_isHouse d Q 14 [(0, .ref 0), (1, .int a1)] [.int r1] s2
  obtain ⟨c9, H⟩ := oq_ck H
  exact Wp.run 1 ⟨b01_n c9, H⟩
abbrev Y_X11_whyNoStep (d : Nat) (Q : Qt) : Xt := Wp SHC (WpM SHC MT (d + 2)) cd_X11_whyNoStep (some .int) Q
def f_X11_whyNoStep (a1 : Int32) (a2 : Int32) (s : Sg) : Option (Int32 × Sg) :=
  bd (f_X11_isHouse a1 s) (fun r1 s2 =>
  if r1 = 0 then
    some (1, s2)
  else
    if a2 = 0 then
      some (1, s2)
    else
      bd (f_X4_isGone a1 s2) (fun r3 s4 =>
      if r3 = 0 then
        some (0, s4)
      else
        some (7, s4)
      )
  )
set_option maxRecDepth 100000 in
theorem w_X11_whyNoStep {d : Nat} {s : Sg} {Q : Qt} (a1 : Int32) (a2 : Int32) (H : OQ (f_X11_whyNoStep a1 a2 s) (fun r9 s9 => Q (some (.int r9)) s9)) : WpM SHC MT (d + 3) 177 [.ref 0, .int a1, .int a2] s Q := by
  refine WpM.enter me_X11_whyNoStep rfl rfl ?_
  show Y_X11_whyNoStep d Q 0 [(0, .ref 0), (1, .int a1), (2, .int a2)] [] s
  unfold f_X11_whyNoStep at H
  refine Wp.run 3 (show room8 [] ∧ WpM SHC MT (d + 2) 172 [.ref 0, .int a1] s (fun v9 s9 => Y_X11_whyNoStep d Q 5 [(0, .ref 0), (1, .int a1), (2, .int a2)] (v9.toList ++ []) s9) from ⟨rm8_ rfl, ?_⟩)
  refine w_X11_isHouse (d := d) _ ?_
  refine oq_bd H (fun r1 s2 H => ?_)
  show Y_X11_whyNoStep d Q 5 [(0, .ref 0), (1, .int a1), (2, .int a2)] [.int r1] s2
  refine Wp.run 1 (show br (r1 = 0) (Y_X11_whyNoStep d Q 12 [(0, .ref 0), (1, .int a1), (2, .int a2)] [] s2) (Y_X11_whyNoStep d Q 8 [(0, .ref 0), (1, .int a1), (2, .int a2)] [] s2) from ⟨fun c9 => ?_, fun c9 => ?_⟩)
  · have H := oq_t c9 H
    exact Wp.run 2 ⟨rfl, H⟩
  · have H := oq_f c9 H
    refine Wp.run 2 (show br (a2 = 0) (Y_X11_whyNoStep d Q 12 [(0, .ref 0), (1, .int a1), (2, .int a2)] [] s2) (Y_X11_whyNoStep d Q 14 [(0, .ref 0), (1, .int a1), (2, .int a2)] [] s2) from ⟨fun c9 => ?_, fun c9 => ?_⟩)
    · have H := oq_t c9 H
      exact Wp.run 2 ⟨rfl, H⟩
    · have H := oq_f c9 H
      refine Wp.run 4 (show room8 [] ∧ WpM SHC MT (d + 2) 55 [.ref 25, .int a1] s2 (fun v9 s9 => Y_X11_whyNoStep d Q 22 [(0, .ref 0), (1, .int a1), (2, .int a2)] (v9.toList ++ []) s9) from ⟨rm8_ rfl, ?_⟩)
      refine w_X4_isGone (d := d + 1) _ ?_
      refine oq_bd H (fun r3 s4 H => ?_)
      show Y_X11_whyNoStep d Q 22 [(0, .ref 0), (1, .int a1), (2, .int a2)] [.int r3] s4
      refine Wp.run 1 (show br (r3 = 0) (Y_X11_whyNoStep d Q 30 [(0, .ref 0), (1, .int a1), (2, .int a2)] [] s4) (Y_X11_whyNoStep d Q 25 [(0, .ref 0), (1, .int a1), (2, .int a2)] [] s4) from ⟨fun c9 => ?_, fun c9 => ?_⟩)
      · have H := oq_t c9 H
        exact Wp.run 2 ⟨rfl, H⟩
      · have H := oq_f c9 H
        exact Wp.run 3 ⟨rfl, H⟩
abbrev Y_X11_step (d : Nat) (Q : Qt) : Xt := Wp SHC (WpM SHC MT (d + 3)) cd_X11_step (some .int) Q
def f_X11_step (a1 : Int32) (a2 : Int32) (s : Sg) : Option (Int32 × Sg) :=
  bd (f_X11_within a2 0 3 s) (fun r1 s2 =>
  bd (f_X11_whyNoStep a1 r1 s2) (fun r3 s4 =>
  if r3 = 0 then
    if a2 = 3 then
      ck (inr a1 8) (
      bd (f_X11_answer (s4.1 34 a1.toNatClampNeg) s4) (fun r6 s7 =>
      some (r6, s7)
      )
      )
    else
      if a2 = 0 then
        ck (inr a1 8) (
        bd (f_X11_answer (s4.1 40 a1.toNatClampNeg) s4) (fun r9 s10 =>
        some (r9, s10)
        )
        )
      else
        if a2 = 1 then
          ck (inr a1 8) (
          bd (f_X11_answer (s4.1 41 a1.toNatClampNeg) s4) (fun r12 s13 =>
          some (r12, s13)
          )
          )
        else
          ck (inr a1 8) (
          bd (f_X11_answer (s4.1 42 a1.toNatClampNeg) s4) (fun r15 s16 =>
          some (r15, s16)
          )
          )
  else
    bd (f_X11_refuse r3 s4) (fun r17 s18 =>
    some (r17, s18)
    )
  )
  )
set_option maxRecDepth 100000 in
theorem w_X11_step {d : Nat} {s : Sg} {Q : Qt} (a1 : Int32) (a2 : Int32) (H : OQ (f_X11_step a1 a2 s) (fun r9 s9 => Q (some (.int r9)) s9)) : WpM SHC MT (d + 4) 115 [.ref 0, .int a1, .int a2] s Q := by
  refine WpM.enter me_X11_step rfl rfl ?_
  show Y_X11_step d Q 0 [(0, .ref 0), (1, .int a1), (2, .int a2)] [] s
  unfold f_X11_step at H
  refine Wp.run 6 (show room8 [.int a1, .ref 0] ∧ WpM SHC MT (d + 3) 169 [.int a2, .int 0, .int 3] s (fun v9 s9 => Y_X11_step d Q 8 [(0, .ref 0), (1, .int a1), (2, .int a2)] (v9.toList ++ [.int a1, .ref 0]) s9) from ⟨rm8_ rfl, ?_⟩)
  refine w_X11_within (d := d + 2) _ _ _ ?_
  refine oq_bd H (fun r1 s2 H => ?_)
  show Y_X11_step d Q 8 [(0, .ref 0), (1, .int a1), (2, .int a2)] [.int r1, .int a1, .ref 0] s2
  refine Wp.run 1 (show room8 [] ∧ WpM SHC MT (d + 3) 177 [.ref 0, .int a1, .int r1] s2 (fun v9 s9 => Y_X11_step d Q 11 [(0, .ref 0), (1, .int a1), (2, .int a2)] (v9.toList ++ []) s9) from ⟨rm8_ rfl, ?_⟩)
  refine w_X11_whyNoStep (d := d) _ _ ?_
  refine oq_bd H (fun r3 s4 H => ?_)
  show Y_X11_step d Q 11 [(0, .ref 0), (1, .int a1), (2, .int a2)] [.int r3] s4
  refine Wp.run 3 (show br (r3 = 0) (Y_X11_step d Q 22 [(3, .int r3), (0, .ref 0), (1, .int a1), (2, .int a2)] [] s4) (Y_X11_step d Q 16 [(3, .int r3), (0, .ref 0), (1, .int a1), (2, .int a2)] [] s4) from ⟨fun c9 => ?_, fun c9 => ?_⟩)
  · have H := oq_t c9 H
    refine Wp.run 4 (show br (a2 = 3) (Y_X11_step d Q 28 [(3, .int r3), (0, .ref 0), (1, .int a1), (2, .int a2)] [.ref 0] s4) (Y_X11_step d Q 40 [(3, .int r3), (0, .ref 0), (1, .int a1), (2, .int a2)] [.ref 0] s4) from ⟨fun c9 => ?_, fun c9 => ?_⟩)
    · have H := oq_t c9 H
      obtain ⟨hc5, H⟩ := oq_ck H
      refine Wp.run 5 (show (vp_in a1 8) ∧ Y_X11_step d Q 37 [(3, .int r3), (0, .ref 0), (1, .int a1), (2, .int a2)] [.int (s4.1 34 a1.toNatClampNeg), .ref 0] s4 from ⟨hc5, ?_⟩)
      refine Wp.run 2 (show room8 [] ∧ WpM SHC MT (d + 3) 164 [.ref 0, .int (s4.1 34 a1.toNatClampNeg)] s4 (fun v9 s9 => Y_X11_step d Q 53 [(3, .int r3), (0, .ref 0), (1, .int a1), (2, .int a2)] (v9.toList ++ []) s9) from ⟨rm8_ rfl, ?_⟩)
      refine w_X11_answer (d := d + 2) _ ?_
      refine oq_bd H (fun r6 s7 H => ?_)
      show Y_X11_step d Q 53 [(3, .int r3), (0, .ref 0), (1, .int a1), (2, .int a2)] [.int r6] s7
      exact Wp.run 1 ⟨rfl, H⟩
    · have H := oq_f c9 H
      refine Wp.run 4 (show room8 [.ref 0] ∧ WpM SHC MT (d + 3) 22 [.ref 26, .int a2] s4 (fun v9 s9 => Y_X11_step d Q 48 [(3, .int r3), (0, .ref 0), (1, .int a1), (2, .int a2)] (v9.toList ++ [.ref 0]) s9) from ⟨rm8_ rfl, ?_⟩)
      refine WpM.enter me_X2_row rfl rfl ?_
      refine Wp.run 2 (show br (a2 = 0) (Wp SHC _ cd_X2_row _ _ 4 [(0, .ref 26), (1, .int a2)] [] s4) (Wp SHC _ cd_X2_row _ _ 9 [(0, .ref 26), (1, .int a2)] [] s4) from ⟨fun c9 => ?_, fun c9 => ?_⟩)
      · have H := oq_t c9 H
        refine Wp.run 3 (show Y_X11_step d Q 48 [(3, .int r3), (0, .ref 0), (1, .int a1), (2, .int a2)] [.ref 40, .ref 0] s4 from ?_)
        obtain ⟨hc8, H⟩ := oq_ck H
        refine Wp.run 2 (show (vp_in a1 8) ∧ Y_X11_step d Q 50 [(3, .int r3), (0, .ref 0), (1, .int a1), (2, .int a2)] [.int (s4.1 40 a1.toNatClampNeg), .ref 0] s4 from ⟨hc8, ?_⟩)
        refine Wp.run 1 (show room8 [] ∧ WpM SHC MT (d + 3) 164 [.ref 0, .int (s4.1 40 a1.toNatClampNeg)] s4 (fun v9 s9 => Y_X11_step d Q 53 [(3, .int r3), (0, .ref 0), (1, .int a1), (2, .int a2)] (v9.toList ++ []) s9) from ⟨rm8_ rfl, ?_⟩)
        refine w_X11_answer (d := d + 2) _ ?_
        refine oq_bd H (fun r9 s10 H => ?_)
        show Y_X11_step d Q 53 [(3, .int r3), (0, .ref 0), (1, .int a1), (2, .int a2)] [.int r9] s10
        exact Wp.run 1 ⟨rfl, H⟩
      · have H := oq_f c9 H
        refine Wp.run 3 (show br (a2 = 1) (Wp SHC _ cd_X2_row _ _ 14 [(0, .ref 26), (1, .int a2)] [] s4) (Wp SHC _ cd_X2_row _ _ 21 [(0, .ref 26), (1, .int a2)] [] s4) from ⟨fun c9 => ?_, fun c9 => ?_⟩)
        · have H := oq_t c9 H
          refine Wp.run 4 (show Y_X11_step d Q 48 [(3, .int r3), (0, .ref 0), (1, .int a1), (2, .int a2)] [.ref 41, .ref 0] s4 from ?_)
          obtain ⟨hc11, H⟩ := oq_ck H
          refine Wp.run 2 (show (vp_in a1 8) ∧ Y_X11_step d Q 50 [(3, .int r3), (0, .ref 0), (1, .int a1), (2, .int a2)] [.int (s4.1 41 a1.toNatClampNeg), .ref 0] s4 from ⟨hc11, ?_⟩)
          refine Wp.run 1 (show room8 [] ∧ WpM SHC MT (d + 3) 164 [.ref 0, .int (s4.1 41 a1.toNatClampNeg)] s4 (fun v9 s9 => Y_X11_step d Q 53 [(3, .int r3), (0, .ref 0), (1, .int a1), (2, .int a2)] (v9.toList ++ []) s9) from ⟨rm8_ rfl, ?_⟩)
          refine w_X11_answer (d := d + 2) _ ?_
          refine oq_bd H (fun r12 s13 H => ?_)
          show Y_X11_step d Q 53 [(3, .int r3), (0, .ref 0), (1, .int a1), (2, .int a2)] [.int r12] s13
          exact Wp.run 1 ⟨rfl, H⟩
        · have H := oq_f c9 H
          refine Wp.run 3 (show Y_X11_step d Q 48 [(3, .int r3), (0, .ref 0), (1, .int a1), (2, .int a2)] [.ref 42, .ref 0] s4 from ?_)
          obtain ⟨hc14, H⟩ := oq_ck H
          refine Wp.run 2 (show (vp_in a1 8) ∧ Y_X11_step d Q 50 [(3, .int r3), (0, .ref 0), (1, .int a1), (2, .int a2)] [.int (s4.1 42 a1.toNatClampNeg), .ref 0] s4 from ⟨hc14, ?_⟩)
          refine Wp.run 1 (show room8 [] ∧ WpM SHC MT (d + 3) 164 [.ref 0, .int (s4.1 42 a1.toNatClampNeg)] s4 (fun v9 s9 => Y_X11_step d Q 53 [(3, .int r3), (0, .ref 0), (1, .int a1), (2, .int a2)] (v9.toList ++ []) s9) from ⟨rm8_ rfl, ?_⟩)
          refine w_X11_answer (d := d + 2) _ ?_
          refine oq_bd H (fun r15 s16 H => ?_)
          show Y_X11_step d Q 53 [(3, .int r3), (0, .ref 0), (1, .int a1), (2, .int a2)] [.int r15] s16
          exact Wp.run 1 ⟨rfl, H⟩
  · have H := oq_f c9 H
    refine Wp.run 3 (show room8 [] ∧ WpM SHC MT (d + 3) 166 [.ref 0, .int r3] s4 (fun v9 s9 => Y_X11_step d Q 21 [(3, .int r3), (0, .ref 0), (1, .int a1), (2, .int a2)] (v9.toList ++ []) s9) from ⟨rm8_ rfl, ?_⟩)
    refine w_X11_refuse (d := d + 2) _ ?_
    refine oq_bd H (fun r17 s18 H => ?_)
    show Y_X11_step d Q 21 [(3, .int r3), (0, .ref 0), (1, .int a1), (2, .int a2)] [.int r17] s18
    exact Wp.run 1 ⟨rfl, H⟩
abbrev Y_X11_isQuarrel (d : Nat) (Q : Qt) : Xt := Wp SHC (WpM SHC MT (d + 1)) cd_X11_isQuarrel (some .boolean) Q
def f_X11_isQuarrel (a1 : Int32) (s : Sg) : Option (Int32 × Sg) :=
  bd (f_X11_within a1 0 ((s.1 25 14) - 1) s) (fun r1 s2 =>
  ck (r1 = 0 ∨ r1 = 1) (some (r1, s2))
  )
set_option maxRecDepth 100000 in
theorem w_X11_isQuarrel {d : Nat} {s : Sg} {Q : Qt} (a1 : Int32) (H : OQ (f_X11_isQuarrel a1 s) (fun r9 s9 => Q (some (.int r9)) s9)) : WpM SHC MT (d + 2) 173 [.ref 0, .int a1] s Q := by
  refine WpM.enter me_X11_isQuarrel rfl rfl ?_
  show Y_X11_isQuarrel d Q 0 [(0, .ref 0), (1, .int a1)] [] s
  unfold f_X11_isQuarrel at H
  refine Wp.run 8 (show room8 [] ∧ WpM SHC MT (d + 1) 169 [.int a1, .int 0, .int ((s.1 25 14) - 1)] s (fun v9 s9 => Y_X11_isQuarrel d Q 14 [(0, .ref 0), (1, .int a1)] (v9.toList ++ []) s9) from ⟨rm8_ rfl, ?_⟩)
  refine w_X11_within (d := d) _ _ _ ?_
  refine oq_bd H (fun r1 s2 H => ?_)
  show Y_X11_isQuarrel d Q 14 [(0, .ref 0), (1, .int a1)] [.int r1] s2
  obtain ⟨c9, H⟩ := oq_ck H
  exact Wp.run 1 ⟨b01_n c9, H⟩
abbrev Y_X11_quarrel (d : Nat) (Q : Qt) : Xt := Wp SHC (WpM SHC MT (d + 2)) cd_X11_quarrel (some .int) Q
def f_X11_quarrel (a1 : Int32) (a2 : Int32) (s : Sg) : Option (Int32 × Sg) :=
  bd (f_X11_isQuarrel a1 s) (fun r1 s2 =>
  if r1 = 0 then
    bd (f_X11_refuse 1 s2) (fun r3 s4 =>
    some (r3, s4)
    )
  else
    if a2 = 0 then
      ck (inr a1 8) (
      bd (f_X11_answer (s2.1 31 a1.toNatClampNeg) s2) (fun r6 s7 =>
      some (r6, s7)
      )
      )
    else
    if a2 = 1 then
      ck (inr a1 8) (
      bd (f_X11_answer (s2.1 32 a1.toNatClampNeg) s2) (fun r9 s10 =>
      some (r9, s10)
      )
      )
    else
    if a2 = 2 then
      ck (inr a1 8) (
      bd (f_X11_answer (s2.1 33 a1.toNatClampNeg) s2) (fun r12 s13 =>
      some (r12, s13)
      )
      )
    else
    if a2 = 3 then
      bd (f_X11_answer (((s2.1 26 5) >>> (a1 &&& 31)) &&& 1) s2) (fun r14 s15 =>
      some (r14, s15)
      )
    else
    if a2 = 4 then
      ck (inr a1 8) (
      bd (f_X11_answer (s2.1 43 a1.toNatClampNeg) s2) (fun r17 s18 =>
      some (r17, s18)
      )
      )
    else
      bd (f_X11_refuse 1 s2) (fun r19 s20 =>
      some (r19, s20)
      )
  )
set_option maxRecDepth 100000 in
theorem w_X11_quarrel {d : Nat} {s : Sg} {Q : Qt} (a1 : Int32) (a2 : Int32) (H : OQ (f_X11_quarrel a1 a2 s) (fun r9 s9 => Q (some (.int r9)) s9)) : WpM SHC MT (d + 3) 116 [.ref 0, .int a1, .int a2] s Q := by
  refine WpM.enter me_X11_quarrel rfl rfl ?_
  show Y_X11_quarrel d Q 0 [(0, .ref 0), (1, .int a1), (2, .int a2)] [] s
  unfold f_X11_quarrel at H
  refine Wp.run 3 (show room8 [] ∧ WpM SHC MT (d + 2) 173 [.ref 0, .int a1] s (fun v9 s9 => Y_X11_quarrel d Q 5 [(0, .ref 0), (1, .int a1), (2, .int a2)] (v9.toList ++ []) s9) from ⟨rm8_ rfl, ?_⟩)
  refine w_X11_isQuarrel (d := d) _ ?_
  refine oq_bd H (fun r1 s2 H => ?_)
  show Y_X11_quarrel d Q 5 [(0, .ref 0), (1, .int a1), (2, .int a2)] [.int r1] s2
  refine Wp.run 1 (show br (r1 = 0) (Y_X11_quarrel d Q 8 [(0, .ref 0), (1, .int a1), (2, .int a2)] [] s2) (Y_X11_quarrel d Q 14 [(0, .ref 0), (1, .int a1), (2, .int a2)] [] s2) from ⟨fun c9 => ?_, fun c9 => ?_⟩)
  · have H := oq_t c9 H
    refine Wp.run 3 (show room8 [] ∧ WpM SHC MT (d + 2) 166 [.ref 0, .int 1] s2 (fun v9 s9 => Y_X11_quarrel d Q 13 [(0, .ref 0), (1, .int a1), (2, .int a2)] (v9.toList ++ []) s9) from ⟨rm8_ rfl, ?_⟩)
    refine w_X11_refuse (d := d + 1) _ ?_
    refine oq_bd H (fun r3 s4 H => ?_)
    show Y_X11_quarrel d Q 13 [(0, .ref 0), (1, .int a1), (2, .int a2)] [.int r3] s4
    exact Wp.run 1 ⟨rfl, H⟩
  · have H := oq_f c9 H
    refine Wp.run 2 (show (a2 = 0 → Y_X11_quarrel d Q 48 [(0, .ref 0), (1, .int a1), (2, .int a2)] [] s2) ∧ (¬ a2 = 0 → (a2 = 1 → Y_X11_quarrel d Q 62 [(0, .ref 0), (1, .int a1), (2, .int a2)] [] s2) ∧ (¬ a2 = 1 → (a2 = 2 → Y_X11_quarrel d Q 76 [(0, .ref 0), (1, .int a1), (2, .int a2)] [] s2) ∧ (¬ a2 = 2 → (a2 = 3 → Y_X11_quarrel d Q 90 [(0, .ref 0), (1, .int a1), (2, .int a2)] [] s2) ∧ (¬ a2 = 3 → (a2 = 4 → Y_X11_quarrel d Q 106 [(0, .ref 0), (1, .int a1), (2, .int a2)] [] s2) ∧ (¬ a2 = 4 → Y_X11_quarrel d Q 120 [(0, .ref 0), (1, .int a1), (2, .int a2)] [] s2))))) from ⟨fun e9 => ?_, fun c9_0 => ⟨fun e9 => ?_, fun c9_1 => ⟨fun e9 => ?_, fun c9_2 => ⟨fun e9 => ?_, fun c9_3 => ⟨fun e9 => ?_, fun c9_4 => ?_⟩⟩⟩⟩⟩)
    · have H := oq_t e9 H
      obtain ⟨hc5, H⟩ := oq_ck H
      refine Wp.run 6 (show (vp_in a1 8) ∧ Y_X11_quarrel d Q 58 [(0, .ref 0), (1, .int a1), (2, .int a2)] [.int (s2.1 31 a1.toNatClampNeg), .ref 0] s2 from ⟨hc5, ?_⟩)
      refine Wp.run 1 (show room8 [] ∧ WpM SHC MT (d + 2) 164 [.ref 0, .int (s2.1 31 a1.toNatClampNeg)] s2 (fun v9 s9 => Y_X11_quarrel d Q 61 [(0, .ref 0), (1, .int a1), (2, .int a2)] (v9.toList ++ []) s9) from ⟨rm8_ rfl, ?_⟩)
      refine w_X11_answer (d := d + 1) _ ?_
      refine oq_bd H (fun r6 s7 H => ?_)
      show Y_X11_quarrel d Q 61 [(0, .ref 0), (1, .int a1), (2, .int a2)] [.int r6] s7
      exact Wp.run 1 ⟨rfl, H⟩
    · have H := oq_f c9_0 H; have H := oq_t e9 H
      obtain ⟨hc8, H⟩ := oq_ck H
      refine Wp.run 6 (show (vp_in a1 8) ∧ Y_X11_quarrel d Q 72 [(0, .ref 0), (1, .int a1), (2, .int a2)] [.int (s2.1 32 a1.toNatClampNeg), .ref 0] s2 from ⟨hc8, ?_⟩)
      refine Wp.run 1 (show room8 [] ∧ WpM SHC MT (d + 2) 164 [.ref 0, .int (s2.1 32 a1.toNatClampNeg)] s2 (fun v9 s9 => Y_X11_quarrel d Q 75 [(0, .ref 0), (1, .int a1), (2, .int a2)] (v9.toList ++ []) s9) from ⟨rm8_ rfl, ?_⟩)
      refine w_X11_answer (d := d + 1) _ ?_
      refine oq_bd H (fun r9 s10 H => ?_)
      show Y_X11_quarrel d Q 75 [(0, .ref 0), (1, .int a1), (2, .int a2)] [.int r9] s10
      exact Wp.run 1 ⟨rfl, H⟩
    · have H := oq_f c9_0 H; have H := oq_f c9_1 H; have H := oq_t e9 H
      obtain ⟨hc11, H⟩ := oq_ck H
      refine Wp.run 6 (show (vp_in a1 8) ∧ Y_X11_quarrel d Q 86 [(0, .ref 0), (1, .int a1), (2, .int a2)] [.int (s2.1 33 a1.toNatClampNeg), .ref 0] s2 from ⟨hc11, ?_⟩)
      refine Wp.run 1 (show room8 [] ∧ WpM SHC MT (d + 2) 164 [.ref 0, .int (s2.1 33 a1.toNatClampNeg)] s2 (fun v9 s9 => Y_X11_quarrel d Q 89 [(0, .ref 0), (1, .int a1), (2, .int a2)] (v9.toList ++ []) s9) from ⟨rm8_ rfl, ?_⟩)
      refine w_X11_answer (d := d + 1) _ ?_
      refine oq_bd H (fun r12 s13 H => ?_)
      show Y_X11_quarrel d Q 89 [(0, .ref 0), (1, .int a1), (2, .int a2)] [.int r12] s13
      exact Wp.run 1 ⟨rfl, H⟩
    · have H := oq_f c9_0 H; have H := oq_f c9_1 H; have H := oq_f c9_2 H; have H := oq_t e9 H
      refine Wp.run 9 (show room8 [] ∧ WpM SHC MT (d + 2) 164 [.ref 0, .int (((s2.1 26 5) >>> (a1 &&& 31)) &&& 1)] s2 (fun v9 s9 => Y_X11_quarrel d Q 105 [(0, .ref 0), (1, .int a1), (2, .int a2)] (v9.toList ++ []) s9) from ⟨rm8_ rfl, ?_⟩)
      refine w_X11_answer (d := d + 1) _ ?_
      refine oq_bd H (fun r14 s15 H => ?_)
      show Y_X11_quarrel d Q 105 [(0, .ref 0), (1, .int a1), (2, .int a2)] [.int r14] s15
      exact Wp.run 1 ⟨rfl, H⟩
    · have H := oq_f c9_0 H; have H := oq_f c9_1 H; have H := oq_f c9_2 H; have H := oq_f c9_3 H; have H := oq_t e9 H
      obtain ⟨hc16, H⟩ := oq_ck H
      refine Wp.run 6 (show (vp_in a1 8) ∧ Y_X11_quarrel d Q 116 [(0, .ref 0), (1, .int a1), (2, .int a2)] [.int (s2.1 43 a1.toNatClampNeg), .ref 0] s2 from ⟨hc16, ?_⟩)
      refine Wp.run 1 (show room8 [] ∧ WpM SHC MT (d + 2) 164 [.ref 0, .int (s2.1 43 a1.toNatClampNeg)] s2 (fun v9 s9 => Y_X11_quarrel d Q 119 [(0, .ref 0), (1, .int a1), (2, .int a2)] (v9.toList ++ []) s9) from ⟨rm8_ rfl, ?_⟩)
      refine w_X11_answer (d := d + 1) _ ?_
      refine oq_bd H (fun r17 s18 H => ?_)
      show Y_X11_quarrel d Q 119 [(0, .ref 0), (1, .int a1), (2, .int a2)] [.int r17] s18
      exact Wp.run 1 ⟨rfl, H⟩
    · have H := oq_f c9_0 H; have H := oq_f c9_1 H; have H := oq_f c9_2 H; have H := oq_f c9_3 H; have H := oq_f c9_4 H
      refine Wp.run 3 (show room8 [] ∧ WpM SHC MT (d + 2) 166 [.ref 0, .int 1] s2 (fun v9 s9 => Y_X11_quarrel d Q 125 [(0, .ref 0), (1, .int a1), (2, .int a2)] (v9.toList ++ []) s9) from ⟨rm8_ rfl, ?_⟩)
      refine w_X11_refuse (d := d + 1) _ ?_
      refine oq_bd H (fun r19 s20 H => ?_)
      show Y_X11_quarrel d Q 125 [(0, .ref 0), (1, .int a1), (2, .int a2)] [.int r19] s20
      exact Wp.run 1 ⟨rfl, H⟩
abbrev Y_X11_isGrocer (d : Nat) (Q : Qt) : Xt := Wp SHC (WpM SHC MT (d + 1)) cd_X11_isGrocer (some .boolean) Q
def f_X11_isGrocer (a1 : Int32) (s : Sg) : Option (Int32 × Sg) :=
  bd (f_X11_within a1 0 ((s.1 25 16) - 1) s) (fun r1 s2 =>
  ck (r1 = 0 ∨ r1 = 1) (some (r1, s2))
  )
set_option maxRecDepth 100000 in
theorem w_X11_isGrocer {d : Nat} {s : Sg} {Q : Qt} (a1 : Int32) (H : OQ (f_X11_isGrocer a1 s) (fun r9 s9 => Q (some (.int r9)) s9)) : WpM SHC MT (d + 2) 174 [.ref 0, .int a1] s Q := by
  refine WpM.enter me_X11_isGrocer rfl rfl ?_
  show Y_X11_isGrocer d Q 0 [(0, .ref 0), (1, .int a1)] [] s
  unfold f_X11_isGrocer at H
  refine Wp.run 8 (show room8 [] ∧ WpM SHC MT (d + 1) 169 [.int a1, .int 0, .int ((s.1 25 16) - 1)] s (fun v9 s9 => Y_X11_isGrocer d Q 14 [(0, .ref 0), (1, .int a1)] (v9.toList ++ []) s9) from ⟨rm8_ rfl, ?_⟩)
  refine w_X11_within (d := d) _ _ _ ?_
  refine oq_bd H (fun r1 s2 H => ?_)
  show Y_X11_isGrocer d Q 14 [(0, .ref 0), (1, .int a1)] [.int r1] s2
  obtain ⟨c9, H⟩ := oq_ck H
  exact Wp.run 1 ⟨b01_n c9, H⟩
abbrev Y_X11_grocer (d : Nat) (Q : Qt) : Xt := Wp SHC (WpM SHC MT (d + 2)) cd_X11_grocer (some .int) Q
def f_X11_grocer (a1 : Int32) (a2 : Int32) (s : Sg) : Option (Int32 × Sg) :=
  bd (f_X11_isGrocer a1 s) (fun r1 s2 =>
  if r1 = 0 then
    bd (f_X11_refuse 1 s2) (fun r3 s4 =>
    some (r3, s4)
    )
  else
    if a2 = 0 then
      ck (inr a1 4) (
      bd (f_X11_answer (s2.1 44 a1.toNatClampNeg) s2) (fun r6 s7 =>
      some (r6, s7)
      )
      )
    else
    if a2 = 1 then
      ck (inr a1 4) (
      bd (f_X11_answer (s2.1 38 a1.toNatClampNeg) s2) (fun r9 s10 =>
      some (r9, s10)
      )
      )
    else
    if a2 = 2 then
      ck (inr a1 4) (
      bd (f_X11_answer (s2.1 39 a1.toNatClampNeg) s2) (fun r12 s13 =>
      some (r12, s13)
      )
      )
    else
      bd (f_X11_refuse 1 s2) (fun r14 s15 =>
      some (r14, s15)
      )
  )
set_option maxRecDepth 100000 in
theorem w_X11_grocer {d : Nat} {s : Sg} {Q : Qt} (a1 : Int32) (a2 : Int32) (H : OQ (f_X11_grocer a1 a2 s) (fun r9 s9 => Q (some (.int r9)) s9)) : WpM SHC MT (d + 3) 117 [.ref 0, .int a1, .int a2] s Q := by
  refine WpM.enter me_X11_grocer rfl rfl ?_
  show Y_X11_grocer d Q 0 [(0, .ref 0), (1, .int a1), (2, .int a2)] [] s
  unfold f_X11_grocer at H
  refine Wp.run 3 (show room8 [] ∧ WpM SHC MT (d + 2) 174 [.ref 0, .int a1] s (fun v9 s9 => Y_X11_grocer d Q 5 [(0, .ref 0), (1, .int a1), (2, .int a2)] (v9.toList ++ []) s9) from ⟨rm8_ rfl, ?_⟩)
  refine w_X11_isGrocer (d := d) _ ?_
  refine oq_bd H (fun r1 s2 H => ?_)
  show Y_X11_grocer d Q 5 [(0, .ref 0), (1, .int a1), (2, .int a2)] [.int r1] s2
  refine Wp.run 1 (show br (r1 = 0) (Y_X11_grocer d Q 8 [(0, .ref 0), (1, .int a1), (2, .int a2)] [] s2) (Y_X11_grocer d Q 14 [(0, .ref 0), (1, .int a1), (2, .int a2)] [] s2) from ⟨fun c9 => ?_, fun c9 => ?_⟩)
  · have H := oq_t c9 H
    refine Wp.run 3 (show room8 [] ∧ WpM SHC MT (d + 2) 166 [.ref 0, .int 1] s2 (fun v9 s9 => Y_X11_grocer d Q 13 [(0, .ref 0), (1, .int a1), (2, .int a2)] (v9.toList ++ []) s9) from ⟨rm8_ rfl, ?_⟩)
    refine w_X11_refuse (d := d + 1) _ ?_
    refine oq_bd H (fun r3 s4 H => ?_)
    show Y_X11_grocer d Q 13 [(0, .ref 0), (1, .int a1), (2, .int a2)] [.int r3] s4
    exact Wp.run 1 ⟨rfl, H⟩
  · have H := oq_f c9 H
    refine Wp.run 2 (show (a2 = 0 → Y_X11_grocer d Q 40 [(0, .ref 0), (1, .int a1), (2, .int a2)] [] s2) ∧ (¬ a2 = 0 → (a2 = 1 → Y_X11_grocer d Q 54 [(0, .ref 0), (1, .int a1), (2, .int a2)] [] s2) ∧ (¬ a2 = 1 → (a2 = 2 → Y_X11_grocer d Q 68 [(0, .ref 0), (1, .int a1), (2, .int a2)] [] s2) ∧ (¬ a2 = 2 → Y_X11_grocer d Q 82 [(0, .ref 0), (1, .int a1), (2, .int a2)] [] s2))) from ⟨fun e9 => ?_, fun c9_0 => ⟨fun e9 => ?_, fun c9_1 => ⟨fun e9 => ?_, fun c9_2 => ?_⟩⟩⟩)
    · have H := oq_t e9 H
      obtain ⟨hc5, H⟩ := oq_ck H
      refine Wp.run 6 (show (vp_in a1 4) ∧ Y_X11_grocer d Q 50 [(0, .ref 0), (1, .int a1), (2, .int a2)] [.int (s2.1 44 a1.toNatClampNeg), .ref 0] s2 from ⟨hc5, ?_⟩)
      refine Wp.run 1 (show room8 [] ∧ WpM SHC MT (d + 2) 164 [.ref 0, .int (s2.1 44 a1.toNatClampNeg)] s2 (fun v9 s9 => Y_X11_grocer d Q 53 [(0, .ref 0), (1, .int a1), (2, .int a2)] (v9.toList ++ []) s9) from ⟨rm8_ rfl, ?_⟩)
      refine w_X11_answer (d := d + 1) _ ?_
      refine oq_bd H (fun r6 s7 H => ?_)
      show Y_X11_grocer d Q 53 [(0, .ref 0), (1, .int a1), (2, .int a2)] [.int r6] s7
      exact Wp.run 1 ⟨rfl, H⟩
    · have H := oq_f c9_0 H; have H := oq_t e9 H
      obtain ⟨hc8, H⟩ := oq_ck H
      refine Wp.run 6 (show (vp_in a1 4) ∧ Y_X11_grocer d Q 64 [(0, .ref 0), (1, .int a1), (2, .int a2)] [.int (s2.1 38 a1.toNatClampNeg), .ref 0] s2 from ⟨hc8, ?_⟩)
      refine Wp.run 1 (show room8 [] ∧ WpM SHC MT (d + 2) 164 [.ref 0, .int (s2.1 38 a1.toNatClampNeg)] s2 (fun v9 s9 => Y_X11_grocer d Q 67 [(0, .ref 0), (1, .int a1), (2, .int a2)] (v9.toList ++ []) s9) from ⟨rm8_ rfl, ?_⟩)
      refine w_X11_answer (d := d + 1) _ ?_
      refine oq_bd H (fun r9 s10 H => ?_)
      show Y_X11_grocer d Q 67 [(0, .ref 0), (1, .int a1), (2, .int a2)] [.int r9] s10
      exact Wp.run 1 ⟨rfl, H⟩
    · have H := oq_f c9_0 H; have H := oq_f c9_1 H; have H := oq_t e9 H
      obtain ⟨hc11, H⟩ := oq_ck H
      refine Wp.run 6 (show (vp_in a1 4) ∧ Y_X11_grocer d Q 78 [(0, .ref 0), (1, .int a1), (2, .int a2)] [.int (s2.1 39 a1.toNatClampNeg), .ref 0] s2 from ⟨hc11, ?_⟩)
      refine Wp.run 1 (show room8 [] ∧ WpM SHC MT (d + 2) 164 [.ref 0, .int (s2.1 39 a1.toNatClampNeg)] s2 (fun v9 s9 => Y_X11_grocer d Q 81 [(0, .ref 0), (1, .int a1), (2, .int a2)] (v9.toList ++ []) s9) from ⟨rm8_ rfl, ?_⟩)
      refine w_X11_answer (d := d + 1) _ ?_
      refine oq_bd H (fun r12 s13 H => ?_)
      show Y_X11_grocer d Q 81 [(0, .ref 0), (1, .int a1), (2, .int a2)] [.int r12] s13
      exact Wp.run 1 ⟨rfl, H⟩
    · have H := oq_f c9_0 H; have H := oq_f c9_1 H; have H := oq_f c9_2 H
      refine Wp.run 3 (show room8 [] ∧ WpM SHC MT (d + 2) 166 [.ref 0, .int 1] s2 (fun v9 s9 => Y_X11_grocer d Q 87 [(0, .ref 0), (1, .int a1), (2, .int a2)] (v9.toList ++ []) s9) from ⟨rm8_ rfl, ?_⟩)
      refine w_X11_refuse (d := d + 1) _ ?_
      refine oq_bd H (fun r14 s15 H => ?_)
      show Y_X11_grocer d Q 87 [(0, .ref 0), (1, .int a1), (2, .int a2)] [.int r14] s15
      exact Wp.run 1 ⟨rfl, H⟩
abbrev Y_X2_lying (d : Nat) (Q : Qt) : Xt := Wp SHC (WpM SHC MT (d + 0)) cd_X2_lying (some .int) Q
def f_X2_lying (a1 : Int32) (s : Sg) : Option (Int32 × Sg) :=
  ck (inr a1 8) (
  some ((s.1 40 a1.toNatClampNeg) + (s.1 41 a1.toNatClampNeg), s)
  )
set_option maxRecDepth 100000 in
theorem w_X2_lying {d : Nat} {s : Sg} {Q : Qt} (a1 : Int32) (H : OQ (f_X2_lying a1 s) (fun r9 s9 => Q (some (.int r9)) s9)) : WpM SHC MT (d + 1) 23 [.ref 26, .int a1] s Q := by
  refine WpM.enter me_X2_lying rfl rfl ?_
  show Y_X2_lying d Q 0 [(0, .ref 26), (1, .int a1)] [] s
  unfold f_X2_lying at H
  obtain ⟨hc1, H⟩ := oq_ck H
  refine Wp.run 4 (show (vp_in a1 8) ∧ Y_X2_lying d Q 6 [(0, .ref 26), (1, .int a1)] [.int (s.1 40 a1.toNatClampNeg)] s from ⟨hc1, ?_⟩)
  refine Wp.run 4 (show (vp_in a1 8) ∧ Y_X2_lying d Q 12 [(0, .ref 26), (1, .int a1)] [.int (s.1 41 a1.toNatClampNeg), .int (s.1 40 a1.toNatClampNeg)] s from ⟨hc1, ?_⟩)
  exact Wp.run 2 ⟨rfl, H⟩
abbrev Y_X2_inSight (d : Nat) (Q : Qt) : Xt := Wp SHC (WpM SHC MT (d + 1)) cd_X2_inSight (some .int) Q
def f_X2_inSight (a1 : Int32) (s : Sg) : Option (Int32 × Sg) :=
  ck (inr a1 8) (
  if (s.1 42 a1.toNatClampNeg) ≤ 0 then
    bd (f_X2_lying a1 s) (fun r2 s3 =>
    some (r2, s3)
    )
  else
    some (0, s)
  )
set_option maxRecDepth 100000 in
theorem w_X2_inSight {d : Nat} {s : Sg} {Q : Qt} (a1 : Int32) (H : OQ (f_X2_inSight a1 s) (fun r9 s9 => Q (some (.int r9)) s9)) : WpM SHC MT (d + 2) 24 [.ref 26, .int a1] s Q := by
  refine WpM.enter me_X2_inSight rfl rfl ?_
  show Y_X2_inSight d Q 0 [(0, .ref 26), (1, .int a1)] [] s
  unfold f_X2_inSight at H
  obtain ⟨hc1, H⟩ := oq_ck H
  refine Wp.run 4 (show (vp_in a1 8) ∧ Y_X2_inSight d Q 6 [(0, .ref 26), (1, .int a1)] [.int (s.1 42 a1.toNatClampNeg)] s from ⟨hc1, ?_⟩)
  refine Wp.run 1 (show br ((s.1 42 a1.toNatClampNeg) ≤ 0) (Y_X2_inSight d Q 13 [(0, .ref 26), (1, .int a1)] [] s) (Y_X2_inSight d Q 9 [(0, .ref 26), (1, .int a1)] [] s) from ⟨fun c9 => ?_, fun c9 => ?_⟩)
  · have H := oq_t c9 H
    refine Wp.run 3 (show room8 [] ∧ WpM SHC MT (d + 1) 23 [.ref 26, .int a1] s (fun v9 s9 => Y_X2_inSight d Q 18 [(0, .ref 26), (1, .int a1)] (v9.toList ++ []) s9) from ⟨rm8_ rfl, ?_⟩)
    refine w_X2_lying (d := d) _ ?_
    refine oq_bd H (fun r2 s3 H => ?_)
    show Y_X2_inSight d Q 18 [(0, .ref 26), (1, .int a1)] [.int r2] s3
    exact Wp.run 1 ⟨rfl, H⟩
  · have H := oq_f c9 H
    exact Wp.run 3 ⟨rfl, H⟩
abbrev Y_X4_isAt (d : Nat) (Q : Qt) : Xt := Wp SHC (WpM SHC MT (d + 0)) cd_X4_isAt (some .boolean) Q
def f_X4_isAt (a1 : Int32) (a2 : Int32) (s : Sg) : Option (Int32 × Sg) :=
  ck (inr a2 8) (
  if (((s.1 34 a2.toNatClampNeg) >>> (a1 &&& 31)) &&& 1) = 0 then
    some (0, s)
  else
    some (1, s)
  )
set_option maxRecDepth 100000 in
theorem w_X4_isAt {d : Nat} {s : Sg} {Q : Qt} (a1 : Int32) (a2 : Int32) (H : OQ (f_X4_isAt a1 a2 s) (fun r9 s9 => Q (some (.int r9)) s9)) : WpM SHC MT (d + 1) 56 [.ref 25, .int a1, .int a2] s Q := by
  refine WpM.enter me_X4_isAt rfl rfl ?_
  show Y_X4_isAt d Q 0 [(0, .ref 25), (1, .int a1), (2, .int a2)] [] s
  unfold f_X4_isAt at H
  obtain ⟨hc1, H⟩ := oq_ck H
  refine Wp.run 4 (show (vp_in a2 8) ∧ Y_X4_isAt d Q 6 [(0, .ref 25), (1, .int a1), (2, .int a2)] [.int (s.1 34 a2.toNatClampNeg)] s from ⟨hc1, ?_⟩)
  refine Wp.run 5 (show br ((((s.1 34 a2.toNatClampNeg) >>> (a1 &&& 31)) &&& 1) = 0) (Y_X4_isAt d Q 17 [(0, .ref 25), (1, .int a1), (2, .int a2)] [] s) (Y_X4_isAt d Q 13 [(0, .ref 25), (1, .int a1), (2, .int a2)] [] s) from ⟨fun c9 => ?_, fun c9 => ?_⟩)
  · have H := oq_t c9 H
    exact Wp.run 2 ⟨rfl, H⟩
  · have H := oq_f c9 H
    exact Wp.run 3 ⟨rfl, H⟩
abbrev Y_X9_shareOf_26_25 (d : Nat) (Q : Qt) : Xt := Wp SHC (WpM SHC MT (d + 2)) cd_X9_shareOf (some .int) Q
def f_X9_shareOf_26_25_b10 : Nat → Int32 → Int32 → Int32 → Int32 → Sg → Option (Int32 × Sg)
  | 0, _, _, _, _, _ => none
  | n + 1, v2, v3, v4, v5, s =>
    if v2 ≤ v5 then
      ck (inr v2 8) (
      some (if (s.1 33 v2.toNatClampNeg) < v4 then (s.1 33 v2.toNatClampNeg) else v4, s)
      )
    else
      bd (f_X4_isAt v5 v3 s) (fun r4 s5 =>
      if r4 = 0 then
        (f_X9_shareOf_26_25_b10 n) v2 v3 v4 (v5 + 1) s5
      else
        ck (inr v5 8) (
        nmx (v4 - (if (s5.1 33 v5.toNatClampNeg) < v4 then (s5.1 33 v5.toNatClampNeg) else v4) : Int32) (fun x7 =>
        (f_X9_shareOf_26_25_b10 n) v2 v3 x7 (v5 + 1) s5
        )
        )
      )
set_option maxRecDepth 100000 in
theorem w_X9_shareOf_26_25_b10 {d : Nat} {Q : Qt} (n : Nat) : ∀ (v2 : Int32) (v3 : Int32) (v4 : Int32) (v5 : Int32) (s : Sg), OQ (f_X9_shareOf_26_25_b10 n v2 v3 v4 v5 s) (fun r9 s9 => Q (some (.int r9)) s9) → Y_X9_shareOf_26_25 d Q 10 [(0, .ref 25), (2, .int v2), (3, .int v3), (4, .int v4), (5, .int v5)] [] s := by
  induction n with
  | zero => intro v2 v3 v4 v5 s H; exact H.elim
  | succ n ih =>
    intro v2 v3 v4 v5 s H
    unfold f_X9_shareOf_26_25_b10 at H
    refine Wp.run 3 (show br (v2 ≤ v5) (Y_X9_shareOf_26_25 d Q 49 [(0, .ref 25), (2, .int v2), (3, .int v3), (4, .int v4), (5, .int v5)] [] s) (Y_X9_shareOf_26_25 d Q 16 [(0, .ref 25), (2, .int v2), (3, .int v3), (4, .int v4), (5, .int v5)] [] s) from ⟨fun c9 => ?_, fun c9 => ?_⟩)
    · have H := oq_t c9 H
      obtain ⟨hc3, H⟩ := oq_ck H
      refine Wp.run 5 (show (vp_in v2 8) ∧ Y_X9_shareOf_26_25 d Q 57 [(0, .ref 25), (2, .int v2), (3, .int v3), (4, .int v4), (5, .int v5)] [.int (s.1 33 v2.toNatClampNeg), .int v4] s from ⟨hc3, ?_⟩)
      refine Wp.run 1 (show room8 [] ∧ Y_X9_shareOf_26_25 d Q 60 [(0, .ref 25), (2, .int v2), (3, .int v3), (4, .int v4), (5, .int v5)] [.int (if (s.1 33 v2.toNatClampNeg) < v4 then (s.1 33 v2.toNatClampNeg) else v4)] s from ⟨rm8_ rfl, ?_⟩)
      exact Wp.run 1 ⟨rfl, H⟩
    · have H := oq_f c9 H
      refine Wp.run 4 (show room8 [] ∧ WpM SHC MT (d + 2) 56 [.ref 25, .int v5, .int v3] s (fun v9 s9 => Y_X9_shareOf_26_25 d Q 23 [(0, .ref 25), (2, .int v2), (3, .int v3), (4, .int v4), (5, .int v5)] (v9.toList ++ []) s9) from ⟨rm8_ rfl, ?_⟩)
      refine w_X4_isAt (d := d + 1) _ _ ?_
      refine oq_bd H (fun r4 s5 H => ?_)
      show Y_X9_shareOf_26_25 d Q 23 [(0, .ref 25), (2, .int v2), (3, .int v3), (4, .int v4), (5, .int v5)] [.int r4] s5
      refine Wp.run 1 (show br (r4 = 0) (Y_X9_shareOf_26_25 d Q 43 [(0, .ref 25), (2, .int v2), (3, .int v3), (4, .int v4), (5, .int v5)] [] s5) (Y_X9_shareOf_26_25 d Q 26 [(0, .ref 25), (2, .int v2), (3, .int v3), (4, .int v4), (5, .int v5)] [] s5) from ⟨fun c9 => ?_, fun c9 => ?_⟩)
      · have H := oq_t c9 H
        refine Wp.run 2 (show Y_X9_shareOf_26_25 d Q 10 [(5, .int (v5 + 1)), (0, .ref 25), (2, .int v2), (3, .int v3), (4, .int v4)] [] s5 from ?_)
        refine Wp.weak [1, 2, 3, 4, 0] (lv' := [(0, .ref 25), (2, .int v2), (3, .int v3), (4, .int v4), (5, .int (v5 + 1))]) rfl ?_
        exact ih _ _ _ _ _ H
      · have H := oq_f c9 H
        obtain ⟨hc6, H⟩ := oq_ck H
        refine Wp.run 6 (show (vp_in v5 8) ∧ Y_X9_shareOf_26_25 d Q 37 [(0, .ref 25), (2, .int v2), (3, .int v3), (4, .int v4), (5, .int v5)] [.int (s5.1 33 v5.toNatClampNeg), .int v4, .int v4] s5 from ⟨hc6, ?_⟩)
        refine Wp.run 1 (show room8 [.int v4] ∧ Y_X9_shareOf_26_25 d Q 40 [(0, .ref 25), (2, .int v2), (3, .int v3), (4, .int v4), (5, .int v5)] [.int (if (s5.1 33 v5.toNatClampNeg) < v4 then (s5.1 33 v5.toNatClampNeg) else v4), .int v4] s5 from ⟨rm8_ rfl, ?_⟩)
        refine Wp.run 2 (show Y_X9_shareOf_26_25 d Q 43 [(4, .int (v4 - (if (s5.1 33 v5.toNatClampNeg) < v4 then (s5.1 33 v5.toNatClampNeg) else v4))), (0, .ref 25), (2, .int v2), (3, .int v3), (5, .int v5)] [] s5 from ?_)
        revert H
        generalize (v4 - (if (s5.1 33 v5.toNatClampNeg) < v4 then (s5.1 33 v5.toNatClampNeg) else v4) : Int32) = x7
        intro H
        have H := nmx_e H
        refine Wp.run 2 (show Y_X9_shareOf_26_25 d Q 10 [(5, .int (v5 + 1)), (4, .int x7), (0, .ref 25), (2, .int v2), (3, .int v3)] [] s5 from ?_)
        refine Wp.weak [2, 3, 4, 1, 0] (lv' := [(0, .ref 25), (2, .int v2), (3, .int v3), (4, .int x7), (5, .int (v5 + 1))]) rfl ?_
        exact ih _ _ _ _ _ H
def f_X9_shareOf_26_25 (a2 : Int32) (a3 : Int32) (s : Sg) : Option (Int32 × Sg) :=
  bd (f_X2_inSight a3 s) (fun r1 s2 =>
  f_X9_shareOf_26_25_b10 BIG a2 a3 r1 0 s2
  )
set_option maxRecDepth 100000 in
theorem w_X9_shareOf_26_25 {d : Nat} {s : Sg} {Q : Qt} (a2 : Int32) (a3 : Int32) (H : OQ (f_X9_shareOf_26_25 a2 a3 s) (fun r9 s9 => Q (some (.int r9)) s9)) : WpM SHC MT (d + 3) 89 [.ref 25, .ref 26, .int a2, .int a3] s Q := by
  refine WpM.enter me_X9_shareOf rfl rfl ?_
  show Y_X9_shareOf_26_25 d Q 0 [(0, .ref 25), (1, .ref 26), (2, .int a2), (3, .int a3)] [] s
  unfold f_X9_shareOf_26_25 at H
  refine Wp.run 3 (show room8 [] ∧ WpM SHC MT (d + 2) 24 [.ref 26, .int a3] s (fun v9 s9 => Y_X9_shareOf_26_25 d Q 5 [(0, .ref 25), (1, .ref 26), (2, .int a2), (3, .int a3)] (v9.toList ++ []) s9) from ⟨rm8_ rfl, ?_⟩)
  refine w_X2_inSight (d := d) _ ?_
  refine oq_bd H (fun r1 s2 H => ?_)
  show Y_X9_shareOf_26_25 d Q 5 [(0, .ref 25), (1, .ref 26), (2, .int a2), (3, .int a3)] [.int r1] s2
  refine Wp.run 3 (show Y_X9_shareOf_26_25 d Q 10 [(5, .int 0), (4, .int r1), (0, .ref 25), (1, .ref 26), (2, .int a2), (3, .int a3)] [] s2 from ?_)
  refine Wp.weak [2, 4, 5, 1, 0] (lv' := [(0, .ref 25), (2, .int a2), (3, .int a3), (4, .int r1), (5, .int 0)]) rfl ?_
  exact w_X9_shareOf_26_25_b10 _ _ _ _ _ _ H
abbrev Y_X11_share (d : Nat) (Q : Qt) : Xt := Wp SHC (WpM SHC MT (d + 3)) cd_X11_share (some .int) Q
def f_X11_share_b48 (v1 : Int32) (t0 : Int32) (s : Sg) : Option (Int32 × Sg) :=
  bd (f_X4_isGone t0 s) (fun r10 s11 =>
  if r10 = 0 then
    bd (f_X9_shareOf_26_25 v1 t0 s11) (fun r12 s13 =>
    bd (f_X11_answer r12 s13) (fun r14 s15 =>
    some (r14, s15)
    )
    )
  else
    bd (f_X11_refuse 7 s11) (fun r16 s17 =>
    some (r16, s17)
    )
  )
set_option maxRecDepth 100000 in
theorem w_X11_share_b48 {d : Nat} {Q : Qt} (v1 : Int32) (t0 : Int32) (s : Sg) (H : OQ (f_X11_share_b48 v1 t0 s) (fun r9 s9 => Q (some (.int r9)) s9)) : Y_X11_share d Q 48 [(0, .ref 0), (1, .int v1)] [.int t0] s := by
  unfold f_X11_share_b48 at H
  refine Wp.run 5 (show room8 [] ∧ WpM SHC MT (d + 3) 55 [.ref 25, .int t0] s (fun v9 s9 => Y_X11_share d Q 57 [(3, .int t0), (0, .ref 0), (1, .int v1)] (v9.toList ++ []) s9) from ⟨rm8_ rfl, ?_⟩)
  refine w_X4_isGone (d := d + 2) _ ?_
  refine oq_bd H (fun r10 s11 H => ?_)
  show Y_X11_share d Q 57 [(3, .int t0), (0, .ref 0), (1, .int v1)] [.int r10] s11
  refine Wp.run 1 (show br (r10 = 0) (Y_X11_share d Q 67 [(3, .int t0), (0, .ref 0), (1, .int v1)] [] s11) (Y_X11_share d Q 60 [(3, .int t0), (0, .ref 0), (1, .int v1)] [] s11) from ⟨fun c9 => ?_, fun c9 => ?_⟩)
  · have H := oq_t c9 H
    refine Wp.run 8 (show room8 [.ref 0] ∧ WpM SHC MT (d + 3) 89 [.ref 25, .ref 26, .int v1, .int t0] s11 (fun v9 s9 => Y_X11_share d Q 81 [(3, .int t0), (0, .ref 0), (1, .int v1)] (v9.toList ++ [.ref 0]) s9) from ⟨rm8_ rfl, ?_⟩)
    refine w_X9_shareOf_26_25 (d := d) _ _ ?_
    refine oq_bd H (fun r12 s13 H => ?_)
    show Y_X11_share d Q 81 [(3, .int t0), (0, .ref 0), (1, .int v1)] [.int r12, .ref 0] s13
    refine Wp.run 1 (show room8 [] ∧ WpM SHC MT (d + 3) 164 [.ref 0, .int r12] s13 (fun v9 s9 => Y_X11_share d Q 84 [(3, .int t0), (0, .ref 0), (1, .int v1)] (v9.toList ++ []) s9) from ⟨rm8_ rfl, ?_⟩)
    refine w_X11_answer (d := d + 2) _ ?_
    refine oq_bd H (fun r14 s15 H => ?_)
    show Y_X11_share d Q 84 [(3, .int t0), (0, .ref 0), (1, .int v1)] [.int r14] s15
    exact Wp.run 1 ⟨rfl, H⟩
  · have H := oq_f c9 H
    refine Wp.run 3 (show room8 [] ∧ WpM SHC MT (d + 3) 166 [.ref 0, .int 7] s11 (fun v9 s9 => Y_X11_share d Q 66 [(3, .int t0), (0, .ref 0), (1, .int v1)] (v9.toList ++ []) s9) from ⟨rm8_ rfl, ?_⟩)
    refine w_X11_refuse (d := d + 2) _ ?_
    refine oq_bd H (fun r16 s17 H => ?_)
    show Y_X11_share d Q 66 [(3, .int t0), (0, .ref 0), (1, .int v1)] [.int r16] s17
    exact Wp.run 1 ⟨rfl, H⟩
def f_X11_share (a1 : Int32) (a2 : Int32) (s : Sg) : Option (Int32 × Sg) :=
  bd (f_X11_isQuarrel a1 s) (fun r1 s2 =>
  if r1 = 0 then
    bd (f_X11_refuse 1 s2) (fun r3 s4 =>
    some (r3, s4)
    )
  else
    bd (f_X11_within a2 0 1 s2) (fun r5 s6 =>
    if r5 = 0 then
      bd (f_X11_refuse 1 s6) (fun r7 s8 =>
      some (r7, s8)
      )
    else
      if a2 = 0 then
        ck (inr a1 8) (
        f_X11_share_b48 a1 (s6.1 31 a1.toNatClampNeg) s6
        )
      else
        ck (inr a1 8) (
        f_X11_share_b48 a1 (s6.1 32 a1.toNatClampNeg) s6
        )
    )
  )
set_option maxRecDepth 100000 in
theorem w_X11_share {d : Nat} {s : Sg} {Q : Qt} (a1 : Int32) (a2 : Int32) (H : OQ (f_X11_share a1 a2 s) (fun r9 s9 => Q (some (.int r9)) s9)) : WpM SHC MT (d + 4) 118 [.ref 0, .int a1, .int a2] s Q := by
  refine WpM.enter me_X11_share rfl rfl ?_
  show Y_X11_share d Q 0 [(0, .ref 0), (1, .int a1), (2, .int a2)] [] s
  unfold f_X11_share at H
  refine Wp.run 3 (show room8 [] ∧ WpM SHC MT (d + 3) 173 [.ref 0, .int a1] s (fun v9 s9 => Y_X11_share d Q 5 [(0, .ref 0), (1, .int a1), (2, .int a2)] (v9.toList ++ []) s9) from ⟨rm8_ rfl, ?_⟩)
  refine w_X11_isQuarrel (d := d + 1) _ ?_
  refine oq_bd H (fun r1 s2 H => ?_)
  show Y_X11_share d Q 5 [(0, .ref 0), (1, .int a1), (2, .int a2)] [.int r1] s2
  refine Wp.run 1 (show br (r1 = 0) (Y_X11_share d Q 17 [(0, .ref 0), (1, .int a1), (2, .int a2)] [] s2) (Y_X11_share d Q 8 [(0, .ref 0), (1, .int a1), (2, .int a2)] [] s2) from ⟨fun c9 => ?_, fun c9 => ?_⟩)
  · have H := oq_t c9 H
    refine Wp.run 3 (show room8 [] ∧ WpM SHC MT (d + 3) 166 [.ref 0, .int 1] s2 (fun v9 s9 => Y_X11_share d Q 22 [(0, .ref 0), (1, .int a1), (2, .int a2)] (v9.toList ++ []) s9) from ⟨rm8_ rfl, ?_⟩)
    refine w_X11_refuse (d := d + 2) _ ?_
    refine oq_bd H (fun r3 s4 H => ?_)
    show Y_X11_share d Q 22 [(0, .ref 0), (1, .int a1), (2, .int a2)] [.int r3] s4
    exact Wp.run 1 ⟨rfl, H⟩
  · have H := oq_f c9 H
    refine Wp.run 4 (show room8 [] ∧ WpM SHC MT (d + 3) 169 [.int a2, .int 0, .int 1] s2 (fun v9 s9 => Y_X11_share d Q 14 [(0, .ref 0), (1, .int a1), (2, .int a2)] (v9.toList ++ []) s9) from ⟨rm8_ rfl, ?_⟩)
    refine w_X11_within (d := d + 2) _ _ _ ?_
    refine oq_bd H (fun r5 s6 H => ?_)
    show Y_X11_share d Q 14 [(0, .ref 0), (1, .int a1), (2, .int a2)] [.int r5] s6
    refine Wp.run 1 (show br (r5 = 0) (Y_X11_share d Q 17 [(0, .ref 0), (1, .int a1), (2, .int a2)] [] s6) (Y_X11_share d Q 23 [(0, .ref 0), (1, .int a1), (2, .int a2)] [] s6) from ⟨fun c9 => ?_, fun c9 => ?_⟩)
    · have H := oq_t c9 H
      refine Wp.run 3 (show room8 [] ∧ WpM SHC MT (d + 3) 166 [.ref 0, .int 1] s6 (fun v9 s9 => Y_X11_share d Q 22 [(0, .ref 0), (1, .int a1), (2, .int a2)] (v9.toList ++ []) s9) from ⟨rm8_ rfl, ?_⟩)
      refine w_X11_refuse (d := d + 2) _ ?_
      refine oq_bd H (fun r7 s8 H => ?_)
      show Y_X11_share d Q 22 [(0, .ref 0), (1, .int a1), (2, .int a2)] [.int r7] s8
      exact Wp.run 1 ⟨rfl, H⟩
    · have H := oq_f c9 H
      refine Wp.run 2 (show br (a2 = 0) (Y_X11_share d Q 27 [(0, .ref 0), (1, .int a1), (2, .int a2)] [] s6) (Y_X11_share d Q 39 [(0, .ref 0), (1, .int a1), (2, .int a2)] [] s6) from ⟨fun c9 => ?_, fun c9 => ?_⟩)
      · have H := oq_t c9 H
        obtain ⟨hc9, H⟩ := oq_ck H
        refine Wp.run 5 (show (vp_in a1 8) ∧ Y_X11_share d Q 36 [(0, .ref 0), (1, .int a1), (2, .int a2)] [.int (s6.1 31 a1.toNatClampNeg)] s6 from ⟨hc9, ?_⟩)
        refine Wp.run 1 (show Y_X11_share d Q 48 [(0, .ref 0), (1, .int a1), (2, .int a2)] [.int (s6.1 31 a1.toNatClampNeg)] s6 from ?_)
        refine Wp.weak [0, 1] (lv' := [(0, .ref 0), (1, .int a1)]) rfl ?_
        exact w_X11_share_b48 _ _ _ H
      · have H := oq_f c9 H
        obtain ⟨hc18, H⟩ := oq_ck H
        refine Wp.run 5 (show (vp_in a1 8) ∧ Y_X11_share d Q 48 [(0, .ref 0), (1, .int a1), (2, .int a2)] [.int (s6.1 32 a1.toNatClampNeg)] s6 from ⟨hc18, ?_⟩)
        refine Wp.weak [0, 1] (lv' := [(0, .ref 0), (1, .int a1)]) rfl ?_
        exact w_X11_share_b48 _ _ _ H
abbrev Y_X9_ownerOf_26_25 (d : Nat) (Q : Qt) : Xt := Wp SHC (WpM SHC MT (d + 3)) cd_X9_ownerOf (some .int) Q
def f_X9_ownerOf_26_25_b6 : Nat → Int32 → Int32 → Int32 → Int32 → Sg → Option (Int32 × Sg)
  | 0, _, _, _, _, _ => none
  | n + 1, v2, v3, v4, v5, s =>
    if (s.1 25 14) ≤ v5 then
      some ((-1), s)
    else
      bd (f_X4_isAt v5 v2 s) (fun r1 s2 =>
      if r1 = 0 then
        (f_X9_ownerOf_26_25_b6 n) v2 v3 v4 (v5 + 1) s2
      else
        bd (f_X9_shareOf_26_25 v5 v2 s2) (fun r3 s4 =>
        if (v4 + r3) ≤ v3 then
          (f_X9_ownerOf_26_25_b6 n) v2 v3 (v4 + r3) (v5 + 1) s4
        else
          some (v5, s4)
        )
      )
set_option maxRecDepth 100000 in
theorem w_X9_ownerOf_26_25_b6 {d : Nat} {Q : Qt} (n : Nat) : ∀ (v2 : Int32) (v3 : Int32) (v4 : Int32) (v5 : Int32) (s : Sg), OQ (f_X9_ownerOf_26_25_b6 n v2 v3 v4 v5 s) (fun r9 s9 => Q (some (.int r9)) s9) → Y_X9_ownerOf_26_25 d Q 6 [(0, .ref 25), (1, .ref 26), (2, .int v2), (3, .int v3), (4, .int v4), (5, .int v5)] [] s := by
  induction n with
  | zero => intro v2 v3 v4 v5 s H; exact H.elim
  | succ n ih =>
    intro v2 v3 v4 v5 s H
    unfold f_X9_ownerOf_26_25_b6 at H
    refine Wp.run 4 (show br ((s.1 25 14) ≤ v5) (Y_X9_ownerOf_26_25 d Q 53 [(0, .ref 25), (1, .ref 26), (2, .int v2), (3, .int v3), (4, .int v4), (5, .int v5)] [] s) (Y_X9_ownerOf_26_25 d Q 15 [(0, .ref 25), (1, .ref 26), (2, .int v2), (3, .int v3), (4, .int v4), (5, .int v5)] [] s) from ⟨fun c9 => ?_, fun c9 => ?_⟩)
    · have H := oq_t c9 H
      exact Wp.run 2 ⟨rfl, H⟩
    · have H := oq_f c9 H
      refine Wp.run 4 (show room8 [] ∧ WpM SHC MT (d + 3) 56 [.ref 25, .int v5, .int v2] s (fun v9 s9 => Y_X9_ownerOf_26_25 d Q 22 [(0, .ref 25), (1, .ref 26), (2, .int v2), (3, .int v3), (4, .int v4), (5, .int v5)] (v9.toList ++ []) s9) from ⟨rm8_ rfl, ?_⟩)
      refine w_X4_isAt (d := d + 2) _ _ ?_
      refine oq_bd H (fun r1 s2 H => ?_)
      show Y_X9_ownerOf_26_25 d Q 22 [(0, .ref 25), (1, .ref 26), (2, .int v2), (3, .int v3), (4, .int v4), (5, .int v5)] [.int r1] s2
      refine Wp.run 1 (show br (r1 = 0) (Y_X9_ownerOf_26_25 d Q 47 [(0, .ref 25), (1, .ref 26), (2, .int v2), (3, .int v3), (4, .int v4), (5, .int v5)] [] s2) (Y_X9_ownerOf_26_25 d Q 25 [(0, .ref 25), (1, .ref 26), (2, .int v2), (3, .int v3), (4, .int v4), (5, .int v5)] [] s2) from ⟨fun c9 => ?_, fun c9 => ?_⟩)
      · have H := oq_t c9 H
        refine Wp.run 2 (show Y_X9_ownerOf_26_25 d Q 6 [(5, .int (v5 + 1)), (0, .ref 25), (1, .ref 26), (2, .int v2), (3, .int v3), (4, .int v4)] [] s2 from ?_)
        refine Wp.weak [1, 2, 3, 4, 5, 0] (lv' := [(0, .ref 25), (1, .ref 26), (2, .int v2), (3, .int v3), (4, .int v4), (5, .int (v5 + 1))]) rfl ?_
        exact ih _ _ _ _ _ H
      · have H := oq_f c9 H
        refine Wp.run 6 (show room8 [.int v4] ∧ WpM SHC MT (d + 3) 89 [.ref 25, .ref 26, .int v5, .int v2] s2 (fun v9 s9 => Y_X9_ownerOf_26_25 d Q 35 [(0, .ref 25), (1, .ref 26), (2, .int v2), (3, .int v3), (4, .int v4), (5, .int v5)] (v9.toList ++ [.int v4]) s9) from ⟨rm8_ rfl, ?_⟩)
        refine w_X9_shareOf_26_25 (d := d) _ _ ?_
        refine oq_bd H (fun r3 s4 H => ?_)
        show Y_X9_ownerOf_26_25 d Q 35 [(0, .ref 25), (1, .ref 26), (2, .int v2), (3, .int v3), (4, .int v4), (5, .int v5)] [.int r3, .int v4] s4
        refine Wp.run 5 (show br ((v4 + r3) ≤ v3) (Y_X9_ownerOf_26_25 d Q 47 [(4, .int (v4 + r3)), (0, .ref 25), (1, .ref 26), (2, .int v2), (3, .int v3), (5, .int v5)] [] s4) (Y_X9_ownerOf_26_25 d Q 44 [(4, .int (v4 + r3)), (0, .ref 25), (1, .ref 26), (2, .int v2), (3, .int v3), (5, .int v5)] [] s4) from ⟨fun c9 => ?_, fun c9 => ?_⟩)
        · have H := oq_t c9 H
          refine Wp.run 2 (show Y_X9_ownerOf_26_25 d Q 6 [(5, .int (v5 + 1)), (4, .int (v4 + r3)), (0, .ref 25), (1, .ref 26), (2, .int v2), (3, .int v3)] [] s4 from ?_)
          refine Wp.weak [2, 3, 4, 5, 1, 0] (lv' := [(0, .ref 25), (1, .ref 26), (2, .int v2), (3, .int v3), (4, .int (v4 + r3)), (5, .int (v5 + 1))]) rfl ?_
          exact ih _ _ _ _ _ H
        · have H := oq_f c9 H
          exact Wp.run 2 ⟨rfl, H⟩
def f_X9_ownerOf_26_25 (a2 : Int32) (a3 : Int32) (s : Sg) : Option (Int32 × Sg) :=
  f_X9_ownerOf_26_25_b6 BIG a2 a3 0 0 s
set_option maxRecDepth 100000 in
theorem w_X9_ownerOf_26_25 {d : Nat} {s : Sg} {Q : Qt} (a2 : Int32) (a3 : Int32) (H : OQ (f_X9_ownerOf_26_25 a2 a3 s) (fun r9 s9 => Q (some (.int r9)) s9)) : WpM SHC MT (d + 4) 90 [.ref 25, .ref 26, .int a2, .int a3] s Q := by
  refine WpM.enter me_X9_ownerOf rfl rfl ?_
  show Y_X9_ownerOf_26_25 d Q 0 [(0, .ref 25), (1, .ref 26), (2, .int a2), (3, .int a3)] [] s
  unfold f_X9_ownerOf_26_25 at H
  refine Wp.run 4 (show Y_X9_ownerOf_26_25 d Q 6 [(5, .int 0), (4, .int 0), (0, .ref 25), (1, .ref 26), (2, .int a2), (3, .int a3)] [] s from ?_)
  refine Wp.weak [2, 3, 4, 5, 1, 0] (lv' := [(0, .ref 25), (1, .ref 26), (2, .int a2), (3, .int a3), (4, .int 0), (5, .int 0)]) rfl ?_
  exact w_X9_ownerOf_26_25_b6 _ _ _ _ _ _ H
abbrev Y_X11_answerIfAny (d : Nat) (Q : Qt) : Xt := Wp SHC (WpM SHC MT (d + 1)) cd_X11_answerIfAny (some .int) Q
def f_X11_answerIfAny (a1 : Int32) (s : Sg) : Option (Int32 × Sg) :=
  if a1 = (-1) then
    bd (f_X11_refuse 6 s) (fun r1 s2 =>
    some (r1, s2)
    )
  else
    bd (f_X11_answer a1 s) (fun r3 s4 =>
    some (r3, s4)
    )
set_option maxRecDepth 100000 in
theorem w_X11_answerIfAny {d : Nat} {s : Sg} {Q : Qt} (a1 : Int32) (H : OQ (f_X11_answerIfAny a1 s) (fun r9 s9 => Q (some (.int r9)) s9)) : WpM SHC MT (d + 2) 165 [.ref 0, .int a1] s Q := by
  refine WpM.enter me_X11_answerIfAny rfl rfl ?_
  show Y_X11_answerIfAny d Q 0 [(0, .ref 0), (1, .int a1)] [] s
  unfold f_X11_answerIfAny at H
  refine Wp.run 3 (show br (a1 = (-1)) (Y_X11_answerIfAny d Q 5 [(0, .ref 0), (1, .int a1)] [] s) (Y_X11_answerIfAny d Q 14 [(0, .ref 0), (1, .int a1)] [] s) from ⟨fun c9 => ?_, fun c9 => ?_⟩)
  · have H := oq_t c9 H
    refine Wp.run 3 (show room8 [] ∧ WpM SHC MT (d + 1) 166 [.ref 0, .int 6] s (fun v9 s9 => Y_X11_answerIfAny d Q 11 [(0, .ref 0), (1, .int a1)] (v9.toList ++ []) s9) from ⟨rm8_ rfl, ?_⟩)
    refine w_X11_refuse (d := d) _ ?_
    refine oq_bd H (fun r1 s2 H => ?_)
    show Y_X11_answerIfAny d Q 11 [(0, .ref 0), (1, .int a1)] [.int r1] s2
    exact Wp.run 2 ⟨rfl, H⟩
  · have H := oq_f c9 H
    refine Wp.run 3 (show room8 [] ∧ WpM SHC MT (d + 1) 164 [.ref 0, .int a1] s (fun v9 s9 => Y_X11_answerIfAny d Q 19 [(0, .ref 0), (1, .int a1)] (v9.toList ++ []) s9) from ⟨rm8_ rfl, ?_⟩)
    refine w_X11_answer (d := d) _ ?_
    refine oq_bd H (fun r3 s4 H => ?_)
    show Y_X11_answerIfAny d Q 19 [(0, .ref 0), (1, .int a1)] [.int r3] s4
    exact Wp.run 1 ⟨rfl, H⟩
abbrev Y_X11_whose (d : Nat) (Q : Qt) : Xt := Wp SHC (WpM SHC MT (d + 4)) cd_X11_whose (some .int) Q
def f_X11_whose_b11 (v1 : Int32) (v2 : Int32) (t0 : Int32) (t1 : Int32) (s : Sg) : Option (Int32 × Sg) :=
  bd (f_X11_whyNoStep t1 t0 s) (fun r1 s2 =>
  if r1 = 0 then
    bd (f_X9_ownerOf_26_25 v1 v2 s2) (fun r3 s4 =>
    bd (f_X11_answerIfAny r3 s4) (fun r5 s6 =>
    some (r5, s6)
    )
    )
  else
    bd (f_X11_refuse r1 s2) (fun r7 s8 =>
    some (r7, s8)
    )
  )
set_option maxRecDepth 100000 in
theorem w_X11_whose_b11 {d : Nat} {Q : Qt} (v1 : Int32) (v2 : Int32) (t0 : Int32) (t1 : Int32) (s : Sg) (H : OQ (f_X11_whose_b11 v1 v2 t0 t1 s) (fun r9 s9 => Q (some (.int r9)) s9)) : Y_X11_whose d Q 11 [(0, .ref 0), (1, .int v1), (2, .int v2)] [.int t0, .int t1, .ref 0] s := by
  unfold f_X11_whose_b11 at H
  refine Wp.run 1 (show room8 [] ∧ WpM SHC MT (d + 4) 177 [.ref 0, .int t1, .int t0] s (fun v9 s9 => Y_X11_whose d Q 14 [(0, .ref 0), (1, .int v1), (2, .int v2)] (v9.toList ++ []) s9) from ⟨rm8_ rfl, ?_⟩)
  refine w_X11_whyNoStep (d := d + 1) _ _ ?_
  refine oq_bd H (fun r1 s2 H => ?_)
  show Y_X11_whose d Q 14 [(0, .ref 0), (1, .int v1), (2, .int v2)] [.int r1] s2
  refine Wp.run 3 (show br (r1 = 0) (Y_X11_whose d Q 25 [(3, .int r1), (0, .ref 0), (1, .int v1), (2, .int v2)] [] s2) (Y_X11_whose d Q 19 [(3, .int r1), (0, .ref 0), (1, .int v1), (2, .int v2)] [] s2) from ⟨fun c9 => ?_, fun c9 => ?_⟩)
  · have H := oq_t c9 H
    refine Wp.run 8 (show room8 [.ref 0] ∧ WpM SHC MT (d + 4) 90 [.ref 25, .ref 26, .int v1, .int v2] s2 (fun v9 s9 => Y_X11_whose d Q 39 [(3, .int r1), (0, .ref 0), (1, .int v1), (2, .int v2)] (v9.toList ++ [.ref 0]) s9) from ⟨rm8_ rfl, ?_⟩)
    refine w_X9_ownerOf_26_25 (d := d) _ _ ?_
    refine oq_bd H (fun r3 s4 H => ?_)
    show Y_X11_whose d Q 39 [(3, .int r1), (0, .ref 0), (1, .int v1), (2, .int v2)] [.int r3, .ref 0] s4
    refine Wp.run 1 (show room8 [] ∧ WpM SHC MT (d + 4) 165 [.ref 0, .int r3] s4 (fun v9 s9 => Y_X11_whose d Q 42 [(3, .int r1), (0, .ref 0), (1, .int v1), (2, .int v2)] (v9.toList ++ []) s9) from ⟨rm8_ rfl, ?_⟩)
    refine w_X11_answerIfAny (d := d + 2) _ ?_
    refine oq_bd H (fun r5 s6 H => ?_)
    show Y_X11_whose d Q 42 [(3, .int r1), (0, .ref 0), (1, .int v1), (2, .int v2)] [.int r5] s6
    exact Wp.run 1 ⟨rfl, H⟩
  · have H := oq_f c9 H
    refine Wp.run 3 (show room8 [] ∧ WpM SHC MT (d + 4) 166 [.ref 0, .int r1] s2 (fun v9 s9 => Y_X11_whose d Q 24 [(3, .int r1), (0, .ref 0), (1, .int v1), (2, .int v2)] (v9.toList ++ []) s9) from ⟨rm8_ rfl, ?_⟩)
    refine w_X11_refuse (d := d + 3) _ ?_
    refine oq_bd H (fun r7 s8 H => ?_)
    show Y_X11_whose d Q 24 [(3, .int r1), (0, .ref 0), (1, .int v1), (2, .int v2)] [.int r7] s8
    exact Wp.run 1 ⟨rfl, H⟩
def f_X11_whose (a1 : Int32) (a2 : Int32) (s : Sg) : Option (Int32 × Sg) :=
  if a2 < 0 then
    f_X11_whose_b11 a1 a2 0 a1 s
  else
    f_X11_whose_b11 a1 a2 1 a1 s
set_option maxRecDepth 100000 in
theorem w_X11_whose {d : Nat} {s : Sg} {Q : Qt} (a1 : Int32) (a2 : Int32) (H : OQ (f_X11_whose a1 a2 s) (fun r9 s9 => Q (some (.int r9)) s9)) : WpM SHC MT (d + 5) 119 [.ref 0, .int a1, .int a2] s Q := by
  refine WpM.enter me_X11_whose rfl rfl ?_
  show Y_X11_whose d Q 0 [(0, .ref 0), (1, .int a1), (2, .int a2)] [] s
  unfold f_X11_whose at H
  refine Wp.run 4 (show br (a2 < 0) (Y_X11_whose d Q 10 [(0, .ref 0), (1, .int a1), (2, .int a2)] [.int a1, .ref 0] s) (Y_X11_whose d Q 6 [(0, .ref 0), (1, .int a1), (2, .int a2)] [.int a1, .ref 0] s) from ⟨fun c9 => ?_, fun c9 => ?_⟩)
  · have H := oq_t c9 H
    refine Wp.run 1 (show Y_X11_whose d Q 11 [(0, .ref 0), (1, .int a1), (2, .int a2)] [.int 0, .int a1, .ref 0] s from ?_)
    refine Wp.weak [0, 1, 2] (lv' := [(0, .ref 0), (1, .int a1), (2, .int a2)]) rfl ?_
    exact w_X11_whose_b11 _ _ _ _ _ H
  · have H := oq_f c9 H
    refine Wp.run 2 (show Y_X11_whose d Q 11 [(0, .ref 0), (1, .int a1), (2, .int a2)] [.int 1, .int a1, .ref 0] s from ?_)
    refine Wp.weak [0, 1, 2] (lv' := [(0, .ref 0), (1, .int a1), (2, .int a2)]) rfl ?_
    exact w_X11_whose_b11 _ _ _ _ _ H
abbrev Y_X9_leftOver_26_25 (d : Nat) (Q : Qt) : Xt := Wp SHC (WpM SHC MT (d + 3)) cd_X9_leftOver (some .int) Q
def f_X9_leftOver_26_25_b9 : Nat → Int32 → Int32 → Int32 → Sg → Option (Int32 × Sg)
  | 0, _, _, _, _ => none
  | n + 1, v2, v3, v4, s =>
    if (s.1 25 14) ≤ v4 then
      some (v3, s)
    else
      bd (f_X4_isAt v4 v2 s) (fun r3 s4 =>
      if r3 = 0 then
        (f_X9_leftOver_26_25_b9 n) v2 v3 (v4 + 1) s4
      else
        bd (f_X9_shareOf_26_25 v4 v2 s4) (fun r5 s6 =>
        (f_X9_leftOver_26_25_b9 n) v2 (v3 - r5) (v4 + 1) s6
        )
      )
set_option maxRecDepth 100000 in
theorem w_X9_leftOver_26_25_b9 {d : Nat} {Q : Qt} (n : Nat) : ∀ (v2 : Int32) (v3 : Int32) (v4 : Int32) (s : Sg), OQ (f_X9_leftOver_26_25_b9 n v2 v3 v4 s) (fun r9 s9 => Q (some (.int r9)) s9) → Y_X9_leftOver_26_25 d Q 9 [(0, .ref 25), (1, .ref 26), (2, .int v2), (3, .int v3), (4, .int v4)] [] s := by
  induction n with
  | zero => intro v2 v3 v4 s H; exact H.elim
  | succ n ih =>
    intro v2 v3 v4 s H
    unfold f_X9_leftOver_26_25_b9 at H
    refine Wp.run 4 (show br ((s.1 25 14) ≤ v4) (Y_X9_leftOver_26_25 d Q 45 [(0, .ref 25), (1, .ref 26), (2, .int v2), (3, .int v3), (4, .int v4)] [] s) (Y_X9_leftOver_26_25 d Q 18 [(0, .ref 25), (1, .ref 26), (2, .int v2), (3, .int v3), (4, .int v4)] [] s) from ⟨fun c9 => ?_, fun c9 => ?_⟩)
    · have H := oq_t c9 H
      exact Wp.run 2 ⟨rfl, H⟩
    · have H := oq_f c9 H
      refine Wp.run 4 (show room8 [] ∧ WpM SHC MT (d + 3) 56 [.ref 25, .int v4, .int v2] s (fun v9 s9 => Y_X9_leftOver_26_25 d Q 25 [(0, .ref 25), (1, .ref 26), (2, .int v2), (3, .int v3), (4, .int v4)] (v9.toList ++ []) s9) from ⟨rm8_ rfl, ?_⟩)
      refine w_X4_isAt (d := d + 2) _ _ ?_
      refine oq_bd H (fun r3 s4 H => ?_)
      show Y_X9_leftOver_26_25 d Q 25 [(0, .ref 25), (1, .ref 26), (2, .int v2), (3, .int v3), (4, .int v4)] [.int r3] s4
      refine Wp.run 1 (show br (r3 = 0) (Y_X9_leftOver_26_25 d Q 39 [(0, .ref 25), (1, .ref 26), (2, .int v2), (3, .int v3), (4, .int v4)] [] s4) (Y_X9_leftOver_26_25 d Q 28 [(0, .ref 25), (1, .ref 26), (2, .int v2), (3, .int v3), (4, .int v4)] [] s4) from ⟨fun c9 => ?_, fun c9 => ?_⟩)
      · have H := oq_t c9 H
        refine Wp.run 2 (show Y_X9_leftOver_26_25 d Q 9 [(4, .int (v4 + 1)), (0, .ref 25), (1, .ref 26), (2, .int v2), (3, .int v3)] [] s4 from ?_)
        refine Wp.weak [1, 2, 3, 4, 0] (lv' := [(0, .ref 25), (1, .ref 26), (2, .int v2), (3, .int v3), (4, .int (v4 + 1))]) rfl ?_
        exact ih _ _ _ _ H
      · have H := oq_f c9 H
        refine Wp.run 6 (show room8 [.int v3] ∧ WpM SHC MT (d + 3) 89 [.ref 25, .ref 26, .int v4, .int v2] s4 (fun v9 s9 => Y_X9_leftOver_26_25 d Q 37 [(0, .ref 25), (1, .ref 26), (2, .int v2), (3, .int v3), (4, .int v4)] (v9.toList ++ [.int v3]) s9) from ⟨rm8_ rfl, ?_⟩)
        refine w_X9_shareOf_26_25 (d := d) _ _ ?_
        refine oq_bd H (fun r5 s6 H => ?_)
        show Y_X9_leftOver_26_25 d Q 37 [(0, .ref 25), (1, .ref 26), (2, .int v2), (3, .int v3), (4, .int v4)] [.int r5, .int v3] s6
        refine Wp.run 4 (show Y_X9_leftOver_26_25 d Q 9 [(4, .int (v4 + 1)), (3, .int (v3 - r5)), (0, .ref 25), (1, .ref 26), (2, .int v2)] [] s6 from ?_)
        refine Wp.weak [2, 3, 4, 1, 0] (lv' := [(0, .ref 25), (1, .ref 26), (2, .int v2), (3, .int (v3 - r5)), (4, .int (v4 + 1))]) rfl ?_
        exact ih _ _ _ _ H
def f_X9_leftOver_26_25 (a2 : Int32) (s : Sg) : Option (Int32 × Sg) :=
  bd (f_X2_lying a2 s) (fun r1 s2 =>
  f_X9_leftOver_26_25_b9 BIG a2 r1 0 s2
  )
set_option maxRecDepth 100000 in
theorem w_X9_leftOver_26_25 {d : Nat} {s : Sg} {Q : Qt} (a2 : Int32) (H : OQ (f_X9_leftOver_26_25 a2 s) (fun r9 s9 => Q (some (.int r9)) s9)) : WpM SHC MT (d + 4) 91 [.ref 25, .ref 26, .int a2] s Q := by
  refine WpM.enter me_X9_leftOver rfl rfl ?_
  show Y_X9_leftOver_26_25 d Q 0 [(0, .ref 25), (1, .ref 26), (2, .int a2)] [] s
  unfold f_X9_leftOver_26_25 at H
  refine Wp.run 3 (show room8 [] ∧ WpM SHC MT (d + 3) 23 [.ref 26, .int a2] s (fun v9 s9 => Y_X9_leftOver_26_25 d Q 5 [(0, .ref 25), (1, .ref 26), (2, .int a2)] (v9.toList ++ []) s9) from ⟨rm8_ rfl, ?_⟩)
  refine w_X2_lying (d := d + 2) _ ?_
  refine oq_bd H (fun r1 s2 H => ?_)
  show Y_X9_leftOver_26_25 d Q 5 [(0, .ref 25), (1, .ref 26), (2, .int a2)] [.int r1] s2
  refine Wp.run 3 (show Y_X9_leftOver_26_25 d Q 9 [(4, .int 0), (3, .int r1), (0, .ref 25), (1, .ref 26), (2, .int a2)] [] s2 from ?_)
  refine Wp.weak [2, 3, 4, 1, 0] (lv' := [(0, .ref 25), (1, .ref 26), (2, .int a2), (3, .int r1), (4, .int 0)]) rfl ?_
  exact w_X9_leftOver_26_25_b9 _ _ _ _ _ H
abbrev Y_X11_nobodys (d : Nat) (Q : Qt) : Xt := Wp SHC (WpM SHC MT (d + 4)) cd_X11_nobodys (some .int) Q
def f_X11_nobodys (a1 : Int32) (s : Sg) : Option (Int32 × Sg) :=
  bd (f_X11_whyNoStep a1 1 s) (fun r1 s2 =>
  if r1 = 0 then
    bd (f_X9_leftOver_26_25 a1 s2) (fun r3 s4 =>
    bd (f_X11_answer r3 s4) (fun r5 s6 =>
    some (r5, s6)
    )
    )
  else
    bd (f_X11_refuse r1 s2) (fun r7 s8 =>
    some (r7, s8)
    )
  )
set_option maxRecDepth 100000 in
theorem w_X11_nobodys {d : Nat} {s : Sg} {Q : Qt} (a1 : Int32) (H : OQ (f_X11_nobodys a1 s) (fun r9 s9 => Q (some (.int r9)) s9)) : WpM SHC MT (d + 5) 120 [.ref 0, .int a1] s Q := by
  refine WpM.enter me_X11_nobodys rfl rfl ?_
  show Y_X11_nobodys d Q 0 [(0, .ref 0), (1, .int a1)] [] s
  unfold f_X11_nobodys at H
  refine Wp.run 4 (show room8 [] ∧ WpM SHC MT (d + 4) 177 [.ref 0, .int a1, .int 1] s (fun v9 s9 => Y_X11_nobodys d Q 6 [(0, .ref 0), (1, .int a1)] (v9.toList ++ []) s9) from ⟨rm8_ rfl, ?_⟩)
  refine w_X11_whyNoStep (d := d + 1) _ _ ?_
  refine oq_bd H (fun r1 s2 H => ?_)
  show Y_X11_nobodys d Q 6 [(0, .ref 0), (1, .int a1)] [.int r1] s2
  refine Wp.run 3 (show br (r1 = 0) (Y_X11_nobodys d Q 17 [(2, .int r1), (0, .ref 0), (1, .int a1)] [] s2) (Y_X11_nobodys d Q 11 [(2, .int r1), (0, .ref 0), (1, .int a1)] [] s2) from ⟨fun c9 => ?_, fun c9 => ?_⟩)
  · have H := oq_t c9 H
    refine Wp.run 7 (show room8 [.ref 0] ∧ WpM SHC MT (d + 4) 91 [.ref 25, .ref 26, .int a1] s2 (fun v9 s9 => Y_X11_nobodys d Q 30 [(2, .int r1), (0, .ref 0), (1, .int a1)] (v9.toList ++ [.ref 0]) s9) from ⟨rm8_ rfl, ?_⟩)
    refine w_X9_leftOver_26_25 (d := d) _ ?_
    refine oq_bd H (fun r3 s4 H => ?_)
    show Y_X11_nobodys d Q 30 [(2, .int r1), (0, .ref 0), (1, .int a1)] [.int r3, .ref 0] s4
    refine Wp.run 1 (show room8 [] ∧ WpM SHC MT (d + 4) 164 [.ref 0, .int r3] s4 (fun v9 s9 => Y_X11_nobodys d Q 33 [(2, .int r1), (0, .ref 0), (1, .int a1)] (v9.toList ++ []) s9) from ⟨rm8_ rfl, ?_⟩)
    refine w_X11_answer (d := d + 3) _ ?_
    refine oq_bd H (fun r5 s6 H => ?_)
    show Y_X11_nobodys d Q 33 [(2, .int r1), (0, .ref 0), (1, .int a1)] [.int r5] s6
    exact Wp.run 1 ⟨rfl, H⟩
  · have H := oq_f c9 H
    refine Wp.run 3 (show room8 [] ∧ WpM SHC MT (d + 4) 166 [.ref 0, .int r1] s2 (fun v9 s9 => Y_X11_nobodys d Q 16 [(2, .int r1), (0, .ref 0), (1, .int a1)] (v9.toList ++ []) s9) from ⟨rm8_ rfl, ?_⟩)
    refine w_X11_refuse (d := d + 3) _ ?_
    refine oq_bd H (fun r7 s8 H => ?_)
    show Y_X11_nobodys d Q 16 [(2, .int r1), (0, .ref 0), (1, .int a1)] [.int r7] s8
    exact Wp.run 1 ⟨rfl, H⟩
abbrev Y_X4_allQuarrels (d : Nat) (Q : Qt) : Xt := Wp SHC (WpM SHC MT (d + 0)) cd_X4_allQuarrels (some .int) Q
def f_X4_allQuarrels  (s : Sg) : Option (Int32 × Sg) :=
  some (((1 : Int32) <<< ((s.1 25 14) &&& 31)) - 1, s)
set_option maxRecDepth 100000 in
theorem w_X4_allQuarrels {d : Nat} {s : Sg} {Q : Qt}  (H : OQ (f_X4_allQuarrels  s) (fun r9 s9 => Q (some (.int r9)) s9)) : WpM SHC MT (d + 1) 54 [.ref 25] s Q := by
  refine WpM.enter me_X4_allQuarrels rfl rfl ?_
  show Y_X4_allQuarrels d Q 0 [(0, .ref 25)] [] s
  unfold f_X4_allQuarrels at H
  exact Wp.run 7 ⟨rfl, H⟩
abbrev Y_X9_contentAt_25 (d : Nat) (Q : Qt) : Xt := Wp SHC (WpM SHC MT (d + 1)) cd_X9_contentAt (some .int) Q
def f_X9_contentAt_25_b71 (k_35 : Int32 → Int32 → Int32 → Int32 → Int32 → Sg → Option (Int32 × Sg)) (v1 : Int32) (v3 : Int32) (v4 : Int32) (v5 : Int32) (v6 : Int32) (t0 : Int32) (s : Sg) : Option (Int32 × Sg) :=
  if v5 < t0 then
    nmx (v5 - (if t0 < v5 then t0 else v5) : Int32) (fun x5 =>
    k_35 v1 v3 v4 x5 (v6 + 1) s
    )
  else
    nmx (v4 ||| ((1 : Int32) <<< (v6 &&& 31)) : Int32) (fun x6 =>
    nmx (v5 - (if t0 < v5 then t0 else v5) : Int32) (fun x7 =>
    k_35 v1 v3 x6 x7 (v6 + 1) s
    )
    )
set_option maxRecDepth 100000 in
theorem w_X9_contentAt_25_b71 {d : Nat} {Q : Qt} (k_35 : Int32 → Int32 → Int32 → Int32 → Int32 → Sg → Option (Int32 × Sg)) (h_35 : ∀ (v1 : Int32) (v3 : Int32) (v4 : Int32) (v5 : Int32) (v6 : Int32) s, OQ (k_35 v1 v3 v4 v5 v6 s) (fun r9 s9 => Q (some (.int r9)) s9) → Y_X9_contentAt_25 d Q 35 [(0, .ref 25), (1, .int v1), (3, .int v3), (4, .int v4), (5, .int v5), (6, .int v6)] [] s) (v1 : Int32) (v3 : Int32) (v4 : Int32) (v5 : Int32) (v6 : Int32) (t0 : Int32) (s : Sg) (H : OQ (f_X9_contentAt_25_b71 k_35 v1 v3 v4 v5 v6 t0 s) (fun r9 s9 => Q (some (.int r9)) s9)) : Y_X9_contentAt_25 d Q 71 [(0, .ref 25), (1, .int v1), (3, .int v3), (4, .int v4), (5, .int v5), (6, .int v6)] [.int t0] s := by
  unfold f_X9_contentAt_25_b71 at H
  refine Wp.run 4 (show br (v5 < t0) (Y_X9_contentAt_25 d Q 89 [(7, .int t0), (0, .ref 25), (1, .int v1), (3, .int v3), (4, .int v4), (5, .int v5), (6, .int v6)] [] s) (Y_X9_contentAt_25 d Q 80 [(7, .int t0), (0, .ref 25), (1, .int v1), (3, .int v3), (4, .int v4), (5, .int v5), (6, .int v6)] [] s) from ⟨fun c9 => ?_, fun c9 => ?_⟩)
  · have H := oq_t c9 H
    refine Wp.run 4 (show room8 [.int v5] ∧ Y_X9_contentAt_25 d Q 98 [(7, .int t0), (0, .ref 25), (1, .int v1), (3, .int v3), (4, .int v4), (5, .int v5), (6, .int v6)] [.int (if t0 < v5 then t0 else v5), .int v5] s from ⟨rm8_ rfl, ?_⟩)
    refine Wp.run 2 (show Y_X9_contentAt_25 d Q 101 [(5, .int (v5 - (if t0 < v5 then t0 else v5))), (7, .int t0), (0, .ref 25), (1, .int v1), (3, .int v3), (4, .int v4), (6, .int v6)] [] s from ?_)
    revert H
    generalize (v5 - (if t0 < v5 then t0 else v5) : Int32) = x5
    intro H
    have H := nmx_e H
    refine Wp.run 2 (show Y_X9_contentAt_25 d Q 35 [(6, .int (v6 + 1)), (5, .int x5), (7, .int t0), (0, .ref 25), (1, .int v1), (3, .int v3), (4, .int v4)] [] s from ?_)
    refine Wp.weak [3, 4, 5, 6, 1, 0] (lv' := [(0, .ref 25), (1, .int v1), (3, .int v3), (4, .int v4), (5, .int x5), (6, .int (v6 + 1))]) rfl ?_
    exact h_35 _ _ _ _ _ _ H
  · have H := oq_f c9 H
    refine Wp.run 6 (show Y_X9_contentAt_25 d Q 89 [(4, .int (v4 ||| ((1 : Int32) <<< (v6 &&& 31)))), (7, .int t0), (0, .ref 25), (1, .int v1), (3, .int v3), (5, .int v5), (6, .int v6)] [] s from ?_)
    revert H
    generalize (v4 ||| ((1 : Int32) <<< (v6 &&& 31)) : Int32) = x6
    intro H
    have H := nmx_e H
    refine Wp.run 4 (show room8 [.int v5] ∧ Y_X9_contentAt_25 d Q 98 [(4, .int x6), (7, .int t0), (0, .ref 25), (1, .int v1), (3, .int v3), (5, .int v5), (6, .int v6)] [.int (if t0 < v5 then t0 else v5), .int v5] s from ⟨rm8_ rfl, ?_⟩)
    refine Wp.run 2 (show Y_X9_contentAt_25 d Q 101 [(5, .int (v5 - (if t0 < v5 then t0 else v5))), (4, .int x6), (7, .int t0), (0, .ref 25), (1, .int v1), (3, .int v3), (6, .int v6)] [] s from ?_)
    revert H
    generalize (v5 - (if t0 < v5 then t0 else v5) : Int32) = x7
    intro H
    have H := nmx_e H
    refine Wp.run 2 (show Y_X9_contentAt_25 d Q 35 [(6, .int (v6 + 1)), (5, .int x7), (4, .int x6), (7, .int t0), (0, .ref 25), (1, .int v1), (3, .int v3)] [] s from ?_)
    refine Wp.weak [4, 5, 6, 2, 1, 0] (lv' := [(0, .ref 25), (1, .int v1), (3, .int v3), (4, .int x6), (5, .int x7), (6, .int (v6 + 1))]) rfl ?_
    exact h_35 _ _ _ _ _ _ H
def f_X9_contentAt_25_b35 : Nat → Int32 → Int32 → Int32 → Int32 → Int32 → Sg → Option (Int32 × Sg)
  | 0, _, _, _, _, _, _ => none
  | n + 1, v1, v3, v4, v5, v6, s =>
    if (s.1 25 14) ≤ v6 then
      some (v4, s)
    else
      bd (f_X4_isAt v6 v1 s) (fun r3 s4 =>
      if r3 = 0 then
        (f_X9_contentAt_25_b35 n) v1 v3 v4 v5 (v6 + 1) s4
      else
        if v6 = v3 then
          f_X9_contentAt_25_b71 (f_X9_contentAt_25_b35 n) v1 v3 v4 v5 v6 0 s4
        else
          ck (inr v6 8) (
          f_X9_contentAt_25_b71 (f_X9_contentAt_25_b35 n) v1 v3 v4 v5 v6 (s4.1 33 v6.toNatClampNeg) s4
          )
      )
set_option maxRecDepth 100000 in
theorem w_X9_contentAt_25_b35 {d : Nat} {Q : Qt} (n : Nat) : ∀ (v1 : Int32) (v3 : Int32) (v4 : Int32) (v5 : Int32) (v6 : Int32) (s : Sg), OQ (f_X9_contentAt_25_b35 n v1 v3 v4 v5 v6 s) (fun r9 s9 => Q (some (.int r9)) s9) → Y_X9_contentAt_25 d Q 35 [(0, .ref 25), (1, .int v1), (3, .int v3), (4, .int v4), (5, .int v5), (6, .int v6)] [] s := by
  induction n with
  | zero => intro v1 v3 v4 v5 v6 s H; exact H.elim
  | succ n ih =>
    intro v1 v3 v4 v5 v6 s H
    unfold f_X9_contentAt_25_b35 at H
    refine Wp.run 4 (show br ((s.1 25 14) ≤ v6) (Y_X9_contentAt_25 d Q 107 [(0, .ref 25), (1, .int v1), (3, .int v3), (4, .int v4), (5, .int v5), (6, .int v6)] [] s) (Y_X9_contentAt_25 d Q 44 [(0, .ref 25), (1, .int v1), (3, .int v3), (4, .int v4), (5, .int v5), (6, .int v6)] [] s) from ⟨fun c9 => ?_, fun c9 => ?_⟩)
    · have H := oq_t c9 H
      exact Wp.run 2 ⟨rfl, H⟩
    · have H := oq_f c9 H
      refine Wp.run 4 (show room8 [] ∧ WpM SHC MT (d + 1) 56 [.ref 25, .int v6, .int v1] s (fun v9 s9 => Y_X9_contentAt_25 d Q 51 [(0, .ref 25), (1, .int v1), (3, .int v3), (4, .int v4), (5, .int v5), (6, .int v6)] (v9.toList ++ []) s9) from ⟨rm8_ rfl, ?_⟩)
      refine w_X4_isAt (d := d) _ _ ?_
      refine oq_bd H (fun r3 s4 H => ?_)
      show Y_X9_contentAt_25 d Q 51 [(0, .ref 25), (1, .int v1), (3, .int v3), (4, .int v4), (5, .int v5), (6, .int v6)] [.int r3] s4
      refine Wp.run 1 (show br (r3 = 0) (Y_X9_contentAt_25 d Q 101 [(0, .ref 25), (1, .int v1), (3, .int v3), (4, .int v4), (5, .int v5), (6, .int v6)] [] s4) (Y_X9_contentAt_25 d Q 54 [(0, .ref 25), (1, .int v1), (3, .int v3), (4, .int v4), (5, .int v5), (6, .int v6)] [] s4) from ⟨fun c9 => ?_, fun c9 => ?_⟩)
      · have H := oq_t c9 H
        refine Wp.run 2 (show Y_X9_contentAt_25 d Q 35 [(6, .int (v6 + 1)), (0, .ref 25), (1, .int v1), (3, .int v3), (4, .int v4), (5, .int v5)] [] s4 from ?_)
        refine Wp.weak [1, 2, 3, 4, 5, 0] (lv' := [(0, .ref 25), (1, .int v1), (3, .int v3), (4, .int v4), (5, .int v5), (6, .int (v6 + 1))]) rfl ?_
        exact ih _ _ _ _ _ _ H
      · have H := oq_f c9 H
        refine Wp.run 3 (show br (v6 = v3) (Y_X9_contentAt_25 d Q 60 [(0, .ref 25), (1, .int v1), (3, .int v3), (4, .int v4), (5, .int v5), (6, .int v6)] [] s4) (Y_X9_contentAt_25 d Q 64 [(0, .ref 25), (1, .int v1), (3, .int v3), (4, .int v4), (5, .int v5), (6, .int v6)] [] s4) from ⟨fun c9 => ?_, fun c9 => ?_⟩)
        · have H := oq_t c9 H
          refine Wp.run 2 (show Y_X9_contentAt_25 d Q 71 [(0, .ref 25), (1, .int v1), (3, .int v3), (4, .int v4), (5, .int v5), (6, .int v6)] [.int 0] s4 from ?_)
          refine Wp.weak [0, 1, 2, 3, 4, 5] (lv' := [(0, .ref 25), (1, .int v1), (3, .int v3), (4, .int v4), (5, .int v5), (6, .int v6)]) rfl ?_
          exact w_X9_contentAt_25_b71 (f_X9_contentAt_25_b35 n) ih _ _ _ _ _ _ _ H
        · have H := oq_f c9 H
          obtain ⟨hc8, H⟩ := oq_ck H
          refine Wp.run 4 (show (vp_in v6 8) ∧ Y_X9_contentAt_25 d Q 71 [(0, .ref 25), (1, .int v1), (3, .int v3), (4, .int v4), (5, .int v5), (6, .int v6)] [.int (s4.1 33 v6.toNatClampNeg)] s4 from ⟨hc8, ?_⟩)
          refine Wp.weak [0, 1, 2, 3, 4, 5] (lv' := [(0, .ref 25), (1, .int v1), (3, .int v3), (4, .int v4), (5, .int v5), (6, .int v6)]) rfl ?_
          exact w_X9_contentAt_25_b71 (f_X9_contentAt_25_b35 n) ih _ _ _ _ _ _ _ H
def f_X9_contentAt_25 (a1 : Int32) (a2 : Int32) (a3 : Int32) (s : Sg) : Option (Int32 × Sg) :=
  bd (f_X4_isGone a1 s) (fun r1 s2 =>
  if r1 = 0 then
    f_X9_contentAt_25_b35 BIG a1 a3 0 a2 0 s2
  else
    if (s2.1 25 19) = 0 then
      some (0, s2)
    else
      ck (inr a1 8) (
      some (s2.1 34 a1.toNatClampNeg, s2)
      )
  )
set_option maxRecDepth 100000 in
theorem w_X9_contentAt_25 {d : Nat} {s : Sg} {Q : Qt} (a1 : Int32) (a2 : Int32) (a3 : Int32) (H : OQ (f_X9_contentAt_25 a1 a2 a3 s) (fun r9 s9 => Q (some (.int r9)) s9)) : WpM SHC MT (d + 2) 92 [.ref 25, .int a1, .int a2, .int a3] s Q := by
  refine WpM.enter me_X9_contentAt rfl rfl ?_
  show Y_X9_contentAt_25 d Q 0 [(0, .ref 25), (1, .int a1), (2, .int a2), (3, .int a3)] [] s
  unfold f_X9_contentAt_25 at H
  refine Wp.run 3 (show room8 [] ∧ WpM SHC MT (d + 1) 55 [.ref 25, .int a1] s (fun v9 s9 => Y_X9_contentAt_25 d Q 5 [(0, .ref 25), (1, .int a1), (2, .int a2), (3, .int a3)] (v9.toList ++ []) s9) from ⟨rm8_ rfl, ?_⟩)
  refine w_X4_isGone (d := d) _ ?_
  refine oq_bd H (fun r1 s2 H => ?_)
  show Y_X9_contentAt_25 d Q 5 [(0, .ref 25), (1, .int a1), (2, .int a2), (3, .int a3)] [.int r1] s2
  refine Wp.run 1 (show br (r1 = 0) (Y_X9_contentAt_25 d Q 26 [(0, .ref 25), (1, .int a1), (2, .int a2), (3, .int a3)] [] s2) (Y_X9_contentAt_25 d Q 8 [(0, .ref 25), (1, .int a1), (2, .int a2), (3, .int a3)] [] s2) from ⟨fun c9 => ?_, fun c9 => ?_⟩)
  · have H := oq_t c9 H
    refine Wp.run 6 (show Y_X9_contentAt_25 d Q 35 [(6, .int 0), (5, .int a2), (4, .int 0), (0, .ref 25), (1, .int a1), (2, .int a2), (3, .int a3)] [] s2 from ?_)
    refine Wp.weak [3, 4, 6, 2, 1, 0] (lv' := [(0, .ref 25), (1, .int a1), (3, .int a3), (4, .int 0), (5, .int a2), (6, .int 0)]) rfl ?_
    exact w_X9_contentAt_25_b35 _ _ _ _ _ _ _ H
  · have H := oq_f c9 H
    refine Wp.run 3 (show br ((s2.1 25 19) = 0) (Y_X9_contentAt_25 d Q 24 [(0, .ref 25), (1, .int a1), (2, .int a2), (3, .int a3)] [] s2) (Y_X9_contentAt_25 d Q 15 [(0, .ref 25), (1, .int a1), (2, .int a2), (3, .int a3)] [] s2) from ⟨fun c9 => ?_, fun c9 => ?_⟩)
    · have H := oq_t c9 H
      exact Wp.run 2 ⟨rfl, H⟩
    · have H := oq_f c9 H
      obtain ⟨hc9, H⟩ := oq_ck H
      refine Wp.run 4 (show (vp_in a1 8) ∧ Y_X9_contentAt_25 d Q 21 [(0, .ref 25), (1, .int a1), (2, .int a2), (3, .int a3)] [.int (s2.1 34 a1.toNatClampNeg)] s2 from ⟨hc9, ?_⟩)
      exact Wp.run 2 ⟨rfl, H⟩
abbrev Y_X9_atPeace_26_25 (d : Nat) (Q : Qt) : Xt := Wp SHC (WpM SHC MT (d + 2)) cd_X9_atPeace (some .int) Q
def f_X9_atPeace_26_25_b8 : Nat → Int32 → Int32 → Int32 → Sg → Option (Int32 × Sg)
  | 0, _, _, _, _ => none
  | n + 1, v2, v3, v4, s =>
    if (s.1 25 13) ≤ v4 then
      some (v3, s)
    else
      ck (inr v4 8) (
      bd (f_X2_inSight v4 s) (fun r4 s5 =>
      bd (f_X9_contentAt_25 v4 r4 v2 s5) (fun r6 s7 =>
      nmx (v3 &&& (((s.1 34 v4.toNatClampNeg) ^^^ (-1)) ||| r6) : Int32) (fun x8 =>
      (f_X9_atPeace_26_25_b8 n) v2 x8 (v4 + 1) s7
      )
      )
      )
      )
set_option maxRecDepth 100000 in
theorem w_X9_atPeace_26_25_b8 {d : Nat} {Q : Qt} (n : Nat) : ∀ (v2 : Int32) (v3 : Int32) (v4 : Int32) (s : Sg), OQ (f_X9_atPeace_26_25_b8 n v2 v3 v4 s) (fun r9 s9 => Q (some (.int r9)) s9) → Y_X9_atPeace_26_25 d Q 8 [(0, .ref 25), (1, .ref 26), (2, .int v2), (3, .int v3), (4, .int v4)] [] s := by
  induction n with
  | zero => intro v2 v3 v4 s H; exact H.elim
  | succ n ih =>
    intro v2 v3 v4 s H
    unfold f_X9_atPeace_26_25_b8 at H
    refine Wp.run 4 (show br ((s.1 25 13) ≤ v4) (Y_X9_atPeace_26_25 d Q 49 [(0, .ref 25), (1, .ref 26), (2, .int v2), (3, .int v3), (4, .int v4)] [] s) (Y_X9_atPeace_26_25 d Q 17 [(0, .ref 25), (1, .ref 26), (2, .int v2), (3, .int v3), (4, .int v4)] [] s) from ⟨fun c9 => ?_, fun c9 => ?_⟩)
    · have H := oq_t c9 H
      exact Wp.run 2 ⟨rfl, H⟩
    · have H := oq_f c9 H
      obtain ⟨hc3, H⟩ := oq_ck H
      refine Wp.run 5 (show (vp_in v4 8) ∧ Y_X9_atPeace_26_25 d Q 25 [(0, .ref 25), (1, .ref 26), (2, .int v2), (3, .int v3), (4, .int v4)] [.int (s.1 34 v4.toNatClampNeg), .int v3] s from ⟨hc3, ?_⟩)
      refine Wp.run 7 (show room8 [.int v4, .ref 25, .int ((s.1 34 v4.toNatClampNeg) ^^^ (-1)), .int v3] ∧ WpM SHC MT (d + 2) 24 [.ref 26, .int v4] s (fun v9 s9 => Y_X9_atPeace_26_25 d Q 36 [(0, .ref 25), (1, .ref 26), (2, .int v2), (3, .int v3), (4, .int v4)] (v9.toList ++ [.int v4, .ref 25, .int ((s.1 34 v4.toNatClampNeg) ^^^ (-1)), .int v3]) s9) from ⟨rm8_ rfl, ?_⟩)
      refine w_X2_inSight (d := d) _ ?_
      refine oq_bd H (fun r4 s5 H => ?_)
      show Y_X9_atPeace_26_25 d Q 36 [(0, .ref 25), (1, .ref 26), (2, .int v2), (3, .int v3), (4, .int v4)] [.int r4, .int v4, .ref 25, .int ((s.1 34 v4.toNatClampNeg) ^^^ (-1)), .int v3] s5
      refine Wp.run 2 (show room8 [.int ((s.1 34 v4.toNatClampNeg) ^^^ (-1)), .int v3] ∧ WpM SHC MT (d + 2) 92 [.ref 25, .int v4, .int r4, .int v2] s5 (fun v9 s9 => Y_X9_atPeace_26_25 d Q 40 [(0, .ref 25), (1, .ref 26), (2, .int v2), (3, .int v3), (4, .int v4)] (v9.toList ++ [.int ((s.1 34 v4.toNatClampNeg) ^^^ (-1)), .int v3]) s9) from ⟨rm8_ rfl, ?_⟩)
      refine w_X9_contentAt_25 (d := d) _ _ _ ?_
      refine oq_bd H (fun r6 s7 H => ?_)
      show Y_X9_atPeace_26_25 d Q 40 [(0, .ref 25), (1, .ref 26), (2, .int v2), (3, .int v3), (4, .int v4)] [.int r6, .int ((s.1 34 v4.toNatClampNeg) ^^^ (-1)), .int v3] s7
      refine Wp.run 3 (show Y_X9_atPeace_26_25 d Q 43 [(3, .int (v3 &&& (((s.1 34 v4.toNatClampNeg) ^^^ (-1)) ||| r6))), (0, .ref 25), (1, .ref 26), (2, .int v2), (4, .int v4)] [] s7 from ?_)
      revert H
      generalize (v3 &&& (((s.1 34 v4.toNatClampNeg) ^^^ (-1)) ||| r6) : Int32) = x8
      intro H
      have H := nmx_e H
      refine Wp.run 2 (show Y_X9_atPeace_26_25 d Q 8 [(4, .int (v4 + 1)), (3, .int x8), (0, .ref 25), (1, .ref 26), (2, .int v2)] [] s7 from ?_)
      refine Wp.weak [2, 3, 4, 1, 0] (lv' := [(0, .ref 25), (1, .ref 26), (2, .int v2), (3, .int x8), (4, .int (v4 + 1))]) rfl ?_
      exact ih _ _ _ _ H
def f_X9_atPeace_26_25 (a2 : Int32) (s : Sg) : Option (Int32 × Sg) :=
  bd (f_X4_allQuarrels s) (fun r1 s2 =>
  f_X9_atPeace_26_25_b8 BIG a2 r1 0 s2
  )
set_option maxRecDepth 100000 in
theorem w_X9_atPeace_26_25 {d : Nat} {s : Sg} {Q : Qt} (a2 : Int32) (H : OQ (f_X9_atPeace_26_25 a2 s) (fun r9 s9 => Q (some (.int r9)) s9)) : WpM SHC MT (d + 3) 93 [.ref 25, .ref 26, .int a2] s Q := by
  refine WpM.enter me_X9_atPeace rfl rfl ?_
  show Y_X9_atPeace_26_25 d Q 0 [(0, .ref 25), (1, .ref 26), (2, .int a2)] [] s
  unfold f_X9_atPeace_26_25 at H
  refine Wp.run 2 (show room8 [] ∧ WpM SHC MT (d + 2) 54 [.ref 25] s (fun v9 s9 => Y_X9_atPeace_26_25 d Q 4 [(0, .ref 25), (1, .ref 26), (2, .int a2)] (v9.toList ++ []) s9) from ⟨rm8_ rfl, ?_⟩)
  refine w_X4_allQuarrels (d := d + 1)  ?_
  refine oq_bd H (fun r1 s2 H => ?_)
  show Y_X9_atPeace_26_25 d Q 4 [(0, .ref 25), (1, .ref 26), (2, .int a2)] [.int r1] s2
  refine Wp.run 3 (show Y_X9_atPeace_26_25 d Q 8 [(4, .int 0), (3, .int r1), (0, .ref 25), (1, .ref 26), (2, .int a2)] [] s2 from ?_)
  refine Wp.weak [2, 3, 4, 1, 0] (lv' := [(0, .ref 25), (1, .ref 26), (2, .int a2), (3, .int r1), (4, .int 0)]) rfl ?_
  exact w_X9_atPeace_26_25_b8 _ _ _ _ _ H
abbrev Y_X11_peace (d : Nat) (Q : Qt) : Xt := Wp SHC (WpM SHC MT (d + 3)) cd_X11_peace (some .int) Q
def f_X11_peace  (s : Sg) : Option (Int32 × Sg) :=
  bd (f_X9_atPeace_26_25 (-1) s) (fun r1 s2 =>
  bd (f_X11_answer r1 s2) (fun r3 s4 =>
  some (r3, s4)
  )
  )
set_option maxRecDepth 100000 in
theorem w_X11_peace {d : Nat} {s : Sg} {Q : Qt}  (H : OQ (f_X11_peace  s) (fun r9 s9 => Q (some (.int r9)) s9)) : WpM SHC MT (d + 4) 121 [.ref 0] s Q := by
  refine WpM.enter me_X11_peace rfl rfl ?_
  show Y_X11_peace d Q 0 [(0, .ref 0)] [] s
  unfold f_X11_peace at H
  refine Wp.run 7 (show room8 [.ref 0] ∧ WpM SHC MT (d + 3) 93 [.ref 25, .ref 26, .int (-1)] s (fun v9 s9 => Y_X11_peace d Q 13 [(0, .ref 0)] (v9.toList ++ [.ref 0]) s9) from ⟨rm8_ rfl, ?_⟩)
  refine w_X9_atPeace_26_25 (d := d) _ ?_
  refine oq_bd H (fun r1 s2 H => ?_)
  show Y_X11_peace d Q 13 [(0, .ref 0)] [.int r1, .ref 0] s2
  refine Wp.run 1 (show room8 [] ∧ WpM SHC MT (d + 3) 164 [.ref 0, .int r1] s2 (fun v9 s9 => Y_X11_peace d Q 16 [(0, .ref 0)] (v9.toList ++ []) s9) from ⟨rm8_ rfl, ?_⟩)
  refine w_X11_answer (d := d + 2) _ ?_
  refine oq_bd H (fun r3 s4 H => ?_)
  show Y_X11_peace d Q 16 [(0, .ref 0)] [.int r3] s4
  exact Wp.run 1 ⟨rfl, H⟩
abbrev Y_X9_calmAt_25 (d : Nat) (Q : Qt) : Xt := Wp SHC (WpM SHC MT (d + 1)) cd_X9_calmAt (some .int) Q
def f_X9_calmAt_25_b34 : Nat → Int32 → Int32 → Int32 → Int32 → Sg → Option (Int32 × Sg)
  | 0, _, _, _, _, _ => none
  | n + 1, v1, v3, v4, v5, s =>
    if (s.1 25 14) ≤ v5 then
      some (v3, s)
    else
      if v4 ≤ 0 then
        some (v3, s)
      else
        bd (f_X4_isAt v5 v1 s) (fun r3 s4 =>
        if r3 = 0 then
          (f_X9_calmAt_25_b34 n) v1 v3 v4 (v5 + 1) s4
        else
          nmx (v3 ||| ((1 : Int32) <<< (v5 &&& 31)) : Int32) (fun x5 =>
          ck (inr v5 8) (
          nmx (v4 - (s4.1 33 v5.toNatClampNeg) : Int32) (fun x7 =>
          (f_X9_calmAt_25_b34 n) v1 x5 x7 (v5 + 1) s4
          )
          )
          )
        )
set_option maxRecDepth 100000 in
theorem w_X9_calmAt_25_b34 {d : Nat} {Q : Qt} (n : Nat) : ∀ (v1 : Int32) (v3 : Int32) (v4 : Int32) (v5 : Int32) (s : Sg), OQ (f_X9_calmAt_25_b34 n v1 v3 v4 v5 s) (fun r9 s9 => Q (some (.int r9)) s9) → Y_X9_calmAt_25 d Q 34 [(0, .ref 25), (1, .int v1), (3, .int v3), (4, .int v4), (5, .int v5)] [] s := by
  induction n with
  | zero => intro v1 v3 v4 v5 s H; exact H.elim
  | succ n ih =>
    intro v1 v3 v4 v5 s H
    unfold f_X9_calmAt_25_b34 at H
    refine Wp.run 4 (show br ((s.1 25 14) ≤ v5) (Y_X9_calmAt_25 d Q 83 [(0, .ref 25), (1, .int v1), (3, .int v3), (4, .int v4), (5, .int v5)] [] s) (Y_X9_calmAt_25 d Q 43 [(0, .ref 25), (1, .int v1), (3, .int v3), (4, .int v4), (5, .int v5)] [] s) from ⟨fun c9 => ?_, fun c9 => ?_⟩)
    · have H := oq_t c9 H
      exact Wp.run 2 ⟨rfl, H⟩
    · have H := oq_f c9 H
      refine Wp.run 2 (show br (v4 ≤ 0) (Y_X9_calmAt_25 d Q 83 [(0, .ref 25), (1, .int v1), (3, .int v3), (4, .int v4), (5, .int v5)] [] s) (Y_X9_calmAt_25 d Q 48 [(0, .ref 25), (1, .int v1), (3, .int v3), (4, .int v4), (5, .int v5)] [] s) from ⟨fun c9 => ?_, fun c9 => ?_⟩)
      · have H := oq_t c9 H
        exact Wp.run 2 ⟨rfl, H⟩
      · have H := oq_f c9 H
        refine Wp.run 4 (show room8 [] ∧ WpM SHC MT (d + 1) 56 [.ref 25, .int v5, .int v1] s (fun v9 s9 => Y_X9_calmAt_25 d Q 55 [(0, .ref 25), (1, .int v1), (3, .int v3), (4, .int v4), (5, .int v5)] (v9.toList ++ []) s9) from ⟨rm8_ rfl, ?_⟩)
        refine w_X4_isAt (d := d) _ _ ?_
        refine oq_bd H (fun r3 s4 H => ?_)
        show Y_X9_calmAt_25 d Q 55 [(0, .ref 25), (1, .int v1), (3, .int v3), (4, .int v4), (5, .int v5)] [.int r3] s4
        refine Wp.run 1 (show br (r3 = 0) (Y_X9_calmAt_25 d Q 77 [(0, .ref 25), (1, .int v1), (3, .int v3), (4, .int v4), (5, .int v5)] [] s4) (Y_X9_calmAt_25 d Q 58 [(0, .ref 25), (1, .int v1), (3, .int v3), (4, .int v4), (5, .int v5)] [] s4) from ⟨fun c9 => ?_, fun c9 => ?_⟩)
        · have H := oq_t c9 H
          refine Wp.run 2 (show Y_X9_calmAt_25 d Q 34 [(5, .int (v5 + 1)), (0, .ref 25), (1, .int v1), (3, .int v3), (4, .int v4)] [] s4 from ?_)
          refine Wp.weak [1, 2, 3, 4, 0] (lv' := [(0, .ref 25), (1, .int v1), (3, .int v3), (4, .int v4), (5, .int (v5 + 1))]) rfl ?_
          exact ih _ _ _ _ _ H
        · have H := oq_f c9 H
          refine Wp.run 6 (show Y_X9_calmAt_25 d Q 65 [(3, .int (v3 ||| ((1 : Int32) <<< (v5 &&& 31)))), (0, .ref 25), (1, .int v1), (4, .int v4), (5, .int v5)] [] s4 from ?_)
          revert H
          generalize (v3 ||| ((1 : Int32) <<< (v5 &&& 31)) : Int32) = x5
          intro H
          have H := nmx_e H
          obtain ⟨hc6, H⟩ := oq_ck H
          refine Wp.run 5 (show (vp_in v5 8) ∧ Y_X9_calmAt_25 d Q 74 [(3, .int x5), (0, .ref 25), (1, .int v1), (4, .int v4), (5, .int v5)] [.int (s4.1 33 v5.toNatClampNeg), .int v4] s4 from ⟨hc6, ?_⟩)
          refine Wp.run 2 (show Y_X9_calmAt_25 d Q 77 [(4, .int (v4 - (s4.1 33 v5.toNatClampNeg))), (3, .int x5), (0, .ref 25), (1, .int v1), (5, .int v5)] [] s4 from ?_)
          revert H
          generalize (v4 - (s4.1 33 v5.toNatClampNeg) : Int32) = x7
          intro H
          have H := nmx_e H
          refine Wp.run 2 (show Y_X9_calmAt_25 d Q 34 [(5, .int (v5 + 1)), (4, .int x7), (3, .int x5), (0, .ref 25), (1, .int v1)] [] s4 from ?_)
          refine Wp.weak [3, 4, 2, 1, 0] (lv' := [(0, .ref 25), (1, .int v1), (3, .int x5), (4, .int x7), (5, .int (v5 + 1))]) rfl ?_
          exact ih _ _ _ _ _ H
def f_X9_calmAt_25 (a1 : Int32) (a2 : Int32) (s : Sg) : Option (Int32 × Sg) :=
  bd (f_X4_isGone a1 s) (fun r1 s2 =>
  if r1 = 0 then
    f_X9_calmAt_25_b34 BIG a1 0 a2 0 s2
  else
    if (s2.1 25 19) = 0 then
      some (0, s2)
    else
      ck (inr a1 8) (
      some (s2.1 34 a1.toNatClampNeg, s2)
      )
  )
set_option maxRecDepth 100000 in
theorem w_X9_calmAt_25 {d : Nat} {s : Sg} {Q : Qt} (a1 : Int32) (a2 : Int32) (H : OQ (f_X9_calmAt_25 a1 a2 s) (fun r9 s9 => Q (some (.int r9)) s9)) : WpM SHC MT (d + 2) 95 [.ref 25, .int a1, .int a2] s Q := by
  refine WpM.enter me_X9_calmAt rfl rfl ?_
  show Y_X9_calmAt_25 d Q 0 [(0, .ref 25), (1, .int a1), (2, .int a2)] [] s
  unfold f_X9_calmAt_25 at H
  refine Wp.run 3 (show room8 [] ∧ WpM SHC MT (d + 1) 55 [.ref 25, .int a1] s (fun v9 s9 => Y_X9_calmAt_25 d Q 5 [(0, .ref 25), (1, .int a1), (2, .int a2)] (v9.toList ++ []) s9) from ⟨rm8_ rfl, ?_⟩)
  refine w_X4_isGone (d := d) _ ?_
  refine oq_bd H (fun r1 s2 H => ?_)
  show Y_X9_calmAt_25 d Q 5 [(0, .ref 25), (1, .int a1), (2, .int a2)] [.int r1] s2
  refine Wp.run 1 (show br (r1 = 0) (Y_X9_calmAt_25 d Q 26 [(0, .ref 25), (1, .int a1), (2, .int a2)] [] s2) (Y_X9_calmAt_25 d Q 8 [(0, .ref 25), (1, .int a1), (2, .int a2)] [] s2) from ⟨fun c9 => ?_, fun c9 => ?_⟩)
  · have H := oq_t c9 H
    refine Wp.run 6 (show Y_X9_calmAt_25 d Q 34 [(5, .int 0), (4, .int a2), (3, .int 0), (0, .ref 25), (1, .int a1), (2, .int a2)] [] s2 from ?_)
    refine Wp.weak [3, 4, 2, 1, 0] (lv' := [(0, .ref 25), (1, .int a1), (3, .int 0), (4, .int a2), (5, .int 0)]) rfl ?_
    exact w_X9_calmAt_25_b34 _ _ _ _ _ _ H
  · have H := oq_f c9 H
    refine Wp.run 3 (show br ((s2.1 25 19) = 0) (Y_X9_calmAt_25 d Q 24 [(0, .ref 25), (1, .int a1), (2, .int a2)] [] s2) (Y_X9_calmAt_25 d Q 15 [(0, .ref 25), (1, .int a1), (2, .int a2)] [] s2) from ⟨fun c9 => ?_, fun c9 => ?_⟩)
    · have H := oq_t c9 H
      exact Wp.run 2 ⟨rfl, H⟩
    · have H := oq_f c9 H
      obtain ⟨hc8, H⟩ := oq_ck H
      refine Wp.run 4 (show (vp_in a1 8) ∧ Y_X9_calmAt_25 d Q 21 [(0, .ref 25), (1, .int a1), (2, .int a2)] [.int (s2.1 34 a1.toNatClampNeg)] s2 from ⟨hc8, ?_⟩)
      exact Wp.run 2 ⟨rfl, H⟩
abbrev Y_X9_inTruce_26_25 (d : Nat) (Q : Qt) : Xt := Wp SHC (WpM SHC MT (d + 2)) cd_X9_inTruce (some .int) Q
def f_X9_inTruce_26_25_b7 : Nat → Int32 → Int32 → Sg → Option (Int32 × Sg)
  | 0, _, _, _ => none
  | n + 1, v2, v3, s =>
    if (s.1 25 13) ≤ v3 then
      some (v2, s)
    else
      ck (inr v3 8) (
      bd (f_X2_inSight v3 s) (fun r4 s5 =>
      bd (f_X9_calmAt_25 v3 r4 s5) (fun r6 s7 =>
      nmx (v2 &&& (((s.1 34 v3.toNatClampNeg) ^^^ (-1)) ||| r6) : Int32) (fun x8 =>
      (f_X9_inTruce_26_25_b7 n) x8 (v3 + 1) s7
      )
      )
      )
      )
set_option maxRecDepth 100000 in
theorem w_X9_inTruce_26_25_b7 {d : Nat} {Q : Qt} (n : Nat) : ∀ (v2 : Int32) (v3 : Int32) (s : Sg), OQ (f_X9_inTruce_26_25_b7 n v2 v3 s) (fun r9 s9 => Q (some (.int r9)) s9) → Y_X9_inTruce_26_25 d Q 7 [(0, .ref 25), (1, .ref 26), (2, .int v2), (3, .int v3)] [] s := by
  induction n with
  | zero => intro v2 v3 s H; exact H.elim
  | succ n ih =>
    intro v2 v3 s H
    unfold f_X9_inTruce_26_25_b7 at H
    refine Wp.run 4 (show br ((s.1 25 13) ≤ v3) (Y_X9_inTruce_26_25 d Q 43 [(0, .ref 25), (1, .ref 26), (2, .int v2), (3, .int v3)] [] s) (Y_X9_inTruce_26_25 d Q 15 [(0, .ref 25), (1, .ref 26), (2, .int v2), (3, .int v3)] [] s) from ⟨fun c9 => ?_, fun c9 => ?_⟩)
    · have H := oq_t c9 H
      exact Wp.run 2 ⟨rfl, H⟩
    · have H := oq_f c9 H
      obtain ⟨hc3, H⟩ := oq_ck H
      refine Wp.run 5 (show (vp_in v3 8) ∧ Y_X9_inTruce_26_25 d Q 22 [(0, .ref 25), (1, .ref 26), (2, .int v2), (3, .int v3)] [.int (s.1 34 v3.toNatClampNeg), .int v2] s from ⟨hc3, ?_⟩)
      refine Wp.run 7 (show room8 [.int v3, .ref 25, .int ((s.1 34 v3.toNatClampNeg) ^^^ (-1)), .int v2] ∧ WpM SHC MT (d + 2) 24 [.ref 26, .int v3] s (fun v9 s9 => Y_X9_inTruce_26_25 d Q 31 [(0, .ref 25), (1, .ref 26), (2, .int v2), (3, .int v3)] (v9.toList ++ [.int v3, .ref 25, .int ((s.1 34 v3.toNatClampNeg) ^^^ (-1)), .int v2]) s9) from ⟨rm8_ rfl, ?_⟩)
      refine w_X2_inSight (d := d) _ ?_
      refine oq_bd H (fun r4 s5 H => ?_)
      show Y_X9_inTruce_26_25 d Q 31 [(0, .ref 25), (1, .ref 26), (2, .int v2), (3, .int v3)] [.int r4, .int v3, .ref 25, .int ((s.1 34 v3.toNatClampNeg) ^^^ (-1)), .int v2] s5
      refine Wp.run 1 (show room8 [.int ((s.1 34 v3.toNatClampNeg) ^^^ (-1)), .int v2] ∧ WpM SHC MT (d + 2) 95 [.ref 25, .int v3, .int r4] s5 (fun v9 s9 => Y_X9_inTruce_26_25 d Q 34 [(0, .ref 25), (1, .ref 26), (2, .int v2), (3, .int v3)] (v9.toList ++ [.int ((s.1 34 v3.toNatClampNeg) ^^^ (-1)), .int v2]) s9) from ⟨rm8_ rfl, ?_⟩)
      refine w_X9_calmAt_25 (d := d) _ _ ?_
      refine oq_bd H (fun r6 s7 H => ?_)
      show Y_X9_inTruce_26_25 d Q 34 [(0, .ref 25), (1, .ref 26), (2, .int v2), (3, .int v3)] [.int r6, .int ((s.1 34 v3.toNatClampNeg) ^^^ (-1)), .int v2] s7
      refine Wp.run 3 (show Y_X9_inTruce_26_25 d Q 37 [(2, .int (v2 &&& (((s.1 34 v3.toNatClampNeg) ^^^ (-1)) ||| r6))), (0, .ref 25), (1, .ref 26), (3, .int v3)] [] s7 from ?_)
      revert H
      generalize (v2 &&& (((s.1 34 v3.toNatClampNeg) ^^^ (-1)) ||| r6) : Int32) = x8
      intro H
      have H := nmx_e H
      refine Wp.run 2 (show Y_X9_inTruce_26_25 d Q 7 [(3, .int (v3 + 1)), (2, .int x8), (0, .ref 25), (1, .ref 26)] [] s7 from ?_)
      refine Wp.weak [2, 3, 1, 0] (lv' := [(0, .ref 25), (1, .ref 26), (2, .int x8), (3, .int (v3 + 1))]) rfl ?_
      exact ih _ _ _ H
def f_X9_inTruce_26_25  (s : Sg) : Option (Int32 × Sg) :=
  bd (f_X4_allQuarrels s) (fun r1 s2 =>
  f_X9_inTruce_26_25_b7 BIG r1 0 s2
  )
set_option maxRecDepth 100000 in
theorem w_X9_inTruce_26_25 {d : Nat} {s : Sg} {Q : Qt}  (H : OQ (f_X9_inTruce_26_25  s) (fun r9 s9 => Q (some (.int r9)) s9)) : WpM SHC MT (d + 3) 94 [.ref 25, .ref 26] s Q := by
  refine WpM.enter me_X9_inTruce rfl rfl ?_
  show Y_X9_inTruce_26_25 d Q 0 [(0, .ref 25), (1, .ref 26)] [] s
  unfold f_X9_inTruce_26_25 at H
  refine Wp.run 2 (show room8 [] ∧ WpM SHC MT (d + 2) 54 [.ref 25] s (fun v9 s9 => Y_X9_inTruce_26_25 d Q 4 [(0, .ref 25), (1, .ref 26)] (v9.toList ++ []) s9) from ⟨rm8_ rfl, ?_⟩)
  refine w_X4_allQuarrels (d := d + 1)  ?_
  refine oq_bd H (fun r1 s2 H => ?_)
  show Y_X9_inTruce_26_25 d Q 4 [(0, .ref 25), (1, .ref 26)] [.int r1] s2
  refine Wp.run 3 (show Y_X9_inTruce_26_25 d Q 7 [(3, .int 0), (2, .int r1), (0, .ref 25), (1, .ref 26)] [] s2 from ?_)
  refine Wp.weak [2, 3, 1, 0] (lv' := [(0, .ref 25), (1, .ref 26), (2, .int r1), (3, .int 0)]) rfl ?_
  exact w_X9_inTruce_26_25_b7 _ _ _ _ H
abbrev Y_X11_truce (d : Nat) (Q : Qt) : Xt := Wp SHC (WpM SHC MT (d + 3)) cd_X11_truce (some .int) Q
def f_X11_truce  (s : Sg) : Option (Int32 × Sg) :=
  bd (f_X9_inTruce_26_25 s) (fun r1 s2 =>
  bd (f_X11_answer r1 s2) (fun r3 s4 =>
  some (r3, s4)
  )
  )
set_option maxRecDepth 100000 in
theorem w_X11_truce {d : Nat} {s : Sg} {Q : Qt}  (H : OQ (f_X11_truce  s) (fun r9 s9 => Q (some (.int r9)) s9)) : WpM SHC MT (d + 4) 122 [.ref 0] s Q := by
  refine WpM.enter me_X11_truce rfl rfl ?_
  show Y_X11_truce d Q 0 [(0, .ref 0)] [] s
  unfold f_X11_truce at H
  refine Wp.run 6 (show room8 [.ref 0] ∧ WpM SHC MT (d + 3) 94 [.ref 25, .ref 26] s (fun v9 s9 => Y_X11_truce d Q 12 [(0, .ref 0)] (v9.toList ++ [.ref 0]) s9) from ⟨rm8_ rfl, ?_⟩)
  refine w_X9_inTruce_26_25 (d := d)  ?_
  refine oq_bd H (fun r1 s2 H => ?_)
  show Y_X11_truce d Q 12 [(0, .ref 0)] [.int r1, .ref 0] s2
  refine Wp.run 1 (show room8 [] ∧ WpM SHC MT (d + 3) 164 [.ref 0, .int r1] s2 (fun v9 s9 => Y_X11_truce d Q 15 [(0, .ref 0)] (v9.toList ++ []) s9) from ⟨rm8_ rfl, ?_⟩)
  refine w_X11_answer (d := d + 2) _ ?_
  refine oq_bd H (fun r3 s4 H => ?_)
  show Y_X11_truce d Q 15 [(0, .ref 0)] [.int r3] s4
  exact Wp.run 1 ⟨rfl, H⟩
abbrev Y_X11_over (d : Nat) (Q : Qt) : Xt := Wp SHC (WpM SHC MT (d + 1)) cd_X11_over (some .int) Q
def f_X11_over  (s : Sg) : Option (Int32 × Sg) :=
  bd (f_X11_answer (s.1 26 5) s) (fun r1 s2 =>
  some (r1, s2)
  )
set_option maxRecDepth 100000 in
theorem w_X11_over {d : Nat} {s : Sg} {Q : Qt}  (H : OQ (f_X11_over  s) (fun r9 s9 => Q (some (.int r9)) s9)) : WpM SHC MT (d + 2) 123 [.ref 0] s Q := by
  refine WpM.enter me_X11_over rfl rfl ?_
  show Y_X11_over d Q 0 [(0, .ref 0)] [] s
  unfold f_X11_over at H
  refine Wp.run 5 (show room8 [] ∧ WpM SHC MT (d + 1) 164 [.ref 0, .int (s.1 26 5)] s (fun v9 s9 => Y_X11_over d Q 11 [(0, .ref 0)] (v9.toList ++ []) s9) from ⟨rm8_ rfl, ?_⟩)
  refine w_X11_answer (d := d) _ ?_
  refine oq_bd H (fun r1 s2 H => ?_)
  show Y_X11_over d Q 11 [(0, .ref 0)] [.int r1] s2
  exact Wp.run 1 ⟨rfl, H⟩
abbrev Y_X4_withoutHope (d : Nat) (Q : Qt) : Xt := Wp SHC (WpM SHC MT (d + 1)) cd_X4_withoutHope (some .int) Q
def f_X4_withoutHope_b4 : Nat → Int32 → Int32 → Sg → Option (Int32 × Sg)
  | 0, _, _, _ => none
  | n + 1, v1, v2, s =>
    if (s.1 25 13) ≤ v2 then
      some (v1, s)
    else
      if (s.1 25 19) = 0 then
        bd (f_X4_isGone v2 s) (fun r1 s2 =>
        if r1 = 0 then
          (f_X4_withoutHope_b4 n) v1 (v2 + 1) s2
        else
          ck (inr v2 8) (
          nmx (v1 ||| (s2.1 34 v2.toNatClampNeg) : Int32) (fun x4 =>
          (f_X4_withoutHope_b4 n) x4 (v2 + 1) s2
          )
          )
        )
      else
        some (v1, s)
set_option maxRecDepth 100000 in
theorem w_X4_withoutHope_b4 {d : Nat} {Q : Qt} (n : Nat) : ∀ (v1 : Int32) (v2 : Int32) (s : Sg), OQ (f_X4_withoutHope_b4 n v1 v2 s) (fun r9 s9 => Q (some (.int r9)) s9) → Y_X4_withoutHope d Q 4 [(0, .ref 25), (1, .int v1), (2, .int v2)] [] s := by
  induction n with
  | zero => intro v1 v2 s H; exact H.elim
  | succ n ih =>
    intro v1 v2 s H
    unfold f_X4_withoutHope_b4 at H
    refine Wp.run 4 (show br ((s.1 25 13) ≤ v2) (Y_X4_withoutHope d Q 42 [(0, .ref 25), (1, .int v1), (2, .int v2)] [] s) (Y_X4_withoutHope d Q 12 [(0, .ref 25), (1, .int v1), (2, .int v2)] [] s) from ⟨fun c9 => ?_, fun c9 => ?_⟩)
    · have H := oq_t c9 H
      exact Wp.run 2 ⟨rfl, H⟩
    · have H := oq_f c9 H
      refine Wp.run 3 (show br ((s.1 25 19) = 0) (Y_X4_withoutHope d Q 19 [(0, .ref 25), (1, .int v1), (2, .int v2)] [] s) (Y_X4_withoutHope d Q 42 [(0, .ref 25), (1, .int v1), (2, .int v2)] [] s) from ⟨fun c9 => ?_, fun c9 => ?_⟩)
      · have H := oq_t c9 H
        refine Wp.run 3 (show room8 [] ∧ WpM SHC MT (d + 1) 55 [.ref 25, .int v2] s (fun v9 s9 => Y_X4_withoutHope d Q 24 [(0, .ref 25), (1, .int v1), (2, .int v2)] (v9.toList ++ []) s9) from ⟨rm8_ rfl, ?_⟩)
        refine w_X4_isGone (d := d) _ ?_
        refine oq_bd H (fun r1 s2 H => ?_)
        show Y_X4_withoutHope d Q 24 [(0, .ref 25), (1, .int v1), (2, .int v2)] [.int r1] s2
        refine Wp.run 1 (show br (r1 = 0) (Y_X4_withoutHope d Q 36 [(0, .ref 25), (1, .int v1), (2, .int v2)] [] s2) (Y_X4_withoutHope d Q 27 [(0, .ref 25), (1, .int v1), (2, .int v2)] [] s2) from ⟨fun c9 => ?_, fun c9 => ?_⟩)
        · have H := oq_t c9 H
          refine Wp.run 2 (show Y_X4_withoutHope d Q 4 [(2, .int (v2 + 1)), (0, .ref 25), (1, .int v1)] [] s2 from ?_)
          refine Wp.weak [1, 2, 0] (lv' := [(0, .ref 25), (1, .int v1), (2, .int (v2 + 1))]) rfl ?_
          exact ih _ _ _ H
        · have H := oq_f c9 H
          obtain ⟨hc3, H⟩ := oq_ck H
          refine Wp.run 5 (show (vp_in v2 8) ∧ Y_X4_withoutHope d Q 34 [(0, .ref 25), (1, .int v1), (2, .int v2)] [.int (s2.1 34 v2.toNatClampNeg), .int v1] s2 from ⟨hc3, ?_⟩)
          refine Wp.run 2 (show Y_X4_withoutHope d Q 36 [(1, .int (v1 ||| (s2.1 34 v2.toNatClampNeg))), (0, .ref 25), (2, .int v2)] [] s2 from ?_)
          revert H
          generalize (v1 ||| (s2.1 34 v2.toNatClampNeg) : Int32) = x4
          intro H
          have H := nmx_e H
          refine Wp.run 2 (show Y_X4_withoutHope d Q 4 [(2, .int (v2 + 1)), (1, .int x4), (0, .ref 25)] [] s2 from ?_)
          refine Wp.weak [2, 1, 0] (lv' := [(0, .ref 25), (1, .int x4), (2, .int (v2 + 1))]) rfl ?_
          exact ih _ _ _ H
      · have H := oq_f c9 H
        exact Wp.run 2 ⟨rfl, H⟩
def f_X4_withoutHope  (s : Sg) : Option (Int32 × Sg) :=
  f_X4_withoutHope_b4 BIG 0 0 s
set_option maxRecDepth 100000 in
theorem w_X4_withoutHope {d : Nat} {s : Sg} {Q : Qt}  (H : OQ (f_X4_withoutHope  s) (fun r9 s9 => Q (some (.int r9)) s9)) : WpM SHC MT (d + 2) 58 [.ref 25] s Q := by
  refine WpM.enter me_X4_withoutHope rfl rfl ?_
  show Y_X4_withoutHope d Q 0 [(0, .ref 25)] [] s
  unfold f_X4_withoutHope at H
  refine Wp.run 4 (show Y_X4_withoutHope d Q 4 [(2, .int 0), (1, .int 0), (0, .ref 25)] [] s from ?_)
  refine Wp.weak [2, 1, 0] (lv' := [(0, .ref 25), (1, .int 0), (2, .int 0)]) rfl ?_
  exact w_X4_withoutHope_b4 _ _ _ _ H
abbrev Y_X11_hopeless (d : Nat) (Q : Qt) : Xt := Wp SHC (WpM SHC MT (d + 2)) cd_X11_hopeless (some .int) Q
def f_X11_hopeless  (s : Sg) : Option (Int32 × Sg) :=
  bd (f_X4_withoutHope s) (fun r1 s2 =>
  bd (f_X11_answer r1 s2) (fun r3 s4 =>
  some (r3, s4)
  )
  )
set_option maxRecDepth 100000 in
theorem w_X11_hopeless {d : Nat} {s : Sg} {Q : Qt}  (H : OQ (f_X11_hopeless  s) (fun r9 s9 => Q (some (.int r9)) s9)) : WpM SHC MT (d + 3) 124 [.ref 0] s Q := by
  refine WpM.enter me_X11_hopeless rfl rfl ?_
  show Y_X11_hopeless d Q 0 [(0, .ref 0)] [] s
  unfold f_X11_hopeless at H
  refine Wp.run 4 (show room8 [.ref 0] ∧ WpM SHC MT (d + 2) 58 [.ref 25] s (fun v9 s9 => Y_X11_hopeless d Q 8 [(0, .ref 0)] (v9.toList ++ [.ref 0]) s9) from ⟨rm8_ rfl, ?_⟩)
  refine w_X4_withoutHope (d := d)  ?_
  refine oq_bd H (fun r1 s2 H => ?_)
  show Y_X11_hopeless d Q 8 [(0, .ref 0)] [.int r1, .ref 0] s2
  refine Wp.run 1 (show room8 [] ∧ WpM SHC MT (d + 2) 164 [.ref 0, .int r1] s2 (fun v9 s9 => Y_X11_hopeless d Q 11 [(0, .ref 0)] (v9.toList ++ []) s9) from ⟨rm8_ rfl, ?_⟩)
  refine w_X11_answer (d := d + 1) _ ?_
  refine oq_bd H (fun r3 s4 H => ?_)
  show Y_X11_hopeless d Q 11 [(0, .ref 0)] [.int r3] s4
  exact Wp.run 1 ⟨rfl, H⟩
abbrev Y_X2_hasRoom (d : Nat) (Q : Qt) : Xt := Wp SHC (WpM SHC MT (d + 1)) cd_X2_hasRoom (some .boolean) Q
def f_X2_hasRoom (a1 : Int32) (a2 : Int32) (s : Sg) : Option (Int32 × Sg) :=
  bd (f_X2_lying a1 s) (fun r1 s2 =>
  if 9999 < (r1 + a2) then
    some (0, s2)
  else
    some (1, s2)
  )
set_option maxRecDepth 100000 in
theorem w_X2_hasRoom {d : Nat} {s : Sg} {Q : Qt} (a1 : Int32) (a2 : Int32) (H : OQ (f_X2_hasRoom a1 a2 s) (fun r9 s9 => Q (some (.int r9)) s9)) : WpM SHC MT (d + 2) 25 [.ref 26, .int a1, .int a2] s Q := by
  refine WpM.enter me_X2_hasRoom rfl rfl ?_
  show Y_X2_hasRoom d Q 0 [(0, .ref 26), (1, .int a1), (2, .int a2)] [] s
  unfold f_X2_hasRoom at H
  refine Wp.run 3 (show room8 [] ∧ WpM SHC MT (d + 1) 23 [.ref 26, .int a1] s (fun v9 s9 => Y_X2_hasRoom d Q 5 [(0, .ref 26), (1, .int a1), (2, .int a2)] (v9.toList ++ []) s9) from ⟨rm8_ rfl, ?_⟩)
  refine w_X2_lying (d := d) _ ?_
  refine oq_bd H (fun r1 s2 H => ?_)
  show Y_X2_hasRoom d Q 5 [(0, .ref 26), (1, .int a1), (2, .int a2)] [.int r1] s2
  refine Wp.run 4 (show br (9999 < (r1 + a2)) (Y_X2_hasRoom d Q 17 [(0, .ref 26), (1, .int a1), (2, .int a2)] [] s2) (Y_X2_hasRoom d Q 13 [(0, .ref 26), (1, .int a1), (2, .int a2)] [] s2) from ⟨fun c9 => ?_, fun c9 => ?_⟩)
  · have H := oq_t c9 H
    exact Wp.run 2 ⟨rfl, H⟩
  · have H := oq_f c9 H
    exact Wp.run 3 ⟨rfl, H⟩
abbrev Y_X2_addSalt (d : Nat) (Q : Qt) : Xt := Wp SHC (WpM SHC MT (d + 0)) cd_X2_addSalt (none) Q
def f_X2_addSalt (a1 : Int32) (a2 : Int32) (s : Sg) : Option (Unit × Sg) :=
  ck (inr a1 8) (
  nmx (pI s 40 a1.toNatClampNeg ((s.1 40 a1.toNatClampNeg) + a2)) (fun s2 =>
  some ((), pI s2 26 9 ((s2.1 26 9) + a2))
  )
  )
set_option maxRecDepth 100000 in
theorem w_X2_addSalt {d : Nat} {s : Sg} {Q : Qt} (a1 : Int32) (a2 : Int32) (H : OQ (f_X2_addSalt a1 a2 s) (fun _ s9 => Q none s9)) : WpM SHC MT (d + 1) 28 [.ref 26, .int a1, .int a2] s Q := by
  refine WpM.enter me_X2_addSalt rfl rfl ?_
  show Y_X2_addSalt d Q 0 [(0, .ref 26), (1, .int a1), (2, .int a2)] [] s
  unfold f_X2_addSalt at H
  obtain ⟨hc1, H⟩ := oq_ck H
  refine Wp.run 5 (show (vp_in a1 8) ∧ Y_X2_addSalt d Q 7 [(0, .ref 26), (1, .int a1), (2, .int a2)] [.int (s.1 40 a1.toNatClampNeg), .int a1, .ref 40] s from ⟨hc1, ?_⟩)
  refine Wp.run 3 (show (vp_in a1 8) ∧ Y_X2_addSalt d Q 10 [(0, .ref 26), (1, .int a1), (2, .int a2)] [] (pI s 40 a1.toNatClampNeg ((s.1 40 a1.toNatClampNeg) + a2)) from ⟨hc1, ?_⟩)
  revert H
  generalize pI s 40 a1.toNatClampNeg ((s.1 40 a1.toNatClampNeg) + a2) = s2
  intro H
  have H := nmx_e H
  exact Wp.run 7 H
abbrev Y_X11_strew (d : Nat) (Q : Qt) : Xt := Wp SHC (WpM SHC MT (d + 3)) cd_X11_strew (some .int) Q
def f_X11_strew (a1 : Int32) (a2 : Int32) (s : Sg) : Option (Int32 × Sg) :=
  bd (f_X11_within a2 1 999 s) (fun r1 s2 =>
  bd (f_X11_whyNoStep a1 r1 s2) (fun r3 s4 =>
  if r3 = 0 then
    bd (f_X2_hasRoom a1 a2 s4) (fun r5 s6 =>
    if r5 = 0 then
      bd (f_X11_refuse 4 s6) (fun r7 s8 =>
      some (r7, s8)
      )
    else
      bd (f_X2_addSalt a1 a2 s6) (fun _ s10 =>
      ck (inr a1 8) (
      bd (f_X11_answer (s10.1 40 a1.toNatClampNeg) s10) (fun r12 s13 =>
      some (r12, s13)
      )
      )
      )
    )
  else
    bd (f_X11_refuse r3 s4) (fun r14 s15 =>
    some (r14, s15)
    )
  )
  )
set_option maxRecDepth 100000 in
theorem w_X11_strew {d : Nat} {s : Sg} {Q : Qt} (a1 : Int32) (a2 : Int32) (H : OQ (f_X11_strew a1 a2 s) (fun r9 s9 => Q (some (.int r9)) s9)) : WpM SHC MT (d + 4) 125 [.ref 0, .int a1, .int a2] s Q := by
  refine WpM.enter me_X11_strew rfl rfl ?_
  show Y_X11_strew d Q 0 [(0, .ref 0), (1, .int a1), (2, .int a2)] [] s
  unfold f_X11_strew at H
  refine Wp.run 6 (show room8 [.int a1, .ref 0] ∧ WpM SHC MT (d + 3) 169 [.int a2, .int 1, .int 999] s (fun v9 s9 => Y_X11_strew d Q 10 [(0, .ref 0), (1, .int a1), (2, .int a2)] (v9.toList ++ [.int a1, .ref 0]) s9) from ⟨rm8_ rfl, ?_⟩)
  refine w_X11_within (d := d + 2) _ _ _ ?_
  refine oq_bd H (fun r1 s2 H => ?_)
  show Y_X11_strew d Q 10 [(0, .ref 0), (1, .int a1), (2, .int a2)] [.int r1, .int a1, .ref 0] s2
  refine Wp.run 1 (show room8 [] ∧ WpM SHC MT (d + 3) 177 [.ref 0, .int a1, .int r1] s2 (fun v9 s9 => Y_X11_strew d Q 13 [(0, .ref 0), (1, .int a1), (2, .int a2)] (v9.toList ++ []) s9) from ⟨rm8_ rfl, ?_⟩)
  refine w_X11_whyNoStep (d := d) _ _ ?_
  refine oq_bd H (fun r3 s4 H => ?_)
  show Y_X11_strew d Q 13 [(0, .ref 0), (1, .int a1), (2, .int a2)] [.int r3] s4
  refine Wp.run 3 (show br (r3 = 0) (Y_X11_strew d Q 24 [(3, .int r3), (0, .ref 0), (1, .int a1), (2, .int a2)] [] s4) (Y_X11_strew d Q 18 [(3, .int r3), (0, .ref 0), (1, .int a1), (2, .int a2)] [] s4) from ⟨fun c9 => ?_, fun c9 => ?_⟩)
  · have H := oq_t c9 H
    refine Wp.run 5 (show room8 [] ∧ WpM SHC MT (d + 3) 25 [.ref 26, .int a1, .int a2] s4 (fun v9 s9 => Y_X11_strew d Q 33 [(3, .int r3), (0, .ref 0), (1, .int a1), (2, .int a2)] (v9.toList ++ []) s9) from ⟨rm8_ rfl, ?_⟩)
    refine w_X2_hasRoom (d := d + 1) _ _ ?_
    refine oq_bd H (fun r5 s6 H => ?_)
    show Y_X11_strew d Q 33 [(3, .int r3), (0, .ref 0), (1, .int a1), (2, .int a2)] [.int r5] s6
    refine Wp.run 1 (show br (r5 = 0) (Y_X11_strew d Q 36 [(3, .int r3), (0, .ref 0), (1, .int a1), (2, .int a2)] [] s6) (Y_X11_strew d Q 42 [(3, .int r3), (0, .ref 0), (1, .int a1), (2, .int a2)] [] s6) from ⟨fun c9 => ?_, fun c9 => ?_⟩)
    · have H := oq_t c9 H
      refine Wp.run 3 (show room8 [] ∧ WpM SHC MT (d + 3) 166 [.ref 0, .int 4] s6 (fun v9 s9 => Y_X11_strew d Q 41 [(3, .int r3), (0, .ref 0), (1, .int a1), (2, .int a2)] (v9.toList ++ []) s9) from ⟨rm8_ rfl, ?_⟩)
      refine w_X11_refuse (d := d + 2) _ ?_
      refine oq_bd H (fun r7 s8 H => ?_)
      show Y_X11_strew d Q 41 [(3, .int r3), (0, .ref 0), (1, .int a1), (2, .int a2)] [.int r7] s8
      exact Wp.run 1 ⟨rfl, H⟩
    · have H := oq_f c9 H
      refine Wp.run 5 (show room8 [] ∧ WpM SHC MT (d + 3) 28 [.ref 26, .int a1, .int a2] s6 (fun v9 s9 => Y_X11_strew d Q 51 [(3, .int r3), (0, .ref 0), (1, .int a1), (2, .int a2)] (v9.toList ++ []) s9) from ⟨rm8_ rfl, ?_⟩)
      refine w_X2_addSalt (d := d + 2) _ _ ?_
      refine oq_bd H (fun _ s10 H => ?_)
      show Y_X11_strew d Q 51 [(3, .int r3), (0, .ref 0), (1, .int a1), (2, .int a2)] [] s10
      obtain ⟨hc11, H⟩ := oq_ck H
      refine Wp.run 6 (show (vp_in a1 8) ∧ Y_X11_strew d Q 61 [(3, .int r3), (0, .ref 0), (1, .int a1), (2, .int a2)] [.int (s10.1 40 a1.toNatClampNeg), .ref 0] s10 from ⟨hc11, ?_⟩)
      refine Wp.run 1 (show room8 [] ∧ WpM SHC MT (d + 3) 164 [.ref 0, .int (s10.1 40 a1.toNatClampNeg)] s10 (fun v9 s9 => Y_X11_strew d Q 64 [(3, .int r3), (0, .ref 0), (1, .int a1), (2, .int a2)] (v9.toList ++ []) s9) from ⟨rm8_ rfl, ?_⟩)
      refine w_X11_answer (d := d + 2) _ ?_
      refine oq_bd H (fun r12 s13 H => ?_)
      show Y_X11_strew d Q 64 [(3, .int r3), (0, .ref 0), (1, .int a1), (2, .int a2)] [.int r12] s13
      exact Wp.run 1 ⟨rfl, H⟩
  · have H := oq_f c9 H
    refine Wp.run 3 (show room8 [] ∧ WpM SHC MT (d + 3) 166 [.ref 0, .int r3] s4 (fun v9 s9 => Y_X11_strew d Q 23 [(3, .int r3), (0, .ref 0), (1, .int a1), (2, .int a2)] (v9.toList ++ []) s9) from ⟨rm8_ rfl, ?_⟩)
    refine w_X11_refuse (d := d + 2) _ ?_
    refine oq_bd H (fun r14 s15 H => ?_)
    show Y_X11_strew d Q 23 [(3, .int r3), (0, .ref 0), (1, .int a1), (2, .int a2)] [.int r14] s15
    exact Wp.run 1 ⟨rfl, H⟩
abbrev Y_X2_addBought_25 (d : Nat) (Q : Qt) : Xt := Wp SHC (WpM SHC MT (d + 1)) cd_X2_addBought (some .int) Q
def f_X2_addBought_25 (a2 : Int32) (a3 : Int32) (a4 : Int32) (s : Sg) : Option (Int32 × Sg) :=
  ck (inr a2 4) (
  nmx ((a3 * (s.1 39 a2.toNatClampNeg)) / 16 : Int32) (fun x2 =>
  nmx (pI s 44 a2.toNatClampNeg ((s.1 44 a2.toNatClampNeg) - a3)) (fun s3 =>
  nmx (pI s3 26 8 ((s3.1 26 8) - (a3 * (s3.1 38 a2.toNatClampNeg)))) (fun s4 =>
  bd (f_X2_addSalt a4 (a3 - x2) s4) (fun _ s6 =>
  ck (inr a4 8) (
  nmx (pI s6 41 a4.toNatClampNeg ((s6.1 41 a4.toNatClampNeg) + x2)) (fun s8 =>
  some (x2, pI s8 26 9 ((s8.1 26 9) + x2))
  )
  )
  )
  )
  )
  )
  )
set_option maxRecDepth 100000 in
theorem w_X2_addBought_25 {d : Nat} {s : Sg} {Q : Qt} (a2 : Int32) (a3 : Int32) (a4 : Int32) (H : OQ (f_X2_addBought_25 a2 a3 a4 s) (fun r9 s9 => Q (some (.int r9)) s9)) : WpM SHC MT (d + 2) 29 [.ref 26, .ref 25, .int a2, .int a3, .int a4] s Q := by
  refine WpM.enter me_X2_addBought rfl rfl ?_
  show Y_X2_addBought_25 d Q 0 [(0, .ref 26), (1, .ref 25), (2, .int a2), (3, .int a3), (4, .int a4)] [] s
  unfold f_X2_addBought_25 at H
  obtain ⟨hc1, H⟩ := oq_ck H
  refine Wp.run 5 (show (vp_in a2 4) ∧ Y_X2_addBought_25 d Q 7 [(0, .ref 26), (1, .ref 25), (2, .int a2), (3, .int a3), (4, .int a4)] [.int (s.1 39 a2.toNatClampNeg), .int a3] s from ⟨hc1, ?_⟩)
  refine Wp.run 3 (show (¬ (16 : Int32) = 0) ∧ Y_X2_addBought_25 d Q 11 [(0, .ref 26), (1, .ref 25), (2, .int a2), (3, .int a3), (4, .int a4)] [.int ((a3 * (s.1 39 a2.toNatClampNeg)) / 16)] s from ⟨by decide, ?_⟩)
  refine Wp.run 1 (show Y_X2_addBought_25 d Q 13 [(5, .int ((a3 * (s.1 39 a2.toNatClampNeg)) / 16)), (0, .ref 26), (1, .ref 25), (2, .int a2), (3, .int a3), (4, .int a4)] [] s from ?_)
  revert H
  generalize ((a3 * (s.1 39 a2.toNatClampNeg)) / 16 : Int32) = x2
  intro H
  have H := nmx_e H
  refine Wp.run 5 (show (vp_in a2 4) ∧ Y_X2_addBought_25 d Q 20 [(5, .int x2), (0, .ref 26), (1, .ref 25), (2, .int a2), (3, .int a3), (4, .int a4)] [.int (s.1 44 a2.toNatClampNeg), .int a2, .ref 44] s from ⟨hc1, ?_⟩)
  refine Wp.run 3 (show (vp_in a2 4) ∧ Y_X2_addBought_25 d Q 23 [(5, .int x2), (0, .ref 26), (1, .ref 25), (2, .int a2), (3, .int a3), (4, .int a4)] [] (pI s 44 a2.toNatClampNeg ((s.1 44 a2.toNatClampNeg) - a3)) from ⟨hc1, ?_⟩)
  revert H
  generalize pI s 44 a2.toNatClampNeg ((s.1 44 a2.toNatClampNeg) - a3) = s3
  intro H
  have H := nmx_e H
  refine Wp.run 8 (show (vp_in a2 4) ∧ Y_X2_addBought_25 d Q 35 [(5, .int x2), (0, .ref 26), (1, .ref 25), (2, .int a2), (3, .int a3), (4, .int a4)] [.int (s3.1 38 a2.toNatClampNeg), .int a3, .int (s3.1 26 8), .ref 26] s3 from ⟨hc1, ?_⟩)
  refine Wp.run 3 (show Y_X2_addBought_25 d Q 40 [(5, .int x2), (0, .ref 26), (1, .ref 25), (2, .int a2), (3, .int a3), (4, .int a4)] [] (pI s3 26 8 ((s3.1 26 8) - (a3 * (s3.1 38 a2.toNatClampNeg)))) from ?_)
  revert H
  generalize pI s3 26 8 ((s3.1 26 8) - (a3 * (s3.1 38 a2.toNatClampNeg))) = s4
  intro H
  have H := nmx_e H
  refine Wp.run 6 (show room8 [] ∧ WpM SHC MT (d + 1) 28 [.ref 26, .int a4, .int (a3 - x2)] s4 (fun v9 s9 => Y_X2_addBought_25 d Q 50 [(5, .int x2), (0, .ref 26), (1, .ref 25), (2, .int a2), (3, .int a3), (4, .int a4)] (v9.toList ++ []) s9) from ⟨rm8_ rfl, ?_⟩)
  refine w_X2_addSalt (d := d) _ _ ?_
  refine oq_bd H (fun _ s6 H => ?_)
  show Y_X2_addBought_25 d Q 50 [(5, .int x2), (0, .ref 26), (1, .ref 25), (2, .int a2), (3, .int a3), (4, .int a4)] [] s6
  obtain ⟨hc7, H⟩ := oq_ck H
  refine Wp.run 5 (show (vp_in a4 8) ∧ Y_X2_addBought_25 d Q 58 [(5, .int x2), (0, .ref 26), (1, .ref 25), (2, .int a2), (3, .int a3), (4, .int a4)] [.int (s6.1 41 a4.toNatClampNeg), .int a4, .ref 41] s6 from ⟨hc7, ?_⟩)
  refine Wp.run 3 (show (vp_in a4 8) ∧ Y_X2_addBought_25 d Q 62 [(5, .int x2), (0, .ref 26), (1, .ref 25), (2, .int a2), (3, .int a3), (4, .int a4)] [] (pI s6 41 a4.toNatClampNeg ((s6.1 41 a4.toNatClampNeg) + x2)) from ⟨hc7, ?_⟩)
  revert H
  generalize pI s6 41 a4.toNatClampNeg ((s6.1 41 a4.toNatClampNeg) + x2) = s8
  intro H
  have H := nmx_e H
  exact Wp.run 8 ⟨rfl, H⟩
abbrev Y_X11_buy (d : Nat) (Q : Qt) : Xt := Wp SHC (WpM SHC MT (d + 2)) cd_X11_buy (some .int) Q
def f_X11_buy (a1 : Int32) (a2 : Int32) (a3 : Int32) (s : Sg) : Option (Int32 × Sg) :=
  bd (f_X11_isGrocer a1 s) (fun r1 s2 =>
  if r1 = 0 then
    bd (f_X11_refuse 1 s2) (fun r3 s4 =>
    some (r3, s4)
    )
  else
    bd (f_X11_within a2 1 999 s2) (fun r5 s6 =>
    if r5 = 0 then
      bd (f_X11_refuse 1 s6) (fun r7 s8 =>
      some (r7, s8)
      )
    else
      bd (f_X11_isHouse a3 s6) (fun r9 s10 =>
      if r9 = 0 then
        bd (f_X11_refuse 1 s10) (fun r11 s12 =>
        some (r11, s12)
        )
      else
        bd (f_X2_hasRoom a3 a2 s10) (fun r13 s14 =>
        if r13 = 0 then
          bd (f_X11_refuse 4 s14) (fun r15 s16 =>
          some (r15, s16)
          )
        else
          ck (inr a1 4) (
          if a2 ≤ (s14.1 44 a1.toNatClampNeg) then
            bd (f_X4_isGone a3 s14) (fun r18 s19 =>
            if r18 = 0 then
              bd (f_X2_addBought_25 a1 a2 a3 s19) (fun r20 s21 =>
              bd (f_X11_answer r20 s21) (fun r22 s23 =>
              some (r22, s23)
              )
              )
            else
              bd (f_X11_refuse 7 s19) (fun r24 s25 =>
              some (r24, s25)
              )
            )
          else
            bd (f_X11_refuse 6 s14) (fun r26 s27 =>
            some (r26, s27)
            )
          )
        )
      )
    )
  )
set_option maxRecDepth 100000 in
theorem w_X11_buy {d : Nat} {s : Sg} {Q : Qt} (a1 : Int32) (a2 : Int32) (a3 : Int32) (H : OQ (f_X11_buy a1 a2 a3 s) (fun r9 s9 => Q (some (.int r9)) s9)) : WpM SHC MT (d + 3) 126 [.ref 0, .int a1, .int a2, .int a3] s Q := by
  refine WpM.enter me_X11_buy rfl rfl ?_
  show Y_X11_buy d Q 0 [(0, .ref 0), (1, .int a1), (2, .int a2), (3, .int a3)] [] s
  unfold f_X11_buy at H
  refine Wp.run 3 (show room8 [] ∧ WpM SHC MT (d + 2) 174 [.ref 0, .int a1] s (fun v9 s9 => Y_X11_buy d Q 5 [(0, .ref 0), (1, .int a1), (2, .int a2), (3, .int a3)] (v9.toList ++ []) s9) from ⟨rm8_ rfl, ?_⟩)
  refine w_X11_isGrocer (d := d) _ ?_
  refine oq_bd H (fun r1 s2 H => ?_)
  show Y_X11_buy d Q 5 [(0, .ref 0), (1, .int a1), (2, .int a2), (3, .int a3)] [.int r1] s2
  refine Wp.run 1 (show br (r1 = 0) (Y_X11_buy d Q 27 [(0, .ref 0), (1, .int a1), (2, .int a2), (3, .int a3)] [] s2) (Y_X11_buy d Q 8 [(0, .ref 0), (1, .int a1), (2, .int a2), (3, .int a3)] [] s2) from ⟨fun c9 => ?_, fun c9 => ?_⟩)
  · have H := oq_t c9 H
    refine Wp.run 3 (show room8 [] ∧ WpM SHC MT (d + 2) 166 [.ref 0, .int 1] s2 (fun v9 s9 => Y_X11_buy d Q 32 [(0, .ref 0), (1, .int a1), (2, .int a2), (3, .int a3)] (v9.toList ++ []) s9) from ⟨rm8_ rfl, ?_⟩)
    refine w_X11_refuse (d := d + 1) _ ?_
    refine oq_bd H (fun r3 s4 H => ?_)
    show Y_X11_buy d Q 32 [(0, .ref 0), (1, .int a1), (2, .int a2), (3, .int a3)] [.int r3] s4
    exact Wp.run 1 ⟨rfl, H⟩
  · have H := oq_f c9 H
    refine Wp.run 4 (show room8 [] ∧ WpM SHC MT (d + 2) 169 [.int a2, .int 1, .int 999] s2 (fun v9 s9 => Y_X11_buy d Q 16 [(0, .ref 0), (1, .int a1), (2, .int a2), (3, .int a3)] (v9.toList ++ []) s9) from ⟨rm8_ rfl, ?_⟩)
    refine w_X11_within (d := d + 1) _ _ _ ?_
    refine oq_bd H (fun r5 s6 H => ?_)
    show Y_X11_buy d Q 16 [(0, .ref 0), (1, .int a1), (2, .int a2), (3, .int a3)] [.int r5] s6
    refine Wp.run 1 (show br (r5 = 0) (Y_X11_buy d Q 27 [(0, .ref 0), (1, .int a1), (2, .int a2), (3, .int a3)] [] s6) (Y_X11_buy d Q 19 [(0, .ref 0), (1, .int a1), (2, .int a2), (3, .int a3)] [] s6) from ⟨fun c9 => ?_, fun c9 => ?_⟩)
    · have H := oq_t c9 H
      refine Wp.run 3 (show room8 [] ∧ WpM SHC MT (d + 2) 166 [.ref 0, .int 1] s6 (fun v9 s9 => Y_X11_buy d Q 32 [(0, .ref 0), (1, .int a1), (2, .int a2), (3, .int a3)] (v9.toList ++ []) s9) from ⟨rm8_ rfl, ?_⟩)
      refine w_X11_refuse (d := d + 1) _ ?_
      refine oq_bd H (fun r7 s8 H => ?_)
      show Y_X11_buy d Q 32 [(0, .ref 0), (1, .int a1), (2, .int a2), (3, .int a3)] [.int r7] s8
      exact Wp.run 1 ⟨rfl, H⟩
    · have H := oq_f c9 H
      refine Wp.run 3 (show room8 [] ∧ WpM SHC MT (d + 2) 172 [.ref 0, .int a3] s6 (fun v9 s9 => Y_X11_buy d Q 24 [(0, .ref 0), (1, .int a1), (2, .int a2), (3, .int a3)] (v9.toList ++ []) s9) from ⟨rm8_ rfl, ?_⟩)
      refine w_X11_isHouse (d := d) _ ?_
      refine oq_bd H (fun r9 s10 H => ?_)
      show Y_X11_buy d Q 24 [(0, .ref 0), (1, .int a1), (2, .int a2), (3, .int a3)] [.int r9] s10
      refine Wp.run 1 (show br (r9 = 0) (Y_X11_buy d Q 27 [(0, .ref 0), (1, .int a1), (2, .int a2), (3, .int a3)] [] s10) (Y_X11_buy d Q 33 [(0, .ref 0), (1, .int a1), (2, .int a2), (3, .int a3)] [] s10) from ⟨fun c9 => ?_, fun c9 => ?_⟩)
      · have H := oq_t c9 H
        refine Wp.run 3 (show room8 [] ∧ WpM SHC MT (d + 2) 166 [.ref 0, .int 1] s10 (fun v9 s9 => Y_X11_buy d Q 32 [(0, .ref 0), (1, .int a1), (2, .int a2), (3, .int a3)] (v9.toList ++ []) s9) from ⟨rm8_ rfl, ?_⟩)
        refine w_X11_refuse (d := d + 1) _ ?_
        refine oq_bd H (fun r11 s12 H => ?_)
        show Y_X11_buy d Q 32 [(0, .ref 0), (1, .int a1), (2, .int a2), (3, .int a3)] [.int r11] s12
        exact Wp.run 1 ⟨rfl, H⟩
      · have H := oq_f c9 H
        refine Wp.run 5 (show room8 [] ∧ WpM SHC MT (d + 2) 25 [.ref 26, .int a3, .int a2] s10 (fun v9 s9 => Y_X11_buy d Q 42 [(0, .ref 0), (1, .int a1), (2, .int a2), (3, .int a3)] (v9.toList ++ []) s9) from ⟨rm8_ rfl, ?_⟩)
        refine w_X2_hasRoom (d := d) _ _ ?_
        refine oq_bd H (fun r13 s14 H => ?_)
        show Y_X11_buy d Q 42 [(0, .ref 0), (1, .int a1), (2, .int a2), (3, .int a3)] [.int r13] s14
        refine Wp.run 1 (show br (r13 = 0) (Y_X11_buy d Q 45 [(0, .ref 0), (1, .int a1), (2, .int a2), (3, .int a3)] [] s14) (Y_X11_buy d Q 51 [(0, .ref 0), (1, .int a1), (2, .int a2), (3, .int a3)] [] s14) from ⟨fun c9 => ?_, fun c9 => ?_⟩)
        · have H := oq_t c9 H
          refine Wp.run 3 (show room8 [] ∧ WpM SHC MT (d + 2) 166 [.ref 0, .int 4] s14 (fun v9 s9 => Y_X11_buy d Q 50 [(0, .ref 0), (1, .int a1), (2, .int a2), (3, .int a3)] (v9.toList ++ []) s9) from ⟨rm8_ rfl, ?_⟩)
          refine w_X11_refuse (d := d + 1) _ ?_
          refine oq_bd H (fun r15 s16 H => ?_)
          show Y_X11_buy d Q 50 [(0, .ref 0), (1, .int a1), (2, .int a2), (3, .int a3)] [.int r15] s16
          exact Wp.run 1 ⟨rfl, H⟩
        · have H := oq_f c9 H
          obtain ⟨hc17, H⟩ := oq_ck H
          refine Wp.run 5 (show (vp_in a1 4) ∧ Y_X11_buy d Q 60 [(0, .ref 0), (1, .int a1), (2, .int a2), (3, .int a3)] [.int (s14.1 44 a1.toNatClampNeg)] s14 from ⟨hc17, ?_⟩)
          refine Wp.run 2 (show br (a2 ≤ (s14.1 44 a1.toNatClampNeg)) (Y_X11_buy d Q 71 [(0, .ref 0), (1, .int a1), (2, .int a2), (3, .int a3)] [] s14) (Y_X11_buy d Q 64 [(0, .ref 0), (1, .int a1), (2, .int a2), (3, .int a3)] [] s14) from ⟨fun c9 => ?_, fun c9 => ?_⟩)
          · have H := oq_t c9 H
            refine Wp.run 4 (show room8 [] ∧ WpM SHC MT (d + 2) 55 [.ref 25, .int a3] s14 (fun v9 s9 => Y_X11_buy d Q 79 [(0, .ref 0), (1, .int a1), (2, .int a2), (3, .int a3)] (v9.toList ++ []) s9) from ⟨rm8_ rfl, ?_⟩)
            refine w_X4_isGone (d := d + 1) _ ?_
            refine oq_bd H (fun r18 s19 H => ?_)
            show Y_X11_buy d Q 79 [(0, .ref 0), (1, .int a1), (2, .int a2), (3, .int a3)] [.int r18] s19
            refine Wp.run 1 (show br (r18 = 0) (Y_X11_buy d Q 89 [(0, .ref 0), (1, .int a1), (2, .int a2), (3, .int a3)] [] s19) (Y_X11_buy d Q 82 [(0, .ref 0), (1, .int a1), (2, .int a2), (3, .int a3)] [] s19) from ⟨fun c9 => ?_, fun c9 => ?_⟩)
            · have H := oq_t c9 H
              refine Wp.run 9 (show room8 [.ref 0] ∧ WpM SHC MT (d + 2) 29 [.ref 26, .ref 25, .int a1, .int a2, .int a3] s19 (fun v9 s9 => Y_X11_buy d Q 104 [(0, .ref 0), (1, .int a1), (2, .int a2), (3, .int a3)] (v9.toList ++ [.ref 0]) s9) from ⟨rm8_ rfl, ?_⟩)
              refine w_X2_addBought_25 (d := d) _ _ _ ?_
              refine oq_bd H (fun r20 s21 H => ?_)
              show Y_X11_buy d Q 104 [(0, .ref 0), (1, .int a1), (2, .int a2), (3, .int a3)] [.int r20, .ref 0] s21
              refine Wp.run 1 (show room8 [] ∧ WpM SHC MT (d + 2) 164 [.ref 0, .int r20] s21 (fun v9 s9 => Y_X11_buy d Q 107 [(0, .ref 0), (1, .int a1), (2, .int a2), (3, .int a3)] (v9.toList ++ []) s9) from ⟨rm8_ rfl, ?_⟩)
              refine w_X11_answer (d := d + 1) _ ?_
              refine oq_bd H (fun r22 s23 H => ?_)
              show Y_X11_buy d Q 107 [(0, .ref 0), (1, .int a1), (2, .int a2), (3, .int a3)] [.int r22] s23
              exact Wp.run 1 ⟨rfl, H⟩
            · have H := oq_f c9 H
              refine Wp.run 3 (show room8 [] ∧ WpM SHC MT (d + 2) 166 [.ref 0, .int 7] s19 (fun v9 s9 => Y_X11_buy d Q 88 [(0, .ref 0), (1, .int a1), (2, .int a2), (3, .int a3)] (v9.toList ++ []) s9) from ⟨rm8_ rfl, ?_⟩)
              refine w_X11_refuse (d := d + 1) _ ?_
              refine oq_bd H (fun r24 s25 H => ?_)
              show Y_X11_buy d Q 88 [(0, .ref 0), (1, .int a1), (2, .int a2), (3, .int a3)] [.int r24] s25
              exact Wp.run 1 ⟨rfl, H⟩
          · have H := oq_f c9 H
            refine Wp.run 3 (show room8 [] ∧ WpM SHC MT (d + 2) 166 [.ref 0, .int 6] s14 (fun v9 s9 => Y_X11_buy d Q 70 [(0, .ref 0), (1, .int a1), (2, .int a2), (3, .int a3)] (v9.toList ++ []) s9) from ⟨rm8_ rfl, ?_⟩)
            refine w_X11_refuse (d := d + 1) _ ?_
            refine oq_bd H (fun r26 s27 H => ?_)
            show Y_X11_buy d Q 70 [(0, .ref 0), (1, .int a1), (2, .int a2), (3, .int a3)] [.int r26] s27
            exact Wp.run 1 ⟨rfl, H⟩
abbrev Y_X2_clearStep (d : Nat) (Q : Qt) : Xt := Wp SHC (WpM SHC MT (d + 1)) cd_X2_clearStep (some .int) Q
def f_X2_clearStep (a1 : Int32) (s : Sg) : Option (Int32 × Sg) :=
  bd (f_X2_lying a1 s) (fun r1 s2 =>
  ck (inr a1 8) (
  nmx (pI (pI s2 40 a1.toNatClampNeg 0) 41 a1.toNatClampNeg 0) (fun s4 =>
  nmx (pI s4 26 11 ((s4.1 26 11) + r1)) (fun s5 =>
  some (r1, s5)
  )
  )
  )
  )
set_option maxRecDepth 100000 in
theorem w_X2_clearStep {d : Nat} {s : Sg} {Q : Qt} (a1 : Int32) (H : OQ (f_X2_clearStep a1 s) (fun r9 s9 => Q (some (.int r9)) s9)) : WpM SHC MT (d + 2) 30 [.ref 26, .int a1] s Q := by
  refine WpM.enter me_X2_clearStep rfl rfl ?_
  show Y_X2_clearStep d Q 0 [(0, .ref 26), (1, .int a1)] [] s
  unfold f_X2_clearStep at H
  refine Wp.run 3 (show room8 [] ∧ WpM SHC MT (d + 1) 23 [.ref 26, .int a1] s (fun v9 s9 => Y_X2_clearStep d Q 5 [(0, .ref 26), (1, .int a1)] (v9.toList ++ []) s9) from ⟨rm8_ rfl, ?_⟩)
  refine w_X2_lying (d := d) _ ?_
  refine oq_bd H (fun r1 s2 H => ?_)
  show Y_X2_clearStep d Q 5 [(0, .ref 26), (1, .int a1)] [.int r1] s2
  obtain ⟨hc3, H⟩ := oq_ck H
  refine Wp.run 6 (show (vp_in a1 8) ∧ Y_X2_clearStep d Q 13 [(2, .int r1), (0, .ref 26), (1, .int a1)] [] (pI s2 40 a1.toNatClampNeg 0) from ⟨hc3, ?_⟩)
  refine Wp.run 5 (show (vp_in a1 8) ∧ Y_X2_clearStep d Q 20 [(2, .int r1), (0, .ref 26), (1, .int a1)] [] (pI (pI s2 40 a1.toNatClampNeg 0) 41 a1.toNatClampNeg 0) from ⟨hc3, ?_⟩)
  revert H
  generalize pI (pI s2 40 a1.toNatClampNeg 0) 41 a1.toNatClampNeg 0 = s4
  intro H
  have H := nmx_e H
  refine Wp.run 6 (show Y_X2_clearStep d Q 30 [(2, .int r1), (0, .ref 26), (1, .int a1)] [] (pI s4 26 11 ((s4.1 26 11) + r1)) from ?_)
  revert H
  generalize pI s4 26 11 ((s4.1 26 11) + r1) = s5
  intro H
  have H := nmx_e H
  exact Wp.run 2 ⟨rfl, H⟩
abbrev Y_X11_sweep (d : Nat) (Q : Qt) : Xt := Wp SHC (WpM SHC MT (d + 3)) cd_X11_sweep (some .int) Q
def f_X11_sweep (a1 : Int32) (s : Sg) : Option (Int32 × Sg) :=
  bd (f_X11_whyNoStep a1 1 s) (fun r1 s2 =>
  if r1 = 0 then
    bd (f_X2_clearStep a1 s2) (fun r3 s4 =>
    bd (f_X11_answer r3 s4) (fun r5 s6 =>
    some (r5, s6)
    )
    )
  else
    bd (f_X11_refuse r1 s2) (fun r7 s8 =>
    some (r7, s8)
    )
  )
set_option maxRecDepth 100000 in
theorem w_X11_sweep {d : Nat} {s : Sg} {Q : Qt} (a1 : Int32) (H : OQ (f_X11_sweep a1 s) (fun r9 s9 => Q (some (.int r9)) s9)) : WpM SHC MT (d + 4) 127 [.ref 0, .int a1] s Q := by
  refine WpM.enter me_X11_sweep rfl rfl ?_
  show Y_X11_sweep d Q 0 [(0, .ref 0), (1, .int a1)] [] s
  unfold f_X11_sweep at H
  refine Wp.run 4 (show room8 [] ∧ WpM SHC MT (d + 3) 177 [.ref 0, .int a1, .int 1] s (fun v9 s9 => Y_X11_sweep d Q 6 [(0, .ref 0), (1, .int a1)] (v9.toList ++ []) s9) from ⟨rm8_ rfl, ?_⟩)
  refine w_X11_whyNoStep (d := d) _ _ ?_
  refine oq_bd H (fun r1 s2 H => ?_)
  show Y_X11_sweep d Q 6 [(0, .ref 0), (1, .int a1)] [.int r1] s2
  refine Wp.run 3 (show br (r1 = 0) (Y_X11_sweep d Q 17 [(2, .int r1), (0, .ref 0), (1, .int a1)] [] s2) (Y_X11_sweep d Q 11 [(2, .int r1), (0, .ref 0), (1, .int a1)] [] s2) from ⟨fun c9 => ?_, fun c9 => ?_⟩)
  · have H := oq_t c9 H
    refine Wp.run 5 (show room8 [.ref 0] ∧ WpM SHC MT (d + 3) 30 [.ref 26, .int a1] s2 (fun v9 s9 => Y_X11_sweep d Q 26 [(2, .int r1), (0, .ref 0), (1, .int a1)] (v9.toList ++ [.ref 0]) s9) from ⟨rm8_ rfl, ?_⟩)
    refine w_X2_clearStep (d := d + 1) _ ?_
    refine oq_bd H (fun r3 s4 H => ?_)
    show Y_X11_sweep d Q 26 [(2, .int r1), (0, .ref 0), (1, .int a1)] [.int r3, .ref 0] s4
    refine Wp.run 1 (show room8 [] ∧ WpM SHC MT (d + 3) 164 [.ref 0, .int r3] s4 (fun v9 s9 => Y_X11_sweep d Q 29 [(2, .int r1), (0, .ref 0), (1, .int a1)] (v9.toList ++ []) s9) from ⟨rm8_ rfl, ?_⟩)
    refine w_X11_answer (d := d + 2) _ ?_
    refine oq_bd H (fun r5 s6 H => ?_)
    show Y_X11_sweep d Q 29 [(2, .int r1), (0, .ref 0), (1, .int a1)] [.int r5] s6
    exact Wp.run 1 ⟨rfl, H⟩
  · have H := oq_f c9 H
    refine Wp.run 3 (show room8 [] ∧ WpM SHC MT (d + 3) 166 [.ref 0, .int r1] s2 (fun v9 s9 => Y_X11_sweep d Q 16 [(2, .int r1), (0, .ref 0), (1, .int a1)] (v9.toList ++ []) s9) from ⟨rm8_ rfl, ?_⟩)
    refine w_X11_refuse (d := d + 2) _ ?_
    refine oq_bd H (fun r7 s8 H => ?_)
    show Y_X11_sweep d Q 16 [(2, .int r1), (0, .ref 0), (1, .int a1)] [.int r7] s8
    exact Wp.run 1 ⟨rfl, H⟩
abbrev Y_X2_carry (d : Nat) (Q : Qt) : Xt := Wp SHC (WpM SHC MT (d + 0)) cd_X2_carry (some .int) Q
def f_X2_carry (a1 : Int32) (a2 : Int32) (a3 : Int32) (s : Sg) : Option (Int32 × Sg) :=
  ck (inr a1 8) (
  nmx (if (s.1 40 a1.toNatClampNeg) < a3 then (s.1 40 a1.toNatClampNeg) else a3 : Int32) (fun x2 =>
  nmx (if (s.1 41 a1.toNatClampNeg) < (a3 - x2) then (s.1 41 a1.toNatClampNeg) else (a3 - x2) : Int32) (fun x3 =>
  nmx (pI s 40 a1.toNatClampNeg ((s.1 40 a1.toNatClampNeg) - x2)) (fun s4 =>
  nmx (pI s4 41 a1.toNatClampNeg ((s4.1 41 a1.toNatClampNeg) - x3)) (fun s5 =>
  ck (inr a2 8) (
  nmx (pI s5 40 a2.toNatClampNeg ((s5.1 40 a2.toNatClampNeg) + x2)) (fun s7 =>
  nmx (pI s7 41 a2.toNatClampNeg ((s7.1 41 a2.toNatClampNeg) + x3)) (fun s8 =>
  some (x2, s8)
  )
  )
  )
  )
  )
  )
  )
  )
set_option maxRecDepth 100000 in
theorem w_X2_carry {d : Nat} {s : Sg} {Q : Qt} (a1 : Int32) (a2 : Int32) (a3 : Int32) (H : OQ (f_X2_carry a1 a2 a3 s) (fun r9 s9 => Q (some (.int r9)) s9)) : WpM SHC MT (d + 1) 31 [.ref 26, .int a1, .int a2, .int a3] s Q := by
  refine WpM.enter me_X2_carry rfl rfl ?_
  show Y_X2_carry d Q 0 [(0, .ref 26), (1, .int a1), (2, .int a2), (3, .int a3)] [] s
  unfold f_X2_carry at H
  obtain ⟨hc1, H⟩ := oq_ck H
  refine Wp.run 5 (show (vp_in a1 8) ∧ Y_X2_carry d Q 7 [(0, .ref 26), (1, .int a1), (2, .int a2), (3, .int a3)] [.int (s.1 40 a1.toNatClampNeg), .int a3] s from ⟨hc1, ?_⟩)
  refine Wp.run 1 (show room8 [] ∧ Y_X2_carry d Q 10 [(0, .ref 26), (1, .int a1), (2, .int a2), (3, .int a3)] [.int (if (s.1 40 a1.toNatClampNeg) < a3 then (s.1 40 a1.toNatClampNeg) else a3)] s from ⟨rm8_ rfl, ?_⟩)
  refine Wp.run 1 (show Y_X2_carry d Q 12 [(4, .int (if (s.1 40 a1.toNatClampNeg) < a3 then (s.1 40 a1.toNatClampNeg) else a3)), (0, .ref 26), (1, .int a1), (2, .int a2), (3, .int a3)] [] s from ?_)
  revert H
  generalize (if (s.1 40 a1.toNatClampNeg) < a3 then (s.1 40 a1.toNatClampNeg) else a3 : Int32) = x2
  intro H
  have H := nmx_e H
  refine Wp.run 7 (show (vp_in a1 8) ∧ Y_X2_carry d Q 22 [(4, .int x2), (0, .ref 26), (1, .int a1), (2, .int a2), (3, .int a3)] [.int (s.1 41 a1.toNatClampNeg), .int (a3 - x2)] s from ⟨hc1, ?_⟩)
  refine Wp.run 1 (show room8 [] ∧ Y_X2_carry d Q 25 [(4, .int x2), (0, .ref 26), (1, .int a1), (2, .int a2), (3, .int a3)] [.int (if (s.1 41 a1.toNatClampNeg) < (a3 - x2) then (s.1 41 a1.toNatClampNeg) else (a3 - x2))] s from ⟨rm8_ rfl, ?_⟩)
  refine Wp.run 1 (show Y_X2_carry d Q 27 [(5, .int (if (s.1 41 a1.toNatClampNeg) < (a3 - x2) then (s.1 41 a1.toNatClampNeg) else (a3 - x2))), (4, .int x2), (0, .ref 26), (1, .int a1), (2, .int a2), (3, .int a3)] [] s from ?_)
  revert H
  generalize (if (s.1 41 a1.toNatClampNeg) < (a3 - x2) then (s.1 41 a1.toNatClampNeg) else (a3 - x2) : Int32) = x3
  intro H
  have H := nmx_e H
  refine Wp.run 5 (show (vp_in a1 8) ∧ Y_X2_carry d Q 34 [(5, .int x3), (4, .int x2), (0, .ref 26), (1, .int a1), (2, .int a2), (3, .int a3)] [.int (s.1 40 a1.toNatClampNeg), .int a1, .ref 40] s from ⟨hc1, ?_⟩)
  refine Wp.run 3 (show (vp_in a1 8) ∧ Y_X2_carry d Q 38 [(5, .int x3), (4, .int x2), (0, .ref 26), (1, .int a1), (2, .int a2), (3, .int a3)] [] (pI s 40 a1.toNatClampNeg ((s.1 40 a1.toNatClampNeg) - x2)) from ⟨hc1, ?_⟩)
  revert H
  generalize pI s 40 a1.toNatClampNeg ((s.1 40 a1.toNatClampNeg) - x2) = s4
  intro H
  have H := nmx_e H
  refine Wp.run 5 (show (vp_in a1 8) ∧ Y_X2_carry d Q 45 [(5, .int x3), (4, .int x2), (0, .ref 26), (1, .int a1), (2, .int a2), (3, .int a3)] [.int (s4.1 41 a1.toNatClampNeg), .int a1, .ref 41] s4 from ⟨hc1, ?_⟩)
  refine Wp.run 3 (show (vp_in a1 8) ∧ Y_X2_carry d Q 49 [(5, .int x3), (4, .int x2), (0, .ref 26), (1, .int a1), (2, .int a2), (3, .int a3)] [] (pI s4 41 a1.toNatClampNeg ((s4.1 41 a1.toNatClampNeg) - x3)) from ⟨hc1, ?_⟩)
  revert H
  generalize pI s4 41 a1.toNatClampNeg ((s4.1 41 a1.toNatClampNeg) - x3) = s5
  intro H
  have H := nmx_e H
  obtain ⟨hc6, H⟩ := oq_ck H
  refine Wp.run 5 (show (vp_in a2 8) ∧ Y_X2_carry d Q 56 [(5, .int x3), (4, .int x2), (0, .ref 26), (1, .int a1), (2, .int a2), (3, .int a3)] [.int (s5.1 40 a2.toNatClampNeg), .int a2, .ref 40] s5 from ⟨hc6, ?_⟩)
  refine Wp.run 3 (show (vp_in a2 8) ∧ Y_X2_carry d Q 60 [(5, .int x3), (4, .int x2), (0, .ref 26), (1, .int a1), (2, .int a2), (3, .int a3)] [] (pI s5 40 a2.toNatClampNeg ((s5.1 40 a2.toNatClampNeg) + x2)) from ⟨hc6, ?_⟩)
  revert H
  generalize pI s5 40 a2.toNatClampNeg ((s5.1 40 a2.toNatClampNeg) + x2) = s7
  intro H
  have H := nmx_e H
  refine Wp.run 5 (show (vp_in a2 8) ∧ Y_X2_carry d Q 67 [(5, .int x3), (4, .int x2), (0, .ref 26), (1, .int a1), (2, .int a2), (3, .int a3)] [.int (s7.1 41 a2.toNatClampNeg), .int a2, .ref 41] s7 from ⟨hc6, ?_⟩)
  refine Wp.run 3 (show (vp_in a2 8) ∧ Y_X2_carry d Q 71 [(5, .int x3), (4, .int x2), (0, .ref 26), (1, .int a1), (2, .int a2), (3, .int a3)] [] (pI s7 41 a2.toNatClampNeg ((s7.1 41 a2.toNatClampNeg) + x3)) from ⟨hc6, ?_⟩)
  revert H
  generalize pI s7 41 a2.toNatClampNeg ((s7.1 41 a2.toNatClampNeg) + x3) = s8
  intro H
  have H := nmx_e H
  exact Wp.run 2 ⟨rfl, H⟩
abbrev Y_X11_shovel (d : Nat) (Q : Qt) : Xt := Wp SHC (WpM SHC MT (d + 2)) cd_X11_shovel (some .int) Q
def f_X11_shovel (a1 : Int32) (a2 : Int32) (a3 : Int32) (s : Sg) : Option (Int32 × Sg) :=
  bd (f_X11_isHouse a1 s) (fun r1 s2 =>
  if r1 = 0 then
    bd (f_X11_refuse 1 s2) (fun r3 s4 =>
    some (r3, s4)
    )
  else
    bd (f_X11_isHouse a2 s2) (fun r5 s6 =>
    if r5 = 0 then
      bd (f_X11_refuse 1 s6) (fun r7 s8 =>
      some (r7, s8)
      )
    else
      if a1 = a2 then
        bd (f_X11_refuse 1 s6) (fun r9 s10 =>
        some (r9, s10)
        )
      else
        bd (f_X11_within a3 1 999 s6) (fun r11 s12 =>
        if r11 = 0 then
          bd (f_X11_refuse 1 s12) (fun r13 s14 =>
          some (r13, s14)
          )
        else
          bd (f_X2_lying a1 s12) (fun r15 s16 =>
          if a3 ≤ r15 then
            bd (f_X4_isGone a1 s16) (fun r17 s18 =>
            if r17 = 0 then
              bd (f_X4_isGone a2 s18) (fun r19 s20 =>
              if r19 = 0 then
                bd (f_X2_carry a1 a2 a3 s20) (fun r21 s22 =>
                bd (f_X11_answer r21 s22) (fun r23 s24 =>
                some (r23, s24)
                )
                )
              else
                bd (f_X11_refuse 7 s20) (fun r25 s26 =>
                some (r25, s26)
                )
              )
            else
              bd (f_X11_refuse 7 s18) (fun r27 s28 =>
              some (r27, s28)
              )
            )
          else
            bd (f_X11_refuse 6 s16) (fun r29 s30 =>
            some (r29, s30)
            )
          )
        )
    )
  )
set_option maxRecDepth 100000 in
theorem w_X11_shovel {d : Nat} {s : Sg} {Q : Qt} (a1 : Int32) (a2 : Int32) (a3 : Int32) (H : OQ (f_X11_shovel a1 a2 a3 s) (fun r9 s9 => Q (some (.int r9)) s9)) : WpM SHC MT (d + 3) 128 [.ref 0, .int a1, .int a2, .int a3] s Q := by
  refine WpM.enter me_X11_shovel rfl rfl ?_
  show Y_X11_shovel d Q 0 [(0, .ref 0), (1, .int a1), (2, .int a2), (3, .int a3)] [] s
  unfold f_X11_shovel at H
  refine Wp.run 3 (show room8 [] ∧ WpM SHC MT (d + 2) 172 [.ref 0, .int a1] s (fun v9 s9 => Y_X11_shovel d Q 5 [(0, .ref 0), (1, .int a1), (2, .int a2), (3, .int a3)] (v9.toList ++ []) s9) from ⟨rm8_ rfl, ?_⟩)
  refine w_X11_isHouse (d := d) _ ?_
  refine oq_bd H (fun r1 s2 H => ?_)
  show Y_X11_shovel d Q 5 [(0, .ref 0), (1, .int a1), (2, .int a2), (3, .int a3)] [.int r1] s2
  refine Wp.run 1 (show br (r1 = 0) (Y_X11_shovel d Q 32 [(0, .ref 0), (1, .int a1), (2, .int a2), (3, .int a3)] [] s2) (Y_X11_shovel d Q 8 [(0, .ref 0), (1, .int a1), (2, .int a2), (3, .int a3)] [] s2) from ⟨fun c9 => ?_, fun c9 => ?_⟩)
  · have H := oq_t c9 H
    refine Wp.run 3 (show room8 [] ∧ WpM SHC MT (d + 2) 166 [.ref 0, .int 1] s2 (fun v9 s9 => Y_X11_shovel d Q 37 [(0, .ref 0), (1, .int a1), (2, .int a2), (3, .int a3)] (v9.toList ++ []) s9) from ⟨rm8_ rfl, ?_⟩)
    refine w_X11_refuse (d := d + 1) _ ?_
    refine oq_bd H (fun r3 s4 H => ?_)
    show Y_X11_shovel d Q 37 [(0, .ref 0), (1, .int a1), (2, .int a2), (3, .int a3)] [.int r3] s4
    exact Wp.run 1 ⟨rfl, H⟩
  · have H := oq_f c9 H
    refine Wp.run 3 (show room8 [] ∧ WpM SHC MT (d + 2) 172 [.ref 0, .int a2] s2 (fun v9 s9 => Y_X11_shovel d Q 13 [(0, .ref 0), (1, .int a1), (2, .int a2), (3, .int a3)] (v9.toList ++ []) s9) from ⟨rm8_ rfl, ?_⟩)
    refine w_X11_isHouse (d := d) _ ?_
    refine oq_bd H (fun r5 s6 H => ?_)
    show Y_X11_shovel d Q 13 [(0, .ref 0), (1, .int a1), (2, .int a2), (3, .int a3)] [.int r5] s6
    refine Wp.run 1 (show br (r5 = 0) (Y_X11_shovel d Q 32 [(0, .ref 0), (1, .int a1), (2, .int a2), (3, .int a3)] [] s6) (Y_X11_shovel d Q 16 [(0, .ref 0), (1, .int a1), (2, .int a2), (3, .int a3)] [] s6) from ⟨fun c9 => ?_, fun c9 => ?_⟩)
    · have H := oq_t c9 H
      refine Wp.run 3 (show room8 [] ∧ WpM SHC MT (d + 2) 166 [.ref 0, .int 1] s6 (fun v9 s9 => Y_X11_shovel d Q 37 [(0, .ref 0), (1, .int a1), (2, .int a2), (3, .int a3)] (v9.toList ++ []) s9) from ⟨rm8_ rfl, ?_⟩)
      refine w_X11_refuse (d := d + 1) _ ?_
      refine oq_bd H (fun r7 s8 H => ?_)
      show Y_X11_shovel d Q 37 [(0, .ref 0), (1, .int a1), (2, .int a2), (3, .int a3)] [.int r7] s8
      exact Wp.run 1 ⟨rfl, H⟩
    · have H := oq_f c9 H
      refine Wp.run 3 (show br (a1 = a2) (Y_X11_shovel d Q 32 [(0, .ref 0), (1, .int a1), (2, .int a2), (3, .int a3)] [] s6) (Y_X11_shovel d Q 21 [(0, .ref 0), (1, .int a1), (2, .int a2), (3, .int a3)] [] s6) from ⟨fun c9 => ?_, fun c9 => ?_⟩)
      · have H := oq_t c9 H
        refine Wp.run 3 (show room8 [] ∧ WpM SHC MT (d + 2) 166 [.ref 0, .int 1] s6 (fun v9 s9 => Y_X11_shovel d Q 37 [(0, .ref 0), (1, .int a1), (2, .int a2), (3, .int a3)] (v9.toList ++ []) s9) from ⟨rm8_ rfl, ?_⟩)
        refine w_X11_refuse (d := d + 1) _ ?_
        refine oq_bd H (fun r9 s10 H => ?_)
        show Y_X11_shovel d Q 37 [(0, .ref 0), (1, .int a1), (2, .int a2), (3, .int a3)] [.int r9] s10
        exact Wp.run 1 ⟨rfl, H⟩
      · have H := oq_f c9 H
        refine Wp.run 4 (show room8 [] ∧ WpM SHC MT (d + 2) 169 [.int a3, .int 1, .int 999] s6 (fun v9 s9 => Y_X11_shovel d Q 29 [(0, .ref 0), (1, .int a1), (2, .int a2), (3, .int a3)] (v9.toList ++ []) s9) from ⟨rm8_ rfl, ?_⟩)
        refine w_X11_within (d := d + 1) _ _ _ ?_
        refine oq_bd H (fun r11 s12 H => ?_)
        show Y_X11_shovel d Q 29 [(0, .ref 0), (1, .int a1), (2, .int a2), (3, .int a3)] [.int r11] s12
        refine Wp.run 1 (show br (r11 = 0) (Y_X11_shovel d Q 32 [(0, .ref 0), (1, .int a1), (2, .int a2), (3, .int a3)] [] s12) (Y_X11_shovel d Q 38 [(0, .ref 0), (1, .int a1), (2, .int a2), (3, .int a3)] [] s12) from ⟨fun c9 => ?_, fun c9 => ?_⟩)
        · have H := oq_t c9 H
          refine Wp.run 3 (show room8 [] ∧ WpM SHC MT (d + 2) 166 [.ref 0, .int 1] s12 (fun v9 s9 => Y_X11_shovel d Q 37 [(0, .ref 0), (1, .int a1), (2, .int a2), (3, .int a3)] (v9.toList ++ []) s9) from ⟨rm8_ rfl, ?_⟩)
          refine w_X11_refuse (d := d + 1) _ ?_
          refine oq_bd H (fun r13 s14 H => ?_)
          show Y_X11_shovel d Q 37 [(0, .ref 0), (1, .int a1), (2, .int a2), (3, .int a3)] [.int r13] s14
          exact Wp.run 1 ⟨rfl, H⟩
        · have H := oq_f c9 H
          refine Wp.run 4 (show room8 [] ∧ WpM SHC MT (d + 2) 23 [.ref 26, .int a1] s12 (fun v9 s9 => Y_X11_shovel d Q 46 [(0, .ref 0), (1, .int a1), (2, .int a2), (3, .int a3)] (v9.toList ++ []) s9) from ⟨rm8_ rfl, ?_⟩)
          refine w_X2_lying (d := d + 1) _ ?_
          refine oq_bd H (fun r15 s16 H => ?_)
          show Y_X11_shovel d Q 46 [(0, .ref 0), (1, .int a1), (2, .int a2), (3, .int a3)] [.int r15] s16
          refine Wp.run 2 (show br (a3 ≤ r15) (Y_X11_shovel d Q 57 [(0, .ref 0), (1, .int a1), (2, .int a2), (3, .int a3)] [] s16) (Y_X11_shovel d Q 50 [(0, .ref 0), (1, .int a1), (2, .int a2), (3, .int a3)] [] s16) from ⟨fun c9 => ?_, fun c9 => ?_⟩)
          · have H := oq_t c9 H
            refine Wp.run 4 (show room8 [] ∧ WpM SHC MT (d + 2) 55 [.ref 25, .int a1] s16 (fun v9 s9 => Y_X11_shovel d Q 65 [(0, .ref 0), (1, .int a1), (2, .int a2), (3, .int a3)] (v9.toList ++ []) s9) from ⟨rm8_ rfl, ?_⟩)
            refine w_X4_isGone (d := d + 1) _ ?_
            refine oq_bd H (fun r17 s18 H => ?_)
            show Y_X11_shovel d Q 65 [(0, .ref 0), (1, .int a1), (2, .int a2), (3, .int a3)] [.int r17] s18
            refine Wp.run 1 (show br (r17 = 0) (Y_X11_shovel d Q 68 [(0, .ref 0), (1, .int a1), (2, .int a2), (3, .int a3)] [] s18) (Y_X11_shovel d Q 79 [(0, .ref 0), (1, .int a1), (2, .int a2), (3, .int a3)] [] s18) from ⟨fun c9 => ?_, fun c9 => ?_⟩)
            · have H := oq_t c9 H
              refine Wp.run 4 (show room8 [] ∧ WpM SHC MT (d + 2) 55 [.ref 25, .int a2] s18 (fun v9 s9 => Y_X11_shovel d Q 76 [(0, .ref 0), (1, .int a1), (2, .int a2), (3, .int a3)] (v9.toList ++ []) s9) from ⟨rm8_ rfl, ?_⟩)
              refine w_X4_isGone (d := d + 1) _ ?_
              refine oq_bd H (fun r19 s20 H => ?_)
              show Y_X11_shovel d Q 76 [(0, .ref 0), (1, .int a1), (2, .int a2), (3, .int a3)] [.int r19] s20
              refine Wp.run 1 (show br (r19 = 0) (Y_X11_shovel d Q 86 [(0, .ref 0), (1, .int a1), (2, .int a2), (3, .int a3)] [] s20) (Y_X11_shovel d Q 79 [(0, .ref 0), (1, .int a1), (2, .int a2), (3, .int a3)] [] s20) from ⟨fun c9 => ?_, fun c9 => ?_⟩)
              · have H := oq_t c9 H
                refine Wp.run 7 (show room8 [.ref 0] ∧ WpM SHC MT (d + 2) 31 [.ref 26, .int a1, .int a2, .int a3] s20 (fun v9 s9 => Y_X11_shovel d Q 97 [(0, .ref 0), (1, .int a1), (2, .int a2), (3, .int a3)] (v9.toList ++ [.ref 0]) s9) from ⟨rm8_ rfl, ?_⟩)
                refine w_X2_carry (d := d + 1) _ _ _ ?_
                refine oq_bd H (fun r21 s22 H => ?_)
                show Y_X11_shovel d Q 97 [(0, .ref 0), (1, .int a1), (2, .int a2), (3, .int a3)] [.int r21, .ref 0] s22
                refine Wp.run 1 (show room8 [] ∧ WpM SHC MT (d + 2) 164 [.ref 0, .int r21] s22 (fun v9 s9 => Y_X11_shovel d Q 100 [(0, .ref 0), (1, .int a1), (2, .int a2), (3, .int a3)] (v9.toList ++ []) s9) from ⟨rm8_ rfl, ?_⟩)
                refine w_X11_answer (d := d + 1) _ ?_
                refine oq_bd H (fun r23 s24 H => ?_)
                show Y_X11_shovel d Q 100 [(0, .ref 0), (1, .int a1), (2, .int a2), (3, .int a3)] [.int r23] s24
                exact Wp.run 1 ⟨rfl, H⟩
              · have H := oq_f c9 H
                refine Wp.run 3 (show room8 [] ∧ WpM SHC MT (d + 2) 166 [.ref 0, .int 7] s20 (fun v9 s9 => Y_X11_shovel d Q 85 [(0, .ref 0), (1, .int a1), (2, .int a2), (3, .int a3)] (v9.toList ++ []) s9) from ⟨rm8_ rfl, ?_⟩)
                refine w_X11_refuse (d := d + 1) _ ?_
                refine oq_bd H (fun r25 s26 H => ?_)
                show Y_X11_shovel d Q 85 [(0, .ref 0), (1, .int a1), (2, .int a2), (3, .int a3)] [.int r25] s26
                exact Wp.run 1 ⟨rfl, H⟩
            · have H := oq_f c9 H
              refine Wp.run 3 (show room8 [] ∧ WpM SHC MT (d + 2) 166 [.ref 0, .int 7] s18 (fun v9 s9 => Y_X11_shovel d Q 85 [(0, .ref 0), (1, .int a1), (2, .int a2), (3, .int a3)] (v9.toList ++ []) s9) from ⟨rm8_ rfl, ?_⟩)
              refine w_X11_refuse (d := d + 1) _ ?_
              refine oq_bd H (fun r27 s28 H => ?_)
              show Y_X11_shovel d Q 85 [(0, .ref 0), (1, .int a1), (2, .int a2), (3, .int a3)] [.int r27] s28
              exact Wp.run 1 ⟨rfl, H⟩
          · have H := oq_f c9 H
            refine Wp.run 3 (show room8 [] ∧ WpM SHC MT (d + 2) 166 [.ref 0, .int 6] s16 (fun v9 s9 => Y_X11_shovel d Q 56 [(0, .ref 0), (1, .int a1), (2, .int a2), (3, .int a3)] (v9.toList ++ []) s9) from ⟨rm8_ rfl, ?_⟩)
            refine w_X11_refuse (d := d + 1) _ ?_
            refine oq_bd H (fun r29 s30 H => ?_)
            show Y_X11_shovel d Q 56 [(0, .ref 0), (1, .int a1), (2, .int a2), (3, .int a3)] [.int r29] s30
            exact Wp.run 1 ⟨rfl, H⟩
abbrev Y_X2_letRain_25 (d : Nat) (Q : Qt) : Xt := Wp SHC (WpM SHC MT (d + 0)) cd_X2_letRain (some .int) Q
def f_X2_letRain_25_b4 : Nat → Int32 → Int32 → Sg → Option (Int32 × Sg)
  | 0, _, _, _ => none
  | n + 1, v2, v3, s =>
    if (s.1 25 13) ≤ v3 then
      some (v2, pI (pI s 26 10 ((s.1 26 10) + v2)) 26 7 1)
    else
      ck (inr v3 8) (
      nmx (if (s.1 40 v3.toNatClampNeg) < (s.1 25 18) then (s.1 40 v3.toNatClampNeg) else (s.1 25 18) : Int32) (fun x2 =>
      nmx (v2 + ((s.1 41 v3.toNatClampNeg) + x2) : Int32) (fun x3 =>
      nmx (pI (pI s 41 v3.toNatClampNeg 0) 40 v3.toNatClampNeg (((pI s 41 v3.toNatClampNeg 0).1 40 v3.toNatClampNeg) - x2)) (fun s4 =>
      (f_X2_letRain_25_b4 n) x3 (v3 + 1) s4
      )
      )
      )
      )
set_option maxRecDepth 100000 in
theorem w_X2_letRain_25_b4 {d : Nat} {Q : Qt} (n : Nat) : ∀ (v2 : Int32) (v3 : Int32) (s : Sg), OQ (f_X2_letRain_25_b4 n v2 v3 s) (fun r9 s9 => Q (some (.int r9)) s9) → Y_X2_letRain_25 d Q 4 [(0, .ref 26), (1, .ref 25), (2, .int v2), (3, .int v3)] [] s := by
  induction n with
  | zero => intro v2 v3 s H; exact H.elim
  | succ n ih =>
    intro v2 v3 s H
    unfold f_X2_letRain_25_b4 at H
    refine Wp.run 4 (show br ((s.1 25 13) ≤ v3) (Y_X2_letRain_25 d Q 63 [(0, .ref 26), (1, .ref 25), (2, .int v2), (3, .int v3)] [] s) (Y_X2_letRain_25 d Q 12 [(0, .ref 26), (1, .ref 25), (2, .int v2), (3, .int v3)] [] s) from ⟨fun c9 => ?_, fun c9 => ?_⟩)
    · have H := oq_t c9 H
      refine Wp.run 9 (show ((1 : Int32) = 0 ∨ 1 = 1) ∧ Y_X2_letRain_25 d Q 78 [(0, .ref 26), (1, .ref 25), (2, .int v2), (3, .int v3)] [] (pI (pI s 26 10 ((s.1 26 10) + v2)) 26 7 1) from ⟨Or.inr rfl, ?_⟩)
      exact Wp.run 2 ⟨rfl, H⟩
    · have H := oq_f c9 H
      obtain ⟨hc1, H⟩ := oq_ck H
      refine Wp.run 6 (show (vp_in v3 8) ∧ Y_X2_letRain_25 d Q 22 [(0, .ref 26), (1, .ref 25), (2, .int v2), (3, .int v3)] [.int (s.1 40 v3.toNatClampNeg), .int (s.1 25 18)] s from ⟨hc1, ?_⟩)
      refine Wp.run 1 (show room8 [] ∧ Y_X2_letRain_25 d Q 25 [(0, .ref 26), (1, .ref 25), (2, .int v2), (3, .int v3)] [.int (if (s.1 40 v3.toNatClampNeg) < (s.1 25 18) then (s.1 40 v3.toNatClampNeg) else (s.1 25 18))] s from ⟨rm8_ rfl, ?_⟩)
      refine Wp.run 1 (show Y_X2_letRain_25 d Q 27 [(4, .int (if (s.1 40 v3.toNatClampNeg) < (s.1 25 18) then (s.1 40 v3.toNatClampNeg) else (s.1 25 18))), (0, .ref 26), (1, .ref 25), (2, .int v2), (3, .int v3)] [] s from ?_)
      revert H
      generalize (if (s.1 40 v3.toNatClampNeg) < (s.1 25 18) then (s.1 40 v3.toNatClampNeg) else (s.1 25 18) : Int32) = x2
      intro H
      have H := nmx_e H
      refine Wp.run 5 (show (vp_in v3 8) ∧ Y_X2_letRain_25 d Q 34 [(4, .int x2), (0, .ref 26), (1, .ref 25), (2, .int v2), (3, .int v3)] [.int (s.1 41 v3.toNatClampNeg), .int v2] s from ⟨hc1, ?_⟩)
      refine Wp.run 4 (show Y_X2_letRain_25 d Q 39 [(2, .int (v2 + ((s.1 41 v3.toNatClampNeg) + x2))), (4, .int x2), (0, .ref 26), (1, .ref 25), (3, .int v3)] [] s from ?_)
      revert H
      generalize (v2 + ((s.1 41 v3.toNatClampNeg) + x2) : Int32) = x3
      intro H
      have H := nmx_e H
      refine Wp.run 5 (show (vp_in v3 8) ∧ Y_X2_letRain_25 d Q 46 [(2, .int x3), (4, .int x2), (0, .ref 26), (1, .ref 25), (3, .int v3)] [] (pI s 41 v3.toNatClampNeg 0) from ⟨hc1, ?_⟩)
      refine Wp.run 5 (show (vp_in v3 8) ∧ Y_X2_letRain_25 d Q 53 [(2, .int x3), (4, .int x2), (0, .ref 26), (1, .ref 25), (3, .int v3)] [.int ((pI s 41 v3.toNatClampNeg 0).1 40 v3.toNatClampNeg), .int v3, .ref 40] (pI s 41 v3.toNatClampNeg 0) from ⟨hc1, ?_⟩)
      refine Wp.run 3 (show (vp_in v3 8) ∧ Y_X2_letRain_25 d Q 57 [(2, .int x3), (4, .int x2), (0, .ref 26), (1, .ref 25), (3, .int v3)] [] (pI (pI s 41 v3.toNatClampNeg 0) 40 v3.toNatClampNeg (((pI s 41 v3.toNatClampNeg 0).1 40 v3.toNatClampNeg) - x2)) from ⟨hc1, ?_⟩)
      revert H
      generalize pI (pI s 41 v3.toNatClampNeg 0) 40 v3.toNatClampNeg (((pI s 41 v3.toNatClampNeg 0).1 40 v3.toNatClampNeg) - x2) = s4
      intro H
      have H := nmx_e H
      refine Wp.run 2 (show Y_X2_letRain_25 d Q 4 [(3, .int (v3 + 1)), (2, .int x3), (4, .int x2), (0, .ref 26), (1, .ref 25)] [] s4 from ?_)
      refine Wp.weak [3, 4, 1, 0] (lv' := [(0, .ref 26), (1, .ref 25), (2, .int x3), (3, .int (v3 + 1))]) rfl ?_
      exact ih _ _ _ H
def f_X2_letRain_25  (s : Sg) : Option (Int32 × Sg) :=
  f_X2_letRain_25_b4 BIG 0 0 s
set_option maxRecDepth 100000 in
theorem w_X2_letRain_25 {d : Nat} {s : Sg} {Q : Qt}  (H : OQ (f_X2_letRain_25  s) (fun r9 s9 => Q (some (.int r9)) s9)) : WpM SHC MT (d + 1) 32 [.ref 26, .ref 25] s Q := by
  refine WpM.enter me_X2_letRain rfl rfl ?_
  show Y_X2_letRain_25 d Q 0 [(0, .ref 26), (1, .ref 25)] [] s
  unfold f_X2_letRain_25 at H
  refine Wp.run 4 (show Y_X2_letRain_25 d Q 4 [(3, .int 0), (2, .int 0), (0, .ref 26), (1, .ref 25)] [] s from ?_)
  refine Wp.weak [2, 3, 1, 0] (lv' := [(0, .ref 26), (1, .ref 25), (2, .int 0), (3, .int 0)]) rfl ?_
  exact w_X2_letRain_25_b4 _ _ _ _ H
abbrev Y_X11_rain (d : Nat) (Q : Qt) : Xt := Wp SHC (WpM SHC MT (d + 1)) cd_X11_rain (some .int) Q
def f_X11_rain  (s : Sg) : Option (Int32 × Sg) :=
  bd (f_X2_letRain_25 s) (fun r1 s2 =>
  bd (f_X11_answer r1 s2) (fun r3 s4 =>
  some (r3, s4)
  )
  )
set_option maxRecDepth 100000 in
theorem w_X11_rain {d : Nat} {s : Sg} {Q : Qt}  (H : OQ (f_X11_rain  s) (fun r9 s9 => Q (some (.int r9)) s9)) : WpM SHC MT (d + 2) 129 [.ref 0] s Q := by
  refine WpM.enter me_X11_rain rfl rfl ?_
  show Y_X11_rain d Q 0 [(0, .ref 0)] [] s
  unfold f_X11_rain at H
  refine Wp.run 6 (show room8 [.ref 0] ∧ WpM SHC MT (d + 1) 32 [.ref 26, .ref 25] s (fun v9 s9 => Y_X11_rain d Q 12 [(0, .ref 0)] (v9.toList ++ [.ref 0]) s9) from ⟨rm8_ rfl, ?_⟩)
  refine w_X2_letRain_25 (d := d)  ?_
  refine oq_bd H (fun r1 s2 H => ?_)
  show Y_X11_rain d Q 12 [(0, .ref 0)] [.int r1, .ref 0] s2
  refine Wp.run 1 (show room8 [] ∧ WpM SHC MT (d + 1) 164 [.ref 0, .int r1] s2 (fun v9 s9 => Y_X11_rain d Q 15 [(0, .ref 0)] (v9.toList ++ []) s9) from ⟨rm8_ rfl, ?_⟩)
  refine w_X11_answer (d := d) _ ?_
  refine oq_bd H (fun r3 s4 H => ?_)
  show Y_X11_rain d Q 15 [(0, .ref 0)] [.int r3] s4
  exact Wp.run 1 ⟨rfl, H⟩
abbrev Y_X2_letSnow_25 (d : Nat) (Q : Qt) : Xt := Wp SHC (WpM SHC MT (d + 1)) cd_X2_letSnow (none) Q
def f_X2_letSnow_25_b2 : Nat → Int32 → Int32 → Sg → Option (Unit × Sg)
  | 0, _, _, _ => none
  | n + 1, v2, v3, s =>
    if (s.1 25 13) ≤ v3 then
      some ((), s)
    else
      bd (f_X4_isGone v3 s) (fun r1 s2 =>
      if r1 = 0 then
        ck (inr v3 8) (
        nmx (pI s2 42 v3.toNatClampNeg (if ((s2.1 42 v3.toNatClampNeg) + v2) < 99 then ((s2.1 42 v3.toNatClampNeg) + v2) else 99)) (fun s4 =>
        (f_X2_letSnow_25_b2 n) v2 (v3 + 1) s4
        )
        )
      else
        (f_X2_letSnow_25_b2 n) v2 (v3 + 1) s2
      )
set_option maxRecDepth 100000 in
theorem w_X2_letSnow_25_b2 {d : Nat} {Q : Qt} (n : Nat) : ∀ (v2 : Int32) (v3 : Int32) (s : Sg), OQ (f_X2_letSnow_25_b2 n v2 v3 s) (fun _ s9 => Q none s9) → Y_X2_letSnow_25 d Q 2 [(0, .ref 26), (1, .ref 25), (2, .int v2), (3, .int v3)] [] s := by
  induction n with
  | zero => intro v2 v3 s H; exact H.elim
  | succ n ih =>
    intro v2 v3 s H
    unfold f_X2_letSnow_25_b2 at H
    refine Wp.run 4 (show br ((s.1 25 13) ≤ v3) (Y_X2_letSnow_25 d Q 43 [(0, .ref 26), (1, .ref 25), (2, .int v2), (3, .int v3)] [] s) (Y_X2_letSnow_25 d Q 10 [(0, .ref 26), (1, .ref 25), (2, .int v2), (3, .int v3)] [] s) from ⟨fun c9 => ?_, fun c9 => ?_⟩)
    · have H := oq_t c9 H
      exact Wp.run 1 H
    · have H := oq_f c9 H
      refine Wp.run 3 (show room8 [] ∧ WpM SHC MT (d + 1) 55 [.ref 25, .int v3] s (fun v9 s9 => Y_X2_letSnow_25 d Q 15 [(0, .ref 26), (1, .ref 25), (2, .int v2), (3, .int v3)] (v9.toList ++ []) s9) from ⟨rm8_ rfl, ?_⟩)
      refine w_X4_isGone (d := d) _ ?_
      refine oq_bd H (fun r1 s2 H => ?_)
      show Y_X2_letSnow_25 d Q 15 [(0, .ref 26), (1, .ref 25), (2, .int v2), (3, .int v3)] [.int r1] s2
      refine Wp.run 1 (show br (r1 = 0) (Y_X2_letSnow_25 d Q 18 [(0, .ref 26), (1, .ref 25), (2, .int v2), (3, .int v3)] [] s2) (Y_X2_letSnow_25 d Q 37 [(0, .ref 26), (1, .ref 25), (2, .int v2), (3, .int v3)] [] s2) from ⟨fun c9 => ?_, fun c9 => ?_⟩)
      · have H := oq_t c9 H
        obtain ⟨hc3, H⟩ := oq_ck H
        refine Wp.run 8 (show (vp_in v3 8) ∧ Y_X2_letSnow_25 d Q 31 [(0, .ref 26), (1, .ref 25), (2, .int v2), (3, .int v3)] [.int (s2.1 42 v3.toNatClampNeg), .int 99, .int v3, .ref 42] s2 from ⟨hc3, ?_⟩)
        refine Wp.run 3 (show room8 [.int v3, .ref 42] ∧ Y_X2_letSnow_25 d Q 36 [(0, .ref 26), (1, .ref 25), (2, .int v2), (3, .int v3)] [.int (if ((s2.1 42 v3.toNatClampNeg) + v2) < 99 then ((s2.1 42 v3.toNatClampNeg) + v2) else 99), .int v3, .ref 42] s2 from ⟨rm8_ rfl, ?_⟩)
        refine Wp.run 1 (show (vp_in v3 8) ∧ Y_X2_letSnow_25 d Q 37 [(0, .ref 26), (1, .ref 25), (2, .int v2), (3, .int v3)] [] (pI s2 42 v3.toNatClampNeg (if ((s2.1 42 v3.toNatClampNeg) + v2) < 99 then ((s2.1 42 v3.toNatClampNeg) + v2) else 99)) from ⟨hc3, ?_⟩)
        revert H
        generalize pI s2 42 v3.toNatClampNeg (if ((s2.1 42 v3.toNatClampNeg) + v2) < 99 then ((s2.1 42 v3.toNatClampNeg) + v2) else 99) = s4
        intro H
        have H := nmx_e H
        refine Wp.run 2 (show Y_X2_letSnow_25 d Q 2 [(3, .int (v3 + 1)), (0, .ref 26), (1, .ref 25), (2, .int v2)] [] s4 from ?_)
        refine Wp.weak [1, 2, 3, 0] (lv' := [(0, .ref 26), (1, .ref 25), (2, .int v2), (3, .int (v3 + 1))]) rfl ?_
        exact ih _ _ _ H
      · have H := oq_f c9 H
        refine Wp.run 2 (show Y_X2_letSnow_25 d Q 2 [(3, .int (v3 + 1)), (0, .ref 26), (1, .ref 25), (2, .int v2)] [] s2 from ?_)
        refine Wp.weak [1, 2, 3, 0] (lv' := [(0, .ref 26), (1, .ref 25), (2, .int v2), (3, .int (v3 + 1))]) rfl ?_
        exact ih _ _ _ H
def f_X2_letSnow_25 (a2 : Int32) (s : Sg) : Option (Unit × Sg) :=
  f_X2_letSnow_25_b2 BIG a2 0 s
set_option maxRecDepth 100000 in
theorem w_X2_letSnow_25 {d : Nat} {s : Sg} {Q : Qt} (a2 : Int32) (H : OQ (f_X2_letSnow_25 a2 s) (fun _ s9 => Q none s9)) : WpM SHC MT (d + 2) 33 [.ref 26, .ref 25, .int a2] s Q := by
  refine WpM.enter me_X2_letSnow rfl rfl ?_
  show Y_X2_letSnow_25 d Q 0 [(0, .ref 26), (1, .ref 25), (2, .int a2)] [] s
  unfold f_X2_letSnow_25 at H
  refine Wp.run 2 (show Y_X2_letSnow_25 d Q 2 [(3, .int 0), (0, .ref 26), (1, .ref 25), (2, .int a2)] [] s from ?_)
  refine Wp.weak [1, 2, 3, 0] (lv' := [(0, .ref 26), (1, .ref 25), (2, .int a2), (3, .int 0)]) rfl ?_
  exact w_X2_letSnow_25_b2 _ _ _ _ H
abbrev Y_X11_snow (d : Nat) (Q : Qt) : Xt := Wp SHC (WpM SHC MT (d + 2)) cd_X11_snow (some .boolean) Q
def f_X11_snow (a1 : Int32) (s : Sg) : Option (Int32 × Sg) :=
  bd (f_X11_within a1 0 99 s) (fun r1 s2 =>
  if r1 = 0 then
    bd (f_X11_refused 1 s2) (fun r3 s4 =>
    ck (r3 = 0 ∨ r3 = 1) (some (r3, s4))
    )
  else
    bd (f_X2_letSnow_25 a1 s2) (fun _ s6 =>
    bd (f_X11_granted s6) (fun r7 s8 =>
    ck (r7 = 0 ∨ r7 = 1) (some (r7, s8))
    )
    )
  )
set_option maxRecDepth 100000 in
theorem w_X11_snow {d : Nat} {s : Sg} {Q : Qt} (a1 : Int32) (H : OQ (f_X11_snow a1 s) (fun r9 s9 => Q (some (.int r9)) s9)) : WpM SHC MT (d + 3) 130 [.ref 0, .int a1] s Q := by
  refine WpM.enter me_X11_snow rfl rfl ?_
  show Y_X11_snow d Q 0 [(0, .ref 0), (1, .int a1)] [] s
  unfold f_X11_snow at H
  refine Wp.run 4 (show room8 [] ∧ WpM SHC MT (d + 2) 169 [.int a1, .int 0, .int 99] s (fun v9 s9 => Y_X11_snow d Q 7 [(0, .ref 0), (1, .int a1)] (v9.toList ++ []) s9) from ⟨rm8_ rfl, ?_⟩)
  refine w_X11_within (d := d + 1) _ _ _ ?_
  refine oq_bd H (fun r1 s2 H => ?_)
  show Y_X11_snow d Q 7 [(0, .ref 0), (1, .int a1)] [.int r1] s2
  refine Wp.run 1 (show br (r1 = 0) (Y_X11_snow d Q 10 [(0, .ref 0), (1, .int a1)] [] s2) (Y_X11_snow d Q 16 [(0, .ref 0), (1, .int a1)] [] s2) from ⟨fun c9 => ?_, fun c9 => ?_⟩)
  · have H := oq_t c9 H
    refine Wp.run 3 (show room8 [] ∧ WpM SHC MT (d + 2) 168 [.ref 0, .int 1] s2 (fun v9 s9 => Y_X11_snow d Q 15 [(0, .ref 0), (1, .int a1)] (v9.toList ++ []) s9) from ⟨rm8_ rfl, ?_⟩)
    refine w_X11_refused (d := d + 1) _ ?_
    refine oq_bd H (fun r3 s4 H => ?_)
    show Y_X11_snow d Q 15 [(0, .ref 0), (1, .int a1)] [.int r3] s4
    obtain ⟨c9, H⟩ := oq_ck H
    exact Wp.run 1 ⟨b01_n c9, H⟩
  · have H := oq_f c9 H
    refine Wp.run 6 (show room8 [] ∧ WpM SHC MT (d + 2) 33 [.ref 26, .ref 25, .int a1] s2 (fun v9 s9 => Y_X11_snow d Q 28 [(0, .ref 0), (1, .int a1)] (v9.toList ++ []) s9) from ⟨rm8_ rfl, ?_⟩)
    refine w_X2_letSnow_25 (d := d) _ ?_
    refine oq_bd H (fun _ s6 H => ?_)
    show Y_X11_snow d Q 28 [(0, .ref 0), (1, .int a1)] [] s6
    refine Wp.run 2 (show room8 [] ∧ WpM SHC MT (d + 2) 167 [.ref 0] s6 (fun v9 s9 => Y_X11_snow d Q 32 [(0, .ref 0), (1, .int a1)] (v9.toList ++ []) s9) from ⟨rm8_ rfl, ?_⟩)
    refine w_X11_granted (d := d + 1)  ?_
    refine oq_bd H (fun r7 s8 H => ?_)
    show Y_X11_snow d Q 32 [(0, .ref 0), (1, .int a1)] [.int r7] s8
    obtain ⟨c9, H⟩ := oq_ck H
    exact Wp.run 1 ⟨b01_n c9, H⟩
