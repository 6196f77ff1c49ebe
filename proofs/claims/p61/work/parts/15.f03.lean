abbrev Y_X2_sendCats_25 (d : Nat) (Q : Qt) : Xt := Wp SHC (WpM SHC MT (d + 1)) cd_X2_sendCats (none) Q
def f_X2_sendCats_25_b2 : Nat → Int32 → Sg → Option (Unit × Sg)
  | 0, _, _ => none
  | n + 1, v2, s =>
    if (s.1 25 15) ≤ v2 then
      some ((), s)
    else
      ck (inr v2 4) (
      ck (inr (s.1 35 v2.toNatClampNeg) 8) (
      if (s.1 42 ((s.1 35 v2.toNatClampNeg).toNatClampNeg)) = 0 then
        bd (f_X2_carry (s.1 35 v2.toNatClampNeg) (s.1 36 v2.toNatClampNeg) (s.1 37 v2.toNatClampNeg) s) (fun r3 s4 =>
        (f_X2_sendCats_25_b2 n) (v2 + 1) s4
        )
      else
        (f_X2_sendCats_25_b2 n) (v2 + 1) s
      )
      )
set_option maxRecDepth 100000 in
theorem w_X2_sendCats_25_b2 {d : Nat} {Q : Qt} (n : Nat) : ∀ (v2 : Int32) (s : Sg), OQ (f_X2_sendCats_25_b2 n v2 s) (fun _ s9 => Q none s9) → Y_X2_sendCats_25 d Q 2 [(0, .ref 26), (1, .ref 25), (2, .int v2)] [] s := by
  induction n with
  | zero => intro v2 s H; exact H.elim
  | succ n ih =>
    intro v2 s H
    unfold f_X2_sendCats_25_b2 at H
    refine Wp.run 4 (show br ((s.1 25 15) ≤ v2) (Y_X2_sendCats_25 d Q 53 [(0, .ref 26), (1, .ref 25), (2, .int v2)] [] s) (Y_X2_sendCats_25 d Q 10 [(0, .ref 26), (1, .ref 25), (2, .int v2)] [] s) from ⟨fun c9 => ?_, fun c9 => ?_⟩)
    · have H := oq_t c9 H
      exact Wp.run 1 H
    · have H := oq_f c9 H
      obtain ⟨hc1, H⟩ := oq_ck H
      refine Wp.run 6 (show (vp_in v2 4) ∧ Y_X2_sendCats_25 d Q 20 [(0, .ref 26), (1, .ref 25), (2, .int v2)] [.int (s.1 35 v2.toNatClampNeg), .ref 42] s from ⟨hc1, ?_⟩)
      obtain ⟨hc2, H⟩ := oq_ck H
      refine Wp.run 1 (show (vp_in (s.1 35 v2.toNatClampNeg) 8) ∧ Y_X2_sendCats_25 d Q 21 [(0, .ref 26), (1, .ref 25), (2, .int v2)] [.int (s.1 42 ((s.1 35 v2.toNatClampNeg).toNatClampNeg))] s from ⟨hc2, ?_⟩)
      refine Wp.run 1 (show br ((s.1 42 ((s.1 35 v2.toNatClampNeg).toNatClampNeg)) = 0) (Y_X2_sendCats_25 d Q 24 [(0, .ref 26), (1, .ref 25), (2, .int v2)] [] s) (Y_X2_sendCats_25 d Q 47 [(0, .ref 26), (1, .ref 25), (2, .int v2)] [] s) from ⟨fun c9 => ?_, fun c9 => ?_⟩)
      · have H := oq_t c9 H
        refine Wp.run 5 (show (vp_in v2 4) ∧ Y_X2_sendCats_25 d Q 31 [(0, .ref 26), (1, .ref 25), (2, .int v2)] [.int (s.1 35 v2.toNatClampNeg), .ref 26] s from ⟨hc1, ?_⟩)
        refine Wp.run 4 (show (vp_in v2 4) ∧ Y_X2_sendCats_25 d Q 37 [(0, .ref 26), (1, .ref 25), (2, .int v2)] [.int (s.1 36 v2.toNatClampNeg), .int (s.1 35 v2.toNatClampNeg), .ref 26] s from ⟨hc1, ?_⟩)
        refine Wp.run 4 (show (vp_in v2 4) ∧ Y_X2_sendCats_25 d Q 43 [(0, .ref 26), (1, .ref 25), (2, .int v2)] [.int (s.1 37 v2.toNatClampNeg), .int (s.1 36 v2.toNatClampNeg), .int (s.1 35 v2.toNatClampNeg), .ref 26] s from ⟨hc1, ?_⟩)
        refine Wp.run 1 (show room8 [] ∧ WpM SHC MT (d + 1) 31 [.ref 26, .int (s.1 35 v2.toNatClampNeg), .int (s.1 36 v2.toNatClampNeg), .int (s.1 37 v2.toNatClampNeg)] s (fun v9 s9 => Y_X2_sendCats_25 d Q 46 [(0, .ref 26), (1, .ref 25), (2, .int v2)] (v9.toList ++ []) s9) from ⟨rm8_ rfl, ?_⟩)
        refine w_X2_carry (d := d) _ _ _ ?_
        refine oq_bd H (fun r3 s4 H => ?_)
        show Y_X2_sendCats_25 d Q 46 [(0, .ref 26), (1, .ref 25), (2, .int v2)] [.int r3] s4
        refine Wp.run 3 (show Y_X2_sendCats_25 d Q 2 [(2, .int (v2 + 1)), (0, .ref 26), (1, .ref 25)] [] s4 from ?_)
        refine Wp.weak [1, 2, 0] (lv' := [(0, .ref 26), (1, .ref 25), (2, .int (v2 + 1))]) rfl ?_
        exact ih _ _ H
      · have H := oq_f c9 H
        refine Wp.run 2 (show Y_X2_sendCats_25 d Q 2 [(2, .int (v2 + 1)), (0, .ref 26), (1, .ref 25)] [] s from ?_)
        refine Wp.weak [1, 2, 0] (lv' := [(0, .ref 26), (1, .ref 25), (2, .int (v2 + 1))]) rfl ?_
        exact ih _ _ H
def f_X2_sendCats_25  (s : Sg) : Option (Unit × Sg) :=
  f_X2_sendCats_25_b2 BIG 0 s
set_option maxRecDepth 100000 in
theorem w_X2_sendCats_25 {d : Nat} {s : Sg} {Q : Qt}  (H : OQ (f_X2_sendCats_25  s) (fun _ s9 => Q none s9)) : WpM SHC MT (d + 2) 35 [.ref 26, .ref 25] s Q := by
  refine WpM.enter me_X2_sendCats rfl rfl ?_
  show Y_X2_sendCats_25 d Q 0 [(0, .ref 26), (1, .ref 25)] [] s
  unfold f_X2_sendCats_25 at H
  refine Wp.run 2 (show Y_X2_sendCats_25 d Q 2 [(2, .int 0), (0, .ref 26), (1, .ref 25)] [] s from ?_)
  refine Wp.weak [1, 2, 0] (lv' := [(0, .ref 26), (1, .ref 25), (2, .int 0)]) rfl ?_
  exact w_X2_sendCats_25_b2 _ _ _ H
abbrev Y_X2_meltSnow_25 (d : Nat) (Q : Qt) : Xt := Wp SHC (WpM SHC MT (d + 0)) cd_X2_meltSnow (none) Q
def f_X2_meltSnow_25_b2 : Nat → Int32 → Sg → Option (Unit × Sg)
  | 0, _, _ => none
  | n + 1, v2, s =>
    if (s.1 25 13) ≤ v2 then
      some ((), s)
    else
      ck (inr v2 8) (
      nmx (if (s.1 42 v2.toNatClampNeg) < (s.1 40 v2.toNatClampNeg) then (s.1 42 v2.toNatClampNeg) else (s.1 40 v2.toNatClampNeg) : Int32) (fun x2 =>
      nmx (pI s 40 v2.toNatClampNeg ((s.1 40 v2.toNatClampNeg) - x2)) (fun s3 =>
      nmx (pI s3 42 v2.toNatClampNeg ((s3.1 42 v2.toNatClampNeg) - x2)) (fun s4 =>
      nmx (pI s4 26 12 ((s4.1 26 12) + x2)) (fun s5 =>
      (f_X2_meltSnow_25_b2 n) (v2 + 1) s5
      )
      )
      )
      )
      )
set_option maxRecDepth 100000 in
theorem w_X2_meltSnow_25_b2 {d : Nat} {Q : Qt} (n : Nat) : ∀ (v2 : Int32) (s : Sg), OQ (f_X2_meltSnow_25_b2 n v2 s) (fun _ s9 => Q none s9) → Y_X2_meltSnow_25 d Q 2 [(0, .ref 26), (1, .ref 25), (2, .int v2)] [] s := by
  induction n with
  | zero => intro v2 s H; exact H.elim
  | succ n ih =>
    intro v2 s H
    unfold f_X2_meltSnow_25_b2 at H
    refine Wp.run 4 (show br ((s.1 25 13) ≤ v2) (Y_X2_meltSnow_25 d Q 62 [(0, .ref 26), (1, .ref 25), (2, .int v2)] [] s) (Y_X2_meltSnow_25 d Q 10 [(0, .ref 26), (1, .ref 25), (2, .int v2)] [] s) from ⟨fun c9 => ?_, fun c9 => ?_⟩)
    · have H := oq_t c9 H
      exact Wp.run 1 H
    · have H := oq_f c9 H
      obtain ⟨hc1, H⟩ := oq_ck H
      refine Wp.run 4 (show (vp_in v2 8) ∧ Y_X2_meltSnow_25 d Q 16 [(0, .ref 26), (1, .ref 25), (2, .int v2)] [.int (s.1 40 v2.toNatClampNeg)] s from ⟨hc1, ?_⟩)
      refine Wp.run 4 (show (vp_in v2 8) ∧ Y_X2_meltSnow_25 d Q 22 [(0, .ref 26), (1, .ref 25), (2, .int v2)] [.int (s.1 42 v2.toNatClampNeg), .int (s.1 40 v2.toNatClampNeg)] s from ⟨hc1, ?_⟩)
      refine Wp.run 1 (show room8 [] ∧ Y_X2_meltSnow_25 d Q 25 [(0, .ref 26), (1, .ref 25), (2, .int v2)] [.int (if (s.1 42 v2.toNatClampNeg) < (s.1 40 v2.toNatClampNeg) then (s.1 42 v2.toNatClampNeg) else (s.1 40 v2.toNatClampNeg))] s from ⟨rm8_ rfl, ?_⟩)
      refine Wp.run 1 (show Y_X2_meltSnow_25 d Q 26 [(3, .int (if (s.1 42 v2.toNatClampNeg) < (s.1 40 v2.toNatClampNeg) then (s.1 42 v2.toNatClampNeg) else (s.1 40 v2.toNatClampNeg))), (0, .ref 26), (1, .ref 25), (2, .int v2)] [] s from ?_)
      revert H
      generalize (if (s.1 42 v2.toNatClampNeg) < (s.1 40 v2.toNatClampNeg) then (s.1 42 v2.toNatClampNeg) else (s.1 40 v2.toNatClampNeg) : Int32) = x2
      intro H
      have H := nmx_e H
      refine Wp.run 5 (show (vp_in v2 8) ∧ Y_X2_meltSnow_25 d Q 33 [(3, .int x2), (0, .ref 26), (1, .ref 25), (2, .int v2)] [.int (s.1 40 v2.toNatClampNeg), .int v2, .ref 40] s from ⟨hc1, ?_⟩)
      refine Wp.run 3 (show (vp_in v2 8) ∧ Y_X2_meltSnow_25 d Q 36 [(3, .int x2), (0, .ref 26), (1, .ref 25), (2, .int v2)] [] (pI s 40 v2.toNatClampNeg ((s.1 40 v2.toNatClampNeg) - x2)) from ⟨hc1, ?_⟩)
      revert H
      generalize pI s 40 v2.toNatClampNeg ((s.1 40 v2.toNatClampNeg) - x2) = s3
      intro H
      have H := nmx_e H
      refine Wp.run 5 (show (vp_in v2 8) ∧ Y_X2_meltSnow_25 d Q 43 [(3, .int x2), (0, .ref 26), (1, .ref 25), (2, .int v2)] [.int (s3.1 42 v2.toNatClampNeg), .int v2, .ref 42] s3 from ⟨hc1, ?_⟩)
      refine Wp.run 3 (show (vp_in v2 8) ∧ Y_X2_meltSnow_25 d Q 46 [(3, .int x2), (0, .ref 26), (1, .ref 25), (2, .int v2)] [] (pI s3 42 v2.toNatClampNeg ((s3.1 42 v2.toNatClampNeg) - x2)) from ⟨hc1, ?_⟩)
      revert H
      generalize pI s3 42 v2.toNatClampNeg ((s3.1 42 v2.toNatClampNeg) - x2) = s4
      intro H
      have H := nmx_e H
      refine Wp.run 6 (show Y_X2_meltSnow_25 d Q 56 [(3, .int x2), (0, .ref 26), (1, .ref 25), (2, .int v2)] [] (pI s4 26 12 ((s4.1 26 12) + x2)) from ?_)
      revert H
      generalize pI s4 26 12 ((s4.1 26 12) + x2) = s5
      intro H
      have H := nmx_e H
      refine Wp.run 2 (show Y_X2_meltSnow_25 d Q 2 [(2, .int (v2 + 1)), (3, .int x2), (0, .ref 26), (1, .ref 25)] [] s5 from ?_)
      refine Wp.weak [2, 3, 0] (lv' := [(0, .ref 26), (1, .ref 25), (2, .int (v2 + 1))]) rfl ?_
      exact ih _ _ H
def f_X2_meltSnow_25  (s : Sg) : Option (Unit × Sg) :=
  f_X2_meltSnow_25_b2 BIG 0 s
set_option maxRecDepth 100000 in
theorem w_X2_meltSnow_25 {d : Nat} {s : Sg} {Q : Qt}  (H : OQ (f_X2_meltSnow_25  s) (fun _ s9 => Q none s9)) : WpM SHC MT (d + 1) 36 [.ref 26, .ref 25] s Q := by
  refine WpM.enter me_X2_meltSnow rfl rfl ?_
  show Y_X2_meltSnow_25 d Q 0 [(0, .ref 26), (1, .ref 25)] [] s
  unfold f_X2_meltSnow_25 at H
  refine Wp.run 2 (show Y_X2_meltSnow_25 d Q 2 [(2, .int 0), (0, .ref 26), (1, .ref 25)] [] s from ?_)
  refine Wp.weak [1, 2, 0] (lv' := [(0, .ref 26), (1, .ref 25), (2, .int 0)]) rfl ?_
  exact w_X2_meltSnow_25_b2 _ _ _ H
abbrev Y_X2_countWar_25 (d : Nat) (Q : Qt) : Xt := Wp SHC (WpM SHC MT (d + 1)) cd_X2_countWar (none) Q
def f_X2_countWar_25_b2 : Nat → Int32 → Sg → Option (Unit × Sg)
  | 0, _, _ => none
  | n + 1, v2, s =>
    if (s.1 25 14) ≤ v2 then
      some ((), s)
    else
      bd (f_X11_has (s.1 26 5) v2 s) (fun r1 s2 =>
      if r1 = 0 then
        ck (inr v2 8) (
        nmx (pI s2 43 v2.toNatClampNeg ((s2.1 43 v2.toNatClampNeg) + 1)) (fun s4 =>
        (f_X2_countWar_25_b2 n) (v2 + 1) s4
        )
        )
      else
        (f_X2_countWar_25_b2 n) (v2 + 1) s2
      )
set_option maxRecDepth 100000 in
theorem w_X2_countWar_25_b2 {d : Nat} {Q : Qt} (n : Nat) : ∀ (v2 : Int32) (s : Sg), OQ (f_X2_countWar_25_b2 n v2 s) (fun _ s9 => Q none s9) → Y_X2_countWar_25 d Q 2 [(0, .ref 26), (1, .ref 25), (2, .int v2)] [] s := by
  induction n with
  | zero => intro v2 s H; exact H.elim
  | succ n ih =>
    intro v2 s H
    unfold f_X2_countWar_25_b2 at H
    refine Wp.run 4 (show br ((s.1 25 14) ≤ v2) (Y_X2_countWar_25 d Q 37 [(0, .ref 26), (1, .ref 25), (2, .int v2)] [] s) (Y_X2_countWar_25 d Q 10 [(0, .ref 26), (1, .ref 25), (2, .int v2)] [] s) from ⟨fun c9 => ?_, fun c9 => ?_⟩)
    · have H := oq_t c9 H
      exact Wp.run 1 H
    · have H := oq_f c9 H
      refine Wp.run 4 (show room8 [] ∧ WpM SHC MT (d + 1) 170 [.int (s.1 26 5), .int v2] s (fun v9 s9 => Y_X2_countWar_25 d Q 18 [(0, .ref 26), (1, .ref 25), (2, .int v2)] (v9.toList ++ []) s9) from ⟨rm8_ rfl, ?_⟩)
      refine w_X11_has (d := d) _ _ ?_
      refine oq_bd H (fun r1 s2 H => ?_)
      show Y_X2_countWar_25 d Q 18 [(0, .ref 26), (1, .ref 25), (2, .int v2)] [.int r1] s2
      refine Wp.run 1 (show br (r1 = 0) (Y_X2_countWar_25 d Q 21 [(0, .ref 26), (1, .ref 25), (2, .int v2)] [] s2) (Y_X2_countWar_25 d Q 31 [(0, .ref 26), (1, .ref 25), (2, .int v2)] [] s2) from ⟨fun c9 => ?_, fun c9 => ?_⟩)
      · have H := oq_t c9 H
        obtain ⟨hc3, H⟩ := oq_ck H
        refine Wp.run 5 (show (vp_in v2 8) ∧ Y_X2_countWar_25 d Q 28 [(0, .ref 26), (1, .ref 25), (2, .int v2)] [.int (s2.1 43 v2.toNatClampNeg), .int v2, .ref 43] s2 from ⟨hc3, ?_⟩)
        refine Wp.run 3 (show (vp_in v2 8) ∧ Y_X2_countWar_25 d Q 31 [(0, .ref 26), (1, .ref 25), (2, .int v2)] [] (pI s2 43 v2.toNatClampNeg ((s2.1 43 v2.toNatClampNeg) + 1)) from ⟨hc3, ?_⟩)
        revert H
        generalize pI s2 43 v2.toNatClampNeg ((s2.1 43 v2.toNatClampNeg) + 1) = s4
        intro H
        have H := nmx_e H
        refine Wp.run 2 (show Y_X2_countWar_25 d Q 2 [(2, .int (v2 + 1)), (0, .ref 26), (1, .ref 25)] [] s4 from ?_)
        refine Wp.weak [1, 2, 0] (lv' := [(0, .ref 26), (1, .ref 25), (2, .int (v2 + 1))]) rfl ?_
        exact ih _ _ H
      · have H := oq_f c9 H
        refine Wp.run 2 (show Y_X2_countWar_25 d Q 2 [(2, .int (v2 + 1)), (0, .ref 26), (1, .ref 25)] [] s2 from ?_)
        refine Wp.weak [1, 2, 0] (lv' := [(0, .ref 26), (1, .ref 25), (2, .int (v2 + 1))]) rfl ?_
        exact ih _ _ H
def f_X2_countWar_25  (s : Sg) : Option (Unit × Sg) :=
  f_X2_countWar_25_b2 BIG 0 s
set_option maxRecDepth 100000 in
theorem w_X2_countWar_25 {d : Nat} {s : Sg} {Q : Qt}  (H : OQ (f_X2_countWar_25  s) (fun _ s9 => Q none s9)) : WpM SHC MT (d + 2) 37 [.ref 26, .ref 25] s Q := by
  refine WpM.enter me_X2_countWar rfl rfl ?_
  show Y_X2_countWar_25 d Q 0 [(0, .ref 26), (1, .ref 25)] [] s
  unfold f_X2_countWar_25 at H
  refine Wp.run 2 (show Y_X2_countWar_25 d Q 2 [(2, .int 0), (0, .ref 26), (1, .ref 25)] [] s from ?_)
  refine Wp.weak [1, 2, 0] (lv' := [(0, .ref 26), (1, .ref 25), (2, .int 0)]) rfl ?_
  exact w_X2_countWar_25_b2 _ _ _ H
abbrev Y_X2_passNight_25 (d : Nat) (Q : Qt) : Xt := Wp SHC (WpM SHC MT (d + 3)) cd_X2_passNight (none) Q
def f_X2_passNight_25_b35 (t0 : Int32) (s : Sg) : Option (Unit × Sg) :=
  bd (f_X2_countWar_25 (pI s 26 5 t0)) (fun _ s8 =>
  nmx (pI s8 26 6 (if ((s8.1 26 6) + 1) < 999 then ((s8.1 26 6) + 1) else 999)) (fun s9 =>
  some ((), pI s9 26 7 0)
  )
  )
set_option maxRecDepth 100000 in
theorem w_X2_passNight_25_b35 {d : Nat} {Q : Qt} (t0 : Int32) (s : Sg) (H : OQ (f_X2_passNight_25_b35 t0 s) (fun _ s9 => Q none s9)) : Y_X2_passNight_25 d Q 35 [(0, .ref 26), (1, .ref 25)] [.int t0, .ref 26] s := by
  unfold f_X2_passNight_25_b35 at H
  refine Wp.run 4 (show room8 [] ∧ WpM SHC MT (d + 3) 37 [.ref 26, .ref 25] (pI s 26 5 t0) (fun v9 s9 => Y_X2_passNight_25 d Q 43 [(0, .ref 26), (1, .ref 25)] (v9.toList ++ []) s9) from ⟨rm8_ rfl, ?_⟩)
  refine w_X2_countWar_25 (d := d + 1)  ?_
  refine oq_bd H (fun _ s8 H => ?_)
  show Y_X2_passNight_25 d Q 43 [(0, .ref 26), (1, .ref 25)] [] s8
  refine Wp.run 7 (show room8 [.ref 26] ∧ Y_X2_passNight_25 d Q 56 [(0, .ref 26), (1, .ref 25)] [.int (if ((s8.1 26 6) + 1) < 999 then ((s8.1 26 6) + 1) else 999), .ref 26] s8 from ⟨rm8_ rfl, ?_⟩)
  refine Wp.run 1 (show Y_X2_passNight_25 d Q 59 [(0, .ref 26), (1, .ref 25)] [] (pI s8 26 6 (if ((s8.1 26 6) + 1) < 999 then ((s8.1 26 6) + 1) else 999)) from ?_)
  revert H
  generalize pI s8 26 6 (if ((s8.1 26 6) + 1) < 999 then ((s8.1 26 6) + 1) else 999) = s9
  intro H
  have H := nmx_e H
  refine Wp.run 3 (show ((0 : Int32) = 0 ∨ 0 = 1) ∧ Y_X2_passNight_25 d Q 64 [(0, .ref 26), (1, .ref 25)] [] (pI s9 26 7 0) from ⟨Or.inl rfl, ?_⟩)
  exact Wp.run 1 H
def f_X2_passNight_25  (s : Sg) : Option (Unit × Sg) :=
  bd (f_X2_sendCats_25 s) (fun _ s2 =>
  bd (f_X2_meltSnow_25 s2) (fun _ s4 =>
  bd (f_X9_atPeace_26_25 (-1) s4) (fun r5 s6 =>
  if (s6.1 26 7) = 0 then
    f_X2_passNight_25_b35 ((s6.1 26 5) ||| r5) s6
  else
    f_X2_passNight_25_b35 r5 s6
  )
  )
  )
set_option maxRecDepth 100000 in
theorem w_X2_passNight_25 {d : Nat} {s : Sg} {Q : Qt}  (H : OQ (f_X2_passNight_25  s) (fun _ s9 => Q none s9)) : WpM SHC MT (d + 4) 34 [.ref 26, .ref 25] s Q := by
  refine WpM.enter me_X2_passNight rfl rfl ?_
  show Y_X2_passNight_25 d Q 0 [(0, .ref 26), (1, .ref 25)] [] s
  unfold f_X2_passNight_25 at H
  refine Wp.run 3 (show room8 [] ∧ WpM SHC MT (d + 3) 35 [.ref 26, .ref 25] s (fun v9 s9 => Y_X2_passNight_25 d Q 5 [(0, .ref 26), (1, .ref 25)] (v9.toList ++ []) s9) from ⟨rm8_ rfl, ?_⟩)
  refine w_X2_sendCats_25 (d := d + 1)  ?_
  refine oq_bd H (fun _ s2 H => ?_)
  show Y_X2_passNight_25 d Q 5 [(0, .ref 26), (1, .ref 25)] [] s2
  refine Wp.run 3 (show room8 [] ∧ WpM SHC MT (d + 3) 36 [.ref 26, .ref 25] s2 (fun v9 s9 => Y_X2_passNight_25 d Q 10 [(0, .ref 26), (1, .ref 25)] (v9.toList ++ []) s9) from ⟨rm8_ rfl, ?_⟩)
  refine w_X2_meltSnow_25 (d := d + 2)  ?_
  refine oq_bd H (fun _ s4 H => ?_)
  show Y_X2_passNight_25 d Q 10 [(0, .ref 26), (1, .ref 25)] [] s4
  refine Wp.run 4 (show room8 [] ∧ WpM SHC MT (d + 3) 93 [.ref 25, .ref 26, .int (-1)] s4 (fun v9 s9 => Y_X2_passNight_25 d Q 16 [(0, .ref 26), (1, .ref 25)] (v9.toList ++ []) s9) from ⟨rm8_ rfl, ?_⟩)
  refine w_X9_atPeace_26_25 (d := d) _ ?_
  refine oq_bd H (fun r5 s6 H => ?_)
  show Y_X2_passNight_25 d Q 16 [(0, .ref 26), (1, .ref 25)] [.int r5] s6
  refine Wp.run 5 (show br ((s6.1 26 7) = 0) (Y_X2_passNight_25 d Q 29 [(2, .int r5), (0, .ref 26), (1, .ref 25)] [.ref 26] s6) (Y_X2_passNight_25 d Q 25 [(2, .int r5), (0, .ref 26), (1, .ref 25)] [.ref 26] s6) from ⟨fun c9 => ?_, fun c9 => ?_⟩)
  · have H := oq_t c9 H
    refine Wp.run 4 (show Y_X2_passNight_25 d Q 35 [(2, .int r5), (0, .ref 26), (1, .ref 25)] [.int ((s6.1 26 5) ||| r5), .ref 26] s6 from ?_)
    refine Wp.weak [1, 2] (lv' := [(0, .ref 26), (1, .ref 25)]) rfl ?_
    exact w_X2_passNight_25_b35 _ _ H
  · have H := oq_f c9 H
    refine Wp.run 2 (show Y_X2_passNight_25 d Q 35 [(2, .int r5), (0, .ref 26), (1, .ref 25)] [.int r5, .ref 26] s6 from ?_)
    refine Wp.weak [1, 2] (lv' := [(0, .ref 26), (1, .ref 25)]) rfl ?_
    exact w_X2_passNight_25_b35 _ _ H
abbrev Y_X11_night (d : Nat) (Q : Qt) : Xt := Wp SHC (WpM SHC MT (d + 4)) cd_X11_night (some .int) Q
def f_X11_night  (s : Sg) : Option (Int32 × Sg) :=
  if (s.1 26 6) < 999 then
    bd (f_X2_passNight_25 s) (fun _ s2 =>
    bd (f_X11_answer (s2.1 26 6) s2) (fun r3 s4 =>
    some (r3, s4)
    )
    )
  else
    bd (f_X11_refuse 4 s) (fun r5 s6 =>
    some (r5, s6)
    )
set_option maxRecDepth 100000 in
theorem w_X11_night {d : Nat} {s : Sg} {Q : Qt}  (H : OQ (f_X11_night  s) (fun r9 s9 => Q (some (.int r9)) s9)) : WpM SHC MT (d + 5) 131 [.ref 0] s Q := by
  refine WpM.enter me_X11_night rfl rfl ?_
  show Y_X11_night d Q 0 [(0, .ref 0)] [] s
  unfold f_X11_night at H
  refine Wp.run 5 (show br ((s.1 26 6) < 999) (Y_X11_night d Q 19 [(0, .ref 0)] [] s) (Y_X11_night d Q 13 [(0, .ref 0)] [] s) from ⟨fun c9 => ?_, fun c9 => ?_⟩)
  · have H := oq_t c9 H
    refine Wp.run 5 (show room8 [] ∧ WpM SHC MT (d + 4) 34 [.ref 26, .ref 25] s (fun v9 s9 => Y_X11_night d Q 30 [(0, .ref 0)] (v9.toList ++ []) s9) from ⟨rm8_ rfl, ?_⟩)
    refine w_X2_passNight_25 (d := d)  ?_
    refine oq_bd H (fun _ s2 H => ?_)
    show Y_X11_night d Q 30 [(0, .ref 0)] [] s2
    refine Wp.run 5 (show room8 [] ∧ WpM SHC MT (d + 4) 164 [.ref 0, .int (s2.1 26 6)] s2 (fun v9 s9 => Y_X11_night d Q 41 [(0, .ref 0)] (v9.toList ++ []) s9) from ⟨rm8_ rfl, ?_⟩)
    refine w_X11_answer (d := d + 3) _ ?_
    refine oq_bd H (fun r3 s4 H => ?_)
    show Y_X11_night d Q 41 [(0, .ref 0)] [.int r3] s4
    exact Wp.run 1 ⟨rfl, H⟩
  · have H := oq_f c9 H
    refine Wp.run 3 (show room8 [] ∧ WpM SHC MT (d + 4) 166 [.ref 0, .int 4] s (fun v9 s9 => Y_X11_night d Q 18 [(0, .ref 0)] (v9.toList ++ []) s9) from ⟨rm8_ rfl, ?_⟩)
    refine w_X11_refuse (d := d + 3) _ ?_
    refine oq_bd H (fun r5 s6 H => ?_)
    show Y_X11_night d Q 18 [(0, .ref 0)] [.int r5] s6
    exact Wp.run 1 ⟨rfl, H⟩
abbrev Y_X11_cat (d : Nat) (Q : Qt) : Xt := Wp SHC (WpM SHC MT (d + 1)) cd_X11_cat (some .int) Q
def f_X11_cat (a1 : Int32) (a2 : Int32) (s : Sg) : Option (Int32 × Sg) :=
  bd (f_X11_within a1 0 ((s.1 25 15) - 1) s) (fun r1 s2 =>
  if r1 = 0 then
    bd (f_X11_refuse 1 s2) (fun r3 s4 =>
    some (r3, s4)
    )
  else
    if a2 = 0 then
      ck (inr a1 4) (
      bd (f_X11_answer (s2.1 35 a1.toNatClampNeg) s2) (fun r6 s7 =>
      some (r6, s7)
      )
      )
    else
    if a2 = 1 then
      ck (inr a1 4) (
      bd (f_X11_answer (s2.1 36 a1.toNatClampNeg) s2) (fun r9 s10 =>
      some (r9, s10)
      )
      )
    else
    if a2 = 2 then
      ck (inr a1 4) (
      bd (f_X11_answer (s2.1 37 a1.toNatClampNeg) s2) (fun r12 s13 =>
      some (r12, s13)
      )
      )
    else
      bd (f_X11_refuse 1 s2) (fun r14 s15 =>
      some (r14, s15)
      )
  )
set_option maxRecDepth 100000 in
theorem w_X11_cat {d : Nat} {s : Sg} {Q : Qt} (a1 : Int32) (a2 : Int32) (H : OQ (f_X11_cat a1 a2 s) (fun r9 s9 => Q (some (.int r9)) s9)) : WpM SHC MT (d + 2) 132 [.ref 0, .int a1, .int a2] s Q := by
  refine WpM.enter me_X11_cat rfl rfl ?_
  show Y_X11_cat d Q 0 [(0, .ref 0), (1, .int a1), (2, .int a2)] [] s
  unfold f_X11_cat at H
  refine Wp.run 8 (show room8 [] ∧ WpM SHC MT (d + 1) 169 [.int a1, .int 0, .int ((s.1 25 15) - 1)] s (fun v9 s9 => Y_X11_cat d Q 14 [(0, .ref 0), (1, .int a1), (2, .int a2)] (v9.toList ++ []) s9) from ⟨rm8_ rfl, ?_⟩)
  refine w_X11_within (d := d) _ _ _ ?_
  refine oq_bd H (fun r1 s2 H => ?_)
  show Y_X11_cat d Q 14 [(0, .ref 0), (1, .int a1), (2, .int a2)] [.int r1] s2
  refine Wp.run 1 (show br (r1 = 0) (Y_X11_cat d Q 17 [(0, .ref 0), (1, .int a1), (2, .int a2)] [] s2) (Y_X11_cat d Q 23 [(0, .ref 0), (1, .int a1), (2, .int a2)] [] s2) from ⟨fun c9 => ?_, fun c9 => ?_⟩)
  · have H := oq_t c9 H
    refine Wp.run 3 (show room8 [] ∧ WpM SHC MT (d + 1) 166 [.ref 0, .int 1] s2 (fun v9 s9 => Y_X11_cat d Q 22 [(0, .ref 0), (1, .int a1), (2, .int a2)] (v9.toList ++ []) s9) from ⟨rm8_ rfl, ?_⟩)
    refine w_X11_refuse (d := d) _ ?_
    refine oq_bd H (fun r3 s4 H => ?_)
    show Y_X11_cat d Q 22 [(0, .ref 0), (1, .int a1), (2, .int a2)] [.int r3] s4
    exact Wp.run 1 ⟨rfl, H⟩
  · have H := oq_f c9 H
    refine Wp.run 2 (show (a2 = 0 → Y_X11_cat d Q 52 [(0, .ref 0), (1, .int a1), (2, .int a2)] [] s2) ∧ (¬ a2 = 0 → (a2 = 1 → Y_X11_cat d Q 66 [(0, .ref 0), (1, .int a1), (2, .int a2)] [] s2) ∧ (¬ a2 = 1 → (a2 = 2 → Y_X11_cat d Q 80 [(0, .ref 0), (1, .int a1), (2, .int a2)] [] s2) ∧ (¬ a2 = 2 → Y_X11_cat d Q 94 [(0, .ref 0), (1, .int a1), (2, .int a2)] [] s2))) from ⟨fun e9 => ?_, fun c9_0 => ⟨fun e9 => ?_, fun c9_1 => ⟨fun e9 => ?_, fun c9_2 => ?_⟩⟩⟩)
    · have H := oq_t e9 H
      obtain ⟨hc5, H⟩ := oq_ck H
      refine Wp.run 6 (show (vp_in a1 4) ∧ Y_X11_cat d Q 62 [(0, .ref 0), (1, .int a1), (2, .int a2)] [.int (s2.1 35 a1.toNatClampNeg), .ref 0] s2 from ⟨hc5, ?_⟩)
      refine Wp.run 1 (show room8 [] ∧ WpM SHC MT (d + 1) 164 [.ref 0, .int (s2.1 35 a1.toNatClampNeg)] s2 (fun v9 s9 => Y_X11_cat d Q 65 [(0, .ref 0), (1, .int a1), (2, .int a2)] (v9.toList ++ []) s9) from ⟨rm8_ rfl, ?_⟩)
      refine w_X11_answer (d := d) _ ?_
      refine oq_bd H (fun r6 s7 H => ?_)
      show Y_X11_cat d Q 65 [(0, .ref 0), (1, .int a1), (2, .int a2)] [.int r6] s7
      exact Wp.run 1 ⟨rfl, H⟩
    · have H := oq_f c9_0 H; have H := oq_t e9 H
      obtain ⟨hc8, H⟩ := oq_ck H
      refine Wp.run 6 (show (vp_in a1 4) ∧ Y_X11_cat d Q 76 [(0, .ref 0), (1, .int a1), (2, .int a2)] [.int (s2.1 36 a1.toNatClampNeg), .ref 0] s2 from ⟨hc8, ?_⟩)
      refine Wp.run 1 (show room8 [] ∧ WpM SHC MT (d + 1) 164 [.ref 0, .int (s2.1 36 a1.toNatClampNeg)] s2 (fun v9 s9 => Y_X11_cat d Q 79 [(0, .ref 0), (1, .int a1), (2, .int a2)] (v9.toList ++ []) s9) from ⟨rm8_ rfl, ?_⟩)
      refine w_X11_answer (d := d) _ ?_
      refine oq_bd H (fun r9 s10 H => ?_)
      show Y_X11_cat d Q 79 [(0, .ref 0), (1, .int a1), (2, .int a2)] [.int r9] s10
      exact Wp.run 1 ⟨rfl, H⟩
    · have H := oq_f c9_0 H; have H := oq_f c9_1 H; have H := oq_t e9 H
      obtain ⟨hc11, H⟩ := oq_ck H
      refine Wp.run 6 (show (vp_in a1 4) ∧ Y_X11_cat d Q 90 [(0, .ref 0), (1, .int a1), (2, .int a2)] [.int (s2.1 37 a1.toNatClampNeg), .ref 0] s2 from ⟨hc11, ?_⟩)
      refine Wp.run 1 (show room8 [] ∧ WpM SHC MT (d + 1) 164 [.ref 0, .int (s2.1 37 a1.toNatClampNeg)] s2 (fun v9 s9 => Y_X11_cat d Q 93 [(0, .ref 0), (1, .int a1), (2, .int a2)] (v9.toList ++ []) s9) from ⟨rm8_ rfl, ?_⟩)
      refine w_X11_answer (d := d) _ ?_
      refine oq_bd H (fun r12 s13 H => ?_)
      show Y_X11_cat d Q 93 [(0, .ref 0), (1, .int a1), (2, .int a2)] [.int r12] s13
      exact Wp.run 1 ⟨rfl, H⟩
    · have H := oq_f c9_0 H; have H := oq_f c9_1 H; have H := oq_f c9_2 H
      refine Wp.run 3 (show room8 [] ∧ WpM SHC MT (d + 1) 166 [.ref 0, .int 1] s2 (fun v9 s9 => Y_X11_cat d Q 99 [(0, .ref 0), (1, .int a1), (2, .int a2)] (v9.toList ++ []) s9) from ⟨rm8_ rfl, ?_⟩)
      refine w_X11_refuse (d := d) _ ?_
      refine oq_bd H (fun r14 s15 H => ?_)
      show Y_X11_cat d Q 99 [(0, .ref 0), (1, .int a1), (2, .int a2)] [.int r14] s15
      exact Wp.run 1 ⟨rfl, H⟩
abbrev Y_X4_reachedFrom (d : Nat) (Q : Qt) : Xt := Wp SHC (WpM SHC MT (d + 1)) cd_X4_reachedFrom (some .int) Q
def f_X4_reachedFrom_b15 (k_6 : Int32 → Int32 → Sg → Option (Int32 × Sg)) : Nat → Int32 → Int32 → Int32 → Sg → Option (Int32 × Sg)
  | 0, _, _, _, _ => none
  | n + 1, v2, v3, v4, s =>
    if (s.1 25 15) ≤ v4 then
      k_6 v2 (v3 + 1) s
    else
      ck (inr v4 4) (
      bd (f_X11_has v2 (s.1 35 v4.toNatClampNeg) s) (fun r3 s4 =>
      if r3 = 0 then
        (f_X4_reachedFrom_b15 k_6 n) v2 v3 (v4 + 1) s4
      else
        nmx (v2 ||| ((1 : Int32) <<< ((s4.1 36 v4.toNatClampNeg) &&& 31)) : Int32) (fun x5 =>
        (f_X4_reachedFrom_b15 k_6 n) x5 v3 (v4 + 1) s4
        )
      )
      )
set_option maxRecDepth 100000 in
theorem w_X4_reachedFrom_b15 {d : Nat} {Q : Qt} (k_6 : Int32 → Int32 → Sg → Option (Int32 × Sg)) (h_6 : ∀ (v2 : Int32) (v3 : Int32) s, OQ (k_6 v2 v3 s) (fun r9 s9 => Q (some (.int r9)) s9) → Y_X4_reachedFrom d Q 6 [(0, .ref 25), (2, .int v2), (3, .int v3)] [] s) (n : Nat) : ∀ (v2 : Int32) (v3 : Int32) (v4 : Int32) (s : Sg), OQ (f_X4_reachedFrom_b15 k_6 n v2 v3 v4 s) (fun r9 s9 => Q (some (.int r9)) s9) → Y_X4_reachedFrom d Q 15 [(0, .ref 25), (2, .int v2), (3, .int v3), (4, .int v4)] [] s := by
  induction n with
  | zero => intro v2 v3 v4 s H; exact H.elim
  | succ n ih =>
    intro v2 v3 v4 s H
    unfold f_X4_reachedFrom_b15 at H
    refine Wp.run 4 (show br ((s.1 25 15) ≤ v4) (Y_X4_reachedFrom d Q 56 [(0, .ref 25), (2, .int v2), (3, .int v3), (4, .int v4)] [] s) (Y_X4_reachedFrom d Q 24 [(0, .ref 25), (2, .int v2), (3, .int v3), (4, .int v4)] [] s) from ⟨fun c9 => ?_, fun c9 => ?_⟩)
    · have H := oq_t c9 H
      refine Wp.run 2 (show Y_X4_reachedFrom d Q 6 [(3, .int (v3 + 1)), (0, .ref 25), (2, .int v2), (4, .int v4)] [] s from ?_)
      refine Wp.weak [1, 2, 0] (lv' := [(0, .ref 25), (2, .int v2), (3, .int (v3 + 1))]) rfl ?_
      exact h_6 _ _ _ H
    · have H := oq_f c9 H
      obtain ⟨hc2, H⟩ := oq_ck H
      refine Wp.run 5 (show (vp_in v4 4) ∧ Y_X4_reachedFrom d Q 32 [(0, .ref 25), (2, .int v2), (3, .int v3), (4, .int v4)] [.int (s.1 35 v4.toNatClampNeg), .int v2] s from ⟨hc2, ?_⟩)
      refine Wp.run 1 (show room8 [] ∧ WpM SHC MT (d + 1) 170 [.int v2, .int (s.1 35 v4.toNatClampNeg)] s (fun v9 s9 => Y_X4_reachedFrom d Q 35 [(0, .ref 25), (2, .int v2), (3, .int v3), (4, .int v4)] (v9.toList ++ []) s9) from ⟨rm8_ rfl, ?_⟩)
      refine w_X11_has (d := d) _ _ ?_
      refine oq_bd H (fun r3 s4 H => ?_)
      show Y_X4_reachedFrom d Q 35 [(0, .ref 25), (2, .int v2), (3, .int v3), (4, .int v4)] [.int r3] s4
      refine Wp.run 1 (show br (r3 = 0) (Y_X4_reachedFrom d Q 50 [(0, .ref 25), (2, .int v2), (3, .int v3), (4, .int v4)] [] s4) (Y_X4_reachedFrom d Q 38 [(0, .ref 25), (2, .int v2), (3, .int v3), (4, .int v4)] [] s4) from ⟨fun c9 => ?_, fun c9 => ?_⟩)
      · have H := oq_t c9 H
        refine Wp.run 2 (show Y_X4_reachedFrom d Q 15 [(4, .int (v4 + 1)), (0, .ref 25), (2, .int v2), (3, .int v3)] [] s4 from ?_)
        refine Wp.weak [1, 2, 3, 0] (lv' := [(0, .ref 25), (2, .int v2), (3, .int v3), (4, .int (v4 + 1))]) rfl ?_
        exact ih _ _ _ _ H
      · have H := oq_f c9 H
        refine Wp.run 6 (show (vp_in v4 4) ∧ Y_X4_reachedFrom d Q 47 [(0, .ref 25), (2, .int v2), (3, .int v3), (4, .int v4)] [.int (s4.1 36 v4.toNatClampNeg), .int 1, .int v2] s4 from ⟨hc2, ?_⟩)
        refine Wp.run 3 (show Y_X4_reachedFrom d Q 50 [(2, .int (v2 ||| ((1 : Int32) <<< ((s4.1 36 v4.toNatClampNeg) &&& 31)))), (0, .ref 25), (3, .int v3), (4, .int v4)] [] s4 from ?_)
        revert H
        generalize (v2 ||| ((1 : Int32) <<< ((s4.1 36 v4.toNatClampNeg) &&& 31)) : Int32) = x5
        intro H
        have H := nmx_e H
        refine Wp.run 2 (show Y_X4_reachedFrom d Q 15 [(4, .int (v4 + 1)), (2, .int x5), (0, .ref 25), (3, .int v3)] [] s4 from ?_)
        refine Wp.weak [2, 1, 3, 0] (lv' := [(0, .ref 25), (2, .int x5), (3, .int v3), (4, .int (v4 + 1))]) rfl ?_
        exact ih _ _ _ _ H
def f_X4_reachedFrom_b6 : Nat → Int32 → Int32 → Sg → Option (Int32 × Sg)
  | 0, _, _, _ => none
  | n + 1, v2, v3, s =>
    if 8 ≤ v3 then
      some (v2, s)
    else
      f_X4_reachedFrom_b15 (f_X4_reachedFrom_b6 n) BIG v2 v3 0 s
set_option maxRecDepth 100000 in
theorem w_X4_reachedFrom_b6 {d : Nat} {Q : Qt} (n : Nat) : ∀ (v2 : Int32) (v3 : Int32) (s : Sg), OQ (f_X4_reachedFrom_b6 n v2 v3 s) (fun r9 s9 => Q (some (.int r9)) s9) → Y_X4_reachedFrom d Q 6 [(0, .ref 25), (2, .int v2), (3, .int v3)] [] s := by
  induction n with
  | zero => intro v2 v3 s H; exact H.elim
  | succ n ih =>
    intro v2 v3 s H
    unfold f_X4_reachedFrom_b6 at H
    refine Wp.run 3 (show br (8 ≤ v3) (Y_X4_reachedFrom d Q 62 [(0, .ref 25), (2, .int v2), (3, .int v3)] [] s) (Y_X4_reachedFrom d Q 12 [(0, .ref 25), (2, .int v2), (3, .int v3)] [] s) from ⟨fun c9 => ?_, fun c9 => ?_⟩)
    · have H := oq_t c9 H
      exact Wp.run 2 ⟨rfl, H⟩
    · have H := oq_f c9 H
      refine Wp.run 2 (show Y_X4_reachedFrom d Q 15 [(4, .int 0), (0, .ref 25), (2, .int v2), (3, .int v3)] [] s from ?_)
      refine Wp.weak [1, 2, 3, 0] (lv' := [(0, .ref 25), (2, .int v2), (3, .int v3), (4, .int 0)]) rfl ?_
      exact w_X4_reachedFrom_b15 (f_X4_reachedFrom_b6 n) ih _ _ _ _ _ H
def f_X4_reachedFrom (a1 : Int32) (s : Sg) : Option (Int32 × Sg) :=
  nmx ((1 : Int32) <<< (a1 &&& 31) : Int32) (fun x1 =>
  f_X4_reachedFrom_b6 BIG x1 0 s
  )
set_option maxRecDepth 100000 in
theorem w_X4_reachedFrom {d : Nat} {s : Sg} {Q : Qt} (a1 : Int32) (H : OQ (f_X4_reachedFrom a1 s) (fun r9 s9 => Q (some (.int r9)) s9)) : WpM SHC MT (d + 2) 59 [.ref 25, .int a1] s Q := by
  refine WpM.enter me_X4_reachedFrom rfl rfl ?_
  show Y_X4_reachedFrom d Q 0 [(0, .ref 25), (1, .int a1)] [] s
  unfold f_X4_reachedFrom at H
  refine Wp.run 4 (show Y_X4_reachedFrom d Q 4 [(2, .int ((1 : Int32) <<< (a1 &&& 31))), (0, .ref 25), (1, .int a1)] [] s from ?_)
  revert H
  generalize ((1 : Int32) <<< (a1 &&& 31) : Int32) = x1
  intro H
  have H := nmx_e H
  refine Wp.run 2 (show Y_X4_reachedFrom d Q 6 [(3, .int 0), (2, .int x1), (0, .ref 25), (1, .int a1)] [] s from ?_)
  refine Wp.weak [2, 1, 0] (lv' := [(0, .ref 25), (2, .int x1), (3, .int 0)]) rfl ?_
  exact w_X4_reachedFrom_b6 _ _ _ _ H
abbrev Y_X11_reaches (d : Nat) (Q : Qt) : Xt := Wp SHC (WpM SHC MT (d + 3)) cd_X11_reaches (some .int) Q
def f_X11_reaches (a1 : Int32) (s : Sg) : Option (Int32 × Sg) :=
  bd (f_X11_whyNoStep a1 1 s) (fun r1 s2 =>
  if r1 = 0 then
    bd (f_X4_reachedFrom a1 s2) (fun r3 s4 =>
    bd (f_X11_answer r3 s4) (fun r5 s6 =>
    some (r5, s6)
    )
    )
  else
    bd (f_X11_refuse r1 s2) (fun r7 s8 =>
    some (r7, s8)
    )
  )
set_option maxRecDepth 100000 in
theorem w_X11_reaches {d : Nat} {s : Sg} {Q : Qt} (a1 : Int32) (H : OQ (f_X11_reaches a1 s) (fun r9 s9 => Q (some (.int r9)) s9)) : WpM SHC MT (d + 4) 133 [.ref 0, .int a1] s Q := by
  refine WpM.enter me_X11_reaches rfl rfl ?_
  show Y_X11_reaches d Q 0 [(0, .ref 0), (1, .int a1)] [] s
  unfold f_X11_reaches at H
  refine Wp.run 4 (show room8 [] ∧ WpM SHC MT (d + 3) 177 [.ref 0, .int a1, .int 1] s (fun v9 s9 => Y_X11_reaches d Q 6 [(0, .ref 0), (1, .int a1)] (v9.toList ++ []) s9) from ⟨rm8_ rfl, ?_⟩)
  refine w_X11_whyNoStep (d := d) _ _ ?_
  refine oq_bd H (fun r1 s2 H => ?_)
  show Y_X11_reaches d Q 6 [(0, .ref 0), (1, .int a1)] [.int r1] s2
  refine Wp.run 3 (show br (r1 = 0) (Y_X11_reaches d Q 17 [(2, .int r1), (0, .ref 0), (1, .int a1)] [] s2) (Y_X11_reaches d Q 11 [(2, .int r1), (0, .ref 0), (1, .int a1)] [] s2) from ⟨fun c9 => ?_, fun c9 => ?_⟩)
  · have H := oq_t c9 H
    refine Wp.run 5 (show room8 [.ref 0] ∧ WpM SHC MT (d + 3) 59 [.ref 25, .int a1] s2 (fun v9 s9 => Y_X11_reaches d Q 26 [(2, .int r1), (0, .ref 0), (1, .int a1)] (v9.toList ++ [.ref 0]) s9) from ⟨rm8_ rfl, ?_⟩)
    refine w_X4_reachedFrom (d := d + 1) _ ?_
    refine oq_bd H (fun r3 s4 H => ?_)
    show Y_X11_reaches d Q 26 [(2, .int r1), (0, .ref 0), (1, .int a1)] [.int r3, .ref 0] s4
    refine Wp.run 1 (show room8 [] ∧ WpM SHC MT (d + 3) 164 [.ref 0, .int r3] s4 (fun v9 s9 => Y_X11_reaches d Q 29 [(2, .int r1), (0, .ref 0), (1, .int a1)] (v9.toList ++ []) s9) from ⟨rm8_ rfl, ?_⟩)
    refine w_X11_answer (d := d + 2) _ ?_
    refine oq_bd H (fun r5 s6 H => ?_)
    show Y_X11_reaches d Q 29 [(2, .int r1), (0, .ref 0), (1, .int a1)] [.int r5] s6
    exact Wp.run 1 ⟨rfl, H⟩
  · have H := oq_f c9 H
    refine Wp.run 3 (show room8 [] ∧ WpM SHC MT (d + 3) 166 [.ref 0, .int r1] s2 (fun v9 s9 => Y_X11_reaches d Q 16 [(2, .int r1), (0, .ref 0), (1, .int a1)] (v9.toList ++ []) s9) from ⟨rm8_ rfl, ?_⟩)
    refine w_X11_refuse (d := d + 2) _ ?_
    refine oq_bd H (fun r7 s8 H => ?_)
    show Y_X11_reaches d Q 16 [(2, .int r1), (0, .ref 0), (1, .int a1)] [.int r7] s8
    exact Wp.run 1 ⟨rfl, H⟩
abbrev Y_X4_joinedTo (d : Nat) (Q : Qt) : Xt := Wp SHC (WpM SHC MT (d + 0)) cd_X4_joinedTo (some .int) Q
def f_X4_joinedTo_b15 (k_6 : Int32 → Int32 → Sg → Option (Int32 × Sg)) : Nat → Int32 → Int32 → Int32 → Sg → Option (Int32 × Sg)
  | 0, _, _, _, _ => none
  | n + 1, v2, v3, v4, s =>
    if (s.1 25 13) ≤ v4 then
      k_6 v2 (v3 + 1) s
    else
      ck (inr v4 8) (
      if (v2 &&& (s.1 34 v4.toNatClampNeg)) = 0 then
        (f_X4_joinedTo_b15 k_6 n) v2 v3 (v4 + 1) s
      else
        nmx (v2 ||| (s.1 34 v4.toNatClampNeg) : Int32) (fun x3 =>
        (f_X4_joinedTo_b15 k_6 n) x3 v3 (v4 + 1) s
        )
      )
set_option maxRecDepth 100000 in
theorem w_X4_joinedTo_b15 {d : Nat} {Q : Qt} (k_6 : Int32 → Int32 → Sg → Option (Int32 × Sg)) (h_6 : ∀ (v2 : Int32) (v3 : Int32) s, OQ (k_6 v2 v3 s) (fun r9 s9 => Q (some (.int r9)) s9) → Y_X4_joinedTo d Q 6 [(0, .ref 25), (2, .int v2), (3, .int v3)] [] s) (n : Nat) : ∀ (v2 : Int32) (v3 : Int32) (v4 : Int32) (s : Sg), OQ (f_X4_joinedTo_b15 k_6 n v2 v3 v4 s) (fun r9 s9 => Q (some (.int r9)) s9) → Y_X4_joinedTo d Q 15 [(0, .ref 25), (2, .int v2), (3, .int v3), (4, .int v4)] [] s := by
  induction n with
  | zero => intro v2 v3 v4 s H; exact H.elim
  | succ n ih =>
    intro v2 v3 v4 s H
    unfold f_X4_joinedTo_b15 at H
    refine Wp.run 4 (show br ((s.1 25 13) ≤ v4) (Y_X4_joinedTo d Q 51 [(0, .ref 25), (2, .int v2), (3, .int v3), (4, .int v4)] [] s) (Y_X4_joinedTo d Q 24 [(0, .ref 25), (2, .int v2), (3, .int v3), (4, .int v4)] [] s) from ⟨fun c9 => ?_, fun c9 => ?_⟩)
    · have H := oq_t c9 H
      refine Wp.run 2 (show Y_X4_joinedTo d Q 6 [(3, .int (v3 + 1)), (0, .ref 25), (2, .int v2), (4, .int v4)] [] s from ?_)
      refine Wp.weak [1, 2, 0] (lv' := [(0, .ref 25), (2, .int v2), (3, .int (v3 + 1))]) rfl ?_
      exact h_6 _ _ _ H
    · have H := oq_f c9 H
      obtain ⟨hc2, H⟩ := oq_ck H
      refine Wp.run 4 (show (vp_in v4 8) ∧ Y_X4_joinedTo d Q 31 [(0, .ref 25), (2, .int v2), (3, .int v3), (4, .int v4)] [.int (s.1 34 v4.toNatClampNeg)] s from ⟨hc2, ?_⟩)
      refine Wp.run 5 (show br ((v2 &&& (s.1 34 v4.toNatClampNeg)) = 0) (Y_X4_joinedTo d Q 45 [(5, .int (s.1 34 v4.toNatClampNeg)), (0, .ref 25), (2, .int v2), (3, .int v3), (4, .int v4)] [] s) (Y_X4_joinedTo d Q 40 [(5, .int (s.1 34 v4.toNatClampNeg)), (0, .ref 25), (2, .int v2), (3, .int v3), (4, .int v4)] [] s) from ⟨fun c9 => ?_, fun c9 => ?_⟩)
      · have H := oq_t c9 H
        refine Wp.run 2 (show Y_X4_joinedTo d Q 15 [(4, .int (v4 + 1)), (5, .int (s.1 34 v4.toNatClampNeg)), (0, .ref 25), (2, .int v2), (3, .int v3)] [] s from ?_)
        refine Wp.weak [2, 3, 4, 0] (lv' := [(0, .ref 25), (2, .int v2), (3, .int v3), (4, .int (v4 + 1))]) rfl ?_
        exact ih _ _ _ _ H
      · have H := oq_f c9 H
        refine Wp.run 4 (show Y_X4_joinedTo d Q 45 [(2, .int (v2 ||| (s.1 34 v4.toNatClampNeg))), (5, .int (s.1 34 v4.toNatClampNeg)), (0, .ref 25), (3, .int v3), (4, .int v4)] [] s from ?_)
        revert H
        generalize (v2 ||| (s.1 34 v4.toNatClampNeg) : Int32) = x3
        intro H
        have H := nmx_e H
        refine Wp.run 2 (show Y_X4_joinedTo d Q 15 [(4, .int (v4 + 1)), (2, .int x3), (5, .int (s.1 34 v4.toNatClampNeg)), (0, .ref 25), (3, .int v3)] [] s from ?_)
        refine Wp.weak [3, 1, 4, 0] (lv' := [(0, .ref 25), (2, .int x3), (3, .int v3), (4, .int (v4 + 1))]) rfl ?_
        exact ih _ _ _ _ H
def f_X4_joinedTo_b6 : Nat → Int32 → Int32 → Sg → Option (Int32 × Sg)
  | 0, _, _, _ => none
  | n + 1, v2, v3, s =>
    if 8 ≤ v3 then
      some (v2, s)
    else
      f_X4_joinedTo_b15 (f_X4_joinedTo_b6 n) BIG v2 v3 0 s
set_option maxRecDepth 100000 in
theorem w_X4_joinedTo_b6 {d : Nat} {Q : Qt} (n : Nat) : ∀ (v2 : Int32) (v3 : Int32) (s : Sg), OQ (f_X4_joinedTo_b6 n v2 v3 s) (fun r9 s9 => Q (some (.int r9)) s9) → Y_X4_joinedTo d Q 6 [(0, .ref 25), (2, .int v2), (3, .int v3)] [] s := by
  induction n with
  | zero => intro v2 v3 s H; exact H.elim
  | succ n ih =>
    intro v2 v3 s H
    unfold f_X4_joinedTo_b6 at H
    refine Wp.run 3 (show br (8 ≤ v3) (Y_X4_joinedTo d Q 57 [(0, .ref 25), (2, .int v2), (3, .int v3)] [] s) (Y_X4_joinedTo d Q 12 [(0, .ref 25), (2, .int v2), (3, .int v3)] [] s) from ⟨fun c9 => ?_, fun c9 => ?_⟩)
    · have H := oq_t c9 H
      exact Wp.run 2 ⟨rfl, H⟩
    · have H := oq_f c9 H
      refine Wp.run 2 (show Y_X4_joinedTo d Q 15 [(4, .int 0), (0, .ref 25), (2, .int v2), (3, .int v3)] [] s from ?_)
      refine Wp.weak [1, 2, 3, 0] (lv' := [(0, .ref 25), (2, .int v2), (3, .int v3), (4, .int 0)]) rfl ?_
      exact w_X4_joinedTo_b15 (f_X4_joinedTo_b6 n) ih _ _ _ _ _ H
def f_X4_joinedTo (a1 : Int32) (s : Sg) : Option (Int32 × Sg) :=
  nmx ((1 : Int32) <<< (a1 &&& 31) : Int32) (fun x1 =>
  f_X4_joinedTo_b6 BIG x1 0 s
  )
set_option maxRecDepth 100000 in
theorem w_X4_joinedTo {d : Nat} {s : Sg} {Q : Qt} (a1 : Int32) (H : OQ (f_X4_joinedTo a1 s) (fun r9 s9 => Q (some (.int r9)) s9)) : WpM SHC MT (d + 1) 60 [.ref 25, .int a1] s Q := by
  refine WpM.enter me_X4_joinedTo rfl rfl ?_
  show Y_X4_joinedTo d Q 0 [(0, .ref 25), (1, .int a1)] [] s
  unfold f_X4_joinedTo at H
  refine Wp.run 4 (show Y_X4_joinedTo d Q 4 [(2, .int ((1 : Int32) <<< (a1 &&& 31))), (0, .ref 25), (1, .int a1)] [] s from ?_)
  revert H
  generalize ((1 : Int32) <<< (a1 &&& 31) : Int32) = x1
  intro H
  have H := nmx_e H
  refine Wp.run 2 (show Y_X4_joinedTo d Q 6 [(3, .int 0), (2, .int x1), (0, .ref 25), (1, .int a1)] [] s from ?_)
  refine Wp.weak [2, 1, 0] (lv' := [(0, .ref 25), (2, .int x1), (3, .int 0)]) rfl ?_
  exact w_X4_joinedTo_b6 _ _ _ _ H
abbrev Y_X11_chain (d : Nat) (Q : Qt) : Xt := Wp SHC (WpM SHC MT (d + 2)) cd_X11_chain (some .int) Q
def f_X11_chain (a1 : Int32) (s : Sg) : Option (Int32 × Sg) :=
  bd (f_X11_isQuarrel a1 s) (fun r1 s2 =>
  if r1 = 0 then
    bd (f_X11_refuse 1 s2) (fun r3 s4 =>
    some (r3, s4)
    )
  else
    bd (f_X4_joinedTo a1 s2) (fun r5 s6 =>
    bd (f_X11_answer r5 s6) (fun r7 s8 =>
    some (r7, s8)
    )
    )
  )
set_option maxRecDepth 100000 in
theorem w_X11_chain {d : Nat} {s : Sg} {Q : Qt} (a1 : Int32) (H : OQ (f_X11_chain a1 s) (fun r9 s9 => Q (some (.int r9)) s9)) : WpM SHC MT (d + 3) 134 [.ref 0, .int a1] s Q := by
  refine WpM.enter me_X11_chain rfl rfl ?_
  show Y_X11_chain d Q 0 [(0, .ref 0), (1, .int a1)] [] s
  unfold f_X11_chain at H
  refine Wp.run 3 (show room8 [] ∧ WpM SHC MT (d + 2) 173 [.ref 0, .int a1] s (fun v9 s9 => Y_X11_chain d Q 5 [(0, .ref 0), (1, .int a1)] (v9.toList ++ []) s9) from ⟨rm8_ rfl, ?_⟩)
  refine w_X11_isQuarrel (d := d) _ ?_
  refine oq_bd H (fun r1 s2 H => ?_)
  show Y_X11_chain d Q 5 [(0, .ref 0), (1, .int a1)] [.int r1] s2
  refine Wp.run 1 (show br (r1 = 0) (Y_X11_chain d Q 8 [(0, .ref 0), (1, .int a1)] [] s2) (Y_X11_chain d Q 14 [(0, .ref 0), (1, .int a1)] [] s2) from ⟨fun c9 => ?_, fun c9 => ?_⟩)
  · have H := oq_t c9 H
    refine Wp.run 3 (show room8 [] ∧ WpM SHC MT (d + 2) 166 [.ref 0, .int 1] s2 (fun v9 s9 => Y_X11_chain d Q 13 [(0, .ref 0), (1, .int a1)] (v9.toList ++ []) s9) from ⟨rm8_ rfl, ?_⟩)
    refine w_X11_refuse (d := d + 1) _ ?_
    refine oq_bd H (fun r3 s4 H => ?_)
    show Y_X11_chain d Q 13 [(0, .ref 0), (1, .int a1)] [.int r3] s4
    exact Wp.run 1 ⟨rfl, H⟩
  · have H := oq_f c9 H
    refine Wp.run 5 (show room8 [.ref 0] ∧ WpM SHC MT (d + 2) 60 [.ref 25, .int a1] s2 (fun v9 s9 => Y_X11_chain d Q 23 [(0, .ref 0), (1, .int a1)] (v9.toList ++ [.ref 0]) s9) from ⟨rm8_ rfl, ?_⟩)
    refine w_X4_joinedTo (d := d + 1) _ ?_
    refine oq_bd H (fun r5 s6 H => ?_)
    show Y_X11_chain d Q 23 [(0, .ref 0), (1, .int a1)] [.int r5, .ref 0] s6
    refine Wp.run 1 (show room8 [] ∧ WpM SHC MT (d + 2) 164 [.ref 0, .int r5] s6 (fun v9 s9 => Y_X11_chain d Q 26 [(0, .ref 0), (1, .int a1)] (v9.toList ++ []) s9) from ⟨rm8_ rfl, ?_⟩)
    refine w_X11_answer (d := d + 1) _ ?_
    refine oq_bd H (fun r7 s8 H => ?_)
    show Y_X11_chain d Q 26 [(0, .ref 0), (1, .int a1)] [.int r7] s8
    exact Wp.run 1 ⟨rfl, H⟩
abbrev Y_X11_copyRow_67_40 (d : Nat) (Q : Qt) : Xt := Wp SHC (WpM SHC MT (d + 0)) cd_X11_copyRow (none) Q
def f_X11_copyRow_67_40  (s : Sg) : Option (Unit × Sg) :=
  ck (¬ (0 : Int32) < 0 ∧ ¬ (0 : Int32) < 0 ∧ ¬ (if 8 < (8 : Int32) then 8 else (8 : Int32)) < 0 ∧ 0 + (if 8 < (8 : Int32) then 8 else (8 : Int32)).toNatClampNeg ≤ 8 ∧ 0 + (if 8 < (8 : Int32) then 8 else (8 : Int32)).toNatClampNeg ≤ 8) (
  some ((), pA s 67 (va_cpy (s.1 40) (s.1 67) 0 0 (if 8 < (8 : Int32) then 8 else (8 : Int32)).toNatClampNeg))
  )
set_option maxRecDepth 100000 in
theorem w_X11_copyRow_67_40 {d : Nat} {s : Sg} {Q : Qt}  (H : OQ (f_X11_copyRow_67_40  s) (fun _ s9 => Q none s9)) : WpM SHC MT (d + 1) 184 [.ref 40, .ref 67] s Q := by
  refine WpM.enter me_X11_copyRow rfl rfl ?_
  show Y_X11_copyRow_67_40 d Q 0 [(0, .ref 40), (1, .ref 67)] [] s
  unfold f_X11_copyRow_67_40 at H
  refine Wp.run 9 (show room8 [.int 0, .ref 67, .int 0, .ref 40] ∧ Y_X11_copyRow_67_40 d Q 11 [(0, .ref 40), (1, .ref 67)] [.int (if 8 < (8 : Int32) then 8 else (8 : Int32)), .int 0, .ref 67, .int 0, .ref 40] s from ⟨rm8_ rfl, ?_⟩)
  obtain ⟨c9, H⟩ := oq_ck H
  refine Wp.run 1 (show room8 [] ∧ (¬ (0 : Int32) < 0 ∧ ¬ (0 : Int32) < 0 ∧ ¬ (if 8 < (8 : Int32) then 8 else (8 : Int32)) < 0 ∧ 0 + (if 8 < (8 : Int32) then 8 else (8 : Int32)).toNatClampNeg ≤ 8 ∧ 0 + (if 8 < (8 : Int32) then 8 else (8 : Int32)).toNatClampNeg ≤ 8) ∧ Y_X11_copyRow_67_40 d Q 14 [(0, .ref 40), (1, .ref 67)] [] (pA s 67 (va_cpy (s.1 40) (s.1 67) 0 0 (if 8 < (8 : Int32) then 8 else (8 : Int32)).toNatClampNeg)) from ⟨rm8_ rfl, c9, ?_⟩)
  exact Wp.run 1 H
abbrev Y_X11_copyRow_68_41 (d : Nat) (Q : Qt) : Xt := Wp SHC (WpM SHC MT (d + 0)) cd_X11_copyRow (none) Q
def f_X11_copyRow_68_41  (s : Sg) : Option (Unit × Sg) :=
  ck (¬ (0 : Int32) < 0 ∧ ¬ (0 : Int32) < 0 ∧ ¬ (if 8 < (8 : Int32) then 8 else (8 : Int32)) < 0 ∧ 0 + (if 8 < (8 : Int32) then 8 else (8 : Int32)).toNatClampNeg ≤ 8 ∧ 0 + (if 8 < (8 : Int32) then 8 else (8 : Int32)).toNatClampNeg ≤ 8) (
  some ((), pA s 68 (va_cpy (s.1 41) (s.1 68) 0 0 (if 8 < (8 : Int32) then 8 else (8 : Int32)).toNatClampNeg))
  )
set_option maxRecDepth 100000 in
theorem w_X11_copyRow_68_41 {d : Nat} {s : Sg} {Q : Qt}  (H : OQ (f_X11_copyRow_68_41  s) (fun _ s9 => Q none s9)) : WpM SHC MT (d + 1) 184 [.ref 41, .ref 68] s Q := by
  refine WpM.enter me_X11_copyRow rfl rfl ?_
  show Y_X11_copyRow_68_41 d Q 0 [(0, .ref 41), (1, .ref 68)] [] s
  unfold f_X11_copyRow_68_41 at H
  refine Wp.run 9 (show room8 [.int 0, .ref 68, .int 0, .ref 41] ∧ Y_X11_copyRow_68_41 d Q 11 [(0, .ref 41), (1, .ref 68)] [.int (if 8 < (8 : Int32) then 8 else (8 : Int32)), .int 0, .ref 68, .int 0, .ref 41] s from ⟨rm8_ rfl, ?_⟩)
  obtain ⟨c9, H⟩ := oq_ck H
  refine Wp.run 1 (show room8 [] ∧ (¬ (0 : Int32) < 0 ∧ ¬ (0 : Int32) < 0 ∧ ¬ (if 8 < (8 : Int32) then 8 else (8 : Int32)) < 0 ∧ 0 + (if 8 < (8 : Int32) then 8 else (8 : Int32)).toNatClampNeg ≤ 8 ∧ 0 + (if 8 < (8 : Int32) then 8 else (8 : Int32)).toNatClampNeg ≤ 8) ∧ Y_X11_copyRow_68_41 d Q 14 [(0, .ref 41), (1, .ref 68)] [] (pA s 68 (va_cpy (s.1 41) (s.1 68) 0 0 (if 8 < (8 : Int32) then 8 else (8 : Int32)).toNatClampNeg)) from ⟨rm8_ rfl, c9, ?_⟩)
  exact Wp.run 1 H
abbrev Y_X11_copyRow_69_42 (d : Nat) (Q : Qt) : Xt := Wp SHC (WpM SHC MT (d + 0)) cd_X11_copyRow (none) Q
def f_X11_copyRow_69_42  (s : Sg) : Option (Unit × Sg) :=
  ck (¬ (0 : Int32) < 0 ∧ ¬ (0 : Int32) < 0 ∧ ¬ (if 8 < (8 : Int32) then 8 else (8 : Int32)) < 0 ∧ 0 + (if 8 < (8 : Int32) then 8 else (8 : Int32)).toNatClampNeg ≤ 8 ∧ 0 + (if 8 < (8 : Int32) then 8 else (8 : Int32)).toNatClampNeg ≤ 8) (
  some ((), pA s 69 (va_cpy (s.1 42) (s.1 69) 0 0 (if 8 < (8 : Int32) then 8 else (8 : Int32)).toNatClampNeg))
  )
set_option maxRecDepth 100000 in
theorem w_X11_copyRow_69_42 {d : Nat} {s : Sg} {Q : Qt}  (H : OQ (f_X11_copyRow_69_42  s) (fun _ s9 => Q none s9)) : WpM SHC MT (d + 1) 184 [.ref 42, .ref 69] s Q := by
  refine WpM.enter me_X11_copyRow rfl rfl ?_
  show Y_X11_copyRow_69_42 d Q 0 [(0, .ref 42), (1, .ref 69)] [] s
  unfold f_X11_copyRow_69_42 at H
  refine Wp.run 9 (show room8 [.int 0, .ref 69, .int 0, .ref 42] ∧ Y_X11_copyRow_69_42 d Q 11 [(0, .ref 42), (1, .ref 69)] [.int (if 8 < (8 : Int32) then 8 else (8 : Int32)), .int 0, .ref 69, .int 0, .ref 42] s from ⟨rm8_ rfl, ?_⟩)
  obtain ⟨c9, H⟩ := oq_ck H
  refine Wp.run 1 (show room8 [] ∧ (¬ (0 : Int32) < 0 ∧ ¬ (0 : Int32) < 0 ∧ ¬ (if 8 < (8 : Int32) then 8 else (8 : Int32)) < 0 ∧ 0 + (if 8 < (8 : Int32) then 8 else (8 : Int32)).toNatClampNeg ≤ 8 ∧ 0 + (if 8 < (8 : Int32) then 8 else (8 : Int32)).toNatClampNeg ≤ 8) ∧ Y_X11_copyRow_69_42 d Q 14 [(0, .ref 42), (1, .ref 69)] [] (pA s 69 (va_cpy (s.1 42) (s.1 69) 0 0 (if 8 < (8 : Int32) then 8 else (8 : Int32)).toNatClampNeg)) from ⟨rm8_ rfl, c9, ?_⟩)
  exact Wp.run 1 H
abbrev Y_X11_copyRow_70_43 (d : Nat) (Q : Qt) : Xt := Wp SHC (WpM SHC MT (d + 0)) cd_X11_copyRow (none) Q
def f_X11_copyRow_70_43  (s : Sg) : Option (Unit × Sg) :=
  ck (¬ (0 : Int32) < 0 ∧ ¬ (0 : Int32) < 0 ∧ ¬ (if 8 < (8 : Int32) then 8 else (8 : Int32)) < 0 ∧ 0 + (if 8 < (8 : Int32) then 8 else (8 : Int32)).toNatClampNeg ≤ 8 ∧ 0 + (if 8 < (8 : Int32) then 8 else (8 : Int32)).toNatClampNeg ≤ 8) (
  some ((), pA s 70 (va_cpy (s.1 43) (s.1 70) 0 0 (if 8 < (8 : Int32) then 8 else (8 : Int32)).toNatClampNeg))
  )
set_option maxRecDepth 100000 in
theorem w_X11_copyRow_70_43 {d : Nat} {s : Sg} {Q : Qt}  (H : OQ (f_X11_copyRow_70_43  s) (fun _ s9 => Q none s9)) : WpM SHC MT (d + 1) 184 [.ref 43, .ref 70] s Q := by
  refine WpM.enter me_X11_copyRow rfl rfl ?_
  show Y_X11_copyRow_70_43 d Q 0 [(0, .ref 43), (1, .ref 70)] [] s
  unfold f_X11_copyRow_70_43 at H
  refine Wp.run 9 (show room8 [.int 0, .ref 70, .int 0, .ref 43] ∧ Y_X11_copyRow_70_43 d Q 11 [(0, .ref 43), (1, .ref 70)] [.int (if 8 < (8 : Int32) then 8 else (8 : Int32)), .int 0, .ref 70, .int 0, .ref 43] s from ⟨rm8_ rfl, ?_⟩)
  obtain ⟨c9, H⟩ := oq_ck H
  refine Wp.run 1 (show room8 [] ∧ (¬ (0 : Int32) < 0 ∧ ¬ (0 : Int32) < 0 ∧ ¬ (if 8 < (8 : Int32) then 8 else (8 : Int32)) < 0 ∧ 0 + (if 8 < (8 : Int32) then 8 else (8 : Int32)).toNatClampNeg ≤ 8 ∧ 0 + (if 8 < (8 : Int32) then 8 else (8 : Int32)).toNatClampNeg ≤ 8) ∧ Y_X11_copyRow_70_43 d Q 14 [(0, .ref 43), (1, .ref 70)] [] (pA s 70 (va_cpy (s.1 43) (s.1 70) 0 0 (if 8 < (8 : Int32) then 8 else (8 : Int32)).toNatClampNeg)) from ⟨rm8_ rfl, c9, ?_⟩)
  exact Wp.run 1 H
abbrev Y_X11_copyRow_71_44 (d : Nat) (Q : Qt) : Xt := Wp SHC (WpM SHC MT (d + 0)) cd_X11_copyRow (none) Q
def f_X11_copyRow_71_44  (s : Sg) : Option (Unit × Sg) :=
  ck (¬ (0 : Int32) < 0 ∧ ¬ (0 : Int32) < 0 ∧ ¬ (if 4 < (4 : Int32) then 4 else (4 : Int32)) < 0 ∧ 0 + (if 4 < (4 : Int32) then 4 else (4 : Int32)).toNatClampNeg ≤ 4 ∧ 0 + (if 4 < (4 : Int32) then 4 else (4 : Int32)).toNatClampNeg ≤ 4) (
  some ((), pA s 71 (va_cpy (s.1 44) (s.1 71) 0 0 (if 4 < (4 : Int32) then 4 else (4 : Int32)).toNatClampNeg))
  )
set_option maxRecDepth 100000 in
theorem w_X11_copyRow_71_44 {d : Nat} {s : Sg} {Q : Qt}  (H : OQ (f_X11_copyRow_71_44  s) (fun _ s9 => Q none s9)) : WpM SHC MT (d + 1) 184 [.ref 44, .ref 71] s Q := by
  refine WpM.enter me_X11_copyRow rfl rfl ?_
  show Y_X11_copyRow_71_44 d Q 0 [(0, .ref 44), (1, .ref 71)] [] s
  unfold f_X11_copyRow_71_44 at H
  refine Wp.run 9 (show room8 [.int 0, .ref 71, .int 0, .ref 44] ∧ Y_X11_copyRow_71_44 d Q 11 [(0, .ref 44), (1, .ref 71)] [.int (if 4 < (4 : Int32) then 4 else (4 : Int32)), .int 0, .ref 71, .int 0, .ref 44] s from ⟨rm8_ rfl, ?_⟩)
  obtain ⟨c9, H⟩ := oq_ck H
  refine Wp.run 1 (show room8 [] ∧ (¬ (0 : Int32) < 0 ∧ ¬ (0 : Int32) < 0 ∧ ¬ (if 4 < (4 : Int32) then 4 else (4 : Int32)) < 0 ∧ 0 + (if 4 < (4 : Int32) then 4 else (4 : Int32)).toNatClampNeg ≤ 4 ∧ 0 + (if 4 < (4 : Int32) then 4 else (4 : Int32)).toNatClampNeg ≤ 4) ∧ Y_X11_copyRow_71_44 d Q 14 [(0, .ref 44), (1, .ref 71)] [] (pA s 71 (va_cpy (s.1 44) (s.1 71) 0 0 (if 4 < (4 : Int32) then 4 else (4 : Int32)).toNatClampNeg)) from ⟨rm8_ rfl, c9, ?_⟩)
  exact Wp.run 1 H
abbrev Y_X2_copyFrom_26_53 (d : Nat) (Q : Qt) : Xt := Wp SHC (WpM SHC MT (d + 1)) cd_X2_copyFrom (none) Q
def f_X2_copyFrom_26_53  (s : Sg) : Option (Unit × Sg) :=
  bd (f_X11_copyRow_67_40 s) (fun _ s2 =>
  bd (f_X11_copyRow_68_41 s2) (fun _ s4 =>
  bd (f_X11_copyRow_69_42 s4) (fun _ s6 =>
  bd (f_X11_copyRow_70_43 s6) (fun _ s8 =>
  bd (f_X11_copyRow_71_44 s8) (fun _ s10 =>
  nmx (pI (pI s10 53 5 (s10.1 26 5)) 53 6 ((pI s10 53 5 (s10.1 26 5)).1 26 6)) (fun s11 =>
  ck ((s11.1 26 7) = 0 ∨ (s11.1 26 7) = 1) (
  nmx (pI (pI s11 53 7 (s11.1 26 7)) 53 8 ((pI s11 53 7 (s11.1 26 7)).1 26 8)) (fun s13 =>
  nmx (pI (pI s13 53 9 (s13.1 26 9)) 53 10 ((pI s13 53 9 (s13.1 26 9)).1 26 10)) (fun s14 =>
  nmx (pI (pI s14 53 11 (s14.1 26 11)) 53 12 ((pI s14 53 11 (s14.1 26 11)).1 26 12)) (fun s15 =>
  some ((), s15)
  )
  )
  )
  )
  )
  )
  )
  )
  )
  )
set_option maxRecDepth 100000 in
theorem w_X2_copyFrom_26_53 {d : Nat} {s : Sg} {Q : Qt}  (H : OQ (f_X2_copyFrom_26_53  s) (fun _ s9 => Q none s9)) : WpM SHC MT (d + 2) 21 [.ref 53, .ref 26] s Q := by
  refine WpM.enter me_X2_copyFrom rfl rfl ?_
  show Y_X2_copyFrom_26_53 d Q 0 [(0, .ref 53), (1, .ref 26)] [] s
  unfold f_X2_copyFrom_26_53 at H
  refine Wp.run 5 (show room8 [] ∧ WpM SHC MT (d + 1) 184 [.ref 40, .ref 67] s (fun v9 s9 => Y_X2_copyFrom_26_53 d Q 11 [(0, .ref 53), (1, .ref 26)] (v9.toList ++ []) s9) from ⟨rm8_ rfl, ?_⟩)
  refine w_X11_copyRow_67_40 (d := d)  ?_
  refine oq_bd H (fun _ s2 H => ?_)
  show Y_X2_copyFrom_26_53 d Q 11 [(0, .ref 53), (1, .ref 26)] [] s2
  refine Wp.run 5 (show room8 [] ∧ WpM SHC MT (d + 1) 184 [.ref 41, .ref 68] s2 (fun v9 s9 => Y_X2_copyFrom_26_53 d Q 22 [(0, .ref 53), (1, .ref 26)] (v9.toList ++ []) s9) from ⟨rm8_ rfl, ?_⟩)
  refine w_X11_copyRow_68_41 (d := d)  ?_
  refine oq_bd H (fun _ s4 H => ?_)
  show Y_X2_copyFrom_26_53 d Q 22 [(0, .ref 53), (1, .ref 26)] [] s4
  refine Wp.run 5 (show room8 [] ∧ WpM SHC MT (d + 1) 184 [.ref 42, .ref 69] s4 (fun v9 s9 => Y_X2_copyFrom_26_53 d Q 33 [(0, .ref 53), (1, .ref 26)] (v9.toList ++ []) s9) from ⟨rm8_ rfl, ?_⟩)
  refine w_X11_copyRow_69_42 (d := d)  ?_
  refine oq_bd H (fun _ s6 H => ?_)
  show Y_X2_copyFrom_26_53 d Q 33 [(0, .ref 53), (1, .ref 26)] [] s6
  refine Wp.run 5 (show room8 [] ∧ WpM SHC MT (d + 1) 184 [.ref 43, .ref 70] s6 (fun v9 s9 => Y_X2_copyFrom_26_53 d Q 44 [(0, .ref 53), (1, .ref 26)] (v9.toList ++ []) s9) from ⟨rm8_ rfl, ?_⟩)
  refine w_X11_copyRow_70_43 (d := d)  ?_
  refine oq_bd H (fun _ s8 H => ?_)
  show Y_X2_copyFrom_26_53 d Q 44 [(0, .ref 53), (1, .ref 26)] [] s8
  refine Wp.run 5 (show room8 [] ∧ WpM SHC MT (d + 1) 184 [.ref 44, .ref 71] s8 (fun v9 s9 => Y_X2_copyFrom_26_53 d Q 55 [(0, .ref 53), (1, .ref 26)] (v9.toList ++ []) s9) from ⟨rm8_ rfl, ?_⟩)
  refine w_X11_copyRow_71_44 (d := d)  ?_
  refine oq_bd H (fun _ s10 H => ?_)
  show Y_X2_copyFrom_26_53 d Q 55 [(0, .ref 53), (1, .ref 26)] [] s10
  refine Wp.run 8 (show Y_X2_copyFrom_26_53 d Q 71 [(0, .ref 53), (1, .ref 26)] [] (pI (pI s10 53 5 (s10.1 26 5)) 53 6 ((pI s10 53 5 (s10.1 26 5)).1 26 6)) from ?_)
  revert H
  generalize pI (pI s10 53 5 (s10.1 26 5)) 53 6 ((pI s10 53 5 (s10.1 26 5)).1 26 6) = s11
  intro H
  have H := nmx_e H
  obtain ⟨hc12, H⟩ := oq_ck H
  refine Wp.run 4 (show ((s11.1 26 7) = 0 ∨ (s11.1 26 7) = 1) ∧ Y_X2_copyFrom_26_53 d Q 79 [(0, .ref 53), (1, .ref 26)] [] (pI s11 53 7 (s11.1 26 7)) from ⟨hc12, ?_⟩)
  refine Wp.run 4 (show Y_X2_copyFrom_26_53 d Q 87 [(0, .ref 53), (1, .ref 26)] [] (pI (pI s11 53 7 (s11.1 26 7)) 53 8 ((pI s11 53 7 (s11.1 26 7)).1 26 8)) from ?_)
  revert H
  generalize pI (pI s11 53 7 (s11.1 26 7)) 53 8 ((pI s11 53 7 (s11.1 26 7)).1 26 8) = s13
  intro H
  have H := nmx_e H
  refine Wp.run 8 (show Y_X2_copyFrom_26_53 d Q 103 [(0, .ref 53), (1, .ref 26)] [] (pI (pI s13 53 9 (s13.1 26 9)) 53 10 ((pI s13 53 9 (s13.1 26 9)).1 26 10)) from ?_)
  revert H
  generalize pI (pI s13 53 9 (s13.1 26 9)) 53 10 ((pI s13 53 9 (s13.1 26 9)).1 26 10) = s14
  intro H
  have H := nmx_e H
  refine Wp.run 8 (show Y_X2_copyFrom_26_53 d Q 119 [(0, .ref 53), (1, .ref 26)] [] (pI (pI s14 53 11 (s14.1 26 11)) 53 12 ((pI s14 53 11 (s14.1 26 11)).1 26 12)) from ?_)
  revert H
  generalize pI (pI s14 53 11 (s14.1 26 11)) 53 12 ((pI s14 53 11 (s14.1 26 11)).1 26 12) = s15
  intro H
  have H := nmx_e H
  exact Wp.run 1 H
abbrev Y_X2_carry_53 (d : Nat) (Q : Qt) : Xt := Wp SHC (WpM SHC MT (d + 0)) cd_X2_carry (some .int) Q
def f_X2_carry_53 (a1 : Int32) (a2 : Int32) (a3 : Int32) (s : Sg) : Option (Int32 × Sg) :=
  ck (inr a1 8) (
  nmx (if (s.1 67 a1.toNatClampNeg) < a3 then (s.1 67 a1.toNatClampNeg) else a3 : Int32) (fun x2 =>
  nmx (if (s.1 68 a1.toNatClampNeg) < (a3 - x2) then (s.1 68 a1.toNatClampNeg) else (a3 - x2) : Int32) (fun x3 =>
  nmx (pI s 67 a1.toNatClampNeg ((s.1 67 a1.toNatClampNeg) - x2)) (fun s4 =>
  nmx (pI s4 68 a1.toNatClampNeg ((s4.1 68 a1.toNatClampNeg) - x3)) (fun s5 =>
  ck (inr a2 8) (
  nmx (pI s5 67 a2.toNatClampNeg ((s5.1 67 a2.toNatClampNeg) + x2)) (fun s7 =>
  nmx (pI s7 68 a2.toNatClampNeg ((s7.1 68 a2.toNatClampNeg) + x3)) (fun s8 =>
  some (x2, s8)
  )
  )
  )
  )
  )
  )
  )
  )
set_option maxRecDepth 100000 in
theorem w_X2_carry_53 {d : Nat} {s : Sg} {Q : Qt} (a1 : Int32) (a2 : Int32) (a3 : Int32) (H : OQ (f_X2_carry_53 a1 a2 a3 s) (fun r9 s9 => Q (some (.int r9)) s9)) : WpM SHC MT (d + 1) 31 [.ref 53, .int a1, .int a2, .int a3] s Q := by
  refine WpM.enter me_X2_carry rfl rfl ?_
  show Y_X2_carry_53 d Q 0 [(0, .ref 53), (1, .int a1), (2, .int a2), (3, .int a3)] [] s
  unfold f_X2_carry_53 at H
  obtain ⟨hc1, H⟩ := oq_ck H
  refine Wp.run 5 (show (vp_in a1 8) ∧ Y_X2_carry_53 d Q 7 [(0, .ref 53), (1, .int a1), (2, .int a2), (3, .int a3)] [.int (s.1 67 a1.toNatClampNeg), .int a3] s from ⟨hc1, ?_⟩)
  refine Wp.run 1 (show room8 [] ∧ Y_X2_carry_53 d Q 10 [(0, .ref 53), (1, .int a1), (2, .int a2), (3, .int a3)] [.int (if (s.1 67 a1.toNatClampNeg) < a3 then (s.1 67 a1.toNatClampNeg) else a3)] s from ⟨rm8_ rfl, ?_⟩)
  refine Wp.run 1 (show Y_X2_carry_53 d Q 12 [(4, .int (if (s.1 67 a1.toNatClampNeg) < a3 then (s.1 67 a1.toNatClampNeg) else a3)), (0, .ref 53), (1, .int a1), (2, .int a2), (3, .int a3)] [] s from ?_)
  revert H
  generalize (if (s.1 67 a1.toNatClampNeg) < a3 then (s.1 67 a1.toNatClampNeg) else a3 : Int32) = x2
  intro H
  have H := nmx_e H
  refine Wp.run 7 (show (vp_in a1 8) ∧ Y_X2_carry_53 d Q 22 [(4, .int x2), (0, .ref 53), (1, .int a1), (2, .int a2), (3, .int a3)] [.int (s.1 68 a1.toNatClampNeg), .int (a3 - x2)] s from ⟨hc1, ?_⟩)
  refine Wp.run 1 (show room8 [] ∧ Y_X2_carry_53 d Q 25 [(4, .int x2), (0, .ref 53), (1, .int a1), (2, .int a2), (3, .int a3)] [.int (if (s.1 68 a1.toNatClampNeg) < (a3 - x2) then (s.1 68 a1.toNatClampNeg) else (a3 - x2))] s from ⟨rm8_ rfl, ?_⟩)
  refine Wp.run 1 (show Y_X2_carry_53 d Q 27 [(5, .int (if (s.1 68 a1.toNatClampNeg) < (a3 - x2) then (s.1 68 a1.toNatClampNeg) else (a3 - x2))), (4, .int x2), (0, .ref 53), (1, .int a1), (2, .int a2), (3, .int a3)] [] s from ?_)
  revert H
  generalize (if (s.1 68 a1.toNatClampNeg) < (a3 - x2) then (s.1 68 a1.toNatClampNeg) else (a3 - x2) : Int32) = x3
  intro H
  have H := nmx_e H
  refine Wp.run 5 (show (vp_in a1 8) ∧ Y_X2_carry_53 d Q 34 [(5, .int x3), (4, .int x2), (0, .ref 53), (1, .int a1), (2, .int a2), (3, .int a3)] [.int (s.1 67 a1.toNatClampNeg), .int a1, .ref 67] s from ⟨hc1, ?_⟩)
  refine Wp.run 3 (show (vp_in a1 8) ∧ Y_X2_carry_53 d Q 38 [(5, .int x3), (4, .int x2), (0, .ref 53), (1, .int a1), (2, .int a2), (3, .int a3)] [] (pI s 67 a1.toNatClampNeg ((s.1 67 a1.toNatClampNeg) - x2)) from ⟨hc1, ?_⟩)
  revert H
  generalize pI s 67 a1.toNatClampNeg ((s.1 67 a1.toNatClampNeg) - x2) = s4
  intro H
  have H := nmx_e H
  refine Wp.run 5 (show (vp_in a1 8) ∧ Y_X2_carry_53 d Q 45 [(5, .int x3), (4, .int x2), (0, .ref 53), (1, .int a1), (2, .int a2), (3, .int a3)] [.int (s4.1 68 a1.toNatClampNeg), .int a1, .ref 68] s4 from ⟨hc1, ?_⟩)
  refine Wp.run 3 (show (vp_in a1 8) ∧ Y_X2_carry_53 d Q 49 [(5, .int x3), (4, .int x2), (0, .ref 53), (1, .int a1), (2, .int a2), (3, .int a3)] [] (pI s4 68 a1.toNatClampNeg ((s4.1 68 a1.toNatClampNeg) - x3)) from ⟨hc1, ?_⟩)
  revert H
  generalize pI s4 68 a1.toNatClampNeg ((s4.1 68 a1.toNatClampNeg) - x3) = s5
  intro H
  have H := nmx_e H
  obtain ⟨hc6, H⟩ := oq_ck H
  refine Wp.run 5 (show (vp_in a2 8) ∧ Y_X2_carry_53 d Q 56 [(5, .int x3), (4, .int x2), (0, .ref 53), (1, .int a1), (2, .int a2), (3, .int a3)] [.int (s5.1 67 a2.toNatClampNeg), .int a2, .ref 67] s5 from ⟨hc6, ?_⟩)
  refine Wp.run 3 (show (vp_in a2 8) ∧ Y_X2_carry_53 d Q 60 [(5, .int x3), (4, .int x2), (0, .ref 53), (1, .int a1), (2, .int a2), (3, .int a3)] [] (pI s5 67 a2.toNatClampNeg ((s5.1 67 a2.toNatClampNeg) + x2)) from ⟨hc6, ?_⟩)
  revert H
  generalize pI s5 67 a2.toNatClampNeg ((s5.1 67 a2.toNatClampNeg) + x2) = s7
  intro H
  have H := nmx_e H
  refine Wp.run 5 (show (vp_in a2 8) ∧ Y_X2_carry_53 d Q 67 [(5, .int x3), (4, .int x2), (0, .ref 53), (1, .int a1), (2, .int a2), (3, .int a3)] [.int (s7.1 68 a2.toNatClampNeg), .int a2, .ref 68] s7 from ⟨hc6, ?_⟩)
  refine Wp.run 3 (show (vp_in a2 8) ∧ Y_X2_carry_53 d Q 71 [(5, .int x3), (4, .int x2), (0, .ref 53), (1, .int a1), (2, .int a2), (3, .int a3)] [] (pI s7 68 a2.toNatClampNeg ((s7.1 68 a2.toNatClampNeg) + x3)) from ⟨hc6, ?_⟩)
  revert H
  generalize pI s7 68 a2.toNatClampNeg ((s7.1 68 a2.toNatClampNeg) + x3) = s8
  intro H
  have H := nmx_e H
  exact Wp.run 2 ⟨rfl, H⟩
abbrev Y_X2_sendCats_25_53 (d : Nat) (Q : Qt) : Xt := Wp SHC (WpM SHC MT (d + 1)) cd_X2_sendCats (none) Q
def f_X2_sendCats_25_53_b2 : Nat → Int32 → Sg → Option (Unit × Sg)
  | 0, _, _ => none
  | n + 1, v2, s =>
    if (s.1 25 15) ≤ v2 then
      some ((), s)
    else
      ck (inr v2 4) (
      ck (inr (s.1 35 v2.toNatClampNeg) 8) (
      if (s.1 69 ((s.1 35 v2.toNatClampNeg).toNatClampNeg)) = 0 then
        bd (f_X2_carry_53 (s.1 35 v2.toNatClampNeg) (s.1 36 v2.toNatClampNeg) (s.1 37 v2.toNatClampNeg) s) (fun r3 s4 =>
        (f_X2_sendCats_25_53_b2 n) (v2 + 1) s4
        )
      else
        (f_X2_sendCats_25_53_b2 n) (v2 + 1) s
      )
      )
set_option maxRecDepth 100000 in
theorem w_X2_sendCats_25_53_b2 {d : Nat} {Q : Qt} (n : Nat) : ∀ (v2 : Int32) (s : Sg), OQ (f_X2_sendCats_25_53_b2 n v2 s) (fun _ s9 => Q none s9) → Y_X2_sendCats_25_53 d Q 2 [(0, .ref 53), (1, .ref 25), (2, .int v2)] [] s := by
  induction n with
  | zero => intro v2 s H; exact H.elim
  | succ n ih =>
    intro v2 s H
    unfold f_X2_sendCats_25_53_b2 at H
    refine Wp.run 4 (show br ((s.1 25 15) ≤ v2) (Y_X2_sendCats_25_53 d Q 53 [(0, .ref 53), (1, .ref 25), (2, .int v2)] [] s) (Y_X2_sendCats_25_53 d Q 10 [(0, .ref 53), (1, .ref 25), (2, .int v2)] [] s) from ⟨fun c9 => ?_, fun c9 => ?_⟩)
    · have H := oq_t c9 H
      exact Wp.run 1 H
    · have H := oq_f c9 H
      obtain ⟨hc1, H⟩ := oq_ck H
      refine Wp.run 6 (show (vp_in v2 4) ∧ Y_X2_sendCats_25_53 d Q 20 [(0, .ref 53), (1, .ref 25), (2, .int v2)] [.int (s.1 35 v2.toNatClampNeg), .ref 69] s from ⟨hc1, ?_⟩)
      obtain ⟨hc2, H⟩ := oq_ck H
      refine Wp.run 1 (show (vp_in (s.1 35 v2.toNatClampNeg) 8) ∧ Y_X2_sendCats_25_53 d Q 21 [(0, .ref 53), (1, .ref 25), (2, .int v2)] [.int (s.1 69 ((s.1 35 v2.toNatClampNeg).toNatClampNeg))] s from ⟨hc2, ?_⟩)
      refine Wp.run 1 (show br ((s.1 69 ((s.1 35 v2.toNatClampNeg).toNatClampNeg)) = 0) (Y_X2_sendCats_25_53 d Q 24 [(0, .ref 53), (1, .ref 25), (2, .int v2)] [] s) (Y_X2_sendCats_25_53 d Q 47 [(0, .ref 53), (1, .ref 25), (2, .int v2)] [] s) from ⟨fun c9 => ?_, fun c9 => ?_⟩)
      · have H := oq_t c9 H
        refine Wp.run 5 (show (vp_in v2 4) ∧ Y_X2_sendCats_25_53 d Q 31 [(0, .ref 53), (1, .ref 25), (2, .int v2)] [.int (s.1 35 v2.toNatClampNeg), .ref 53] s from ⟨hc1, ?_⟩)
        refine Wp.run 4 (show (vp_in v2 4) ∧ Y_X2_sendCats_25_53 d Q 37 [(0, .ref 53), (1, .ref 25), (2, .int v2)] [.int (s.1 36 v2.toNatClampNeg), .int (s.1 35 v2.toNatClampNeg), .ref 53] s from ⟨hc1, ?_⟩)
        refine Wp.run 4 (show (vp_in v2 4) ∧ Y_X2_sendCats_25_53 d Q 43 [(0, .ref 53), (1, .ref 25), (2, .int v2)] [.int (s.1 37 v2.toNatClampNeg), .int (s.1 36 v2.toNatClampNeg), .int (s.1 35 v2.toNatClampNeg), .ref 53] s from ⟨hc1, ?_⟩)
        refine Wp.run 1 (show room8 [] ∧ WpM SHC MT (d + 1) 31 [.ref 53, .int (s.1 35 v2.toNatClampNeg), .int (s.1 36 v2.toNatClampNeg), .int (s.1 37 v2.toNatClampNeg)] s (fun v9 s9 => Y_X2_sendCats_25_53 d Q 46 [(0, .ref 53), (1, .ref 25), (2, .int v2)] (v9.toList ++ []) s9) from ⟨rm8_ rfl, ?_⟩)
        refine w_X2_carry_53 (d := d) _ _ _ ?_
        refine oq_bd H (fun r3 s4 H => ?_)
        show Y_X2_sendCats_25_53 d Q 46 [(0, .ref 53), (1, .ref 25), (2, .int v2)] [.int r3] s4
        refine Wp.run 3 (show Y_X2_sendCats_25_53 d Q 2 [(2, .int (v2 + 1)), (0, .ref 53), (1, .ref 25)] [] s4 from ?_)
        refine Wp.weak [1, 2, 0] (lv' := [(0, .ref 53), (1, .ref 25), (2, .int (v2 + 1))]) rfl ?_
        exact ih _ _ H
      · have H := oq_f c9 H
        refine Wp.run 2 (show Y_X2_sendCats_25_53 d Q 2 [(2, .int (v2 + 1)), (0, .ref 53), (1, .ref 25)] [] s from ?_)
        refine Wp.weak [1, 2, 0] (lv' := [(0, .ref 53), (1, .ref 25), (2, .int (v2 + 1))]) rfl ?_
        exact ih _ _ H
def f_X2_sendCats_25_53  (s : Sg) : Option (Unit × Sg) :=
  f_X2_sendCats_25_53_b2 BIG 0 s
set_option maxRecDepth 100000 in
theorem w_X2_sendCats_25_53 {d : Nat} {s : Sg} {Q : Qt}  (H : OQ (f_X2_sendCats_25_53  s) (fun _ s9 => Q none s9)) : WpM SHC MT (d + 2) 35 [.ref 53, .ref 25] s Q := by
  refine WpM.enter me_X2_sendCats rfl rfl ?_
  show Y_X2_sendCats_25_53 d Q 0 [(0, .ref 53), (1, .ref 25)] [] s
  unfold f_X2_sendCats_25_53 at H
  refine Wp.run 2 (show Y_X2_sendCats_25_53 d Q 2 [(2, .int 0), (0, .ref 53), (1, .ref 25)] [] s from ?_)
  refine Wp.weak [1, 2, 0] (lv' := [(0, .ref 53), (1, .ref 25), (2, .int 0)]) rfl ?_
  exact w_X2_sendCats_25_53_b2 _ _ _ H
abbrev Y_X2_meltSnow_25_53 (d : Nat) (Q : Qt) : Xt := Wp SHC (WpM SHC MT (d + 0)) cd_X2_meltSnow (none) Q
def f_X2_meltSnow_25_53_b2 : Nat → Int32 → Sg → Option (Unit × Sg)
  | 0, _, _ => none
  | n + 1, v2, s =>
    if (s.1 25 13) ≤ v2 then
      some ((), s)
    else
      ck (inr v2 8) (
      nmx (if (s.1 69 v2.toNatClampNeg) < (s.1 67 v2.toNatClampNeg) then (s.1 69 v2.toNatClampNeg) else (s.1 67 v2.toNatClampNeg) : Int32) (fun x2 =>
      nmx (pI s 67 v2.toNatClampNeg ((s.1 67 v2.toNatClampNeg) - x2)) (fun s3 =>
      nmx (pI s3 69 v2.toNatClampNeg ((s3.1 69 v2.toNatClampNeg) - x2)) (fun s4 =>
      nmx (pI s4 53 12 ((s4.1 53 12) + x2)) (fun s5 =>
      (f_X2_meltSnow_25_53_b2 n) (v2 + 1) s5
      )
      )
      )
      )
      )
set_option maxRecDepth 100000 in
theorem w_X2_meltSnow_25_53_b2 {d : Nat} {Q : Qt} (n : Nat) : ∀ (v2 : Int32) (s : Sg), OQ (f_X2_meltSnow_25_53_b2 n v2 s) (fun _ s9 => Q none s9) → Y_X2_meltSnow_25_53 d Q 2 [(0, .ref 53), (1, .ref 25), (2, .int v2)] [] s := by
  induction n with
  | zero => intro v2 s H; exact H.elim
  | succ n ih =>
    intro v2 s H
    unfold f_X2_meltSnow_25_53_b2 at H
    refine Wp.run 4 (show br ((s.1 25 13) ≤ v2) (Y_X2_meltSnow_25_53 d Q 62 [(0, .ref 53), (1, .ref 25), (2, .int v2)] [] s) (Y_X2_meltSnow_25_53 d Q 10 [(0, .ref 53), (1, .ref 25), (2, .int v2)] [] s) from ⟨fun c9 => ?_, fun c9 => ?_⟩)
    · have H := oq_t c9 H
      exact Wp.run 1 H
    · have H := oq_f c9 H
      obtain ⟨hc1, H⟩ := oq_ck H
      refine Wp.run 4 (show (vp_in v2 8) ∧ Y_X2_meltSnow_25_53 d Q 16 [(0, .ref 53), (1, .ref 25), (2, .int v2)] [.int (s.1 67 v2.toNatClampNeg)] s from ⟨hc1, ?_⟩)
      refine Wp.run 4 (show (vp_in v2 8) ∧ Y_X2_meltSnow_25_53 d Q 22 [(0, .ref 53), (1, .ref 25), (2, .int v2)] [.int (s.1 69 v2.toNatClampNeg), .int (s.1 67 v2.toNatClampNeg)] s from ⟨hc1, ?_⟩)
      refine Wp.run 1 (show room8 [] ∧ Y_X2_meltSnow_25_53 d Q 25 [(0, .ref 53), (1, .ref 25), (2, .int v2)] [.int (if (s.1 69 v2.toNatClampNeg) < (s.1 67 v2.toNatClampNeg) then (s.1 69 v2.toNatClampNeg) else (s.1 67 v2.toNatClampNeg))] s from ⟨rm8_ rfl, ?_⟩)
      refine Wp.run 1 (show Y_X2_meltSnow_25_53 d Q 26 [(3, .int (if (s.1 69 v2.toNatClampNeg) < (s.1 67 v2.toNatClampNeg) then (s.1 69 v2.toNatClampNeg) else (s.1 67 v2.toNatClampNeg))), (0, .ref 53), (1, .ref 25), (2, .int v2)] [] s from ?_)
      revert H
      generalize (if (s.1 69 v2.toNatClampNeg) < (s.1 67 v2.toNatClampNeg) then (s.1 69 v2.toNatClampNeg) else (s.1 67 v2.toNatClampNeg) : Int32) = x2
      intro H
      have H := nmx_e H
      refine Wp.run 5 (show (vp_in v2 8) ∧ Y_X2_meltSnow_25_53 d Q 33 [(3, .int x2), (0, .ref 53), (1, .ref 25), (2, .int v2)] [.int (s.1 67 v2.toNatClampNeg), .int v2, .ref 67] s from ⟨hc1, ?_⟩)
      refine Wp.run 3 (show (vp_in v2 8) ∧ Y_X2_meltSnow_25_53 d Q 36 [(3, .int x2), (0, .ref 53), (1, .ref 25), (2, .int v2)] [] (pI s 67 v2.toNatClampNeg ((s.1 67 v2.toNatClampNeg) - x2)) from ⟨hc1, ?_⟩)
      revert H
      generalize pI s 67 v2.toNatClampNeg ((s.1 67 v2.toNatClampNeg) - x2) = s3
      intro H
      have H := nmx_e H
      refine Wp.run 5 (show (vp_in v2 8) ∧ Y_X2_meltSnow_25_53 d Q 43 [(3, .int x2), (0, .ref 53), (1, .ref 25), (2, .int v2)] [.int (s3.1 69 v2.toNatClampNeg), .int v2, .ref 69] s3 from ⟨hc1, ?_⟩)
      refine Wp.run 3 (show (vp_in v2 8) ∧ Y_X2_meltSnow_25_53 d Q 46 [(3, .int x2), (0, .ref 53), (1, .ref 25), (2, .int v2)] [] (pI s3 69 v2.toNatClampNeg ((s3.1 69 v2.toNatClampNeg) - x2)) from ⟨hc1, ?_⟩)
      revert H
      generalize pI s3 69 v2.toNatClampNeg ((s3.1 69 v2.toNatClampNeg) - x2) = s4
      intro H
      have H := nmx_e H
      refine Wp.run 6 (show Y_X2_meltSnow_25_53 d Q 56 [(3, .int x2), (0, .ref 53), (1, .ref 25), (2, .int v2)] [] (pI s4 53 12 ((s4.1 53 12) + x2)) from ?_)
      revert H
      generalize pI s4 53 12 ((s4.1 53 12) + x2) = s5
      intro H
      have H := nmx_e H
      refine Wp.run 2 (show Y_X2_meltSnow_25_53 d Q 2 [(2, .int (v2 + 1)), (3, .int x2), (0, .ref 53), (1, .ref 25)] [] s5 from ?_)
      refine Wp.weak [2, 3, 0] (lv' := [(0, .ref 53), (1, .ref 25), (2, .int (v2 + 1))]) rfl ?_
      exact ih _ _ H
def f_X2_meltSnow_25_53  (s : Sg) : Option (Unit × Sg) :=
  f_X2_meltSnow_25_53_b2 BIG 0 s
set_option maxRecDepth 100000 in
theorem w_X2_meltSnow_25_53 {d : Nat} {s : Sg} {Q : Qt}  (H : OQ (f_X2_meltSnow_25_53  s) (fun _ s9 => Q none s9)) : WpM SHC MT (d + 1) 36 [.ref 53, .ref 25] s Q := by
  refine WpM.enter me_X2_meltSnow rfl rfl ?_
  show Y_X2_meltSnow_25_53 d Q 0 [(0, .ref 53), (1, .ref 25)] [] s
  unfold f_X2_meltSnow_25_53 at H
  refine Wp.run 2 (show Y_X2_meltSnow_25_53 d Q 2 [(2, .int 0), (0, .ref 53), (1, .ref 25)] [] s from ?_)
  refine Wp.weak [1, 2, 0] (lv' := [(0, .ref 53), (1, .ref 25), (2, .int 0)]) rfl ?_
  exact w_X2_meltSnow_25_53_b2 _ _ _ H
abbrev Y_X2_lying_53 (d : Nat) (Q : Qt) : Xt := Wp SHC (WpM SHC MT (d + 0)) cd_X2_lying (some .int) Q
def f_X2_lying_53 (a1 : Int32) (s : Sg) : Option (Int32 × Sg) :=
  ck (inr a1 8) (
  some ((s.1 67 a1.toNatClampNeg) + (s.1 68 a1.toNatClampNeg), s)
  )
set_option maxRecDepth 100000 in
theorem w_X2_lying_53 {d : Nat} {s : Sg} {Q : Qt} (a1 : Int32) (H : OQ (f_X2_lying_53 a1 s) (fun r9 s9 => Q (some (.int r9)) s9)) : WpM SHC MT (d + 1) 23 [.ref 53, .int a1] s Q := by
  refine WpM.enter me_X2_lying rfl rfl ?_
  show Y_X2_lying_53 d Q 0 [(0, .ref 53), (1, .int a1)] [] s
  unfold f_X2_lying_53 at H
  obtain ⟨hc1, H⟩ := oq_ck H
  refine Wp.run 4 (show (vp_in a1 8) ∧ Y_X2_lying_53 d Q 6 [(0, .ref 53), (1, .int a1)] [.int (s.1 67 a1.toNatClampNeg)] s from ⟨hc1, ?_⟩)
  refine Wp.run 4 (show (vp_in a1 8) ∧ Y_X2_lying_53 d Q 12 [(0, .ref 53), (1, .int a1)] [.int (s.1 68 a1.toNatClampNeg), .int (s.1 67 a1.toNatClampNeg)] s from ⟨hc1, ?_⟩)
  exact Wp.run 2 ⟨rfl, H⟩
abbrev Y_X2_inSight_53 (d : Nat) (Q : Qt) : Xt := Wp SHC (WpM SHC MT (d + 1)) cd_X2_inSight (some .int) Q
def f_X2_inSight_53 (a1 : Int32) (s : Sg) : Option (Int32 × Sg) :=
  ck (inr a1 8) (
  if (s.1 69 a1.toNatClampNeg) ≤ 0 then
    bd (f_X2_lying_53 a1 s) (fun r2 s3 =>
    some (r2, s3)
    )
  else
    some (0, s)
  )
set_option maxRecDepth 100000 in
theorem w_X2_inSight_53 {d : Nat} {s : Sg} {Q : Qt} (a1 : Int32) (H : OQ (f_X2_inSight_53 a1 s) (fun r9 s9 => Q (some (.int r9)) s9)) : WpM SHC MT (d + 2) 24 [.ref 53, .int a1] s Q := by
  refine WpM.enter me_X2_inSight rfl rfl ?_
  show Y_X2_inSight_53 d Q 0 [(0, .ref 53), (1, .int a1)] [] s
  unfold f_X2_inSight_53 at H
  obtain ⟨hc1, H⟩ := oq_ck H
  refine Wp.run 4 (show (vp_in a1 8) ∧ Y_X2_inSight_53 d Q 6 [(0, .ref 53), (1, .int a1)] [.int (s.1 69 a1.toNatClampNeg)] s from ⟨hc1, ?_⟩)
  refine Wp.run 1 (show br ((s.1 69 a1.toNatClampNeg) ≤ 0) (Y_X2_inSight_53 d Q 13 [(0, .ref 53), (1, .int a1)] [] s) (Y_X2_inSight_53 d Q 9 [(0, .ref 53), (1, .int a1)] [] s) from ⟨fun c9 => ?_, fun c9 => ?_⟩)
  · have H := oq_t c9 H
    refine Wp.run 3 (show room8 [] ∧ WpM SHC MT (d + 1) 23 [.ref 53, .int a1] s (fun v9 s9 => Y_X2_inSight_53 d Q 18 [(0, .ref 53), (1, .int a1)] (v9.toList ++ []) s9) from ⟨rm8_ rfl, ?_⟩)
    refine w_X2_lying_53 (d := d) _ ?_
    refine oq_bd H (fun r2 s3 H => ?_)
    show Y_X2_inSight_53 d Q 18 [(0, .ref 53), (1, .int a1)] [.int r2] s3
    exact Wp.run 1 ⟨rfl, H⟩
  · have H := oq_f c9 H
    exact Wp.run 3 ⟨rfl, H⟩
abbrev Y_X9_atPeace_53_25 (d : Nat) (Q : Qt) : Xt := Wp SHC (WpM SHC MT (d + 2)) cd_X9_atPeace (some .int) Q
def f_X9_atPeace_53_25_b8 : Nat → Int32 → Int32 → Int32 → Sg → Option (Int32 × Sg)
  | 0, _, _, _, _ => none
  | n + 1, v2, v3, v4, s =>
    if (s.1 25 13) ≤ v4 then
      some (v3, s)
    else
      ck (inr v4 8) (
      bd (f_X2_inSight_53 v4 s) (fun r4 s5 =>
      bd (f_X9_contentAt_25 v4 r4 v2 s5) (fun r6 s7 =>
      nmx (v3 &&& (((s.1 34 v4.toNatClampNeg) ^^^ (-1)) ||| r6) : Int32) (fun x8 =>
      (f_X9_atPeace_53_25_b8 n) v2 x8 (v4 + 1) s7
      )
      )
      )
      )
set_option maxRecDepth 100000 in
theorem w_X9_atPeace_53_25_b8 {d : Nat} {Q : Qt} (n : Nat) : ∀ (v2 : Int32) (v3 : Int32) (v4 : Int32) (s : Sg), OQ (f_X9_atPeace_53_25_b8 n v2 v3 v4 s) (fun r9 s9 => Q (some (.int r9)) s9) → Y_X9_atPeace_53_25 d Q 8 [(0, .ref 25), (1, .ref 53), (2, .int v2), (3, .int v3), (4, .int v4)] [] s := by
  induction n with
  | zero => intro v2 v3 v4 s H; exact H.elim
  | succ n ih =>
    intro v2 v3 v4 s H
    unfold f_X9_atPeace_53_25_b8 at H
    refine Wp.run 4 (show br ((s.1 25 13) ≤ v4) (Y_X9_atPeace_53_25 d Q 49 [(0, .ref 25), (1, .ref 53), (2, .int v2), (3, .int v3), (4, .int v4)] [] s) (Y_X9_atPeace_53_25 d Q 17 [(0, .ref 25), (1, .ref 53), (2, .int v2), (3, .int v3), (4, .int v4)] [] s) from ⟨fun c9 => ?_, fun c9 => ?_⟩)
    · have H := oq_t c9 H
      exact Wp.run 2 ⟨rfl, H⟩
    · have H := oq_f c9 H
      obtain ⟨hc3, H⟩ := oq_ck H
      refine Wp.run 5 (show (vp_in v4 8) ∧ Y_X9_atPeace_53_25 d Q 25 [(0, .ref 25), (1, .ref 53), (2, .int v2), (3, .int v3), (4, .int v4)] [.int (s.1 34 v4.toNatClampNeg), .int v3] s from ⟨hc3, ?_⟩)
      refine Wp.run 7 (show room8 [.int v4, .ref 25, .int ((s.1 34 v4.toNatClampNeg) ^^^ (-1)), .int v3] ∧ WpM SHC MT (d + 2) 24 [.ref 53, .int v4] s (fun v9 s9 => Y_X9_atPeace_53_25 d Q 36 [(0, .ref 25), (1, .ref 53), (2, .int v2), (3, .int v3), (4, .int v4)] (v9.toList ++ [.int v4, .ref 25, .int ((s.1 34 v4.toNatClampNeg) ^^^ (-1)), .int v3]) s9) from ⟨rm8_ rfl, ?_⟩)
      refine w_X2_inSight_53 (d := d) _ ?_
      refine oq_bd H (fun r4 s5 H => ?_)
      show Y_X9_atPeace_53_25 d Q 36 [(0, .ref 25), (1, .ref 53), (2, .int v2), (3, .int v3), (4, .int v4)] [.int r4, .int v4, .ref 25, .int ((s.1 34 v4.toNatClampNeg) ^^^ (-1)), .int v3] s5
      refine Wp.run 2 (show room8 [.int ((s.1 34 v4.toNatClampNeg) ^^^ (-1)), .int v3] ∧ WpM SHC MT (d + 2) 92 [.ref 25, .int v4, .int r4, .int v2] s5 (fun v9 s9 => Y_X9_atPeace_53_25 d Q 40 [(0, .ref 25), (1, .ref 53), (2, .int v2), (3, .int v3), (4, .int v4)] (v9.toList ++ [.int ((s.1 34 v4.toNatClampNeg) ^^^ (-1)), .int v3]) s9) from ⟨rm8_ rfl, ?_⟩)
      refine w_X9_contentAt_25 (d := d) _ _ _ ?_
      refine oq_bd H (fun r6 s7 H => ?_)
      show Y_X9_atPeace_53_25 d Q 40 [(0, .ref 25), (1, .ref 53), (2, .int v2), (3, .int v3), (4, .int v4)] [.int r6, .int ((s.1 34 v4.toNatClampNeg) ^^^ (-1)), .int v3] s7
      refine Wp.run 3 (show Y_X9_atPeace_53_25 d Q 43 [(3, .int (v3 &&& (((s.1 34 v4.toNatClampNeg) ^^^ (-1)) ||| r6))), (0, .ref 25), (1, .ref 53), (2, .int v2), (4, .int v4)] [] s7 from ?_)
      revert H
      generalize (v3 &&& (((s.1 34 v4.toNatClampNeg) ^^^ (-1)) ||| r6) : Int32) = x8
      intro H
      have H := nmx_e H
      refine Wp.run 2 (show Y_X9_atPeace_53_25 d Q 8 [(4, .int (v4 + 1)), (3, .int x8), (0, .ref 25), (1, .ref 53), (2, .int v2)] [] s7 from ?_)
      refine Wp.weak [2, 3, 4, 1, 0] (lv' := [(0, .ref 25), (1, .ref 53), (2, .int v2), (3, .int x8), (4, .int (v4 + 1))]) rfl ?_
      exact ih _ _ _ _ H
def f_X9_atPeace_53_25 (a2 : Int32) (s : Sg) : Option (Int32 × Sg) :=
  bd (f_X4_allQuarrels s) (fun r1 s2 =>
  f_X9_atPeace_53_25_b8 BIG a2 r1 0 s2
  )
set_option maxRecDepth 100000 in
theorem w_X9_atPeace_53_25 {d : Nat} {s : Sg} {Q : Qt} (a2 : Int32) (H : OQ (f_X9_atPeace_53_25 a2 s) (fun r9 s9 => Q (some (.int r9)) s9)) : WpM SHC MT (d + 3) 93 [.ref 25, .ref 53, .int a2] s Q := by
  refine WpM.enter me_X9_atPeace rfl rfl ?_
  show Y_X9_atPeace_53_25 d Q 0 [(0, .ref 25), (1, .ref 53), (2, .int a2)] [] s
  unfold f_X9_atPeace_53_25 at H
  refine Wp.run 2 (show room8 [] ∧ WpM SHC MT (d + 2) 54 [.ref 25] s (fun v9 s9 => Y_X9_atPeace_53_25 d Q 4 [(0, .ref 25), (1, .ref 53), (2, .int a2)] (v9.toList ++ []) s9) from ⟨rm8_ rfl, ?_⟩)
  refine w_X4_allQuarrels (d := d + 1)  ?_
  refine oq_bd H (fun r1 s2 H => ?_)
  show Y_X9_atPeace_53_25 d Q 4 [(0, .ref 25), (1, .ref 53), (2, .int a2)] [.int r1] s2
  refine Wp.run 3 (show Y_X9_atPeace_53_25 d Q 8 [(4, .int 0), (3, .int r1), (0, .ref 25), (1, .ref 53), (2, .int a2)] [] s2 from ?_)
  refine Wp.weak [2, 3, 4, 1, 0] (lv' := [(0, .ref 25), (1, .ref 53), (2, .int a2), (3, .int r1), (4, .int 0)]) rfl ?_
  exact w_X9_atPeace_53_25_b8 _ _ _ _ _ H
abbrev Y_X2_countWar_25_53 (d : Nat) (Q : Qt) : Xt := Wp SHC (WpM SHC MT (d + 1)) cd_X2_countWar (none) Q
def f_X2_countWar_25_53_b2 : Nat → Int32 → Sg → Option (Unit × Sg)
  | 0, _, _ => none
  | n + 1, v2, s =>
    if (s.1 25 14) ≤ v2 then
      some ((), s)
    else
      bd (f_X11_has (s.1 53 5) v2 s) (fun r1 s2 =>
      if r1 = 0 then
        ck (inr v2 8) (
        nmx (pI s2 70 v2.toNatClampNeg ((s2.1 70 v2.toNatClampNeg) + 1)) (fun s4 =>
        (f_X2_countWar_25_53_b2 n) (v2 + 1) s4
        )
        )
      else
        (f_X2_countWar_25_53_b2 n) (v2 + 1) s2
      )
set_option maxRecDepth 100000 in
theorem w_X2_countWar_25_53_b2 {d : Nat} {Q : Qt} (n : Nat) : ∀ (v2 : Int32) (s : Sg), OQ (f_X2_countWar_25_53_b2 n v2 s) (fun _ s9 => Q none s9) → Y_X2_countWar_25_53 d Q 2 [(0, .ref 53), (1, .ref 25), (2, .int v2)] [] s := by
  induction n with
  | zero => intro v2 s H; exact H.elim
  | succ n ih =>
    intro v2 s H
    unfold f_X2_countWar_25_53_b2 at H
    refine Wp.run 4 (show br ((s.1 25 14) ≤ v2) (Y_X2_countWar_25_53 d Q 37 [(0, .ref 53), (1, .ref 25), (2, .int v2)] [] s) (Y_X2_countWar_25_53 d Q 10 [(0, .ref 53), (1, .ref 25), (2, .int v2)] [] s) from ⟨fun c9 => ?_, fun c9 => ?_⟩)
    · have H := oq_t c9 H
      exact Wp.run 1 H
    · have H := oq_f c9 H
      refine Wp.run 4 (show room8 [] ∧ WpM SHC MT (d + 1) 170 [.int (s.1 53 5), .int v2] s (fun v9 s9 => Y_X2_countWar_25_53 d Q 18 [(0, .ref 53), (1, .ref 25), (2, .int v2)] (v9.toList ++ []) s9) from ⟨rm8_ rfl, ?_⟩)
      refine w_X11_has (d := d) _ _ ?_
      refine oq_bd H (fun r1 s2 H => ?_)
      show Y_X2_countWar_25_53 d Q 18 [(0, .ref 53), (1, .ref 25), (2, .int v2)] [.int r1] s2
      refine Wp.run 1 (show br (r1 = 0) (Y_X2_countWar_25_53 d Q 21 [(0, .ref 53), (1, .ref 25), (2, .int v2)] [] s2) (Y_X2_countWar_25_53 d Q 31 [(0, .ref 53), (1, .ref 25), (2, .int v2)] [] s2) from ⟨fun c9 => ?_, fun c9 => ?_⟩)
      · have H := oq_t c9 H
        obtain ⟨hc3, H⟩ := oq_ck H
        refine Wp.run 5 (show (vp_in v2 8) ∧ Y_X2_countWar_25_53 d Q 28 [(0, .ref 53), (1, .ref 25), (2, .int v2)] [.int (s2.1 70 v2.toNatClampNeg), .int v2, .ref 70] s2 from ⟨hc3, ?_⟩)
        refine Wp.run 3 (show (vp_in v2 8) ∧ Y_X2_countWar_25_53 d Q 31 [(0, .ref 53), (1, .ref 25), (2, .int v2)] [] (pI s2 70 v2.toNatClampNeg ((s2.1 70 v2.toNatClampNeg) + 1)) from ⟨hc3, ?_⟩)
        revert H
        generalize pI s2 70 v2.toNatClampNeg ((s2.1 70 v2.toNatClampNeg) + 1) = s4
        intro H
        have H := nmx_e H
        refine Wp.run 2 (show Y_X2_countWar_25_53 d Q 2 [(2, .int (v2 + 1)), (0, .ref 53), (1, .ref 25)] [] s4 from ?_)
        refine Wp.weak [1, 2, 0] (lv' := [(0, .ref 53), (1, .ref 25), (2, .int (v2 + 1))]) rfl ?_
        exact ih _ _ H
      · have H := oq_f c9 H
        refine Wp.run 2 (show Y_X2_countWar_25_53 d Q 2 [(2, .int (v2 + 1)), (0, .ref 53), (1, .ref 25)] [] s2 from ?_)
        refine Wp.weak [1, 2, 0] (lv' := [(0, .ref 53), (1, .ref 25), (2, .int (v2 + 1))]) rfl ?_
        exact ih _ _ H
def f_X2_countWar_25_53  (s : Sg) : Option (Unit × Sg) :=
  f_X2_countWar_25_53_b2 BIG 0 s
set_option maxRecDepth 100000 in
theorem w_X2_countWar_25_53 {d : Nat} {s : Sg} {Q : Qt}  (H : OQ (f_X2_countWar_25_53  s) (fun _ s9 => Q none s9)) : WpM SHC MT (d + 2) 37 [.ref 53, .ref 25] s Q := by
  refine WpM.enter me_X2_countWar rfl rfl ?_
  show Y_X2_countWar_25_53 d Q 0 [(0, .ref 53), (1, .ref 25)] [] s
  unfold f_X2_countWar_25_53 at H
  refine Wp.run 2 (show Y_X2_countWar_25_53 d Q 2 [(2, .int 0), (0, .ref 53), (1, .ref 25)] [] s from ?_)
  refine Wp.weak [1, 2, 0] (lv' := [(0, .ref 53), (1, .ref 25), (2, .int 0)]) rfl ?_
  exact w_X2_countWar_25_53_b2 _ _ _ H
abbrev Y_X2_passNight_25_53 (d : Nat) (Q : Qt) : Xt := Wp SHC (WpM SHC MT (d + 3)) cd_X2_passNight (none) Q
def f_X2_passNight_25_53_b35 (t0 : Int32) (s : Sg) : Option (Unit × Sg) :=
  bd (f_X2_countWar_25_53 (pI s 53 5 t0)) (fun _ s8 =>
  nmx (pI s8 53 6 (if ((s8.1 53 6) + 1) < 999 then ((s8.1 53 6) + 1) else 999)) (fun s9 =>
  some ((), pI s9 53 7 0)
  )
  )
set_option maxRecDepth 100000 in
theorem w_X2_passNight_25_53_b35 {d : Nat} {Q : Qt} (t0 : Int32) (s : Sg) (H : OQ (f_X2_passNight_25_53_b35 t0 s) (fun _ s9 => Q none s9)) : Y_X2_passNight_25_53 d Q 35 [(0, .ref 53), (1, .ref 25)] [.int t0, .ref 53] s := by
  unfold f_X2_passNight_25_53_b35 at H
  refine Wp.run 4 (show room8 [] ∧ WpM SHC MT (d + 3) 37 [.ref 53, .ref 25] (pI s 53 5 t0) (fun v9 s9 => Y_X2_passNight_25_53 d Q 43 [(0, .ref 53), (1, .ref 25)] (v9.toList ++ []) s9) from ⟨rm8_ rfl, ?_⟩)
  refine w_X2_countWar_25_53 (d := d + 1)  ?_
  refine oq_bd H (fun _ s8 H => ?_)
  show Y_X2_passNight_25_53 d Q 43 [(0, .ref 53), (1, .ref 25)] [] s8
  refine Wp.run 7 (show room8 [.ref 53] ∧ Y_X2_passNight_25_53 d Q 56 [(0, .ref 53), (1, .ref 25)] [.int (if ((s8.1 53 6) + 1) < 999 then ((s8.1 53 6) + 1) else 999), .ref 53] s8 from ⟨rm8_ rfl, ?_⟩)
  refine Wp.run 1 (show Y_X2_passNight_25_53 d Q 59 [(0, .ref 53), (1, .ref 25)] [] (pI s8 53 6 (if ((s8.1 53 6) + 1) < 999 then ((s8.1 53 6) + 1) else 999)) from ?_)
  revert H
  generalize pI s8 53 6 (if ((s8.1 53 6) + 1) < 999 then ((s8.1 53 6) + 1) else 999) = s9
  intro H
  have H := nmx_e H
  refine Wp.run 3 (show ((0 : Int32) = 0 ∨ 0 = 1) ∧ Y_X2_passNight_25_53 d Q 64 [(0, .ref 53), (1, .ref 25)] [] (pI s9 53 7 0) from ⟨Or.inl rfl, ?_⟩)
  exact Wp.run 1 H
def f_X2_passNight_25_53  (s : Sg) : Option (Unit × Sg) :=
  bd (f_X2_sendCats_25_53 s) (fun _ s2 =>
  bd (f_X2_meltSnow_25_53 s2) (fun _ s4 =>
  bd (f_X9_atPeace_53_25 (-1) s4) (fun r5 s6 =>
  if (s6.1 53 7) = 0 then
    f_X2_passNight_25_53_b35 ((s6.1 53 5) ||| r5) s6
  else
    f_X2_passNight_25_53_b35 r5 s6
  )
  )
  )
set_option maxRecDepth 100000 in
theorem w_X2_passNight_25_53 {d : Nat} {s : Sg} {Q : Qt}  (H : OQ (f_X2_passNight_25_53  s) (fun _ s9 => Q none s9)) : WpM SHC MT (d + 4) 34 [.ref 53, .ref 25] s Q := by
  refine WpM.enter me_X2_passNight rfl rfl ?_
  show Y_X2_passNight_25_53 d Q 0 [(0, .ref 53), (1, .ref 25)] [] s
  unfold f_X2_passNight_25_53 at H
  refine Wp.run 3 (show room8 [] ∧ WpM SHC MT (d + 3) 35 [.ref 53, .ref 25] s (fun v9 s9 => Y_X2_passNight_25_53 d Q 5 [(0, .ref 53), (1, .ref 25)] (v9.toList ++ []) s9) from ⟨rm8_ rfl, ?_⟩)
  refine w_X2_sendCats_25_53 (d := d + 1)  ?_
  refine oq_bd H (fun _ s2 H => ?_)
  show Y_X2_passNight_25_53 d Q 5 [(0, .ref 53), (1, .ref 25)] [] s2
  refine Wp.run 3 (show room8 [] ∧ WpM SHC MT (d + 3) 36 [.ref 53, .ref 25] s2 (fun v9 s9 => Y_X2_passNight_25_53 d Q 10 [(0, .ref 53), (1, .ref 25)] (v9.toList ++ []) s9) from ⟨rm8_ rfl, ?_⟩)
  refine w_X2_meltSnow_25_53 (d := d + 2)  ?_
  refine oq_bd H (fun _ s4 H => ?_)
  show Y_X2_passNight_25_53 d Q 10 [(0, .ref 53), (1, .ref 25)] [] s4
  refine Wp.run 4 (show room8 [] ∧ WpM SHC MT (d + 3) 93 [.ref 25, .ref 53, .int (-1)] s4 (fun v9 s9 => Y_X2_passNight_25_53 d Q 16 [(0, .ref 53), (1, .ref 25)] (v9.toList ++ []) s9) from ⟨rm8_ rfl, ?_⟩)
  refine w_X9_atPeace_53_25 (d := d) _ ?_
  refine oq_bd H (fun r5 s6 H => ?_)
  show Y_X2_passNight_25_53 d Q 16 [(0, .ref 53), (1, .ref 25)] [.int r5] s6
  refine Wp.run 5 (show br ((s6.1 53 7) = 0) (Y_X2_passNight_25_53 d Q 29 [(2, .int r5), (0, .ref 53), (1, .ref 25)] [.ref 53] s6) (Y_X2_passNight_25_53 d Q 25 [(2, .int r5), (0, .ref 53), (1, .ref 25)] [.ref 53] s6) from ⟨fun c9 => ?_, fun c9 => ?_⟩)
  · have H := oq_t c9 H
    refine Wp.run 4 (show Y_X2_passNight_25_53 d Q 35 [(2, .int r5), (0, .ref 53), (1, .ref 25)] [.int ((s6.1 53 5) ||| r5), .ref 53] s6 from ?_)
    refine Wp.weak [1, 2] (lv' := [(0, .ref 53), (1, .ref 25)]) rfl ?_
    exact w_X2_passNight_25_53_b35 _ _ H
  · have H := oq_f c9 H
    refine Wp.run 2 (show Y_X2_passNight_25_53 d Q 35 [(2, .int r5), (0, .ref 53), (1, .ref 25)] [.int r5, .ref 53] s6 from ?_)
    refine Wp.weak [1, 2] (lv' := [(0, .ref 53), (1, .ref 25)]) rfl ?_
    exact w_X2_passNight_25_53_b35 _ _ H
abbrev Y_X11_forecast (d : Nat) (Q : Qt) : Xt := Wp SHC (WpM SHC MT (d + 4)) cd_X11_forecast (some .int) Q
def f_X11_forecast_b52 : Nat → Int32 → Int32 → Int32 → Int32 → Sg → Option (Int32 × Sg)
  | 0, _, _, _, _, _ => none
  | n + 1, v1, v2, v3, v6, s =>
    if v2 ≤ v6 then
      if v3 = 0 then
        ck (inr v1 8) (
        bd (f_X11_answer (s.1 67 v1.toNatClampNeg) s) (fun r8 s9 =>
        some (r8, s9)
        )
        )
      else
        if v3 = 1 then
          ck (inr v1 8) (
          bd (f_X11_answer (s.1 68 v1.toNatClampNeg) s) (fun r11 s12 =>
          some (r11, s12)
          )
          )
        else
          ck (inr v1 8) (
          bd (f_X11_answer (s.1 69 v1.toNatClampNeg) s) (fun r14 s15 =>
          some (r14, s15)
          )
          )
    else
      bd (f_X2_passNight_25_53 s) (fun _ s17 =>
      (f_X11_forecast_b52 n) v1 v2 v3 (v6 + 1) s17
      )
set_option maxRecDepth 100000 in
theorem w_X11_forecast_b52 {d : Nat} {Q : Qt} (n : Nat) : ∀ (v1 : Int32) (v2 : Int32) (v3 : Int32) (v6 : Int32) (s : Sg), OQ (f_X11_forecast_b52 n v1 v2 v3 v6 s) (fun r9 s9 => Q (some (.int r9)) s9) → Y_X11_forecast d Q 52 [(0, .ref 0), (1, .int v1), (2, .int v2), (3, .int v3), (5, .ref 53), (6, .int v6)] [] s := by
  induction n with
  | zero => intro v1 v2 v3 v6 s H; exact H.elim
  | succ n ih =>
    intro v1 v2 v3 v6 s H
    unfold f_X11_forecast_b52 at H
    refine Wp.run 3 (show br (v2 ≤ v6) (Y_X11_forecast d Q 73 [(0, .ref 0), (1, .int v1), (2, .int v2), (3, .int v3), (5, .ref 53), (6, .int v6)] [] s) (Y_X11_forecast d Q 58 [(0, .ref 0), (1, .int v1), (2, .int v2), (3, .int v3), (5, .ref 53), (6, .int v6)] [] s) from ⟨fun c9 => ?_, fun c9 => ?_⟩)
    · have H := oq_t c9 H
      refine Wp.run 4 (show room8 [.ref 0] ∧ WpM SHC MT (d + 4) 22 [.ref 53, .int v3] s (fun v9 s9 => Y_X11_forecast d Q 80 [(0, .ref 0), (1, .int v1), (2, .int v2), (3, .int v3), (5, .ref 53), (6, .int v6)] (v9.toList ++ [.ref 0]) s9) from ⟨rm8_ rfl, ?_⟩)
      refine WpM.enter me_X2_row rfl rfl ?_
      refine Wp.run 2 (show br (v3 = 0) (Wp SHC _ cd_X2_row _ _ 4 [(0, .ref 53), (1, .int v3)] [] s) (Wp SHC _ cd_X2_row _ _ 9 [(0, .ref 53), (1, .int v3)] [] s) from ⟨fun c9 => ?_, fun c9 => ?_⟩)
      · have H := oq_t c9 H
        refine Wp.run 3 (show Y_X11_forecast d Q 80 [(0, .ref 0), (1, .int v1), (2, .int v2), (3, .int v3), (5, .ref 53), (6, .int v6)] [.ref 67, .ref 0] s from ?_)
        obtain ⟨hc7, H⟩ := oq_ck H
        refine Wp.run 2 (show (vp_in v1 8) ∧ Y_X11_forecast d Q 82 [(0, .ref 0), (1, .int v1), (2, .int v2), (3, .int v3), (5, .ref 53), (6, .int v6)] [.int (s.1 67 v1.toNatClampNeg), .ref 0] s from ⟨hc7, ?_⟩)
        refine Wp.run 1 (show room8 [] ∧ WpM SHC MT (d + 4) 164 [.ref 0, .int (s.1 67 v1.toNatClampNeg)] s (fun v9 s9 => Y_X11_forecast d Q 85 [(0, .ref 0), (1, .int v1), (2, .int v2), (3, .int v3), (5, .ref 53), (6, .int v6)] (v9.toList ++ []) s9) from ⟨rm8_ rfl, ?_⟩)
        refine w_X11_answer (d := d + 3) _ ?_
        refine oq_bd H (fun r8 s9 H => ?_)
        show Y_X11_forecast d Q 85 [(0, .ref 0), (1, .int v1), (2, .int v2), (3, .int v3), (5, .ref 53), (6, .int v6)] [.int r8] s9
        exact Wp.run 1 ⟨rfl, H⟩
      · have H := oq_f c9 H
        refine Wp.run 3 (show br (v3 = 1) (Wp SHC _ cd_X2_row _ _ 14 [(0, .ref 53), (1, .int v3)] [] s) (Wp SHC _ cd_X2_row _ _ 21 [(0, .ref 53), (1, .int v3)] [] s) from ⟨fun c9 => ?_, fun c9 => ?_⟩)
        · have H := oq_t c9 H
          refine Wp.run 4 (show Y_X11_forecast d Q 80 [(0, .ref 0), (1, .int v1), (2, .int v2), (3, .int v3), (5, .ref 53), (6, .int v6)] [.ref 68, .ref 0] s from ?_)
          obtain ⟨hc10, H⟩ := oq_ck H
          refine Wp.run 2 (show (vp_in v1 8) ∧ Y_X11_forecast d Q 82 [(0, .ref 0), (1, .int v1), (2, .int v2), (3, .int v3), (5, .ref 53), (6, .int v6)] [.int (s.1 68 v1.toNatClampNeg), .ref 0] s from ⟨hc10, ?_⟩)
          refine Wp.run 1 (show room8 [] ∧ WpM SHC MT (d + 4) 164 [.ref 0, .int (s.1 68 v1.toNatClampNeg)] s (fun v9 s9 => Y_X11_forecast d Q 85 [(0, .ref 0), (1, .int v1), (2, .int v2), (3, .int v3), (5, .ref 53), (6, .int v6)] (v9.toList ++ []) s9) from ⟨rm8_ rfl, ?_⟩)
          refine w_X11_answer (d := d + 3) _ ?_
          refine oq_bd H (fun r11 s12 H => ?_)
          show Y_X11_forecast d Q 85 [(0, .ref 0), (1, .int v1), (2, .int v2), (3, .int v3), (5, .ref 53), (6, .int v6)] [.int r11] s12
          exact Wp.run 1 ⟨rfl, H⟩
        · have H := oq_f c9 H
          refine Wp.run 3 (show Y_X11_forecast d Q 80 [(0, .ref 0), (1, .int v1), (2, .int v2), (3, .int v3), (5, .ref 53), (6, .int v6)] [.ref 69, .ref 0] s from ?_)
          obtain ⟨hc13, H⟩ := oq_ck H
          refine Wp.run 2 (show (vp_in v1 8) ∧ Y_X11_forecast d Q 82 [(0, .ref 0), (1, .int v1), (2, .int v2), (3, .int v3), (5, .ref 53), (6, .int v6)] [.int (s.1 69 v1.toNatClampNeg), .ref 0] s from ⟨hc13, ?_⟩)
          refine Wp.run 1 (show room8 [] ∧ WpM SHC MT (d + 4) 164 [.ref 0, .int (s.1 69 v1.toNatClampNeg)] s (fun v9 s9 => Y_X11_forecast d Q 85 [(0, .ref 0), (1, .int v1), (2, .int v2), (3, .int v3), (5, .ref 53), (6, .int v6)] (v9.toList ++ []) s9) from ⟨rm8_ rfl, ?_⟩)
          refine w_X11_answer (d := d + 3) _ ?_
          refine oq_bd H (fun r14 s15 H => ?_)
          show Y_X11_forecast d Q 85 [(0, .ref 0), (1, .int v1), (2, .int v2), (3, .int v3), (5, .ref 53), (6, .int v6)] [.int r14] s15
          exact Wp.run 1 ⟨rfl, H⟩
    · have H := oq_f c9 H
      refine Wp.run 4 (show room8 [] ∧ WpM SHC MT (d + 4) 34 [.ref 53, .ref 25] s (fun v9 s9 => Y_X11_forecast d Q 67 [(0, .ref 0), (1, .int v1), (2, .int v2), (3, .int v3), (5, .ref 53), (6, .int v6)] (v9.toList ++ []) s9) from ⟨rm8_ rfl, ?_⟩)
      refine w_X2_passNight_25_53 (d := d)  ?_
      refine oq_bd H (fun _ s17 H => ?_)
      show Y_X11_forecast d Q 67 [(0, .ref 0), (1, .int v1), (2, .int v2), (3, .int v3), (5, .ref 53), (6, .int v6)] [] s17
      refine Wp.run 2 (show Y_X11_forecast d Q 52 [(6, .int (v6 + 1)), (0, .ref 0), (1, .int v1), (2, .int v2), (3, .int v3), (5, .ref 53)] [] s17 from ?_)
      refine Wp.weak [1, 2, 3, 4, 5, 0] (lv' := [(0, .ref 0), (1, .int v1), (2, .int v2), (3, .int v3), (5, .ref 53), (6, .int (v6 + 1))]) rfl ?_
      exact ih _ _ _ _ _ H
def f_X11_forecast_b26 (v1 : Int32) (v2 : Int32) (v3 : Int32) (t0 : Int32) (t1 : Int32) (s : Sg) : Option (Int32 × Sg) :=
  bd (f_X11_whyNoStep t1 t0 s) (fun r3 s4 =>
  if r3 = 0 then
    bd (f_X2_copyFrom_26_53 s4) (fun _ s6 =>
    f_X11_forecast_b52 BIG v1 v2 v3 0 s6
    )
  else
    bd (f_X11_refuse r3 s4) (fun r18 s19 =>
    some (r18, s19)
    )
  )
set_option maxRecDepth 100000 in
theorem w_X11_forecast_b26 {d : Nat} {Q : Qt} (v1 : Int32) (v2 : Int32) (v3 : Int32) (t0 : Int32) (t1 : Int32) (s : Sg) (H : OQ (f_X11_forecast_b26 v1 v2 v3 t0 t1 s) (fun r9 s9 => Q (some (.int r9)) s9)) : Y_X11_forecast d Q 26 [(0, .ref 0), (1, .int v1), (2, .int v2), (3, .int v3)] [.int t0, .int t1, .ref 0] s := by
  unfold f_X11_forecast_b26 at H
  refine Wp.run 1 (show room8 [] ∧ WpM SHC MT (d + 4) 177 [.ref 0, .int t1, .int t0] s (fun v9 s9 => Y_X11_forecast d Q 29 [(0, .ref 0), (1, .int v1), (2, .int v2), (3, .int v3)] (v9.toList ++ []) s9) from ⟨rm8_ rfl, ?_⟩)
  refine w_X11_whyNoStep (d := d + 1) _ _ ?_
  refine oq_bd H (fun r3 s4 H => ?_)
  show Y_X11_forecast d Q 29 [(0, .ref 0), (1, .int v1), (2, .int v2), (3, .int v3)] [.int r3] s4
  refine Wp.run 3 (show br (r3 = 0) (Y_X11_forecast d Q 43 [(4, .int r3), (0, .ref 0), (1, .int v1), (2, .int v2), (3, .int v3)] [] s4) (Y_X11_forecast d Q 36 [(4, .int r3), (0, .ref 0), (1, .int v1), (2, .int v2), (3, .int v3)] [] s4) from ⟨fun c9 => ?_, fun c9 => ?_⟩)
  · have H := oq_t c9 H
    refine Wp.run 2 (show room8 [] ∧ WpM SHC MT (d + 4) 180 [.ref 0] s4 (fun v9 s9 => Y_X11_forecast d Q 47 [(4, .int r3), (0, .ref 0), (1, .int v1), (2, .int v2), (3, .int v3)] (v9.toList ++ []) s9) from ⟨rm8_ rfl, ?_⟩)
    refine WpM.enter me_X11_foresee rfl rfl ?_
    refine Wp.run 6 (show room8 [] ∧ WpM SHC MT (d + 3) 21 [.ref 53, .ref 26] s4 (fun v9 s9 => Wp SHC _ cd_X11_foresee _ _ 14 [(0, .ref 0)] (v9.toList ++ []) s9) from ⟨rm8_ rfl, ?_⟩)
    refine w_X2_copyFrom_26_53 (d := d + 1)  ?_
    refine oq_bd H (fun _ s6 H => ?_)
    show Wp SHC _ cd_X11_foresee _ _ 14 [(0, .ref 0)] [] s6
    refine Wp.run 4 (show Y_X11_forecast d Q 47 [(4, .int r3), (0, .ref 0), (1, .int v1), (2, .int v2), (3, .int v3)] [.ref 53] s6 from ?_)
    refine Wp.run 3 (show Y_X11_forecast d Q 52 [(6, .int 0), (5, .ref 53), (4, .int r3), (0, .ref 0), (1, .int v1), (2, .int v2), (3, .int v3)] [] s6 from ?_)
    refine Wp.weak [3, 4, 5, 6, 1, 0] (lv' := [(0, .ref 0), (1, .int v1), (2, .int v2), (3, .int v3), (5, .ref 53), (6, .int 0)]) rfl ?_
    exact w_X11_forecast_b52 _ _ _ _ _ _ H
  · have H := oq_f c9 H
    refine Wp.run 3 (show room8 [] ∧ WpM SHC MT (d + 4) 166 [.ref 0, .int r3] s4 (fun v9 s9 => Y_X11_forecast d Q 42 [(4, .int r3), (0, .ref 0), (1, .int v1), (2, .int v2), (3, .int v3)] (v9.toList ++ []) s9) from ⟨rm8_ rfl, ?_⟩)
    refine w_X11_refuse (d := d + 3) _ ?_
    refine oq_bd H (fun r18 s19 H => ?_)
    show Y_X11_forecast d Q 42 [(4, .int r3), (0, .ref 0), (1, .int v1), (2, .int v2), (3, .int v3)] [.int r18] s19
    exact Wp.run 1 ⟨rfl, H⟩
def f_X11_forecast_b25 (v1 : Int32) (v2 : Int32) (v3 : Int32) (t0 : Int32) (s : Sg) : Option (Int32 × Sg) :=
  f_X11_forecast_b26 v1 v2 v3 0 t0 s
set_option maxRecDepth 100000 in
theorem w_X11_forecast_b25 {d : Nat} {Q : Qt} (v1 : Int32) (v2 : Int32) (v3 : Int32) (t0 : Int32) (s : Sg) (H : OQ (f_X11_forecast_b25 v1 v2 v3 t0 s) (fun r9 s9 => Q (some (.int r9)) s9)) : Y_X11_forecast d Q 25 [(0, .ref 0), (1, .int v1), (2, .int v2), (3, .int v3)] [.int t0, .ref 0] s := by
  unfold f_X11_forecast_b25 at H
  refine Wp.run 1 (show Y_X11_forecast d Q 26 [(0, .ref 0), (1, .int v1), (2, .int v2), (3, .int v3)] [.int 0, .int t0, .ref 0] s from ?_)
  refine Wp.weak [0, 1, 2, 3] (lv' := [(0, .ref 0), (1, .int v1), (2, .int v2), (3, .int v3)]) rfl ?_
  exact w_X11_forecast_b26 _ _ _ _ _ _ H
def f_X11_forecast (a1 : Int32) (a2 : Int32) (a3 : Int32) (s : Sg) : Option (Int32 × Sg) :=
  bd (f_X11_within a2 0 60 s) (fun r1 s2 =>
  if r1 = 0 then
    f_X11_forecast_b25 a1 a2 a3 a1 s2
  else
    bd (f_X11_within a3 0 2 s2) (fun r20 s21 =>
    if r20 = 0 then
      f_X11_forecast_b25 a1 a2 a3 a1 s21
    else
      f_X11_forecast_b26 a1 a2 a3 1 a1 s21
    )
  )
set_option maxRecDepth 100000 in
theorem w_X11_forecast {d : Nat} {s : Sg} {Q : Qt} (a1 : Int32) (a2 : Int32) (a3 : Int32) (H : OQ (f_X11_forecast a1 a2 a3 s) (fun r9 s9 => Q (some (.int r9)) s9)) : WpM SHC MT (d + 5) 135 [.ref 0, .int a1, .int a2, .int a3] s Q := by
  refine WpM.enter me_X11_forecast rfl rfl ?_
  show Y_X11_forecast d Q 0 [(0, .ref 0), (1, .int a1), (2, .int a2), (3, .int a3)] [] s
  unfold f_X11_forecast at H
  refine Wp.run 6 (show room8 [.int a1, .ref 0] ∧ WpM SHC MT (d + 4) 169 [.int a2, .int 0, .int 60] s (fun v9 s9 => Y_X11_forecast d Q 9 [(0, .ref 0), (1, .int a1), (2, .int a2), (3, .int a3)] (v9.toList ++ [.int a1, .ref 0]) s9) from ⟨rm8_ rfl, ?_⟩)
  refine w_X11_within (d := d + 3) _ _ _ ?_
  refine oq_bd H (fun r1 s2 H => ?_)
  show Y_X11_forecast d Q 9 [(0, .ref 0), (1, .int a1), (2, .int a2), (3, .int a3)] [.int r1, .int a1, .ref 0] s2
  refine Wp.run 1 (show br (r1 = 0) (Y_X11_forecast d Q 25 [(0, .ref 0), (1, .int a1), (2, .int a2), (3, .int a3)] [.int a1, .ref 0] s2) (Y_X11_forecast d Q 12 [(0, .ref 0), (1, .int a1), (2, .int a2), (3, .int a3)] [.int a1, .ref 0] s2) from ⟨fun c9 => ?_, fun c9 => ?_⟩)
  · have H := oq_t c9 H
    refine Wp.weak [0, 1, 2, 3] (lv' := [(0, .ref 0), (1, .int a1), (2, .int a2), (3, .int a3)]) rfl ?_
    exact w_X11_forecast_b25 _ _ _ _ _ H
  · have H := oq_f c9 H
    refine Wp.run 4 (show room8 [.int a1, .ref 0] ∧ WpM SHC MT (d + 4) 169 [.int a3, .int 0, .int 2] s2 (fun v9 s9 => Y_X11_forecast d Q 18 [(0, .ref 0), (1, .int a1), (2, .int a2), (3, .int a3)] (v9.toList ++ [.int a1, .ref 0]) s9) from ⟨rm8_ rfl, ?_⟩)
    refine w_X11_within (d := d + 3) _ _ _ ?_
    refine oq_bd H (fun r20 s21 H => ?_)
    show Y_X11_forecast d Q 18 [(0, .ref 0), (1, .int a1), (2, .int a2), (3, .int a3)] [.int r20, .int a1, .ref 0] s21
    refine Wp.run 1 (show br (r20 = 0) (Y_X11_forecast d Q 25 [(0, .ref 0), (1, .int a1), (2, .int a2), (3, .int a3)] [.int a1, .ref 0] s21) (Y_X11_forecast d Q 21 [(0, .ref 0), (1, .int a1), (2, .int a2), (3, .int a3)] [.int a1, .ref 0] s21) from ⟨fun c9 => ?_, fun c9 => ?_⟩)
    · have H := oq_t c9 H
      refine Wp.weak [0, 1, 2, 3] (lv' := [(0, .ref 0), (1, .int a1), (2, .int a2), (3, .int a3)]) rfl ?_
      exact w_X11_forecast_b25 _ _ _ _ _ H
    · have H := oq_f c9 H
      refine Wp.run 2 (show Y_X11_forecast d Q 26 [(0, .ref 0), (1, .int a1), (2, .int a2), (3, .int a3)] [.int 1, .int a1, .ref 0] s21 from ?_)
      refine Wp.weak [0, 1, 2, 3] (lv' := [(0, .ref 0), (1, .int a1), (2, .int a2), (3, .int a3)]) rfl ?_
      exact w_X11_forecast_b26 _ _ _ _ _ _ H
abbrev Y_X11_soonest (d : Nat) (Q : Qt) : Xt := Wp SHC (WpM SHC MT (d + 4)) cd_X11_soonest (some .int) Q
def f_X11_soonest_b21 : Nat → Int32 → Int32 → Sg → Option (Int32 × Sg)
  | 0, _, _, _ => none
  | n + 1, v1, v3, s =>
    if 60 < v3 then
      bd (f_X11_refuse 6 s) (fun r7 s8 =>
      some (r7, s8)
      )
    else
      bd (f_X11_has (s.1 53 5) v1 s) (fun r9 s10 =>
      if r9 = 0 then
        bd (f_X2_passNight_25_53 s10) (fun _ s12 =>
        (f_X11_soonest_b21 n) v1 (v3 + 1) s12
        )
      else
        bd (f_X11_answer v3 s10) (fun r13 s14 =>
        some (r13, s14)
        )
      )
set_option maxRecDepth 100000 in
theorem w_X11_soonest_b21 {d : Nat} {Q : Qt} (n : Nat) : ∀ (v1 : Int32) (v3 : Int32) (s : Sg), OQ (f_X11_soonest_b21 n v1 v3 s) (fun r9 s9 => Q (some (.int r9)) s9) → Y_X11_soonest d Q 21 [(0, .ref 0), (1, .int v1), (2, .ref 53), (3, .int v3)] [] s := by
  induction n with
  | zero => intro v1 v3 s H; exact H.elim
  | succ n ih =>
    intro v1 v3 s H
    unfold f_X11_soonest_b21 at H
    refine Wp.run 3 (show br (60 < v3) (Y_X11_soonest d Q 58 [(0, .ref 0), (1, .int v1), (2, .ref 53), (3, .int v3)] [] s) (Y_X11_soonest d Q 27 [(0, .ref 0), (1, .int v1), (2, .ref 53), (3, .int v3)] [] s) from ⟨fun c9 => ?_, fun c9 => ?_⟩)
    · have H := oq_t c9 H
      refine Wp.run 3 (show room8 [] ∧ WpM SHC MT (d + 4) 166 [.ref 0, .int 6] s (fun v9 s9 => Y_X11_soonest d Q 64 [(0, .ref 0), (1, .int v1), (2, .ref 53), (3, .int v3)] (v9.toList ++ []) s9) from ⟨rm8_ rfl, ?_⟩)
      refine w_X11_refuse (d := d + 3) _ ?_
      refine oq_bd H (fun r7 s8 H => ?_)
      show Y_X11_soonest d Q 64 [(0, .ref 0), (1, .int v1), (2, .ref 53), (3, .int v3)] [.int r7] s8
      exact Wp.run 1 ⟨rfl, H⟩
    · have H := oq_f c9 H
      refine Wp.run 4 (show room8 [] ∧ WpM SHC MT (d + 4) 170 [.int (s.1 53 5), .int v1] s (fun v9 s9 => Y_X11_soonest d Q 35 [(0, .ref 0), (1, .int v1), (2, .ref 53), (3, .int v3)] (v9.toList ++ []) s9) from ⟨rm8_ rfl, ?_⟩)
      refine w_X11_has (d := d + 3) _ _ ?_
      refine oq_bd H (fun r9 s10 H => ?_)
      show Y_X11_soonest d Q 35 [(0, .ref 0), (1, .int v1), (2, .ref 53), (3, .int v3)] [.int r9] s10
      refine Wp.run 1 (show br (r9 = 0) (Y_X11_soonest d Q 44 [(0, .ref 0), (1, .int v1), (2, .ref 53), (3, .int v3)] [] s10) (Y_X11_soonest d Q 38 [(0, .ref 0), (1, .int v1), (2, .ref 53), (3, .int v3)] [] s10) from ⟨fun c9 => ?_, fun c9 => ?_⟩)
      · have H := oq_t c9 H
        refine Wp.run 4 (show room8 [] ∧ WpM SHC MT (d + 4) 34 [.ref 53, .ref 25] s10 (fun v9 s9 => Y_X11_soonest d Q 52 [(0, .ref 0), (1, .int v1), (2, .ref 53), (3, .int v3)] (v9.toList ++ []) s9) from ⟨rm8_ rfl, ?_⟩)
        refine w_X2_passNight_25_53 (d := d)  ?_
        refine oq_bd H (fun _ s12 H => ?_)
        show Y_X11_soonest d Q 52 [(0, .ref 0), (1, .int v1), (2, .ref 53), (3, .int v3)] [] s12
        refine Wp.run 2 (show Y_X11_soonest d Q 21 [(3, .int (v3 + 1)), (0, .ref 0), (1, .int v1), (2, .ref 53)] [] s12 from ?_)
        refine Wp.weak [1, 2, 3, 0] (lv' := [(0, .ref 0), (1, .int v1), (2, .ref 53), (3, .int (v3 + 1))]) rfl ?_
        exact ih _ _ _ H
      · have H := oq_f c9 H
        refine Wp.run 3 (show room8 [] ∧ WpM SHC MT (d + 4) 164 [.ref 0, .int v3] s10 (fun v9 s9 => Y_X11_soonest d Q 43 [(0, .ref 0), (1, .int v1), (2, .ref 53), (3, .int v3)] (v9.toList ++ []) s9) from ⟨rm8_ rfl, ?_⟩)
        refine w_X11_answer (d := d + 3) _ ?_
        refine oq_bd H (fun r13 s14 H => ?_)
        show Y_X11_soonest d Q 43 [(0, .ref 0), (1, .int v1), (2, .ref 53), (3, .int v3)] [.int r13] s14
        exact Wp.run 1 ⟨rfl, H⟩
def f_X11_soonest (a1 : Int32) (s : Sg) : Option (Int32 × Sg) :=
  bd (f_X11_isQuarrel a1 s) (fun r1 s2 =>
  if r1 = 0 then
    bd (f_X11_refuse 1 s2) (fun r3 s4 =>
    some (r3, s4)
    )
  else
    bd (f_X2_copyFrom_26_53 s2) (fun _ s6 =>
    f_X11_soonest_b21 BIG a1 0 s6
    )
  )
set_option maxRecDepth 100000 in
theorem w_X11_soonest {d : Nat} {s : Sg} {Q : Qt} (a1 : Int32) (H : OQ (f_X11_soonest a1 s) (fun r9 s9 => Q (some (.int r9)) s9)) : WpM SHC MT (d + 5) 136 [.ref 0, .int a1] s Q := by
  refine WpM.enter me_X11_soonest rfl rfl ?_
  show Y_X11_soonest d Q 0 [(0, .ref 0), (1, .int a1)] [] s
  unfold f_X11_soonest at H
  refine Wp.run 3 (show room8 [] ∧ WpM SHC MT (d + 4) 173 [.ref 0, .int a1] s (fun v9 s9 => Y_X11_soonest d Q 5 [(0, .ref 0), (1, .int a1)] (v9.toList ++ []) s9) from ⟨rm8_ rfl, ?_⟩)
  refine w_X11_isQuarrel (d := d + 2) _ ?_
  refine oq_bd H (fun r1 s2 H => ?_)
  show Y_X11_soonest d Q 5 [(0, .ref 0), (1, .int a1)] [.int r1] s2
  refine Wp.run 1 (show br (r1 = 0) (Y_X11_soonest d Q 8 [(0, .ref 0), (1, .int a1)] [] s2) (Y_X11_soonest d Q 14 [(0, .ref 0), (1, .int a1)] [] s2) from ⟨fun c9 => ?_, fun c9 => ?_⟩)
  · have H := oq_t c9 H
    refine Wp.run 3 (show room8 [] ∧ WpM SHC MT (d + 4) 166 [.ref 0, .int 1] s2 (fun v9 s9 => Y_X11_soonest d Q 13 [(0, .ref 0), (1, .int a1)] (v9.toList ++ []) s9) from ⟨rm8_ rfl, ?_⟩)
    refine w_X11_refuse (d := d + 3) _ ?_
    refine oq_bd H (fun r3 s4 H => ?_)
    show Y_X11_soonest d Q 13 [(0, .ref 0), (1, .int a1)] [.int r3] s4
    exact Wp.run 1 ⟨rfl, H⟩
  · have H := oq_f c9 H
    refine Wp.run 2 (show room8 [] ∧ WpM SHC MT (d + 4) 180 [.ref 0] s2 (fun v9 s9 => Y_X11_soonest d Q 18 [(0, .ref 0), (1, .int a1)] (v9.toList ++ []) s9) from ⟨rm8_ rfl, ?_⟩)
    refine WpM.enter me_X11_foresee rfl rfl ?_
    refine Wp.run 6 (show room8 [] ∧ WpM SHC MT (d + 3) 21 [.ref 53, .ref 26] s2 (fun v9 s9 => Wp SHC _ cd_X11_foresee _ _ 14 [(0, .ref 0)] (v9.toList ++ []) s9) from ⟨rm8_ rfl, ?_⟩)
    refine w_X2_copyFrom_26_53 (d := d + 1)  ?_
    refine oq_bd H (fun _ s6 H => ?_)
    show Wp SHC _ cd_X11_foresee _ _ 14 [(0, .ref 0)] [] s6
    refine Wp.run 4 (show Y_X11_soonest d Q 18 [(0, .ref 0), (1, .int a1)] [.ref 53] s6 from ?_)
    refine Wp.run 3 (show Y_X11_soonest d Q 21 [(3, .int 0), (2, .ref 53), (0, .ref 0), (1, .int a1)] [] s6 from ?_)
    refine Wp.weak [2, 3, 1, 0] (lv' := [(0, .ref 0), (1, .int a1), (2, .ref 53), (3, .int 0)]) rfl ?_
    exact w_X11_soonest_b21 _ _ _ _ H
abbrev Y_X11_longest (d : Nat) (Q : Qt) : Xt := Wp SHC (WpM SHC MT (d + 2)) cd_X11_longest (some .int) Q
def f_X11_longest_b4 : Nat → Int32 → Int32 → Sg → Option (Int32 × Sg)
  | 0, _, _, _ => none
  | n + 1, v1, v2, s =>
    if (s.1 25 14) ≤ v2 then
      bd (f_X11_answerIfAny v1 s) (fun r1 s2 =>
      some (r1, s2)
      )
    else
      bd (f_X11_has (s.1 26 5) v2 s) (fun r3 s4 =>
      if r3 = 0 then
        if v1 = (-1) then
          (f_X11_longest_b4 n) v2 (v2 + 1) s4
        else
          ck (inr v2 8) (
          ck (inr v1 8) (
          if (s4.1 43 v2.toNatClampNeg) ≤ (s4.1 43 v1.toNatClampNeg) then
            (f_X11_longest_b4 n) v1 (v2 + 1) s4
          else
            (f_X11_longest_b4 n) v2 (v2 + 1) s4
          )
          )
      else
        (f_X11_longest_b4 n) v1 (v2 + 1) s4
      )
set_option maxRecDepth 100000 in
theorem w_X11_longest_b4 {d : Nat} {Q : Qt} (n : Nat) : ∀ (v1 : Int32) (v2 : Int32) (s : Sg), OQ (f_X11_longest_b4 n v1 v2 s) (fun r9 s9 => Q (some (.int r9)) s9) → Y_X11_longest d Q 4 [(0, .ref 0), (1, .int v1), (2, .int v2)] [] s := by
  induction n with
  | zero => intro v1 v2 s H; exact H.elim
  | succ n ih =>
    intro v1 v2 s H
    unfold f_X11_longest_b4 at H
    refine Wp.run 5 (show br ((s.1 25 14) ≤ v2) (Y_X11_longest d Q 63 [(0, .ref 0), (1, .int v1), (2, .int v2)] [] s) (Y_X11_longest d Q 15 [(0, .ref 0), (1, .int v1), (2, .int v2)] [] s) from ⟨fun c9 => ?_, fun c9 => ?_⟩)
    · have H := oq_t c9 H
      refine Wp.run 3 (show room8 [] ∧ WpM SHC MT (d + 2) 165 [.ref 0, .int v1] s (fun v9 s9 => Y_X11_longest d Q 68 [(0, .ref 0), (1, .int v1), (2, .int v2)] (v9.toList ++ []) s9) from ⟨rm8_ rfl, ?_⟩)
      refine w_X11_answerIfAny (d := d) _ ?_
      refine oq_bd H (fun r1 s2 H => ?_)
      show Y_X11_longest d Q 68 [(0, .ref 0), (1, .int v1), (2, .int v2)] [.int r1] s2
      exact Wp.run 1 ⟨rfl, H⟩
    · have H := oq_f c9 H
      refine Wp.run 5 (show room8 [] ∧ WpM SHC MT (d + 2) 170 [.int (s.1 26 5), .int v2] s (fun v9 s9 => Y_X11_longest d Q 26 [(0, .ref 0), (1, .int v1), (2, .int v2)] (v9.toList ++ []) s9) from ⟨rm8_ rfl, ?_⟩)
      refine w_X11_has (d := d + 1) _ _ ?_
      refine oq_bd H (fun r3 s4 H => ?_)
      show Y_X11_longest d Q 26 [(0, .ref 0), (1, .int v1), (2, .int v2)] [.int r3] s4
      refine Wp.run 1 (show br (r3 = 0) (Y_X11_longest d Q 29 [(0, .ref 0), (1, .int v1), (2, .int v2)] [] s4) (Y_X11_longest d Q 57 [(0, .ref 0), (1, .int v1), (2, .int v2)] [] s4) from ⟨fun c9 => ?_, fun c9 => ?_⟩)
      · have H := oq_t c9 H
        refine Wp.run 3 (show br (v1 = (-1)) (Y_X11_longest d Q 55 [(0, .ref 0), (1, .int v1), (2, .int v2)] [] s4) (Y_X11_longest d Q 34 [(0, .ref 0), (1, .int v1), (2, .int v2)] [] s4) from ⟨fun c9 => ?_, fun c9 => ?_⟩)
        · have H := oq_t c9 H
          refine Wp.run 4 (show Y_X11_longest d Q 4 [(2, .int (v2 + 1)), (1, .int v2), (0, .ref 0)] [] s4 from ?_)
          refine Wp.weak [2, 1, 0] (lv' := [(0, .ref 0), (1, .int v2), (2, .int (v2 + 1))]) rfl ?_
          exact ih _ _ _ H
        · have H := oq_f c9 H
          obtain ⟨hc5, H⟩ := oq_ck H
          refine Wp.run 5 (show (vp_in v2 8) ∧ Y_X11_longest d Q 43 [(0, .ref 0), (1, .int v1), (2, .int v2)] [.int (s4.1 43 v2.toNatClampNeg)] s4 from ⟨hc5, ?_⟩)
          obtain ⟨hc6, H⟩ := oq_ck H
          refine Wp.run 5 (show (vp_in v1 8) ∧ Y_X11_longest d Q 52 [(0, .ref 0), (1, .int v1), (2, .int v2)] [.int (s4.1 43 v1.toNatClampNeg), .int (s4.1 43 v2.toNatClampNeg)] s4 from ⟨hc6, ?_⟩)
          refine Wp.run 1 (show br ((s4.1 43 v2.toNatClampNeg) ≤ (s4.1 43 v1.toNatClampNeg)) (Y_X11_longest d Q 57 [(0, .ref 0), (1, .int v1), (2, .int v2)] [] s4) (Y_X11_longest d Q 55 [(0, .ref 0), (1, .int v1), (2, .int v2)] [] s4) from ⟨fun c9 => ?_, fun c9 => ?_⟩)
          · have H := oq_t c9 H
            refine Wp.run 2 (show Y_X11_longest d Q 4 [(2, .int (v2 + 1)), (0, .ref 0), (1, .int v1)] [] s4 from ?_)
            refine Wp.weak [1, 2, 0] (lv' := [(0, .ref 0), (1, .int v1), (2, .int (v2 + 1))]) rfl ?_
            exact ih _ _ _ H
          · have H := oq_f c9 H
            refine Wp.run 4 (show Y_X11_longest d Q 4 [(2, .int (v2 + 1)), (1, .int v2), (0, .ref 0)] [] s4 from ?_)
            refine Wp.weak [2, 1, 0] (lv' := [(0, .ref 0), (1, .int v2), (2, .int (v2 + 1))]) rfl ?_
            exact ih _ _ _ H
      · have H := oq_f c9 H
        refine Wp.run 2 (show Y_X11_longest d Q 4 [(2, .int (v2 + 1)), (0, .ref 0), (1, .int v1)] [] s4 from ?_)
        refine Wp.weak [1, 2, 0] (lv' := [(0, .ref 0), (1, .int v1), (2, .int (v2 + 1))]) rfl ?_
        exact ih _ _ _ H
def f_X11_longest  (s : Sg) : Option (Int32 × Sg) :=
  f_X11_longest_b4 BIG (-1) 0 s
set_option maxRecDepth 100000 in
theorem w_X11_longest {d : Nat} {s : Sg} {Q : Qt}  (H : OQ (f_X11_longest  s) (fun r9 s9 => Q (some (.int r9)) s9)) : WpM SHC MT (d + 3) 137 [.ref 0] s Q := by
  refine WpM.enter me_X11_longest rfl rfl ?_
  show Y_X11_longest d Q 0 [(0, .ref 0)] [] s
  unfold f_X11_longest at H
  refine Wp.run 4 (show Y_X11_longest d Q 4 [(2, .int 0), (1, .int (-1)), (0, .ref 0)] [] s from ?_)
  refine Wp.weak [2, 1, 0] (lv' := [(0, .ref 0), (1, .int (-1)), (2, .int 0)]) rfl ?_
  exact w_X11_longest_b4 _ _ _ _ H
abbrev Y_X11_fullest (d : Nat) (Q : Qt) : Xt := Wp SHC (WpM SHC MT (d + 2)) cd_X11_fullest (some .int) Q
def f_X11_fullest_b4 : Nat → Int32 → Int32 → Sg → Option (Int32 × Sg)
  | 0, _, _, _ => none
  | n + 1, v1, v2, s =>
    if (s.1 25 13) ≤ v2 then
      bd (f_X11_answerIfAny v1 s) (fun r1 s2 =>
      some (r1, s2)
      )
    else
      bd (f_X4_isGone v2 s) (fun r3 s4 =>
      if r3 = 0 then
        if v1 = (-1) then
          (f_X11_fullest_b4 n) v2 (v2 + 1) s4
        else
          bd (f_X2_lying v2 s4) (fun r5 s6 =>
          bd (f_X2_lying v1 s6) (fun r7 s8 =>
          if r5 ≤ r7 then
            (f_X11_fullest_b4 n) v1 (v2 + 1) s8
          else
            (f_X11_fullest_b4 n) v2 (v2 + 1) s8
          )
          )
      else
        (f_X11_fullest_b4 n) v1 (v2 + 1) s4
      )
set_option maxRecDepth 100000 in
theorem w_X11_fullest_b4 {d : Nat} {Q : Qt} (n : Nat) : ∀ (v1 : Int32) (v2 : Int32) (s : Sg), OQ (f_X11_fullest_b4 n v1 v2 s) (fun r9 s9 => Q (some (.int r9)) s9) → Y_X11_fullest d Q 4 [(0, .ref 0), (1, .int v1), (2, .int v2)] [] s := by
  induction n with
  | zero => intro v1 v2 s H; exact H.elim
  | succ n ih =>
    intro v1 v2 s H
    unfold f_X11_fullest_b4 at H
    refine Wp.run 5 (show br ((s.1 25 13) ≤ v2) (Y_X11_fullest d Q 58 [(0, .ref 0), (1, .int v1), (2, .int v2)] [] s) (Y_X11_fullest d Q 15 [(0, .ref 0), (1, .int v1), (2, .int v2)] [] s) from ⟨fun c9 => ?_, fun c9 => ?_⟩)
    · have H := oq_t c9 H
      refine Wp.run 3 (show room8 [] ∧ WpM SHC MT (d + 2) 165 [.ref 0, .int v1] s (fun v9 s9 => Y_X11_fullest d Q 63 [(0, .ref 0), (1, .int v1), (2, .int v2)] (v9.toList ++ []) s9) from ⟨rm8_ rfl, ?_⟩)
      refine w_X11_answerIfAny (d := d) _ ?_
      refine oq_bd H (fun r1 s2 H => ?_)
      show Y_X11_fullest d Q 63 [(0, .ref 0), (1, .int v1), (2, .int v2)] [.int r1] s2
      exact Wp.run 1 ⟨rfl, H⟩
    · have H := oq_f c9 H
      refine Wp.run 4 (show room8 [] ∧ WpM SHC MT (d + 2) 55 [.ref 25, .int v2] s (fun v9 s9 => Y_X11_fullest d Q 23 [(0, .ref 0), (1, .int v1), (2, .int v2)] (v9.toList ++ []) s9) from ⟨rm8_ rfl, ?_⟩)
      refine w_X4_isGone (d := d + 1) _ ?_
      refine oq_bd H (fun r3 s4 H => ?_)
      show Y_X11_fullest d Q 23 [(0, .ref 0), (1, .int v1), (2, .int v2)] [.int r3] s4
      refine Wp.run 1 (show br (r3 = 0) (Y_X11_fullest d Q 26 [(0, .ref 0), (1, .int v1), (2, .int v2)] [] s4) (Y_X11_fullest d Q 52 [(0, .ref 0), (1, .int v1), (2, .int v2)] [] s4) from ⟨fun c9 => ?_, fun c9 => ?_⟩)
      · have H := oq_t c9 H
        refine Wp.run 3 (show br (v1 = (-1)) (Y_X11_fullest d Q 50 [(0, .ref 0), (1, .int v1), (2, .int v2)] [] s4) (Y_X11_fullest d Q 31 [(0, .ref 0), (1, .int v1), (2, .int v2)] [] s4) from ⟨fun c9 => ?_, fun c9 => ?_⟩)
        · have H := oq_t c9 H
          refine Wp.run 4 (show Y_X11_fullest d Q 4 [(2, .int (v2 + 1)), (1, .int v2), (0, .ref 0)] [] s4 from ?_)
          refine Wp.weak [2, 1, 0] (lv' := [(0, .ref 0), (1, .int v2), (2, .int (v2 + 1))]) rfl ?_
          exact ih _ _ _ H
        · have H := oq_f c9 H
          refine Wp.run 4 (show room8 [] ∧ WpM SHC MT (d + 2) 23 [.ref 26, .int v2] s4 (fun v9 s9 => Y_X11_fullest d Q 39 [(0, .ref 0), (1, .int v1), (2, .int v2)] (v9.toList ++ []) s9) from ⟨rm8_ rfl, ?_⟩)
          refine w_X2_lying (d := d + 1) _ ?_
          refine oq_bd H (fun r5 s6 H => ?_)
          show Y_X11_fullest d Q 39 [(0, .ref 0), (1, .int v1), (2, .int v2)] [.int r5] s6
          refine Wp.run 4 (show room8 [.int r5] ∧ WpM SHC MT (d + 2) 23 [.ref 26, .int v1] s6 (fun v9 s9 => Y_X11_fullest d Q 47 [(0, .ref 0), (1, .int v1), (2, .int v2)] (v9.toList ++ [.int r5]) s9) from ⟨rm8_ rfl, ?_⟩)
          refine w_X2_lying (d := d + 1) _ ?_
          refine oq_bd H (fun r7 s8 H => ?_)
          show Y_X11_fullest d Q 47 [(0, .ref 0), (1, .int v1), (2, .int v2)] [.int r7, .int r5] s8
          refine Wp.run 1 (show br (r5 ≤ r7) (Y_X11_fullest d Q 52 [(0, .ref 0), (1, .int v1), (2, .int v2)] [] s8) (Y_X11_fullest d Q 50 [(0, .ref 0), (1, .int v1), (2, .int v2)] [] s8) from ⟨fun c9 => ?_, fun c9 => ?_⟩)
          · have H := oq_t c9 H
            refine Wp.run 2 (show Y_X11_fullest d Q 4 [(2, .int (v2 + 1)), (0, .ref 0), (1, .int v1)] [] s8 from ?_)
            refine Wp.weak [1, 2, 0] (lv' := [(0, .ref 0), (1, .int v1), (2, .int (v2 + 1))]) rfl ?_
            exact ih _ _ _ H
          · have H := oq_f c9 H
            refine Wp.run 4 (show Y_X11_fullest d Q 4 [(2, .int (v2 + 1)), (1, .int v2), (0, .ref 0)] [] s8 from ?_)
            refine Wp.weak [2, 1, 0] (lv' := [(0, .ref 0), (1, .int v2), (2, .int (v2 + 1))]) rfl ?_
            exact ih _ _ _ H
      · have H := oq_f c9 H
        refine Wp.run 2 (show Y_X11_fullest d Q 4 [(2, .int (v2 + 1)), (0, .ref 0), (1, .int v1)] [] s4 from ?_)
        refine Wp.weak [1, 2, 0] (lv' := [(0, .ref 0), (1, .int v1), (2, .int (v2 + 1))]) rfl ?_
        exact ih _ _ _ H
def f_X11_fullest  (s : Sg) : Option (Int32 × Sg) :=
  f_X11_fullest_b4 BIG (-1) 0 s
set_option maxRecDepth 100000 in
theorem w_X11_fullest {d : Nat} {s : Sg} {Q : Qt}  (H : OQ (f_X11_fullest  s) (fun r9 s9 => Q (some (.int r9)) s9)) : WpM SHC MT (d + 3) 138 [.ref 0] s Q := by
  refine WpM.enter me_X11_fullest rfl rfl ?_
  show Y_X11_fullest d Q 0 [(0, .ref 0)] [] s
  unfold f_X11_fullest at H
  refine Wp.run 4 (show Y_X11_fullest d Q 4 [(2, .int 0), (1, .int (-1)), (0, .ref 0)] [] s from ?_)
  refine Wp.weak [2, 1, 0] (lv' := [(0, .ref 0), (1, .int (-1)), (2, .int 0)]) rfl ?_
  exact w_X11_fullest_b4 _ _ _ _ H
abbrev Y_X9_wantedAt_26_25 (d : Nat) (Q : Qt) : Xt := Wp SHC (WpM SHC MT (d + 2)) cd_X9_wantedAt (some .int) Q
def f_X9_wantedAt_26_25_b73 (k_27 : Int32 → Int32 → Int32 → Int32 → Sg → Option (Int32 × Sg)) (v2 : Int32) (v3 : Int32) (v4 : Int32) (v5 : Int32) (t0 : Int32) (s : Sg) : Option (Int32 × Sg) :=
  bd (f_X2_inSight t0 s) (fun r10 s11 =>
  bd (f_X9_contentAt_25 t0 r10 (-1) s11) (fun r12 s13 =>
  nmx (v4 ||| (r12 &&& ((1 : Int32) <<< (v5 &&& 31))) : Int32) (fun x14 =>
  k_27 v2 v3 x14 (v5 + 1) s13
  )
  )
  )
set_option maxRecDepth 100000 in
theorem w_X9_wantedAt_26_25_b73 {d : Nat} {Q : Qt} (k_27 : Int32 → Int32 → Int32 → Int32 → Sg → Option (Int32 × Sg)) (h_27 : ∀ (v2 : Int32) (v3 : Int32) (v4 : Int32) (v5 : Int32) s, OQ (k_27 v2 v3 v4 v5 s) (fun r9 s9 => Q (some (.int r9)) s9) → Y_X9_wantedAt_26_25 d Q 27 [(0, .ref 25), (1, .ref 26), (2, .int v2), (3, .int v3), (4, .int v4), (5, .int v5)] [] s) (v2 : Int32) (v3 : Int32) (v4 : Int32) (v5 : Int32) (t0 : Int32) (s : Sg) (H : OQ (f_X9_wantedAt_26_25_b73 k_27 v2 v3 v4 v5 t0 s) (fun r9 s9 => Q (some (.int r9)) s9)) : Y_X9_wantedAt_26_25 d Q 73 [(0, .ref 25), (1, .ref 26), (2, .int v2), (3, .int v3), (4, .int v4), (5, .int v5)] [.int t0] s := by
  unfold f_X9_wantedAt_26_25_b73 at H
  refine Wp.run 7 (show room8 [.int t0, .ref 25, .int v4] ∧ WpM SHC MT (d + 2) 24 [.ref 26, .int t0] s (fun v9 s9 => Y_X9_wantedAt_26_25 d Q 86 [(6, .int t0), (0, .ref 25), (1, .ref 26), (2, .int v2), (3, .int v3), (4, .int v4), (5, .int v5)] (v9.toList ++ [.int t0, .ref 25, .int v4]) s9) from ⟨rm8_ rfl, ?_⟩)
  refine w_X2_inSight (d := d) _ ?_
  refine oq_bd H (fun r10 s11 H => ?_)
  show Y_X9_wantedAt_26_25 d Q 86 [(6, .int t0), (0, .ref 25), (1, .ref 26), (2, .int v2), (3, .int v3), (4, .int v4), (5, .int v5)] [.int r10, .int t0, .ref 25, .int v4] s11
  refine Wp.run 2 (show room8 [.int v4] ∧ WpM SHC MT (d + 2) 92 [.ref 25, .int t0, .int r10, .int (-1)] s11 (fun v9 s9 => Y_X9_wantedAt_26_25 d Q 90 [(6, .int t0), (0, .ref 25), (1, .ref 26), (2, .int v2), (3, .int v3), (4, .int v4), (5, .int v5)] (v9.toList ++ [.int v4]) s9) from ⟨rm8_ rfl, ?_⟩)
  refine w_X9_contentAt_25 (d := d) _ _ _ ?_
  refine oq_bd H (fun r12 s13 H => ?_)
  show Y_X9_wantedAt_26_25 d Q 90 [(6, .int t0), (0, .ref 25), (1, .ref 26), (2, .int v2), (3, .int v3), (4, .int v4), (5, .int v5)] [.int r12, .int v4] s13
  refine Wp.run 6 (show Y_X9_wantedAt_26_25 d Q 98 [(4, .int (v4 ||| (r12 &&& ((1 : Int32) <<< (v5 &&& 31))))), (6, .int t0), (0, .ref 25), (1, .ref 26), (2, .int v2), (3, .int v3), (5, .int v5)] [] s13 from ?_)
  revert H
  generalize (v4 ||| (r12 &&& ((1 : Int32) <<< (v5 &&& 31))) : Int32) = x14
  intro H
  have H := nmx_e H
  refine Wp.run 2 (show Y_X9_wantedAt_26_25 d Q 27 [(5, .int (v5 + 1)), (4, .int x14), (6, .int t0), (0, .ref 25), (1, .ref 26), (2, .int v2), (3, .int v3)] [] s13 from ?_)
  refine Wp.weak [3, 4, 5, 6, 1, 0] (lv' := [(0, .ref 25), (1, .ref 26), (2, .int v2), (3, .int v3), (4, .int x14), (5, .int (v5 + 1))]) rfl ?_
  exact h_27 _ _ _ _ _ H
def f_X9_wantedAt_26_25_b27 : Nat → Int32 → Int32 → Int32 → Int32 → Sg → Option (Int32 × Sg)
  | 0, _, _, _, _, _ => none
  | n + 1, v2, v3, v4, v5, s =>
    if (s.1 25 14) ≤ v5 then
      some (v4, s)
    else
      bd (f_X11_has v3 v5 s) (fun r7 s8 =>
      if r7 = 0 then
        (f_X9_wantedAt_26_25_b27 n) v2 v3 v4 (v5 + 1) s8
      else
        ck (inr v5 8) (
        if (s8.1 31 v5.toNatClampNeg) = v2 then
          f_X9_wantedAt_26_25_b73 (f_X9_wantedAt_26_25_b27 n) v2 v3 v4 v5 (s8.1 32 v5.toNatClampNeg) s8
        else
          f_X9_wantedAt_26_25_b73 (f_X9_wantedAt_26_25_b27 n) v2 v3 v4 v5 (s8.1 31 v5.toNatClampNeg) s8
        )
      )
set_option maxRecDepth 100000 in
theorem w_X9_wantedAt_26_25_b27 {d : Nat} {Q : Qt} (n : Nat) : ∀ (v2 : Int32) (v3 : Int32) (v4 : Int32) (v5 : Int32) (s : Sg), OQ (f_X9_wantedAt_26_25_b27 n v2 v3 v4 v5 s) (fun r9 s9 => Q (some (.int r9)) s9) → Y_X9_wantedAt_26_25 d Q 27 [(0, .ref 25), (1, .ref 26), (2, .int v2), (3, .int v3), (4, .int v4), (5, .int v5)] [] s := by
  induction n with
  | zero => intro v2 v3 v4 v5 s H; exact H.elim
  | succ n ih =>
    intro v2 v3 v4 v5 s H
    unfold f_X9_wantedAt_26_25_b27 at H
    refine Wp.run 4 (show br ((s.1 25 14) ≤ v5) (Y_X9_wantedAt_26_25 d Q 104 [(0, .ref 25), (1, .ref 26), (2, .int v2), (3, .int v3), (4, .int v4), (5, .int v5)] [] s) (Y_X9_wantedAt_26_25 d Q 36 [(0, .ref 25), (1, .ref 26), (2, .int v2), (3, .int v3), (4, .int v4), (5, .int v5)] [] s) from ⟨fun c9 => ?_, fun c9 => ?_⟩)
    · have H := oq_t c9 H
      exact Wp.run 2 ⟨rfl, H⟩
    · have H := oq_f c9 H
      refine Wp.run 3 (show room8 [] ∧ WpM SHC MT (d + 2) 170 [.int v3, .int v5] s (fun v9 s9 => Y_X9_wantedAt_26_25 d Q 42 [(0, .ref 25), (1, .ref 26), (2, .int v2), (3, .int v3), (4, .int v4), (5, .int v5)] (v9.toList ++ []) s9) from ⟨rm8_ rfl, ?_⟩)
      refine w_X11_has (d := d + 1) _ _ ?_
      refine oq_bd H (fun r7 s8 H => ?_)
      show Y_X9_wantedAt_26_25 d Q 42 [(0, .ref 25), (1, .ref 26), (2, .int v2), (3, .int v3), (4, .int v4), (5, .int v5)] [.int r7] s8
      refine Wp.run 1 (show br (r7 = 0) (Y_X9_wantedAt_26_25 d Q 98 [(0, .ref 25), (1, .ref 26), (2, .int v2), (3, .int v3), (4, .int v4), (5, .int v5)] [] s8) (Y_X9_wantedAt_26_25 d Q 45 [(0, .ref 25), (1, .ref 26), (2, .int v2), (3, .int v3), (4, .int v4), (5, .int v5)] [] s8) from ⟨fun c9 => ?_, fun c9 => ?_⟩)
      · have H := oq_t c9 H
        refine Wp.run 2 (show Y_X9_wantedAt_26_25 d Q 27 [(5, .int (v5 + 1)), (0, .ref 25), (1, .ref 26), (2, .int v2), (3, .int v3), (4, .int v4)] [] s8 from ?_)
        refine Wp.weak [1, 2, 3, 4, 5, 0] (lv' := [(0, .ref 25), (1, .ref 26), (2, .int v2), (3, .int v3), (4, .int v4), (5, .int (v5 + 1))]) rfl ?_
        exact ih _ _ _ _ _ H
      · have H := oq_f c9 H
        obtain ⟨hc9, H⟩ := oq_ck H
        refine Wp.run 4 (show (vp_in v5 8) ∧ Y_X9_wantedAt_26_25 d Q 52 [(0, .ref 25), (1, .ref 26), (2, .int v2), (3, .int v3), (4, .int v4), (5, .int v5)] [.int (s8.1 31 v5.toNatClampNeg)] s8 from ⟨hc9, ?_⟩)
        refine Wp.run 2 (show br ((s8.1 31 v5.toNatClampNeg) = v2) (Y_X9_wantedAt_26_25 d Q 56 [(0, .ref 25), (1, .ref 26), (2, .int v2), (3, .int v3), (4, .int v4), (5, .int v5)] [] s8) (Y_X9_wantedAt_26_25 d Q 66 [(0, .ref 25), (1, .ref 26), (2, .int v2), (3, .int v3), (4, .int v4), (5, .int v5)] [] s8) from ⟨fun c9 => ?_, fun c9 => ?_⟩)
        · have H := oq_t c9 H
          refine Wp.run 4 (show (vp_in v5 8) ∧ Y_X9_wantedAt_26_25 d Q 63 [(0, .ref 25), (1, .ref 26), (2, .int v2), (3, .int v3), (4, .int v4), (5, .int v5)] [.int (s8.1 32 v5.toNatClampNeg)] s8 from ⟨hc9, ?_⟩)
          refine Wp.run 1 (show Y_X9_wantedAt_26_25 d Q 73 [(0, .ref 25), (1, .ref 26), (2, .int v2), (3, .int v3), (4, .int v4), (5, .int v5)] [.int (s8.1 32 v5.toNatClampNeg)] s8 from ?_)
          refine Wp.weak [0, 1, 2, 3, 4, 5] (lv' := [(0, .ref 25), (1, .ref 26), (2, .int v2), (3, .int v3), (4, .int v4), (5, .int v5)]) rfl ?_
          exact w_X9_wantedAt_26_25_b73 (f_X9_wantedAt_26_25_b27 n) ih _ _ _ _ _ _ H
        · have H := oq_f c9 H
          refine Wp.run 4 (show (vp_in v5 8) ∧ Y_X9_wantedAt_26_25 d Q 73 [(0, .ref 25), (1, .ref 26), (2, .int v2), (3, .int v3), (4, .int v4), (5, .int v5)] [.int (s8.1 31 v5.toNatClampNeg)] s8 from ⟨hc9, ?_⟩)
          refine Wp.weak [0, 1, 2, 3, 4, 5] (lv' := [(0, .ref 25), (1, .ref 26), (2, .int v2), (3, .int v3), (4, .int v4), (5, .int v5)]) rfl ?_
          exact w_X9_wantedAt_26_25_b73 (f_X9_wantedAt_26_25_b27 n) ih _ _ _ _ _ _ H
def f_X9_wantedAt_26_25 (a2 : Int32) (s : Sg) : Option (Int32 × Sg) :=
  ck (inr a2 8) (
  bd (f_X2_inSight a2 s) (fun r2 s3 =>
  bd (f_X9_contentAt_25 a2 r2 (-1) s3) (fun r4 s5 =>
  nmx ((s.1 34 a2.toNatClampNeg) &&& (r4 ^^^ (-1)) : Int32) (fun x6 =>
  f_X9_wantedAt_26_25_b27 BIG a2 x6 0 0 s5
  )
  )
  )
  )
set_option maxRecDepth 100000 in
theorem w_X9_wantedAt_26_25 {d : Nat} {s : Sg} {Q : Qt} (a2 : Int32) (H : OQ (f_X9_wantedAt_26_25 a2 s) (fun r9 s9 => Q (some (.int r9)) s9)) : WpM SHC MT (d + 3) 97 [.ref 25, .ref 26, .int a2] s Q := by
  refine WpM.enter me_X9_wantedAt rfl rfl ?_
  show Y_X9_wantedAt_26_25 d Q 0 [(0, .ref 25), (1, .ref 26), (2, .int a2)] [] s
  unfold f_X9_wantedAt_26_25 at H
  obtain ⟨hc1, H⟩ := oq_ck H
  refine Wp.run 4 (show (vp_in a2 8) ∧ Y_X9_wantedAt_26_25 d Q 6 [(0, .ref 25), (1, .ref 26), (2, .int a2)] [.int (s.1 34 a2.toNatClampNeg)] s from ⟨hc1, ?_⟩)
  refine Wp.run 5 (show room8 [.int a2, .ref 25, .int (s.1 34 a2.toNatClampNeg)] ∧ WpM SHC MT (d + 2) 24 [.ref 26, .int a2] s (fun v9 s9 => Y_X9_wantedAt_26_25 d Q 13 [(0, .ref 25), (1, .ref 26), (2, .int a2)] (v9.toList ++ [.int a2, .ref 25, .int (s.1 34 a2.toNatClampNeg)]) s9) from ⟨rm8_ rfl, ?_⟩)
  refine w_X2_inSight (d := d) _ ?_
  refine oq_bd H (fun r2 s3 H => ?_)
  show Y_X9_wantedAt_26_25 d Q 13 [(0, .ref 25), (1, .ref 26), (2, .int a2)] [.int r2, .int a2, .ref 25, .int (s.1 34 a2.toNatClampNeg)] s3
  refine Wp.run 2 (show room8 [.int (s.1 34 a2.toNatClampNeg)] ∧ WpM SHC MT (d + 2) 92 [.ref 25, .int a2, .int r2, .int (-1)] s3 (fun v9 s9 => Y_X9_wantedAt_26_25 d Q 17 [(0, .ref 25), (1, .ref 26), (2, .int a2)] (v9.toList ++ [.int (s.1 34 a2.toNatClampNeg)]) s9) from ⟨rm8_ rfl, ?_⟩)
  refine w_X9_contentAt_25 (d := d) _ _ _ ?_
  refine oq_bd H (fun r4 s5 H => ?_)
  show Y_X9_wantedAt_26_25 d Q 17 [(0, .ref 25), (1, .ref 26), (2, .int a2)] [.int r4, .int (s.1 34 a2.toNatClampNeg)] s5
  refine Wp.run 4 (show Y_X9_wantedAt_26_25 d Q 21 [(3, .int ((s.1 34 a2.toNatClampNeg) &&& (r4 ^^^ (-1)))), (0, .ref 25), (1, .ref 26), (2, .int a2)] [] s5 from ?_)
  revert H
  generalize ((s.1 34 a2.toNatClampNeg) &&& (r4 ^^^ (-1)) : Int32) = x6
  intro H
  have H := nmx_e H
  refine Wp.run 4 (show Y_X9_wantedAt_26_25 d Q 27 [(5, .int 0), (4, .int 0), (3, .int x6), (0, .ref 25), (1, .ref 26), (2, .int a2)] [] s5 from ?_)
  refine Wp.weak [3, 4, 5, 2, 1, 0] (lv' := [(0, .ref 25), (1, .ref 26), (2, .int a2), (3, .int x6), (4, .int 0), (5, .int 0)]) rfl ?_
  exact w_X9_wantedAt_26_25_b27 _ _ _ _ _ _ H
abbrev Y_bitCount (d : Nat) (Q : Qt) : Xt := Wp SHC (WpM SHC MT (d + 0)) cd_J6_bitCount_0f7a4 (some .int) Q
def f_bitCount (a0 : Int32) (s : Sg) : Option (Int32 × Sg) :=
  nmx (a0 - (((a0.toUInt32 >>> ((1 : Int32).toUInt32 &&& Int32.toUInt32 31)).toInt32) &&& 1431655765) : Int32) (fun x1 =>
  nmx ((x1 &&& 858993459) + (((x1.toUInt32 >>> ((2 : Int32).toUInt32 &&& Int32.toUInt32 31)).toInt32) &&& 858993459) : Int32) (fun x2 =>
  nmx ((x2 + ((x2.toUInt32 >>> ((4 : Int32).toUInt32 &&& Int32.toUInt32 31)).toInt32)) &&& 252645135 : Int32) (fun x3 =>
  nmx (x3 + ((x3.toUInt32 >>> ((8 : Int32).toUInt32 &&& Int32.toUInt32 31)).toInt32) : Int32) (fun x4 =>
  nmx (x4 + ((x4.toUInt32 >>> ((16 : Int32).toUInt32 &&& Int32.toUInt32 31)).toInt32) : Int32) (fun x5 =>
  some (x5 &&& 63, s)
  )
  )
  )
  )
  )
set_option maxRecDepth 100000 in
theorem w_bitCount {d : Nat} {s : Sg} {Q : Qt} (a0 : Int32) (H : OQ (f_bitCount a0 s) (fun r9 s9 => Q (some (.int r9)) s9)) : WpM SHC MT (d + 1) 330 [.int a0] s Q := by
  refine WpM.enter me_J6_bitCount_0f7a4 rfl rfl ?_
  show Y_bitCount d Q 0 [(0, .int a0)] [] s
  unfold f_bitCount at H
  refine Wp.run 8 (show Y_bitCount d Q 10 [(0, .int (a0 - (((a0.toUInt32 >>> ((1 : Int32).toUInt32 &&& Int32.toUInt32 31)).toInt32) &&& 1431655765)))] [] s from ?_)
  revert H
  generalize (a0 - (((a0.toUInt32 >>> ((1 : Int32).toUInt32 &&& Int32.toUInt32 31)).toInt32) &&& 1431655765) : Int32) = x1
  intro H
  have H := nmx_e H
  refine Wp.run 10 (show Y_bitCount d Q 24 [(0, .int ((x1 &&& 858993459) + (((x1.toUInt32 >>> ((2 : Int32).toUInt32 &&& Int32.toUInt32 31)).toInt32) &&& 858993459)))] [] s from ?_)
  revert H
  generalize ((x1 &&& 858993459) + (((x1.toUInt32 >>> ((2 : Int32).toUInt32 &&& Int32.toUInt32 31)).toInt32) &&& 858993459) : Int32) = x2
  intro H
  have H := nmx_e H
  refine Wp.run 8 (show Y_bitCount d Q 34 [(0, .int ((x2 + ((x2.toUInt32 >>> ((4 : Int32).toUInt32 &&& Int32.toUInt32 31)).toInt32)) &&& 252645135))] [] s from ?_)
  revert H
  generalize ((x2 + ((x2.toUInt32 >>> ((4 : Int32).toUInt32 &&& Int32.toUInt32 31)).toInt32)) &&& 252645135 : Int32) = x3
  intro H
  have H := nmx_e H
  refine Wp.run 6 (show Y_bitCount d Q 41 [(0, .int (x3 + ((x3.toUInt32 >>> ((8 : Int32).toUInt32 &&& Int32.toUInt32 31)).toInt32)))] [] s from ?_)
  revert H
  generalize (x3 + ((x3.toUInt32 >>> ((8 : Int32).toUInt32 &&& Int32.toUInt32 31)).toInt32) : Int32) = x4
  intro H
  have H := nmx_e H
  refine Wp.run 6 (show Y_bitCount d Q 48 [(0, .int (x4 + ((x4.toUInt32 >>> ((16 : Int32).toUInt32 &&& Int32.toUInt32 31)).toInt32)))] [] s from ?_)
  revert H
  generalize (x4 + ((x4.toUInt32 >>> ((16 : Int32).toUInt32 &&& Int32.toUInt32 31)).toInt32) : Int32) = x5
  intro H
  have H := nmx_e H
  exact Wp.run 4 ⟨rfl, H⟩
abbrev Y_X9_broughtBy_26_25 (d : Nat) (Q : Qt) : Xt := Wp SHC (WpM SHC MT (d + 3)) cd_X9_broughtBy (some .int) Q
def f_X9_broughtBy_26_25 (a2 : Int32) (a3 : Int32) (s : Sg) : Option (Int32 × Sg) :=
  bd (f_X4_isGone a2 s) (fun r1 s2 =>
  if r1 = 0 then
    ck (inr a2 8) (
    if (s2.1 42 a2.toNatClampNeg) ≤ 0 then
      bd (f_X2_lying a2 s2) (fun r4 s5 =>
      bd (f_X9_contentAt_25 a2 (r4 + a3) (-1) s5) (fun r6 s7 =>
      bd (f_X9_wantedAt_26_25 a2 s7) (fun r8 s9 =>
      bd (f_bitCount (r6 &&& r8) s9) (fun r10 s11 =>
      some (r10, s11)
      )
      )
      )
      )
    else
      some (0, s2)
    )
  else
    some (0, s2)
  )
set_option maxRecDepth 100000 in
theorem w_X9_broughtBy_26_25 {d : Nat} {s : Sg} {Q : Qt} (a2 : Int32) (a3 : Int32) (H : OQ (f_X9_broughtBy_26_25 a2 a3 s) (fun r9 s9 => Q (some (.int r9)) s9)) : WpM SHC MT (d + 4) 99 [.ref 25, .ref 26, .int a2, .int a3] s Q := by
  refine WpM.enter me_X9_broughtBy rfl rfl ?_
  show Y_X9_broughtBy_26_25 d Q 0 [(0, .ref 25), (1, .ref 26), (2, .int a2), (3, .int a3)] [] s
  unfold f_X9_broughtBy_26_25 at H
  refine Wp.run 3 (show room8 [] ∧ WpM SHC MT (d + 3) 55 [.ref 25, .int a2] s (fun v9 s9 => Y_X9_broughtBy_26_25 d Q 5 [(0, .ref 25), (1, .ref 26), (2, .int a2), (3, .int a3)] (v9.toList ++ []) s9) from ⟨rm8_ rfl, ?_⟩)
  refine w_X4_isGone (d := d + 2) _ ?_
  refine oq_bd H (fun r1 s2 H => ?_)
  show Y_X9_broughtBy_26_25 d Q 5 [(0, .ref 25), (1, .ref 26), (2, .int a2), (3, .int a3)] [.int r1] s2
  refine Wp.run 1 (show br (r1 = 0) (Y_X9_broughtBy_26_25 d Q 8 [(0, .ref 25), (1, .ref 26), (2, .int a2), (3, .int a3)] [] s2) (Y_X9_broughtBy_26_25 d Q 17 [(0, .ref 25), (1, .ref 26), (2, .int a2), (3, .int a3)] [] s2) from ⟨fun c9 => ?_, fun c9 => ?_⟩)
  · have H := oq_t c9 H
    obtain ⟨hc3, H⟩ := oq_ck H
    refine Wp.run 4 (show (vp_in a2 8) ∧ Y_X9_broughtBy_26_25 d Q 14 [(0, .ref 25), (1, .ref 26), (2, .int a2), (3, .int a3)] [.int (s2.1 42 a2.toNatClampNeg)] s2 from ⟨hc3, ?_⟩)
    refine Wp.run 1 (show br ((s2.1 42 a2.toNatClampNeg) ≤ 0) (Y_X9_broughtBy_26_25 d Q 19 [(0, .ref 25), (1, .ref 26), (2, .int a2), (3, .int a3)] [] s2) (Y_X9_broughtBy_26_25 d Q 17 [(0, .ref 25), (1, .ref 26), (2, .int a2), (3, .int a3)] [] s2) from ⟨fun c9 => ?_, fun c9 => ?_⟩)
    · have H := oq_t c9 H
      refine Wp.run 5 (show room8 [.int a2, .ref 25] ∧ WpM SHC MT (d + 3) 23 [.ref 26, .int a2] s2 (fun v9 s9 => Y_X9_broughtBy_26_25 d Q 26 [(0, .ref 25), (1, .ref 26), (2, .int a2), (3, .int a3)] (v9.toList ++ [.int a2, .ref 25]) s9) from ⟨rm8_ rfl, ?_⟩)
      refine w_X2_lying (d := d + 2) _ ?_
      refine oq_bd H (fun r4 s5 H => ?_)
      show Y_X9_broughtBy_26_25 d Q 26 [(0, .ref 25), (1, .ref 26), (2, .int a2), (3, .int a3)] [.int r4, .int a2, .ref 25] s5
      refine Wp.run 4 (show room8 [] ∧ WpM SHC MT (d + 3) 92 [.ref 25, .int a2, .int (r4 + a3), .int (-1)] s5 (fun v9 s9 => Y_X9_broughtBy_26_25 d Q 32 [(0, .ref 25), (1, .ref 26), (2, .int a2), (3, .int a3)] (v9.toList ++ []) s9) from ⟨rm8_ rfl, ?_⟩)
      refine w_X9_contentAt_25 (d := d + 1) _ _ _ ?_
      refine oq_bd H (fun r6 s7 H => ?_)
      show Y_X9_broughtBy_26_25 d Q 32 [(0, .ref 25), (1, .ref 26), (2, .int a2), (3, .int a3)] [.int r6] s7
      refine Wp.run 6 (show room8 [.int r6] ∧ WpM SHC MT (d + 3) 97 [.ref 25, .ref 26, .int a2] s7 (fun v9 s9 => Y_X9_broughtBy_26_25 d Q 42 [(4, .int r6), (0, .ref 25), (1, .ref 26), (2, .int a2), (3, .int a3)] (v9.toList ++ [.int r6]) s9) from ⟨rm8_ rfl, ?_⟩)
      refine w_X9_wantedAt_26_25 (d := d) _ ?_
      refine oq_bd H (fun r8 s9 H => ?_)
      show Y_X9_broughtBy_26_25 d Q 42 [(4, .int r6), (0, .ref 25), (1, .ref 26), (2, .int a2), (3, .int a3)] [.int r8, .int r6] s9
      refine Wp.run 2 (show room8 [] ∧ WpM SHC MT (d + 3) 330 [.int (r6 &&& r8)] s9 (fun v9 s9 => Y_X9_broughtBy_26_25 d Q 46 [(4, .int r6), (0, .ref 25), (1, .ref 26), (2, .int a2), (3, .int a3)] (v9.toList ++ []) s9) from ⟨rm8_ rfl, ?_⟩)
      refine w_bitCount (d := d + 2) _ ?_
      refine oq_bd H (fun r10 s11 H => ?_)
      show Y_X9_broughtBy_26_25 d Q 46 [(4, .int r6), (0, .ref 25), (1, .ref 26), (2, .int a2), (3, .int a3)] [.int r10] s11
      exact Wp.run 1 ⟨rfl, H⟩
    · have H := oq_f c9 H
      exact Wp.run 2 ⟨rfl, H⟩
  · have H := oq_f c9 H
    exact Wp.run 2 ⟨rfl, H⟩
abbrev Y_X9_bestFor_26_25 (d : Nat) (Q : Qt) : Xt := Wp SHC (WpM SHC MT (d + 4)) cd_X9_bestFor (some .int) Q
def f_X9_bestFor_26_25_b8 : Nat → Int32 → Int32 → Int32 → Int32 → Sg → Option (Int32 × Sg)
  | 0, _, _, _, _, _ => none
  | n + 1, v2, v3, v4, v5, s =>
    if (s.1 25 13) ≤ v5 then
      some (v3, s)
    else
      bd (f_X9_broughtBy_26_25 v5 v2 s) (fun r1 s2 =>
      if r1 ≤ v4 then
        (f_X9_bestFor_26_25_b8 n) v2 v3 v4 (v5 + 1) s2
      else
        (f_X9_bestFor_26_25_b8 n) v2 v5 r1 (v5 + 1) s2
      )
set_option maxRecDepth 100000 in
theorem w_X9_bestFor_26_25_b8 {d : Nat} {Q : Qt} (n : Nat) : ∀ (v2 : Int32) (v3 : Int32) (v4 : Int32) (v5 : Int32) (s : Sg), OQ (f_X9_bestFor_26_25_b8 n v2 v3 v4 v5 s) (fun r9 s9 => Q (some (.int r9)) s9) → Y_X9_bestFor_26_25 d Q 8 [(0, .ref 25), (1, .ref 26), (2, .int v2), (3, .int v3), (4, .int v4), (5, .int v5)] [] s := by
  induction n with
  | zero => intro v2 v3 v4 v5 s H; exact H.elim
  | succ n ih =>
    intro v2 v3 v4 v5 s H
    unfold f_X9_bestFor_26_25_b8 at H
    refine Wp.run 4 (show br ((s.1 25 13) ≤ v5) (Y_X9_bestFor_26_25 d Q 47 [(0, .ref 25), (1, .ref 26), (2, .int v2), (3, .int v3), (4, .int v4), (5, .int v5)] [] s) (Y_X9_bestFor_26_25 d Q 17 [(0, .ref 25), (1, .ref 26), (2, .int v2), (3, .int v3), (4, .int v4), (5, .int v5)] [] s) from ⟨fun c9 => ?_, fun c9 => ?_⟩)
    · have H := oq_t c9 H
      exact Wp.run 2 ⟨rfl, H⟩
    · have H := oq_f c9 H
      refine Wp.run 5 (show room8 [] ∧ WpM SHC MT (d + 4) 99 [.ref 25, .ref 26, .int v5, .int v2] s (fun v9 s9 => Y_X9_bestFor_26_25 d Q 25 [(0, .ref 25), (1, .ref 26), (2, .int v2), (3, .int v3), (4, .int v4), (5, .int v5)] (v9.toList ++ []) s9) from ⟨rm8_ rfl, ?_⟩)
      refine w_X9_broughtBy_26_25 (d := d) _ _ ?_
      refine oq_bd H (fun r1 s2 H => ?_)
      show Y_X9_bestFor_26_25 d Q 25 [(0, .ref 25), (1, .ref 26), (2, .int v2), (3, .int v3), (4, .int v4), (5, .int v5)] [.int r1] s2
      refine Wp.run 4 (show br (r1 ≤ v4) (Y_X9_bestFor_26_25 d Q 41 [(6, .int r1), (0, .ref 25), (1, .ref 26), (2, .int v2), (3, .int v3), (4, .int v4), (5, .int v5)] [] s2) (Y_X9_bestFor_26_25 d Q 34 [(6, .int r1), (0, .ref 25), (1, .ref 26), (2, .int v2), (3, .int v3), (4, .int v4), (5, .int v5)] [] s2) from ⟨fun c9 => ?_, fun c9 => ?_⟩)
      · have H := oq_t c9 H
        refine Wp.run 2 (show Y_X9_bestFor_26_25 d Q 8 [(5, .int (v5 + 1)), (6, .int r1), (0, .ref 25), (1, .ref 26), (2, .int v2), (3, .int v3), (4, .int v4)] [] s2 from ?_)
        refine Wp.weak [2, 3, 4, 5, 6, 0] (lv' := [(0, .ref 25), (1, .ref 26), (2, .int v2), (3, .int v3), (4, .int v4), (5, .int (v5 + 1))]) rfl ?_
        exact ih _ _ _ _ _ H
      · have H := oq_f c9 H
        refine Wp.run 6 (show Y_X9_bestFor_26_25 d Q 8 [(5, .int (v5 + 1)), (3, .int v5), (4, .int r1), (6, .int r1), (0, .ref 25), (1, .ref 26), (2, .int v2)] [] s2 from ?_)
        refine Wp.weak [4, 5, 6, 1, 2, 0] (lv' := [(0, .ref 25), (1, .ref 26), (2, .int v2), (3, .int v5), (4, .int r1), (5, .int (v5 + 1))]) rfl ?_
        exact ih _ _ _ _ _ H
def f_X9_bestFor_26_25 (a2 : Int32) (s : Sg) : Option (Int32 × Sg) :=
  f_X9_bestFor_26_25_b8 BIG a2 (-1) 0 0 s
set_option maxRecDepth 100000 in
theorem w_X9_bestFor_26_25 {d : Nat} {s : Sg} {Q : Qt} (a2 : Int32) (H : OQ (f_X9_bestFor_26_25 a2 s) (fun r9 s9 => Q (some (.int r9)) s9)) : WpM SHC MT (d + 5) 98 [.ref 25, .ref 26, .int a2] s Q := by
  refine WpM.enter me_X9_bestFor rfl rfl ?_
  show Y_X9_bestFor_26_25 d Q 0 [(0, .ref 25), (1, .ref 26), (2, .int a2)] [] s
  unfold f_X9_bestFor_26_25 at H
  refine Wp.run 6 (show Y_X9_bestFor_26_25 d Q 8 [(5, .int 0), (4, .int 0), (3, .int (-1)), (0, .ref 25), (1, .ref 26), (2, .int a2)] [] s from ?_)
  refine Wp.weak [3, 4, 5, 2, 1, 0] (lv' := [(0, .ref 25), (1, .ref 26), (2, .int a2), (3, .int (-1)), (4, .int 0), (5, .int 0)]) rfl ?_
  exact w_X9_bestFor_26_25_b8 _ _ _ _ _ _ H
abbrev Y_X11_best (d : Nat) (Q : Qt) : Xt := Wp SHC (WpM SHC MT (d + 5)) cd_X11_best (some .int) Q
def f_X11_best (a1 : Int32) (s : Sg) : Option (Int32 × Sg) :=
  bd (f_X11_within a1 1 999 s) (fun r1 s2 =>
  if r1 = 0 then
    bd (f_X11_refuse 1 s2) (fun r3 s4 =>
    some (r3, s4)
    )
  else
    bd (f_X9_bestFor_26_25 a1 s2) (fun r5 s6 =>
    bd (f_X11_answerIfAny r5 s6) (fun r7 s8 =>
    some (r7, s8)
    )
    )
  )
set_option maxRecDepth 100000 in
theorem w_X11_best {d : Nat} {s : Sg} {Q : Qt} (a1 : Int32) (H : OQ (f_X11_best a1 s) (fun r9 s9 => Q (some (.int r9)) s9)) : WpM SHC MT (d + 6) 139 [.ref 0, .int a1] s Q := by
  refine WpM.enter me_X11_best rfl rfl ?_
  show Y_X11_best d Q 0 [(0, .ref 0), (1, .int a1)] [] s
  unfold f_X11_best at H
  refine Wp.run 4 (show room8 [] ∧ WpM SHC MT (d + 5) 169 [.int a1, .int 1, .int 999] s (fun v9 s9 => Y_X11_best d Q 8 [(0, .ref 0), (1, .int a1)] (v9.toList ++ []) s9) from ⟨rm8_ rfl, ?_⟩)
  refine w_X11_within (d := d + 4) _ _ _ ?_
  refine oq_bd H (fun r1 s2 H => ?_)
  show Y_X11_best d Q 8 [(0, .ref 0), (1, .int a1)] [.int r1] s2
  refine Wp.run 1 (show br (r1 = 0) (Y_X11_best d Q 11 [(0, .ref 0), (1, .int a1)] [] s2) (Y_X11_best d Q 17 [(0, .ref 0), (1, .int a1)] [] s2) from ⟨fun c9 => ?_, fun c9 => ?_⟩)
  · have H := oq_t c9 H
    refine Wp.run 3 (show room8 [] ∧ WpM SHC MT (d + 5) 166 [.ref 0, .int 1] s2 (fun v9 s9 => Y_X11_best d Q 16 [(0, .ref 0), (1, .int a1)] (v9.toList ++ []) s9) from ⟨rm8_ rfl, ?_⟩)
    refine w_X11_refuse (d := d + 4) _ ?_
    refine oq_bd H (fun r3 s4 H => ?_)
    show Y_X11_best d Q 16 [(0, .ref 0), (1, .int a1)] [.int r3] s4
    exact Wp.run 1 ⟨rfl, H⟩
  · have H := oq_f c9 H
    refine Wp.run 7 (show room8 [.ref 0] ∧ WpM SHC MT (d + 5) 98 [.ref 25, .ref 26, .int a1] s2 (fun v9 s9 => Y_X11_best d Q 30 [(0, .ref 0), (1, .int a1)] (v9.toList ++ [.ref 0]) s9) from ⟨rm8_ rfl, ?_⟩)
    refine w_X9_bestFor_26_25 (d := d) _ ?_
    refine oq_bd H (fun r5 s6 H => ?_)
    show Y_X11_best d Q 30 [(0, .ref 0), (1, .int a1)] [.int r5, .ref 0] s6
    refine Wp.run 1 (show room8 [] ∧ WpM SHC MT (d + 5) 165 [.ref 0, .int r5] s6 (fun v9 s9 => Y_X11_best d Q 33 [(0, .ref 0), (1, .int a1)] (v9.toList ++ []) s9) from ⟨rm8_ rfl, ?_⟩)
    refine w_X11_answerIfAny (d := d + 3) _ ?_
    refine oq_bd H (fun r7 s8 H => ?_)
    show Y_X11_best d Q 33 [(0, .ref 0), (1, .int a1)] [.int r7] s8
    exact Wp.run 1 ⟨rfl, H⟩
abbrev Y_X11_clearRow_20 (d : Nat) (Q : Qt) : Xt := Wp SHC (WpM SHC MT (d + 0)) cd_X11_clearRow (none) Q
def f_X11_clearRow_20_b2 : Nat → Int32 → Sg → Option (Unit × Sg)
  | 0, _, _ => none
  | n + 1, v1, s =>
    if 8 ≤ v1 then
      some ((), s)
    else
      ck (inr v1 8) (
      (f_X11_clearRow_20_b2 n) (v1 + 1) (pI s 20 v1.toNatClampNeg 0)
      )
set_option maxRecDepth 100000 in
theorem w_X11_clearRow_20_b2 {d : Nat} {Q : Qt} (n : Nat) : ∀ (v1 : Int32) (s : Sg), OQ (f_X11_clearRow_20_b2 n v1 s) (fun _ s9 => Q none s9) → Y_X11_clearRow_20 d Q 2 [(0, .ref 20), (1, .int v1)] [] s := by
  induction n with
  | zero => intro v1 s H; exact H.elim
  | succ n ih =>
    intro v1 s H
    unfold f_X11_clearRow_20_b2 at H
    refine Wp.run 4 (show br (8 ≤ v1) (Y_X11_clearRow_20 d Q 18 [(0, .ref 20), (1, .int v1)] [] s) (Y_X11_clearRow_20 d Q 8 [(0, .ref 20), (1, .int v1)] [] s) from ⟨fun c9 => ?_, fun c9 => ?_⟩)
    · have H := oq_t c9 H
      exact Wp.run 1 H
    · have H := oq_f c9 H
      obtain ⟨hc1, H⟩ := oq_ck H
      refine Wp.run 4 (show (vp_in v1 8) ∧ Y_X11_clearRow_20 d Q 12 [(0, .ref 20), (1, .int v1)] [] (pI s 20 v1.toNatClampNeg 0) from ⟨hc1, ?_⟩)
      refine Wp.run 2 (show Y_X11_clearRow_20 d Q 2 [(1, .int (v1 + 1)), (0, .ref 20)] [] (pI s 20 v1.toNatClampNeg 0) from ?_)
      refine Wp.weak [1, 0] (lv' := [(0, .ref 20), (1, .int (v1 + 1))]) rfl ?_
      exact ih _ _ H
def f_X11_clearRow_20  (s : Sg) : Option (Unit × Sg) :=
  f_X11_clearRow_20_b2 BIG 0 s
set_option maxRecDepth 100000 in
theorem w_X11_clearRow_20 {d : Nat} {s : Sg} {Q : Qt}  (H : OQ (f_X11_clearRow_20  s) (fun _ s9 => Q none s9)) : WpM SHC MT (d + 1) 185 [.ref 20] s Q := by
  refine WpM.enter me_X11_clearRow rfl rfl ?_
  show Y_X11_clearRow_20 d Q 0 [(0, .ref 20)] [] s
  unfold f_X11_clearRow_20 at H
  refine Wp.run 2 (show Y_X11_clearRow_20 d Q 2 [(1, .int 0), (0, .ref 20)] [] s from ?_)
  refine Wp.weak [1, 0] (lv' := [(0, .ref 20), (1, .int 0)]) rfl ?_
  exact w_X11_clearRow_20_b2 _ _ _ H
abbrev Y_X0_askFor_25 (d : Nat) (Q : Qt) : Xt := Wp SHC (WpM SHC MT (d + 1)) cd_X0_askFor (none) Q
def f_X0_askFor_25_b9 : Nat → Int32 → Int32 → Sg → Option (Unit × Sg)
  | 0, _, _, _ => none
  | n + 1, v2, v3, s =>
    if (s.1 25 14) ≤ v3 then
      some ((), s)
    else
      bd (f_X11_has v2 v3 s) (fun r3 s4 =>
      if r3 = 0 then
        (f_X0_askFor_25_b9 n) v2 (v3 + 1) s4
      else
        ck (inr v3 8) (
        ck (inr (s4.1 31 v3.toNatClampNeg) 8) (
        nmx (pI s4 20 ((s4.1 31 v3.toNatClampNeg).toNatClampNeg) ((s4.1 20 ((s4.1 31 v3.toNatClampNeg).toNatClampNeg)) + (s4.1 33 v3.toNatClampNeg))) (fun s7 =>
        ck (inr (s7.1 32 v3.toNatClampNeg) 8) (
        nmx (pI s7 20 ((s7.1 32 v3.toNatClampNeg).toNatClampNeg) ((s7.1 20 ((s7.1 32 v3.toNatClampNeg).toNatClampNeg)) + (s7.1 33 v3.toNatClampNeg))) (fun s9 =>
        (f_X0_askFor_25_b9 n) v2 (v3 + 1) s9
        )
        )
        )
        )
        )
      )
set_option maxRecDepth 100000 in
theorem w_X0_askFor_25_b9 {d : Nat} {Q : Qt} (n : Nat) : ∀ (v2 : Int32) (v3 : Int32) (s : Sg), OQ (f_X0_askFor_25_b9 n v2 v3 s) (fun _ s9 => Q none s9) → Y_X0_askFor_25 d Q 9 [(0, .ref 6), (1, .ref 25), (2, .int v2), (3, .int v3)] [] s := by
  induction n with
  | zero => intro v2 v3 s H; exact H.elim
  | succ n ih =>
    intro v2 v3 s H
    unfold f_X0_askFor_25_b9 at H
    refine Wp.run 4 (show br ((s.1 25 14) ≤ v3) (Y_X0_askFor_25 d Q 71 [(0, .ref 6), (1, .ref 25), (2, .int v2), (3, .int v3)] [] s) (Y_X0_askFor_25 d Q 17 [(0, .ref 6), (1, .ref 25), (2, .int v2), (3, .int v3)] [] s) from ⟨fun c9 => ?_, fun c9 => ?_⟩)
    · have H := oq_t c9 H
      exact Wp.run 1 H
    · have H := oq_f c9 H
      refine Wp.run 3 (show room8 [] ∧ WpM SHC MT (d + 1) 170 [.int v2, .int v3] s (fun v9 s9 => Y_X0_askFor_25 d Q 22 [(0, .ref 6), (1, .ref 25), (2, .int v2), (3, .int v3)] (v9.toList ++ []) s9) from ⟨rm8_ rfl, ?_⟩)
      refine w_X11_has (d := d) _ _ ?_
      refine oq_bd H (fun r3 s4 H => ?_)
      show Y_X0_askFor_25 d Q 22 [(0, .ref 6), (1, .ref 25), (2, .int v2), (3, .int v3)] [.int r3] s4
      refine Wp.run 1 (show br (r3 = 0) (Y_X0_askFor_25 d Q 65 [(0, .ref 6), (1, .ref 25), (2, .int v2), (3, .int v3)] [] s4) (Y_X0_askFor_25 d Q 25 [(0, .ref 6), (1, .ref 25), (2, .int v2), (3, .int v3)] [] s4) from ⟨fun c9 => ?_, fun c9 => ?_⟩)
      · have H := oq_t c9 H
        refine Wp.run 2 (show Y_X0_askFor_25 d Q 9 [(3, .int (v3 + 1)), (0, .ref 6), (1, .ref 25), (2, .int v2)] [] s4 from ?_)
        refine Wp.weak [1, 2, 3, 0] (lv' := [(0, .ref 6), (1, .ref 25), (2, .int v2), (3, .int (v3 + 1))]) rfl ?_
        exact ih _ _ _ H
      · have H := oq_f c9 H
        obtain ⟨hc5, H⟩ := oq_ck H
        refine Wp.run 6 (show (vp_in v3 8) ∧ Y_X0_askFor_25 d Q 35 [(0, .ref 6), (1, .ref 25), (2, .int v2), (3, .int v3)] [.int (s4.1 31 v3.toNatClampNeg), .ref 20] s4 from ⟨hc5, ?_⟩)
        obtain ⟨hc6, H⟩ := oq_ck H
        refine Wp.run 2 (show (vp_in (s4.1 31 v3.toNatClampNeg) 8) ∧ Y_X0_askFor_25 d Q 37 [(0, .ref 6), (1, .ref 25), (2, .int v2), (3, .int v3)] [.int (s4.1 20 ((s4.1 31 v3.toNatClampNeg).toNatClampNeg)), .int (s4.1 31 v3.toNatClampNeg), .ref 20] s4 from ⟨hc6, ?_⟩)
        refine Wp.run 4 (show (vp_in v3 8) ∧ Y_X0_askFor_25 d Q 43 [(0, .ref 6), (1, .ref 25), (2, .int v2), (3, .int v3)] [.int (s4.1 33 v3.toNatClampNeg), .int (s4.1 20 ((s4.1 31 v3.toNatClampNeg).toNatClampNeg)), .int (s4.1 31 v3.toNatClampNeg), .ref 20] s4 from ⟨hc5, ?_⟩)
        refine Wp.run 2 (show (vp_in (s4.1 31 v3.toNatClampNeg) 8) ∧ Y_X0_askFor_25 d Q 45 [(0, .ref 6), (1, .ref 25), (2, .int v2), (3, .int v3)] [] (pI s4 20 ((s4.1 31 v3.toNatClampNeg).toNatClampNeg) ((s4.1 20 ((s4.1 31 v3.toNatClampNeg).toNatClampNeg)) + (s4.1 33 v3.toNatClampNeg))) from ⟨hc6, ?_⟩)
        revert H
        generalize pI s4 20 ((s4.1 31 v3.toNatClampNeg).toNatClampNeg) ((s4.1 20 ((s4.1 31 v3.toNatClampNeg).toNatClampNeg)) + (s4.1 33 v3.toNatClampNeg)) = s7
        intro H
        have H := nmx_e H
        refine Wp.run 6 (show (vp_in v3 8) ∧ Y_X0_askFor_25 d Q 55 [(0, .ref 6), (1, .ref 25), (2, .int v2), (3, .int v3)] [.int (s7.1 32 v3.toNatClampNeg), .ref 20] s7 from ⟨hc5, ?_⟩)
        obtain ⟨hc8, H⟩ := oq_ck H
        refine Wp.run 2 (show (vp_in (s7.1 32 v3.toNatClampNeg) 8) ∧ Y_X0_askFor_25 d Q 57 [(0, .ref 6), (1, .ref 25), (2, .int v2), (3, .int v3)] [.int (s7.1 20 ((s7.1 32 v3.toNatClampNeg).toNatClampNeg)), .int (s7.1 32 v3.toNatClampNeg), .ref 20] s7 from ⟨hc8, ?_⟩)
        refine Wp.run 4 (show (vp_in v3 8) ∧ Y_X0_askFor_25 d Q 63 [(0, .ref 6), (1, .ref 25), (2, .int v2), (3, .int v3)] [.int (s7.1 33 v3.toNatClampNeg), .int (s7.1 20 ((s7.1 32 v3.toNatClampNeg).toNatClampNeg)), .int (s7.1 32 v3.toNatClampNeg), .ref 20] s7 from ⟨hc5, ?_⟩)
        refine Wp.run 2 (show (vp_in (s7.1 32 v3.toNatClampNeg) 8) ∧ Y_X0_askFor_25 d Q 65 [(0, .ref 6), (1, .ref 25), (2, .int v2), (3, .int v3)] [] (pI s7 20 ((s7.1 32 v3.toNatClampNeg).toNatClampNeg) ((s7.1 20 ((s7.1 32 v3.toNatClampNeg).toNatClampNeg)) + (s7.1 33 v3.toNatClampNeg))) from ⟨hc8, ?_⟩)
        revert H
        generalize pI s7 20 ((s7.1 32 v3.toNatClampNeg).toNatClampNeg) ((s7.1 20 ((s7.1 32 v3.toNatClampNeg).toNatClampNeg)) + (s7.1 33 v3.toNatClampNeg)) = s9
        intro H
        have H := nmx_e H
        refine Wp.run 2 (show Y_X0_askFor_25 d Q 9 [(3, .int (v3 + 1)), (0, .ref 6), (1, .ref 25), (2, .int v2)] [] s9 from ?_)
        refine Wp.weak [1, 2, 3, 0] (lv' := [(0, .ref 6), (1, .ref 25), (2, .int v2), (3, .int (v3 + 1))]) rfl ?_
        exact ih _ _ _ H
def f_X0_askFor_25 (a2 : Int32) (s : Sg) : Option (Unit × Sg) :=
  bd (f_X11_clearRow_20 s) (fun _ s2 =>
  f_X0_askFor_25_b9 BIG a2 0 s2
  )
set_option maxRecDepth 100000 in
theorem w_X0_askFor_25 {d : Nat} {s : Sg} {Q : Qt} (a2 : Int32) (H : OQ (f_X0_askFor_25 a2 s) (fun _ s9 => Q none s9)) : WpM SHC MT (d + 2) 2 [.ref 6, .ref 25, .int a2] s Q := by
  refine WpM.enter me_X0_askFor rfl rfl ?_
  show Y_X0_askFor_25 d Q 0 [(0, .ref 6), (1, .ref 25), (2, .int a2)] [] s
  unfold f_X0_askFor_25 at H
  refine Wp.run 3 (show room8 [] ∧ WpM SHC MT (d + 1) 185 [.ref 20] s (fun v9 s9 => Y_X0_askFor_25 d Q 7 [(0, .ref 6), (1, .ref 25), (2, .int a2)] (v9.toList ++ []) s9) from ⟨rm8_ rfl, ?_⟩)
  refine w_X11_clearRow_20 (d := d)  ?_
  refine oq_bd H (fun _ s2 H => ?_)
  show Y_X0_askFor_25 d Q 7 [(0, .ref 6), (1, .ref 25), (2, .int a2)] [] s2
  refine Wp.run 2 (show Y_X0_askFor_25 d Q 9 [(3, .int 0), (0, .ref 6), (1, .ref 25), (2, .int a2)] [] s2 from ?_)
  refine Wp.weak [1, 2, 3, 0] (lv' := [(0, .ref 6), (1, .ref 25), (2, .int a2), (3, .int 0)]) rfl ?_
  exact w_X0_askFor_25_b9 _ _ _ _ H
abbrev Y_X0_lackOnStep_25_26 (d : Nat) (Q : Qt) : Xt := Wp SHC (WpM SHC MT (d + 2)) cd_X0_lackOnStep (some .int) Q
def f_X0_lackOnStep_25_26 (a3 : Int32) (a4 : Int32) (s : Sg) : Option (Int32 × Sg) :=
  bd (f_X0_askFor_25 a3 s) (fun _ s2 =>
  ck (inr a4 8) (
  bd (f_X2_lying a4 s2) (fun r4 s5 =>
  some (if 0 < ((s2.1 20 a4.toNatClampNeg) - r4) then ((s2.1 20 a4.toNatClampNeg) - r4) else 0, s5)
  )
  )
  )
set_option maxRecDepth 100000 in
theorem w_X0_lackOnStep_25_26 {d : Nat} {s : Sg} {Q : Qt} (a3 : Int32) (a4 : Int32) (H : OQ (f_X0_lackOnStep_25_26 a3 a4 s) (fun r9 s9 => Q (some (.int r9)) s9)) : WpM SHC MT (d + 3) 4 [.ref 6, .ref 25, .ref 26, .int a3, .int a4] s Q := by
  refine WpM.enter me_X0_lackOnStep rfl rfl ?_
  show Y_X0_lackOnStep_25_26 d Q 0 [(0, .ref 6), (1, .ref 25), (2, .ref 26), (3, .int a3), (4, .int a4)] [] s
  unfold f_X0_lackOnStep_25_26 at H
  refine Wp.run 4 (show room8 [] ∧ WpM SHC MT (d + 2) 2 [.ref 6, .ref 25, .int a3] s (fun v9 s9 => Y_X0_lackOnStep_25_26 d Q 6 [(0, .ref 6), (1, .ref 25), (2, .ref 26), (3, .int a3), (4, .int a4)] (v9.toList ++ []) s9) from ⟨rm8_ rfl, ?_⟩)
  refine w_X0_askFor_25 (d := d) _ ?_
  refine oq_bd H (fun _ s2 H => ?_)
  show Y_X0_lackOnStep_25_26 d Q 6 [(0, .ref 6), (1, .ref 25), (2, .ref 26), (3, .int a3), (4, .int a4)] [] s2
  obtain ⟨hc3, H⟩ := oq_ck H
  refine Wp.run 5 (show (vp_in a4 8) ∧ Y_X0_lackOnStep_25_26 d Q 14 [(0, .ref 6), (1, .ref 25), (2, .ref 26), (3, .int a3), (4, .int a4)] [.int (s2.1 20 a4.toNatClampNeg), .int 0] s2 from ⟨hc3, ?_⟩)
  refine Wp.run 3 (show room8 [.int (s2.1 20 a4.toNatClampNeg), .int 0] ∧ WpM SHC MT (d + 2) 23 [.ref 26, .int a4] s2 (fun v9 s9 => Y_X0_lackOnStep_25_26 d Q 20 [(0, .ref 6), (1, .ref 25), (2, .ref 26), (3, .int a3), (4, .int a4)] (v9.toList ++ [.int (s2.1 20 a4.toNatClampNeg), .int 0]) s9) from ⟨rm8_ rfl, ?_⟩)
  refine w_X2_lying (d := d + 1) _ ?_
  refine oq_bd H (fun r4 s5 H => ?_)
  show Y_X0_lackOnStep_25_26 d Q 20 [(0, .ref 6), (1, .ref 25), (2, .ref 26), (3, .int a3), (4, .int a4)] [.int r4, .int (s2.1 20 a4.toNatClampNeg), .int 0] s5
  refine Wp.run 2 (show room8 [] ∧ Y_X0_lackOnStep_25_26 d Q 24 [(0, .ref 6), (1, .ref 25), (2, .ref 26), (3, .int a3), (4, .int a4)] [.int (if 0 < ((s2.1 20 a4.toNatClampNeg) - r4) then ((s2.1 20 a4.toNatClampNeg) - r4) else 0)] s5 from ⟨rm8_ rfl, ?_⟩)
  exact Wp.run 1 ⟨rfl, H⟩
abbrev Y_X0_lackOf_25_26 (d : Nat) (Q : Qt) : Xt := Wp SHC (WpM SHC MT (d + 3)) cd_X0_lackOf (some .int) Q
def f_X0_lackOf_25_26_b17 : Nat → Int32 → Int32 → Int32 → Sg → Option (Int32 × Sg)
  | 0, _, _, _, _ => none
  | n + 1, v3, v4, v5, s =>
    if (s.1 25 13) ≤ v5 then
      some (v4, s)
    else
      bd (f_X4_isGone v5 s) (fun r3 s4 =>
      if r3 = 0 then
        bd (f_X0_lackOnStep_25_26 v3 v5 s4) (fun r5 s6 =>
        (f_X0_lackOf_25_26_b17 n) v3 (v4 + r5) (v5 + 1) s6
        )
      else
        (f_X0_lackOf_25_26_b17 n) v3 v4 (v5 + 1) s4
      )
set_option maxRecDepth 100000 in
theorem w_X0_lackOf_25_26_b17 {d : Nat} {Q : Qt} (n : Nat) : ∀ (v3 : Int32) (v4 : Int32) (v5 : Int32) (s : Sg), OQ (f_X0_lackOf_25_26_b17 n v3 v4 v5 s) (fun r9 s9 => Q (some (.int r9)) s9) → Y_X0_lackOf_25_26 d Q 17 [(0, .ref 6), (1, .ref 25), (2, .ref 26), (3, .int v3), (4, .int v4), (5, .int v5)] [] s := by
  induction n with
  | zero => intro v3 v4 v5 s H; exact H.elim
  | succ n ih =>
    intro v3 v4 v5 s H
    unfold f_X0_lackOf_25_26_b17 at H
    refine Wp.run 4 (show br ((s.1 25 13) ≤ v5) (Y_X0_lackOf_25_26 d Q 55 [(0, .ref 6), (1, .ref 25), (2, .ref 26), (3, .int v3), (4, .int v4), (5, .int v5)] [] s) (Y_X0_lackOf_25_26 d Q 26 [(0, .ref 6), (1, .ref 25), (2, .ref 26), (3, .int v3), (4, .int v4), (5, .int v5)] [] s) from ⟨fun c9 => ?_, fun c9 => ?_⟩)
    · have H := oq_t c9 H
      exact Wp.run 2 ⟨rfl, H⟩
    · have H := oq_f c9 H
      refine Wp.run 3 (show room8 [] ∧ WpM SHC MT (d + 3) 55 [.ref 25, .int v5] s (fun v9 s9 => Y_X0_lackOf_25_26 d Q 32 [(0, .ref 6), (1, .ref 25), (2, .ref 26), (3, .int v3), (4, .int v4), (5, .int v5)] (v9.toList ++ []) s9) from ⟨rm8_ rfl, ?_⟩)
      refine w_X4_isGone (d := d + 2) _ ?_
      refine oq_bd H (fun r3 s4 H => ?_)
      show Y_X0_lackOf_25_26 d Q 32 [(0, .ref 6), (1, .ref 25), (2, .ref 26), (3, .int v3), (4, .int v4), (5, .int v5)] [.int r3] s4
      refine Wp.run 1 (show br (r3 = 0) (Y_X0_lackOf_25_26 d Q 35 [(0, .ref 6), (1, .ref 25), (2, .ref 26), (3, .int v3), (4, .int v4), (5, .int v5)] [] s4) (Y_X0_lackOf_25_26 d Q 49 [(0, .ref 6), (1, .ref 25), (2, .ref 26), (3, .int v3), (4, .int v4), (5, .int v5)] [] s4) from ⟨fun c9 => ?_, fun c9 => ?_⟩)
      · have H := oq_t c9 H
        refine Wp.run 7 (show room8 [.int v4] ∧ WpM SHC MT (d + 3) 4 [.ref 6, .ref 25, .ref 26, .int v3, .int v5] s4 (fun v9 s9 => Y_X0_lackOf_25_26 d Q 46 [(0, .ref 6), (1, .ref 25), (2, .ref 26), (3, .int v3), (4, .int v4), (5, .int v5)] (v9.toList ++ [.int v4]) s9) from ⟨rm8_ rfl, ?_⟩)
        refine w_X0_lackOnStep_25_26 (d := d) _ _ ?_
        refine oq_bd H (fun r5 s6 H => ?_)
        show Y_X0_lackOf_25_26 d Q 46 [(0, .ref 6), (1, .ref 25), (2, .ref 26), (3, .int v3), (4, .int v4), (5, .int v5)] [.int r5, .int v4] s6
        refine Wp.run 4 (show Y_X0_lackOf_25_26 d Q 17 [(5, .int (v5 + 1)), (4, .int (v4 + r5)), (0, .ref 6), (1, .ref 25), (2, .ref 26), (3, .int v3)] [] s6 from ?_)
        refine Wp.weak [2, 3, 4, 5, 1, 0] (lv' := [(0, .ref 6), (1, .ref 25), (2, .ref 26), (3, .int v3), (4, .int (v4 + r5)), (5, .int (v5 + 1))]) rfl ?_
        exact ih _ _ _ _ H
      · have H := oq_f c9 H
        refine Wp.run 2 (show Y_X0_lackOf_25_26 d Q 17 [(5, .int (v5 + 1)), (0, .ref 6), (1, .ref 25), (2, .ref 26), (3, .int v3), (4, .int v4)] [] s4 from ?_)
        refine Wp.weak [1, 2, 3, 4, 5, 0] (lv' := [(0, .ref 6), (1, .ref 25), (2, .ref 26), (3, .int v3), (4, .int v4), (5, .int (v5 + 1))]) rfl ?_
        exact ih _ _ _ _ H
def f_X0_lackOf_25_26 (a3 : Int32) (s : Sg) : Option (Int32 × Sg) :=
  bd (f_X4_withoutHope s) (fun r1 s2 =>
  if (a3 &&& r1) = 0 then
    f_X0_lackOf_25_26_b17 BIG a3 0 0 s2
  else
    some ((-1), s2)
  )
set_option maxRecDepth 100000 in
theorem w_X0_lackOf_25_26 {d : Nat} {s : Sg} {Q : Qt} (a3 : Int32) (H : OQ (f_X0_lackOf_25_26 a3 s) (fun r9 s9 => Q (some (.int r9)) s9)) : WpM SHC MT (d + 4) 3 [.ref 6, .ref 25, .ref 26, .int a3] s Q := by
  refine WpM.enter me_X0_lackOf rfl rfl ?_
  show Y_X0_lackOf_25_26 d Q 0 [(0, .ref 6), (1, .ref 25), (2, .ref 26), (3, .int a3)] [] s
  unfold f_X0_lackOf_25_26 at H
  refine Wp.run 3 (show room8 [.int a3] ∧ WpM SHC MT (d + 3) 58 [.ref 25] s (fun v9 s9 => Y_X0_lackOf_25_26 d Q 5 [(0, .ref 6), (1, .ref 25), (2, .ref 26), (3, .int a3)] (v9.toList ++ [.int a3]) s9) from ⟨rm8_ rfl, ?_⟩)
  refine w_X4_withoutHope (d := d + 1)  ?_
  refine oq_bd H (fun r1 s2 H => ?_)
  show Y_X0_lackOf_25_26 d Q 5 [(0, .ref 6), (1, .ref 25), (2, .ref 26), (3, .int a3)] [.int r1, .int a3] s2
  refine Wp.run 2 (show br ((a3 &&& r1) = 0) (Y_X0_lackOf_25_26 d Q 11 [(0, .ref 6), (1, .ref 25), (2, .ref 26), (3, .int a3)] [] s2) (Y_X0_lackOf_25_26 d Q 9 [(0, .ref 6), (1, .ref 25), (2, .ref 26), (3, .int a3)] [] s2) from ⟨fun c9 => ?_, fun c9 => ?_⟩)
  · have H := oq_t c9 H
    refine Wp.run 4 (show Y_X0_lackOf_25_26 d Q 17 [(5, .int 0), (4, .int 0), (0, .ref 6), (1, .ref 25), (2, .ref 26), (3, .int a3)] [] s2 from ?_)
    refine Wp.weak [2, 3, 4, 5, 1, 0] (lv' := [(0, .ref 6), (1, .ref 25), (2, .ref 26), (3, .int a3), (4, .int 0), (5, .int 0)]) rfl ?_
    exact w_X0_lackOf_25_26_b17 _ _ _ _ _ H
  · have H := oq_f c9 H
    exact Wp.run 2 ⟨rfl, H⟩
abbrev Y_X11_closest (d : Nat) (Q : Qt) : Xt := Wp SHC (WpM SHC MT (d + 4)) cd_X11_closest (some .int) Q
def f_X11_closest_b40 : Nat → Int32 → Int32 → Int32 → Int32 → Sg → Option (Int32 × Sg)
  | 0, _, _, _, _, _ => none
  | n + 1, v1, v2, v3, v4, s =>
    if (s.1 25 14) ≤ v4 then
      bd (f_X11_answerIfAny v2 s) (fun r8 s9 =>
      some (r8, s9)
      )
    else
      bd (f_X11_has v1 v4 s) (fun r10 s11 =>
      if r10 = 0 then
        (f_X11_closest_b40 n) v1 v2 v3 (v4 + 1) s11
      else
        bd (f_X0_lackOf_25_26 ((1 : Int32) <<< (v4 &&& 31)) s11) (fun r12 s13 =>
        if v2 = (-1) then
          (f_X11_closest_b40 n) v1 v4 r12 (v4 + 1) s13
        else
          if v3 ≤ r12 then
            (f_X11_closest_b40 n) v1 v2 v3 (v4 + 1) s13
          else
            (f_X11_closest_b40 n) v1 v4 r12 (v4 + 1) s13
        )
      )
set_option maxRecDepth 100000 in
theorem w_X11_closest_b40 {d : Nat} {Q : Qt} (n : Nat) : ∀ (v1 : Int32) (v2 : Int32) (v3 : Int32) (v4 : Int32) (s : Sg), OQ (f_X11_closest_b40 n v1 v2 v3 v4 s) (fun r9 s9 => Q (some (.int r9)) s9) → Y_X11_closest d Q 40 [(0, .ref 0), (1, .int v1), (2, .int v2), (3, .int v3), (4, .int v4)] [] s := by
  induction n with
  | zero => intro v1 v2 v3 v4 s H; exact H.elim
  | succ n ih =>
    intro v1 v2 v3 v4 s H
    unfold f_X11_closest_b40 at H
    refine Wp.run 5 (show br ((s.1 25 14) ≤ v4) (Y_X11_closest d Q 105 [(0, .ref 0), (1, .int v1), (2, .int v2), (3, .int v3), (4, .int v4)] [] s) (Y_X11_closest d Q 52 [(0, .ref 0), (1, .int v1), (2, .int v2), (3, .int v3), (4, .int v4)] [] s) from ⟨fun c9 => ?_, fun c9 => ?_⟩)
    · have H := oq_t c9 H
      refine Wp.run 3 (show room8 [] ∧ WpM SHC MT (d + 4) 165 [.ref 0, .int v2] s (fun v9 s9 => Y_X11_closest d Q 110 [(0, .ref 0), (1, .int v1), (2, .int v2), (3, .int v3), (4, .int v4)] (v9.toList ++ []) s9) from ⟨rm8_ rfl, ?_⟩)
      refine w_X11_answerIfAny (d := d + 2) _ ?_
      refine oq_bd H (fun r8 s9 H => ?_)
      show Y_X11_closest d Q 110 [(0, .ref 0), (1, .int v1), (2, .int v2), (3, .int v3), (4, .int v4)] [.int r8] s9
      exact Wp.run 1 ⟨rfl, H⟩
    · have H := oq_f c9 H
      refine Wp.run 3 (show room8 [] ∧ WpM SHC MT (d + 4) 170 [.int v1, .int v4] s (fun v9 s9 => Y_X11_closest d Q 58 [(0, .ref 0), (1, .int v1), (2, .int v2), (3, .int v3), (4, .int v4)] (v9.toList ++ []) s9) from ⟨rm8_ rfl, ?_⟩)
      refine w_X11_has (d := d + 3) _ _ ?_
      refine oq_bd H (fun r10 s11 H => ?_)
      show Y_X11_closest d Q 58 [(0, .ref 0), (1, .int v1), (2, .int v2), (3, .int v3), (4, .int v4)] [.int r10] s11
      refine Wp.run 1 (show br (r10 = 0) (Y_X11_closest d Q 99 [(0, .ref 0), (1, .int v1), (2, .int v2), (3, .int v3), (4, .int v4)] [] s11) (Y_X11_closest d Q 61 [(0, .ref 0), (1, .int v1), (2, .int v2), (3, .int v3), (4, .int v4)] [] s11) from ⟨fun c9 => ?_, fun c9 => ?_⟩)
      · have H := oq_t c9 H
        refine Wp.run 2 (show Y_X11_closest d Q 40 [(4, .int (v4 + 1)), (0, .ref 0), (1, .int v1), (2, .int v2), (3, .int v3)] [] s11 from ?_)
        refine Wp.weak [1, 2, 3, 4, 0] (lv' := [(0, .ref 0), (1, .int v1), (2, .int v2), (3, .int v3), (4, .int (v4 + 1))]) rfl ?_
        exact ih _ _ _ _ _ H
      · have H := oq_f c9 H
        refine Wp.run 10 (show room8 [] ∧ WpM SHC MT (d + 4) 3 [.ref 6, .ref 25, .ref 26, .int ((1 : Int32) <<< (v4 &&& 31))] s11 (fun v9 s9 => Y_X11_closest d Q 80 [(0, .ref 0), (1, .int v1), (2, .int v2), (3, .int v3), (4, .int v4)] (v9.toList ++ []) s9) from ⟨rm8_ rfl, ?_⟩)
        refine w_X0_lackOf_25_26 (d := d) _ ?_
        refine oq_bd H (fun r12 s13 H => ?_)
        show Y_X11_closest d Q 80 [(0, .ref 0), (1, .int v1), (2, .int v2), (3, .int v3), (4, .int v4)] [.int r12] s13
        refine Wp.run 4 (show br (v2 = (-1)) (Y_X11_closest d Q 93 [(5, .int r12), (0, .ref 0), (1, .int v1), (2, .int v2), (3, .int v3), (4, .int v4)] [] s13) (Y_X11_closest d Q 87 [(5, .int r12), (0, .ref 0), (1, .int v1), (2, .int v2), (3, .int v3), (4, .int v4)] [] s13) from ⟨fun c9 => ?_, fun c9 => ?_⟩)
        · have H := oq_t c9 H
          refine Wp.run 6 (show Y_X11_closest d Q 40 [(4, .int (v4 + 1)), (3, .int r12), (2, .int v4), (5, .int r12), (0, .ref 0), (1, .int v1)] [] s13 from ?_)
          refine Wp.weak [4, 5, 2, 1, 0] (lv' := [(0, .ref 0), (1, .int v1), (2, .int v4), (3, .int r12), (4, .int (v4 + 1))]) rfl ?_
          exact ih _ _ _ _ _ H
        · have H := oq_f c9 H
          refine Wp.run 3 (show br (v3 ≤ r12) (Y_X11_closest d Q 99 [(5, .int r12), (0, .ref 0), (1, .int v1), (2, .int v2), (3, .int v3), (4, .int v4)] [] s13) (Y_X11_closest d Q 93 [(5, .int r12), (0, .ref 0), (1, .int v1), (2, .int v2), (3, .int v3), (4, .int v4)] [] s13) from ⟨fun c9 => ?_, fun c9 => ?_⟩)
          · have H := oq_t c9 H
            refine Wp.run 2 (show Y_X11_closest d Q 40 [(4, .int (v4 + 1)), (5, .int r12), (0, .ref 0), (1, .int v1), (2, .int v2), (3, .int v3)] [] s13 from ?_)
            refine Wp.weak [2, 3, 4, 5, 0] (lv' := [(0, .ref 0), (1, .int v1), (2, .int v2), (3, .int v3), (4, .int (v4 + 1))]) rfl ?_
            exact ih _ _ _ _ _ H
          · have H := oq_f c9 H
            refine Wp.run 6 (show Y_X11_closest d Q 40 [(4, .int (v4 + 1)), (3, .int r12), (2, .int v4), (5, .int r12), (0, .ref 0), (1, .int v1)] [] s13 from ?_)
            refine Wp.weak [4, 5, 2, 1, 0] (lv' := [(0, .ref 0), (1, .int v1), (2, .int v4), (3, .int r12), (4, .int (v4 + 1))]) rfl ?_
            exact ih _ _ _ _ _ H
def f_X11_closest  (s : Sg) : Option (Int32 × Sg) :=
  bd (f_X4_allQuarrels s) (fun r1 s2 =>
  bd (f_X9_atPeace_26_25 (-1) s2) (fun r3 s4 =>
  bd (f_X4_withoutHope s4) (fun r5 s6 =>
  nmx ((r1 &&& (r3 ^^^ (-1))) &&& (r5 ^^^ (-1)) : Int32) (fun x7 =>
  f_X11_closest_b40 BIG x7 (-1) 0 0 s6
  )
  )
  )
  )
set_option maxRecDepth 100000 in
theorem w_X11_closest {d : Nat} {s : Sg} {Q : Qt}  (H : OQ (f_X11_closest  s) (fun r9 s9 => Q (some (.int r9)) s9)) : WpM SHC MT (d + 5) 140 [.ref 0] s Q := by
  refine WpM.enter me_X11_closest rfl rfl ?_
  show Y_X11_closest d Q 0 [(0, .ref 0)] [] s
  unfold f_X11_closest at H
  refine Wp.run 3 (show room8 [] ∧ WpM SHC MT (d + 4) 54 [.ref 25] s (fun v9 s9 => Y_X11_closest d Q 7 [(0, .ref 0)] (v9.toList ++ []) s9) from ⟨rm8_ rfl, ?_⟩)
  refine w_X4_allQuarrels (d := d + 3)  ?_
  refine oq_bd H (fun r1 s2 H => ?_)
  show Y_X11_closest d Q 7 [(0, .ref 0)] [.int r1] s2
  refine Wp.run 6 (show room8 [.int r1] ∧ WpM SHC MT (d + 4) 93 [.ref 25, .ref 26, .int (-1)] s2 (fun v9 s9 => Y_X11_closest d Q 19 [(0, .ref 0)] (v9.toList ++ [.int r1]) s9) from ⟨rm8_ rfl, ?_⟩)
  refine w_X9_atPeace_26_25 (d := d + 1) _ ?_
  refine oq_bd H (fun r3 s4 H => ?_)
  show Y_X11_closest d Q 19 [(0, .ref 0)] [.int r3, .int r1] s4
  refine Wp.run 6 (show room8 [.int (r1 &&& (r3 ^^^ (-1)))] ∧ WpM SHC MT (d + 4) 58 [.ref 25] s4 (fun v9 s9 => Y_X11_closest d Q 29 [(0, .ref 0)] (v9.toList ++ [.int (r1 &&& (r3 ^^^ (-1)))]) s9) from ⟨rm8_ rfl, ?_⟩)
  refine w_X4_withoutHope (d := d + 2)  ?_
  refine oq_bd H (fun r5 s6 H => ?_)
  show Y_X11_closest d Q 29 [(0, .ref 0)] [.int r5, .int (r1 &&& (r3 ^^^ (-1)))] s6
  refine Wp.run 4 (show Y_X11_closest d Q 33 [(1, .int ((r1 &&& (r3 ^^^ (-1))) &&& (r5 ^^^ (-1)))), (0, .ref 0)] [] s6 from ?_)
  revert H
  generalize ((r1 &&& (r3 ^^^ (-1))) &&& (r5 ^^^ (-1)) : Int32) = x7
  intro H
  have H := nmx_e H
  refine Wp.run 6 (show Y_X11_closest d Q 40 [(4, .int 0), (3, .int 0), (2, .int (-1)), (1, .int x7), (0, .ref 0)] [] s6 from ?_)
  refine Wp.weak [4, 3, 2, 1, 0] (lv' := [(0, .ref 0), (1, .int x7), (2, .int (-1)), (3, .int 0), (4, .int 0)]) rfl ?_
  exact w_X11_closest_b40 _ _ _ _ _ _ H
abbrev Y_X0_moved_25_26 (d : Nat) (Q : Qt) : Xt := Wp SHC (WpM SHC MT (d + 1)) cd_X0_moved (some .int) Q
def f_X0_moved_25_26_b67 : Nat → Int32 → Int32 → Int32 → Int32 → Int32 → Int32 → Sg → Option (Int32 × Sg)
  | 0, _, _, _, _, _, _, _ => none
  | n + 1, v3, v4, v5, v6, v7, v8, s =>
    if (s.1 25 13) ≤ v8 then
      ck (¬ v3 = 0) (
      some (v6 - (if (v4 - v4 / v3 * v3) < v7 then (v4 - v4 / v3 * v3) else v7), s)
      )
    else
      bd (f_X4_isGone v8 s) (fun r3 s4 =>
      if r3 = 0 then
        bd (f_X2_lying v8 s4) (fun r5 s6 =>
        if r5 ≤ v5 then
          (f_X0_moved_25_26_b67 n) v3 v4 v5 v6 v7 (v8 + 1) s6
        else
          bd (f_X2_lying v8 s6) (fun r7 s8 =>
          (f_X0_moved_25_26_b67 n) v3 v4 v5 (v6 + (r7 - v5)) (v7 + 1) (v8 + 1) s8
          )
        )
      else
        (f_X0_moved_25_26_b67 n) v3 v4 v5 v6 v7 (v8 + 1) s4
      )
set_option maxRecDepth 100000 in
theorem w_X0_moved_25_26_b67 {d : Nat} {Q : Qt} (n : Nat) : ∀ (v3 : Int32) (v4 : Int32) (v5 : Int32) (v6 : Int32) (v7 : Int32) (v8 : Int32) (s : Sg), OQ (f_X0_moved_25_26_b67 n v3 v4 v5 v6 v7 v8 s) (fun r9 s9 => Q (some (.int r9)) s9) → Y_X0_moved_25_26 d Q 67 [(1, .ref 25), (2, .ref 26), (3, .int v3), (4, .int v4), (5, .int v5), (6, .int v6), (7, .int v7), (8, .int v8)] [] s := by
  induction n with
  | zero => intro v3 v4 v5 v6 v7 v8 s H; exact H.elim
  | succ n ih =>
    intro v3 v4 v5 v6 v7 v8 s H
    unfold f_X0_moved_25_26_b67 at H
    refine Wp.run 4 (show br ((s.1 25 13) ≤ v8) (Y_X0_moved_25_26 d Q 119 [(1, .ref 25), (2, .ref 26), (3, .int v3), (4, .int v4), (5, .int v5), (6, .int v6), (7, .int v7), (8, .int v8)] [] s) (Y_X0_moved_25_26 d Q 76 [(1, .ref 25), (2, .ref 26), (3, .int v3), (4, .int v4), (5, .int v5), (6, .int v6), (7, .int v7), (8, .int v8)] [] s) from ⟨fun c9 => ?_, fun c9 => ?_⟩)
    · have H := oq_t c9 H
      obtain ⟨hc2, H⟩ := oq_ck H
      refine Wp.run 5 (show (¬ v3 = 0) ∧ Y_X0_moved_25_26 d Q 127 [(1, .ref 25), (2, .ref 26), (3, .int v3), (4, .int v4), (5, .int v5), (6, .int v6), (7, .int v7), (8, .int v8)] [.int (v4 - v4 / v3 * v3), .int v7, .int v6] s from ⟨hc2, ?_⟩)
      refine Wp.run 1 (show room8 [.int v6] ∧ Y_X0_moved_25_26 d Q 130 [(1, .ref 25), (2, .ref 26), (3, .int v3), (4, .int v4), (5, .int v5), (6, .int v6), (7, .int v7), (8, .int v8)] [.int (if (v4 - v4 / v3 * v3) < v7 then (v4 - v4 / v3 * v3) else v7), .int v6] s from ⟨rm8_ rfl, ?_⟩)
      exact Wp.run 2 ⟨rfl, H⟩
    · have H := oq_f c9 H
      refine Wp.run 3 (show room8 [] ∧ WpM SHC MT (d + 1) 55 [.ref 25, .int v8] s (fun v9 s9 => Y_X0_moved_25_26 d Q 82 [(1, .ref 25), (2, .ref 26), (3, .int v3), (4, .int v4), (5, .int v5), (6, .int v6), (7, .int v7), (8, .int v8)] (v9.toList ++ []) s9) from ⟨rm8_ rfl, ?_⟩)
      refine w_X4_isGone (d := d) _ ?_
      refine oq_bd H (fun r3 s4 H => ?_)
      show Y_X0_moved_25_26 d Q 82 [(1, .ref 25), (2, .ref 26), (3, .int v3), (4, .int v4), (5, .int v5), (6, .int v6), (7, .int v7), (8, .int v8)] [.int r3] s4
      refine Wp.run 1 (show br (r3 = 0) (Y_X0_moved_25_26 d Q 85 [(1, .ref 25), (2, .ref 26), (3, .int v3), (4, .int v4), (5, .int v5), (6, .int v6), (7, .int v7), (8, .int v8)] [] s4) (Y_X0_moved_25_26 d Q 113 [(1, .ref 25), (2, .ref 26), (3, .int v3), (4, .int v4), (5, .int v5), (6, .int v6), (7, .int v7), (8, .int v8)] [] s4) from ⟨fun c9 => ?_, fun c9 => ?_⟩)
      · have H := oq_t c9 H
        refine Wp.run 3 (show room8 [] ∧ WpM SHC MT (d + 1) 23 [.ref 26, .int v8] s4 (fun v9 s9 => Y_X0_moved_25_26 d Q 91 [(1, .ref 25), (2, .ref 26), (3, .int v3), (4, .int v4), (5, .int v5), (6, .int v6), (7, .int v7), (8, .int v8)] (v9.toList ++ []) s9) from ⟨rm8_ rfl, ?_⟩)
        refine w_X2_lying (d := d) _ ?_
        refine oq_bd H (fun r5 s6 H => ?_)
        show Y_X0_moved_25_26 d Q 91 [(1, .ref 25), (2, .ref 26), (3, .int v3), (4, .int v4), (5, .int v5), (6, .int v6), (7, .int v7), (8, .int v8)] [.int r5] s6
        refine Wp.run 2 (show br (r5 ≤ v5) (Y_X0_moved_25_26 d Q 113 [(1, .ref 25), (2, .ref 26), (3, .int v3), (4, .int v4), (5, .int v5), (6, .int v6), (7, .int v7), (8, .int v8)] [] s6) (Y_X0_moved_25_26 d Q 96 [(1, .ref 25), (2, .ref 26), (3, .int v3), (4, .int v4), (5, .int v5), (6, .int v6), (7, .int v7), (8, .int v8)] [] s6) from ⟨fun c9 => ?_, fun c9 => ?_⟩)
        · have H := oq_t c9 H
          refine Wp.run 2 (show Y_X0_moved_25_26 d Q 67 [(8, .int (v8 + 1)), (1, .ref 25), (2, .ref 26), (3, .int v3), (4, .int v4), (5, .int v5), (6, .int v6), (7, .int v7)] [] s6 from ?_)
          refine Wp.weak [1, 2, 3, 4, 5, 6, 7, 0] (lv' := [(1, .ref 25), (2, .ref 26), (3, .int v3), (4, .int v4), (5, .int v5), (6, .int v6), (7, .int v7), (8, .int (v8 + 1))]) rfl ?_
          exact ih _ _ _ _ _ _ _ H
        · have H := oq_f c9 H
          refine Wp.run 4 (show room8 [.int v6] ∧ WpM SHC MT (d + 1) 23 [.ref 26, .int v8] s6 (fun v9 s9 => Y_X0_moved_25_26 d Q 104 [(1, .ref 25), (2, .ref 26), (3, .int v3), (4, .int v4), (5, .int v5), (6, .int v6), (7, .int v7), (8, .int v8)] (v9.toList ++ [.int v6]) s9) from ⟨rm8_ rfl, ?_⟩)
          refine w_X2_lying (d := d) _ ?_
          refine oq_bd H (fun r7 s8 H => ?_)
          show Y_X0_moved_25_26 d Q 104 [(1, .ref 25), (2, .ref 26), (3, .int v3), (4, .int v4), (5, .int v5), (6, .int v6), (7, .int v7), (8, .int v8)] [.int r7, .int v6] s8
          refine Wp.run 7 (show Y_X0_moved_25_26 d Q 67 [(8, .int (v8 + 1)), (7, .int (v7 + 1)), (6, .int (v6 + (r7 - v5))), (1, .ref 25), (2, .ref 26), (3, .int v3), (4, .int v4), (5, .int v5)] [] s8 from ?_)
          refine Wp.weak [3, 4, 5, 6, 7, 2, 1, 0] (lv' := [(1, .ref 25), (2, .ref 26), (3, .int v3), (4, .int v4), (5, .int v5), (6, .int (v6 + (r7 - v5))), (7, .int (v7 + 1)), (8, .int (v8 + 1))]) rfl ?_
          exact ih _ _ _ _ _ _ _ H
      · have H := oq_f c9 H
        refine Wp.run 2 (show Y_X0_moved_25_26 d Q 67 [(8, .int (v8 + 1)), (1, .ref 25), (2, .ref 26), (3, .int v3), (4, .int v4), (5, .int v5), (6, .int v6), (7, .int v7)] [] s4 from ?_)
        refine Wp.weak [1, 2, 3, 4, 5, 6, 7, 0] (lv' := [(1, .ref 25), (2, .ref 26), (3, .int v3), (4, .int v4), (5, .int v5), (6, .int v6), (7, .int v7), (8, .int (v8 + 1))]) rfl ?_
        exact ih _ _ _ _ _ _ _ H
def f_X0_moved_25_26_b8 : Nat → Int32 → Int32 → Int32 → Sg → Option (Int32 × Sg)
  | 0, _, _, _, _ => none
  | n + 1, v3, v4, v5, s =>
    if (s.1 25 13) ≤ v5 then
      if v3 = 0 then
        some (0, s)
      else
        ck (¬ v3 = 0) (
        f_X0_moved_25_26_b67 BIG v3 v4 (v4 / v3) 0 0 0 s
        )
    else
      bd (f_X4_isGone v5 s) (fun r9 s10 =>
      if r9 = 0 then
        bd (f_X2_lying v5 s10) (fun r11 s12 =>
        (f_X0_moved_25_26_b8 n) (v3 + 1) (v4 + r11) (v5 + 1) s12
        )
      else
        (f_X0_moved_25_26_b8 n) v3 v4 (v5 + 1) s10
      )
set_option maxRecDepth 100000 in
theorem w_X0_moved_25_26_b8 {d : Nat} {Q : Qt} (n : Nat) : ∀ (v3 : Int32) (v4 : Int32) (v5 : Int32) (s : Sg), OQ (f_X0_moved_25_26_b8 n v3 v4 v5 s) (fun r9 s9 => Q (some (.int r9)) s9) → Y_X0_moved_25_26 d Q 8 [(1, .ref 25), (2, .ref 26), (3, .int v3), (4, .int v4), (5, .int v5)] [] s := by
  induction n with
  | zero => intro v3 v4 v5 s H; exact H.elim
  | succ n ih =>
    intro v3 v4 v5 s H
    unfold f_X0_moved_25_26_b8 at H
    refine Wp.run 4 (show br ((s.1 25 13) ≤ v5) (Y_X0_moved_25_26 d Q 46 [(1, .ref 25), (2, .ref 26), (3, .int v3), (4, .int v4), (5, .int v5)] [] s) (Y_X0_moved_25_26 d Q 17 [(1, .ref 25), (2, .ref 26), (3, .int v3), (4, .int v4), (5, .int v5)] [] s) from ⟨fun c9 => ?_, fun c9 => ?_⟩)
    · have H := oq_t c9 H
      refine Wp.run 2 (show br (v3 = 0) (Y_X0_moved_25_26 d Q 50 [(1, .ref 25), (2, .ref 26), (3, .int v3), (4, .int v4), (5, .int v5)] [] s) (Y_X0_moved_25_26 d Q 52 [(1, .ref 25), (2, .ref 26), (3, .int v3), (4, .int v4), (5, .int v5)] [] s) from ⟨fun c9 => ?_, fun c9 => ?_⟩)
      · have H := oq_t c9 H
        exact Wp.run 2 ⟨rfl, H⟩
      · have H := oq_f c9 H
        obtain ⟨hc1, H⟩ := oq_ck H
        refine Wp.run 3 (show (¬ v3 = 0) ∧ Y_X0_moved_25_26 d Q 56 [(1, .ref 25), (2, .ref 26), (3, .int v3), (4, .int v4), (5, .int v5)] [.int (v4 / v3)] s from ⟨hc1, ?_⟩)
        refine Wp.run 7 (show Y_X0_moved_25_26 d Q 67 [(8, .int 0), (7, .int 0), (6, .int 0), (5, .int (v4 / v3)), (1, .ref 25), (2, .ref 26), (3, .int v3), (4, .int v4)] [] s from ?_)
        refine Wp.weak [4, 5, 6, 7, 3, 2, 1, 0] (lv' := [(1, .ref 25), (2, .ref 26), (3, .int v3), (4, .int v4), (5, .int (v4 / v3)), (6, .int 0), (7, .int 0), (8, .int 0)]) rfl ?_
        exact w_X0_moved_25_26_b67 _ _ _ _ _ _ _ _ H
    · have H := oq_f c9 H
      refine Wp.run 3 (show room8 [] ∧ WpM SHC MT (d + 1) 55 [.ref 25, .int v5] s (fun v9 s9 => Y_X0_moved_25_26 d Q 23 [(1, .ref 25), (2, .ref 26), (3, .int v3), (4, .int v4), (5, .int v5)] (v9.toList ++ []) s9) from ⟨rm8_ rfl, ?_⟩)
      refine w_X4_isGone (d := d) _ ?_
      refine oq_bd H (fun r9 s10 H => ?_)
      show Y_X0_moved_25_26 d Q 23 [(1, .ref 25), (2, .ref 26), (3, .int v3), (4, .int v4), (5, .int v5)] [.int r9] s10
      refine Wp.run 1 (show br (r9 = 0) (Y_X0_moved_25_26 d Q 26 [(1, .ref 25), (2, .ref 26), (3, .int v3), (4, .int v4), (5, .int v5)] [] s10) (Y_X0_moved_25_26 d Q 40 [(1, .ref 25), (2, .ref 26), (3, .int v3), (4, .int v4), (5, .int v5)] [] s10) from ⟨fun c9 => ?_, fun c9 => ?_⟩)
      · have H := oq_t c9 H
        refine Wp.run 5 (show room8 [.int v4] ∧ WpM SHC MT (d + 1) 23 [.ref 26, .int v5] s10 (fun v9 s9 => Y_X0_moved_25_26 d Q 37 [(3, .int (v3 + 1)), (1, .ref 25), (2, .ref 26), (4, .int v4), (5, .int v5)] (v9.toList ++ [.int v4]) s9) from ⟨rm8_ rfl, ?_⟩)
        refine w_X2_lying (d := d) _ ?_
        refine oq_bd H (fun r11 s12 H => ?_)
        show Y_X0_moved_25_26 d Q 37 [(3, .int (v3 + 1)), (1, .ref 25), (2, .ref 26), (4, .int v4), (5, .int v5)] [.int r11, .int v4] s12
        refine Wp.run 4 (show Y_X0_moved_25_26 d Q 8 [(5, .int (v5 + 1)), (4, .int (v4 + r11)), (3, .int (v3 + 1)), (1, .ref 25), (2, .ref 26)] [] s12 from ?_)
        refine Wp.weak [3, 4, 2, 1, 0] (lv' := [(1, .ref 25), (2, .ref 26), (3, .int (v3 + 1)), (4, .int (v4 + r11)), (5, .int (v5 + 1))]) rfl ?_
        exact ih _ _ _ _ H
      · have H := oq_f c9 H
        refine Wp.run 2 (show Y_X0_moved_25_26 d Q 8 [(5, .int (v5 + 1)), (1, .ref 25), (2, .ref 26), (3, .int v3), (4, .int v4)] [] s10 from ?_)
        refine Wp.weak [1, 2, 3, 4, 0] (lv' := [(1, .ref 25), (2, .ref 26), (3, .int v3), (4, .int v4), (5, .int (v5 + 1))]) rfl ?_
        exact ih _ _ _ _ H
def f_X0_moved_25_26  (s : Sg) : Option (Int32 × Sg) :=
  f_X0_moved_25_26_b8 BIG 0 0 0 s
set_option maxRecDepth 100000 in
theorem w_X0_moved_25_26 {d : Nat} {s : Sg} {Q : Qt}  (H : OQ (f_X0_moved_25_26  s) (fun r9 s9 => Q (some (.int r9)) s9)) : WpM SHC MT (d + 2) 5 [.ref 6, .ref 25, .ref 26] s Q := by
  refine WpM.enter me_X0_moved rfl rfl ?_
  show Y_X0_moved_25_26 d Q 0 [(0, .ref 6), (1, .ref 25), (2, .ref 26)] [] s
  unfold f_X0_moved_25_26 at H
  refine Wp.run 6 (show Y_X0_moved_25_26 d Q 8 [(5, .int 0), (4, .int 0), (3, .int 0), (0, .ref 6), (1, .ref 25), (2, .ref 26)] [] s from ?_)
  refine Wp.weak [4, 5, 2, 1, 0] (lv' := [(1, .ref 25), (2, .ref 26), (3, .int 0), (4, .int 0), (5, .int 0)]) rfl ?_
  exact w_X0_moved_25_26_b8 _ _ _ _ _ H
abbrev Y_X11_level (d : Nat) (Q : Qt) : Xt := Wp SHC (WpM SHC MT (d + 2)) cd_X11_level (some .int) Q
def f_X11_level  (s : Sg) : Option (Int32 × Sg) :=
  bd (f_X0_moved_25_26 s) (fun r1 s2 =>
  bd (f_X11_answer r1 s2) (fun r3 s4 =>
  some (r3, s4)
  )
  )
set_option maxRecDepth 100000 in
theorem w_X11_level {d : Nat} {s : Sg} {Q : Qt}  (H : OQ (f_X11_level  s) (fun r9 s9 => Q (some (.int r9)) s9)) : WpM SHC MT (d + 3) 141 [.ref 0] s Q := by
  refine WpM.enter me_X11_level rfl rfl ?_
  show Y_X11_level d Q 0 [(0, .ref 0)] [] s
  unfold f_X11_level at H
  refine Wp.run 8 (show room8 [.ref 0] ∧ WpM SHC MT (d + 2) 5 [.ref 6, .ref 25, .ref 26] s (fun v9 s9 => Y_X11_level d Q 16 [(0, .ref 0)] (v9.toList ++ [.ref 0]) s9) from ⟨rm8_ rfl, ?_⟩)
  refine w_X0_moved_25_26 (d := d)  ?_
  refine oq_bd H (fun r1 s2 H => ?_)
  show Y_X11_level d Q 16 [(0, .ref 0)] [.int r1, .ref 0] s2
  refine Wp.run 1 (show room8 [] ∧ WpM SHC MT (d + 2) 164 [.ref 0, .int r1] s2 (fun v9 s9 => Y_X11_level d Q 19 [(0, .ref 0)] (v9.toList ++ []) s9) from ⟨rm8_ rfl, ?_⟩)
  refine w_X11_answer (d := d + 1) _ ?_
  refine oq_bd H (fun r3 s4 H => ?_)
  show Y_X11_level d Q 19 [(0, .ref 0)] [.int r3] s4
  exact Wp.run 1 ⟨rfl, H⟩
abbrev Y_X2_hasSnow_25_53 (d : Nat) (Q : Qt) : Xt := Wp SHC (WpM SHC MT (d + 1)) cd_X2_hasSnow (some .boolean) Q
def f_X2_hasSnow_25_53_b2 : Nat → Int32 → Int32 → Sg → Option (Int32 × Sg)
  | 0, _, _, _ => none
  | n + 1, v2, v3, s =>
    if (s.1 25 13) ≤ v3 then
      some (0, s)
    else
      bd (f_X11_has v2 v3 s) (fun r1 s2 =>
      if r1 = 0 then
        (f_X2_hasSnow_25_53_b2 n) v2 (v3 + 1) s2
      else
        ck (inr v3 8) (
        if (s2.1 69 v3.toNatClampNeg) ≤ 0 then
          (f_X2_hasSnow_25_53_b2 n) v2 (v3 + 1) s2
        else
          some (1, s2)
        )
      )
set_option maxRecDepth 100000 in
theorem w_X2_hasSnow_25_53_b2 {d : Nat} {Q : Qt} (n : Nat) : ∀ (v2 : Int32) (v3 : Int32) (s : Sg), OQ (f_X2_hasSnow_25_53_b2 n v2 v3 s) (fun r9 s9 => Q (some (.int r9)) s9) → Y_X2_hasSnow_25_53 d Q 2 [(0, .ref 53), (1, .ref 25), (2, .int v2), (3, .int v3)] [] s := by
  induction n with
  | zero => intro v2 v3 s H; exact H.elim
  | succ n ih =>
    intro v2 v3 s H
    unfold f_X2_hasSnow_25_53_b2 at H
    refine Wp.run 4 (show br ((s.1 25 13) ≤ v3) (Y_X2_hasSnow_25_53 d Q 35 [(0, .ref 53), (1, .ref 25), (2, .int v2), (3, .int v3)] [] s) (Y_X2_hasSnow_25_53 d Q 10 [(0, .ref 53), (1, .ref 25), (2, .int v2), (3, .int v3)] [] s) from ⟨fun c9 => ?_, fun c9 => ?_⟩)
    · have H := oq_t c9 H
      exact Wp.run 2 ⟨rfl, H⟩
    · have H := oq_f c9 H
      refine Wp.run 3 (show room8 [] ∧ WpM SHC MT (d + 1) 170 [.int v2, .int v3] s (fun v9 s9 => Y_X2_hasSnow_25_53 d Q 15 [(0, .ref 53), (1, .ref 25), (2, .int v2), (3, .int v3)] (v9.toList ++ []) s9) from ⟨rm8_ rfl, ?_⟩)
      refine w_X11_has (d := d) _ _ ?_
      refine oq_bd H (fun r1 s2 H => ?_)
      show Y_X2_hasSnow_25_53 d Q 15 [(0, .ref 53), (1, .ref 25), (2, .int v2), (3, .int v3)] [.int r1] s2
      refine Wp.run 1 (show br (r1 = 0) (Y_X2_hasSnow_25_53 d Q 29 [(0, .ref 53), (1, .ref 25), (2, .int v2), (3, .int v3)] [] s2) (Y_X2_hasSnow_25_53 d Q 18 [(0, .ref 53), (1, .ref 25), (2, .int v2), (3, .int v3)] [] s2) from ⟨fun c9 => ?_, fun c9 => ?_⟩)
      · have H := oq_t c9 H
        refine Wp.run 2 (show Y_X2_hasSnow_25_53 d Q 2 [(3, .int (v3 + 1)), (0, .ref 53), (1, .ref 25), (2, .int v2)] [] s2 from ?_)
        refine Wp.weak [1, 2, 3, 0] (lv' := [(0, .ref 53), (1, .ref 25), (2, .int v2), (3, .int (v3 + 1))]) rfl ?_
        exact ih _ _ _ H
      · have H := oq_f c9 H
        obtain ⟨hc3, H⟩ := oq_ck H
        refine Wp.run 4 (show (vp_in v3 8) ∧ Y_X2_hasSnow_25_53 d Q 24 [(0, .ref 53), (1, .ref 25), (2, .int v2), (3, .int v3)] [.int (s2.1 69 v3.toNatClampNeg)] s2 from ⟨hc3, ?_⟩)
        refine Wp.run 1 (show br ((s2.1 69 v3.toNatClampNeg) ≤ 0) (Y_X2_hasSnow_25_53 d Q 29 [(0, .ref 53), (1, .ref 25), (2, .int v2), (3, .int v3)] [] s2) (Y_X2_hasSnow_25_53 d Q 27 [(0, .ref 53), (1, .ref 25), (2, .int v2), (3, .int v3)] [] s2) from ⟨fun c9 => ?_, fun c9 => ?_⟩)
        · have H := oq_t c9 H
          refine Wp.run 2 (show Y_X2_hasSnow_25_53 d Q 2 [(3, .int (v3 + 1)), (0, .ref 53), (1, .ref 25), (2, .int v2)] [] s2 from ?_)
          refine Wp.weak [1, 2, 3, 0] (lv' := [(0, .ref 53), (1, .ref 25), (2, .int v2), (3, .int (v3 + 1))]) rfl ?_
          exact ih _ _ _ H
        · have H := oq_f c9 H
          exact Wp.run 2 ⟨rfl, H⟩
def f_X2_hasSnow_25_53 (a2 : Int32) (s : Sg) : Option (Int32 × Sg) :=
  f_X2_hasSnow_25_53_b2 BIG a2 0 s
set_option maxRecDepth 100000 in
theorem w_X2_hasSnow_25_53 {d : Nat} {s : Sg} {Q : Qt} (a2 : Int32) (H : OQ (f_X2_hasSnow_25_53 a2 s) (fun r9 s9 => Q (some (.int r9)) s9)) : WpM SHC MT (d + 2) 26 [.ref 53, .ref 25, .int a2] s Q := by
  refine WpM.enter me_X2_hasSnow rfl rfl ?_
  show Y_X2_hasSnow_25_53 d Q 0 [(0, .ref 53), (1, .ref 25), (2, .int a2)] [] s
  unfold f_X2_hasSnow_25_53 at H
  refine Wp.run 2 (show Y_X2_hasSnow_25_53 d Q 2 [(3, .int 0), (0, .ref 53), (1, .ref 25), (2, .int a2)] [] s from ?_)
  refine Wp.weak [1, 2, 3, 0] (lv' := [(0, .ref 53), (1, .ref 25), (2, .int a2), (3, .int 0)]) rfl ?_
  exact w_X2_hasSnow_25_53_b2 _ _ _ _ H
abbrev Y_X11_nightsTillThawed (d : Nat) (Q : Qt) : Xt := Wp SHC (WpM SHC MT (d + 4)) cd_X11_nightsTillThawed (some .int) Q
def f_X11_nightsTillThawed_b7 : Nat → Int32 → Int32 → Sg → Option (Int32 × Sg)
  | 0, _, _, _ => none
  | n + 1, v1, v3, s =>
    if 60 < v3 then
      some ((-1), s)
    else
      bd (f_X2_hasSnow_25_53 v1 s) (fun r3 s4 =>
      if r3 = 0 then
        some (v3, s4)
      else
        bd (f_X2_passNight_25_53 s4) (fun _ s6 =>
        (f_X11_nightsTillThawed_b7 n) v1 (v3 + 1) s6
        )
      )
set_option maxRecDepth 100000 in
theorem w_X11_nightsTillThawed_b7 {d : Nat} {Q : Qt} (n : Nat) : ∀ (v1 : Int32) (v3 : Int32) (s : Sg), OQ (f_X11_nightsTillThawed_b7 n v1 v3 s) (fun r9 s9 => Q (some (.int r9)) s9) → Y_X11_nightsTillThawed d Q 7 [(0, .ref 0), (1, .int v1), (2, .ref 53), (3, .int v3)] [] s := by
  induction n with
  | zero => intro v1 v3 s H; exact H.elim
  | succ n ih =>
    intro v1 v3 s H
    unfold f_X11_nightsTillThawed_b7 at H
    refine Wp.run 3 (show br (60 < v3) (Y_X11_nightsTillThawed d Q 41 [(0, .ref 0), (1, .int v1), (2, .ref 53), (3, .int v3)] [] s) (Y_X11_nightsTillThawed d Q 13 [(0, .ref 0), (1, .int v1), (2, .ref 53), (3, .int v3)] [] s) from ⟨fun c9 => ?_, fun c9 => ?_⟩)
    · have H := oq_t c9 H
      exact Wp.run 2 ⟨rfl, H⟩
    · have H := oq_f c9 H
      refine Wp.run 5 (show room8 [] ∧ WpM SHC MT (d + 4) 26 [.ref 53, .ref 25, .int v1] s (fun v9 s9 => Y_X11_nightsTillThawed d Q 22 [(0, .ref 0), (1, .int v1), (2, .ref 53), (3, .int v3)] (v9.toList ++ []) s9) from ⟨rm8_ rfl, ?_⟩)
      refine w_X2_hasSnow_25_53 (d := d + 2) _ ?_
      refine oq_bd H (fun r3 s4 H => ?_)
      show Y_X11_nightsTillThawed d Q 22 [(0, .ref 0), (1, .int v1), (2, .ref 53), (3, .int v3)] [.int r3] s4
      refine Wp.run 1 (show br (r3 = 0) (Y_X11_nightsTillThawed d Q 25 [(0, .ref 0), (1, .int v1), (2, .ref 53), (3, .int v3)] [] s4) (Y_X11_nightsTillThawed d Q 27 [(0, .ref 0), (1, .int v1), (2, .ref 53), (3, .int v3)] [] s4) from ⟨fun c9 => ?_, fun c9 => ?_⟩)
      · have H := oq_t c9 H
        exact Wp.run 2 ⟨rfl, H⟩
      · have H := oq_f c9 H
        refine Wp.run 4 (show room8 [] ∧ WpM SHC MT (d + 4) 34 [.ref 53, .ref 25] s4 (fun v9 s9 => Y_X11_nightsTillThawed d Q 35 [(0, .ref 0), (1, .int v1), (2, .ref 53), (3, .int v3)] (v9.toList ++ []) s9) from ⟨rm8_ rfl, ?_⟩)
        refine w_X2_passNight_25_53 (d := d)  ?_
        refine oq_bd H (fun _ s6 H => ?_)
        show Y_X11_nightsTillThawed d Q 35 [(0, .ref 0), (1, .int v1), (2, .ref 53), (3, .int v3)] [] s6
        refine Wp.run 2 (show Y_X11_nightsTillThawed d Q 7 [(3, .int (v3 + 1)), (0, .ref 0), (1, .int v1), (2, .ref 53)] [] s6 from ?_)
        refine Wp.weak [1, 2, 3, 0] (lv' := [(0, .ref 0), (1, .int v1), (2, .ref 53), (3, .int (v3 + 1))]) rfl ?_
        exact ih _ _ _ H
def f_X11_nightsTillThawed (a1 : Int32) (s : Sg) : Option (Int32 × Sg) :=
  bd (f_X2_copyFrom_26_53 s) (fun _ s2 =>
  f_X11_nightsTillThawed_b7 BIG a1 0 s2
  )
set_option maxRecDepth 100000 in
theorem w_X11_nightsTillThawed {d : Nat} {s : Sg} {Q : Qt} (a1 : Int32) (H : OQ (f_X11_nightsTillThawed a1 s) (fun r9 s9 => Q (some (.int r9)) s9)) : WpM SHC MT (d + 5) 181 [.ref 0, .int a1] s Q := by
  refine WpM.enter me_X11_nightsTillThawed rfl rfl ?_
  show Y_X11_nightsTillThawed d Q 0 [(0, .ref 0), (1, .int a1)] [] s
  unfold f_X11_nightsTillThawed at H
  refine Wp.run 2 (show room8 [] ∧ WpM SHC MT (d + 4) 180 [.ref 0] s (fun v9 s9 => Y_X11_nightsTillThawed d Q 4 [(0, .ref 0), (1, .int a1)] (v9.toList ++ []) s9) from ⟨rm8_ rfl, ?_⟩)
  refine WpM.enter me_X11_foresee rfl rfl ?_
  refine Wp.run 6 (show room8 [] ∧ WpM SHC MT (d + 3) 21 [.ref 53, .ref 26] s (fun v9 s9 => Wp SHC _ cd_X11_foresee _ _ 14 [(0, .ref 0)] (v9.toList ++ []) s9) from ⟨rm8_ rfl, ?_⟩)
  refine w_X2_copyFrom_26_53 (d := d + 1)  ?_
  refine oq_bd H (fun _ s2 H => ?_)
  show Wp SHC _ cd_X11_foresee _ _ 14 [(0, .ref 0)] [] s2
  refine Wp.run 4 (show Y_X11_nightsTillThawed d Q 4 [(0, .ref 0), (1, .int a1)] [.ref 53] s2 from ?_)
  refine Wp.run 3 (show Y_X11_nightsTillThawed d Q 7 [(3, .int 0), (2, .ref 53), (0, .ref 0), (1, .int a1)] [] s2 from ?_)
  refine Wp.weak [2, 3, 1, 0] (lv' := [(0, .ref 0), (1, .int a1), (2, .ref 53), (3, .int 0)]) rfl ?_
  exact w_X11_nightsTillThawed_b7 _ _ _ _ H
abbrev Y_X11_thaw (d : Nat) (Q : Qt) : Xt := Wp SHC (WpM SHC MT (d + 5)) cd_X11_thaw (some .int) Q
def f_X11_thaw (a1 : Int32) (s : Sg) : Option (Int32 × Sg) :=
  bd (f_X11_whyNoStep a1 1 s) (fun r1 s2 =>
  if r1 = 0 then
    bd (f_X11_nightsTillThawed ((1 : Int32) <<< (a1 &&& 31)) s2) (fun r3 s4 =>
    bd (f_X11_answerIfAny r3 s4) (fun r5 s6 =>
    some (r5, s6)
    )
    )
  else
    bd (f_X11_refuse r1 s2) (fun r7 s8 =>
    some (r7, s8)
    )
  )
set_option maxRecDepth 100000 in
theorem w_X11_thaw {d : Nat} {s : Sg} {Q : Qt} (a1 : Int32) (H : OQ (f_X11_thaw a1 s) (fun r9 s9 => Q (some (.int r9)) s9)) : WpM SHC MT (d + 6) 142 [.ref 0, .int a1] s Q := by
  refine WpM.enter me_X11_thaw rfl rfl ?_
  show Y_X11_thaw d Q 0 [(0, .ref 0), (1, .int a1)] [] s
  unfold f_X11_thaw at H
  refine Wp.run 4 (show room8 [] ∧ WpM SHC MT (d + 5) 177 [.ref 0, .int a1, .int 1] s (fun v9 s9 => Y_X11_thaw d Q 6 [(0, .ref 0), (1, .int a1)] (v9.toList ++ []) s9) from ⟨rm8_ rfl, ?_⟩)
  refine w_X11_whyNoStep (d := d + 2) _ _ ?_
  refine oq_bd H (fun r1 s2 H => ?_)
  show Y_X11_thaw d Q 6 [(0, .ref 0), (1, .int a1)] [.int r1] s2
  refine Wp.run 3 (show br (r1 = 0) (Y_X11_thaw d Q 17 [(2, .int r1), (0, .ref 0), (1, .int a1)] [] s2) (Y_X11_thaw d Q 11 [(2, .int r1), (0, .ref 0), (1, .int a1)] [] s2) from ⟨fun c9 => ?_, fun c9 => ?_⟩)
  · have H := oq_t c9 H
    refine Wp.run 6 (show room8 [.ref 0] ∧ WpM SHC MT (d + 5) 181 [.ref 0, .int ((1 : Int32) <<< (a1 &&& 31))] s2 (fun v9 s9 => Y_X11_thaw d Q 25 [(2, .int r1), (0, .ref 0), (1, .int a1)] (v9.toList ++ [.ref 0]) s9) from ⟨rm8_ rfl, ?_⟩)
    refine w_X11_nightsTillThawed (d := d) _ ?_
    refine oq_bd H (fun r3 s4 H => ?_)
    show Y_X11_thaw d Q 25 [(2, .int r1), (0, .ref 0), (1, .int a1)] [.int r3, .ref 0] s4
    refine Wp.run 1 (show room8 [] ∧ WpM SHC MT (d + 5) 165 [.ref 0, .int r3] s4 (fun v9 s9 => Y_X11_thaw d Q 28 [(2, .int r1), (0, .ref 0), (1, .int a1)] (v9.toList ++ []) s9) from ⟨rm8_ rfl, ?_⟩)
    refine w_X11_answerIfAny (d := d + 3) _ ?_
    refine oq_bd H (fun r5 s6 H => ?_)
    show Y_X11_thaw d Q 28 [(2, .int r1), (0, .ref 0), (1, .int a1)] [.int r5] s6
    exact Wp.run 1 ⟨rfl, H⟩
  · have H := oq_f c9 H
    refine Wp.run 3 (show room8 [] ∧ WpM SHC MT (d + 5) 166 [.ref 0, .int r1] s2 (fun v9 s9 => Y_X11_thaw d Q 16 [(2, .int r1), (0, .ref 0), (1, .int a1)] (v9.toList ++ []) s9) from ⟨rm8_ rfl, ?_⟩)
    refine w_X11_refuse (d := d + 4) _ ?_
    refine oq_bd H (fun r7 s8 H => ?_)
    show Y_X11_thaw d Q 16 [(2, .int r1), (0, .ref 0), (1, .int a1)] [.int r7] s8
    exact Wp.run 1 ⟨rfl, H⟩
abbrev Y_X4_allHouses (d : Nat) (Q : Qt) : Xt := Wp SHC (WpM SHC MT (d + 0)) cd_X4_allHouses (some .int) Q
def f_X4_allHouses  (s : Sg) : Option (Int32 × Sg) :=
  some (((1 : Int32) <<< ((s.1 25 13) &&& 31)) - 1, s)
set_option maxRecDepth 100000 in
theorem w_X4_allHouses {d : Nat} {s : Sg} {Q : Qt}  (H : OQ (f_X4_allHouses  s) (fun r9 s9 => Q (some (.int r9)) s9)) : WpM SHC MT (d + 1) 53 [.ref 25] s Q := by
  refine WpM.enter me_X4_allHouses rfl rfl ?_
  show Y_X4_allHouses d Q 0 [(0, .ref 25)] [] s
  unfold f_X4_allHouses at H
  exact Wp.run 7 ⟨rfl, H⟩
abbrev Y_X11_thawAll (d : Nat) (Q : Qt) : Xt := Wp SHC (WpM SHC MT (d + 5)) cd_X11_thawAll (some .int) Q
def f_X11_thawAll  (s : Sg) : Option (Int32 × Sg) :=
  bd (f_X4_allHouses s) (fun r1 s2 =>
  bd (f_X11_nightsTillThawed r1 s2) (fun r3 s4 =>
  bd (f_X11_answerIfAny r3 s4) (fun r5 s6 =>
  some (r5, s6)
  )
  )
  )
set_option maxRecDepth 100000 in
theorem w_X11_thawAll {d : Nat} {s : Sg} {Q : Qt}  (H : OQ (f_X11_thawAll  s) (fun r9 s9 => Q (some (.int r9)) s9)) : WpM SHC MT (d + 6) 143 [.ref 0] s Q := by
  refine WpM.enter me_X11_thawAll rfl rfl ?_
  show Y_X11_thawAll d Q 0 [(0, .ref 0)] [] s
  unfold f_X11_thawAll at H
  refine Wp.run 5 (show room8 [.ref 0, .ref 0] ∧ WpM SHC MT (d + 5) 53 [.ref 25] s (fun v9 s9 => Y_X11_thawAll d Q 9 [(0, .ref 0)] (v9.toList ++ [.ref 0, .ref 0]) s9) from ⟨rm8_ rfl, ?_⟩)
  refine w_X4_allHouses (d := d + 4)  ?_
  refine oq_bd H (fun r1 s2 H => ?_)
  show Y_X11_thawAll d Q 9 [(0, .ref 0)] [.int r1, .ref 0, .ref 0] s2
  refine Wp.run 1 (show room8 [.ref 0] ∧ WpM SHC MT (d + 5) 181 [.ref 0, .int r1] s2 (fun v9 s9 => Y_X11_thawAll d Q 12 [(0, .ref 0)] (v9.toList ++ [.ref 0]) s9) from ⟨rm8_ rfl, ?_⟩)
  refine w_X11_nightsTillThawed (d := d) _ ?_
  refine oq_bd H (fun r3 s4 H => ?_)
  show Y_X11_thawAll d Q 12 [(0, .ref 0)] [.int r3, .ref 0] s4
  refine Wp.run 1 (show room8 [] ∧ WpM SHC MT (d + 5) 165 [.ref 0, .int r3] s4 (fun v9 s9 => Y_X11_thawAll d Q 15 [(0, .ref 0)] (v9.toList ++ []) s9) from ⟨rm8_ rfl, ?_⟩)
  refine w_X11_answerIfAny (d := d + 3) _ ?_
  refine oq_bd H (fun r5 s6 H => ?_)
  show Y_X11_thawAll d Q 15 [(0, .ref 0)] [.int r5] s6
  exact Wp.run 1 ⟨rfl, H⟩
abbrev Y_X11_wants (d : Nat) (Q : Qt) : Xt := Wp SHC (WpM SHC MT (d + 3)) cd_X11_wants (some .int) Q
def f_X11_wants (a1 : Int32) (s : Sg) : Option (Int32 × Sg) :=
  bd (f_X11_whyNoStep a1 1 s) (fun r1 s2 =>
  if r1 = 0 then
    bd (f_X9_wantedAt_26_25 a1 s2) (fun r3 s4 =>
    bd (f_X11_answer r3 s4) (fun r5 s6 =>
    some (r5, s6)
    )
    )
  else
    bd (f_X11_refuse r1 s2) (fun r7 s8 =>
    some (r7, s8)
    )
  )
set_option maxRecDepth 100000 in
theorem w_X11_wants {d : Nat} {s : Sg} {Q : Qt} (a1 : Int32) (H : OQ (f_X11_wants a1 s) (fun r9 s9 => Q (some (.int r9)) s9)) : WpM SHC MT (d + 4) 144 [.ref 0, .int a1] s Q := by
  refine WpM.enter me_X11_wants rfl rfl ?_
  show Y_X11_wants d Q 0 [(0, .ref 0), (1, .int a1)] [] s
  unfold f_X11_wants at H
  refine Wp.run 4 (show room8 [] ∧ WpM SHC MT (d + 3) 177 [.ref 0, .int a1, .int 1] s (fun v9 s9 => Y_X11_wants d Q 6 [(0, .ref 0), (1, .int a1)] (v9.toList ++ []) s9) from ⟨rm8_ rfl, ?_⟩)
  refine w_X11_whyNoStep (d := d) _ _ ?_
  refine oq_bd H (fun r1 s2 H => ?_)
  show Y_X11_wants d Q 6 [(0, .ref 0), (1, .int a1)] [.int r1] s2
  refine Wp.run 3 (show br (r1 = 0) (Y_X11_wants d Q 17 [(2, .int r1), (0, .ref 0), (1, .int a1)] [] s2) (Y_X11_wants d Q 11 [(2, .int r1), (0, .ref 0), (1, .int a1)] [] s2) from ⟨fun c9 => ?_, fun c9 => ?_⟩)
  · have H := oq_t c9 H
    refine Wp.run 7 (show room8 [.ref 0] ∧ WpM SHC MT (d + 3) 97 [.ref 25, .ref 26, .int a1] s2 (fun v9 s9 => Y_X11_wants d Q 30 [(2, .int r1), (0, .ref 0), (1, .int a1)] (v9.toList ++ [.ref 0]) s9) from ⟨rm8_ rfl, ?_⟩)
    refine w_X9_wantedAt_26_25 (d := d) _ ?_
    refine oq_bd H (fun r3 s4 H => ?_)
    show Y_X11_wants d Q 30 [(2, .int r1), (0, .ref 0), (1, .int a1)] [.int r3, .ref 0] s4
    refine Wp.run 1 (show room8 [] ∧ WpM SHC MT (d + 3) 164 [.ref 0, .int r3] s4 (fun v9 s9 => Y_X11_wants d Q 33 [(2, .int r1), (0, .ref 0), (1, .int a1)] (v9.toList ++ []) s9) from ⟨rm8_ rfl, ?_⟩)
    refine w_X11_answer (d := d + 2) _ ?_
    refine oq_bd H (fun r5 s6 H => ?_)
    show Y_X11_wants d Q 33 [(2, .int r1), (0, .ref 0), (1, .int a1)] [.int r5] s6
    exact Wp.run 1 ⟨rfl, H⟩
  · have H := oq_f c9 H
    refine Wp.run 3 (show room8 [] ∧ WpM SHC MT (d + 3) 166 [.ref 0, .int r1] s2 (fun v9 s9 => Y_X11_wants d Q 16 [(2, .int r1), (0, .ref 0), (1, .int a1)] (v9.toList ++ []) s9) from ⟨rm8_ rfl, ?_⟩)
    refine w_X11_refuse (d := d + 2) _ ?_
    refine oq_bd H (fun r7 s8 H => ?_)
    show Y_X11_wants d Q 16 [(2, .int r1), (0, .ref 0), (1, .int a1)] [.int r7] s8
    exact Wp.run 1 ⟨rfl, H⟩
abbrev Y_X11_cliff (d : Nat) (Q : Qt) : Xt := Wp SHC (WpM SHC MT (d + 1)) cd_X11_cliff (some .int) Q
def f_X11_cliff_b4 : Nat → Int32 → Int32 → Sg → Option (Int32 × Sg)
  | 0, _, _, _ => none
  | n + 1, v1, v2, s =>
    if (s.1 25 13) ≤ (v2 + 1) then
      bd (f_X11_answer v1 s) (fun r1 s2 =>
      some (r1, s2)
      )
    else
      bd (f_X4_isGone v2 s) (fun r3 s4 =>
      if r3 = 0 then
        bd (f_X4_isGone (v2 + 1) s4) (fun r5 s6 =>
        if r5 = 0 then
          bd (f_X2_lying v2 s6) (fun r7 s8 =>
          bd (f_X2_lying (v2 + 1) s8) (fun r9 s10 =>
          nmx (if v1 < (if 0 ≤ (r7 - r9) then (r7 - r9) else 0 - (r7 - r9)) then (if 0 ≤ (r7 - r9) then (r7 - r9) else 0 - (r7 - r9)) else v1 : Int32) (fun x11 =>
          (f_X11_cliff_b4 n) x11 (v2 + 1) s10
          )
          )
          )
        else
          (f_X11_cliff_b4 n) v1 (v2 + 1) s6
        )
      else
        (f_X11_cliff_b4 n) v1 (v2 + 1) s4
      )
set_option maxRecDepth 100000 in
theorem w_X11_cliff_b4 {d : Nat} {Q : Qt} (n : Nat) : ∀ (v1 : Int32) (v2 : Int32) (s : Sg), OQ (f_X11_cliff_b4 n v1 v2 s) (fun r9 s9 => Q (some (.int r9)) s9) → Y_X11_cliff d Q 4 [(0, .ref 0), (1, .int v1), (2, .int v2)] [] s := by
  induction n with
  | zero => intro v1 v2 s H; exact H.elim
  | succ n ih =>
    intro v1 v2 s H
    unfold f_X11_cliff_b4 at H
    refine Wp.run 7 (show br ((s.1 25 13) ≤ (v2 + 1)) (Y_X11_cliff d Q 74 [(0, .ref 0), (1, .int v1), (2, .int v2)] [] s) (Y_X11_cliff d Q 17 [(0, .ref 0), (1, .int v1), (2, .int v2)] [] s) from ⟨fun c9 => ?_, fun c9 => ?_⟩)
    · have H := oq_t c9 H
      refine Wp.run 3 (show room8 [] ∧ WpM SHC MT (d + 1) 164 [.ref 0, .int v1] s (fun v9 s9 => Y_X11_cliff d Q 79 [(0, .ref 0), (1, .int v1), (2, .int v2)] (v9.toList ++ []) s9) from ⟨rm8_ rfl, ?_⟩)
      refine w_X11_answer (d := d) _ ?_
      refine oq_bd H (fun r1 s2 H => ?_)
      show Y_X11_cliff d Q 79 [(0, .ref 0), (1, .int v1), (2, .int v2)] [.int r1] s2
      exact Wp.run 1 ⟨rfl, H⟩
    · have H := oq_f c9 H
      refine Wp.run 4 (show room8 [] ∧ WpM SHC MT (d + 1) 55 [.ref 25, .int v2] s (fun v9 s9 => Y_X11_cliff d Q 25 [(0, .ref 0), (1, .int v1), (2, .int v2)] (v9.toList ++ []) s9) from ⟨rm8_ rfl, ?_⟩)
      refine w_X4_isGone (d := d) _ ?_
      refine oq_bd H (fun r3 s4 H => ?_)
      show Y_X11_cliff d Q 25 [(0, .ref 0), (1, .int v1), (2, .int v2)] [.int r3] s4
      refine Wp.run 1 (show br (r3 = 0) (Y_X11_cliff d Q 28 [(0, .ref 0), (1, .int v1), (2, .int v2)] [] s4) (Y_X11_cliff d Q 68 [(0, .ref 0), (1, .int v1), (2, .int v2)] [] s4) from ⟨fun c9 => ?_, fun c9 => ?_⟩)
      · have H := oq_t c9 H
        refine Wp.run 6 (show room8 [] ∧ WpM SHC MT (d + 1) 55 [.ref 25, .int (v2 + 1)] s4 (fun v9 s9 => Y_X11_cliff d Q 38 [(0, .ref 0), (1, .int v1), (2, .int v2)] (v9.toList ++ []) s9) from ⟨rm8_ rfl, ?_⟩)
        refine w_X4_isGone (d := d) _ ?_
        refine oq_bd H (fun r5 s6 H => ?_)
        show Y_X11_cliff d Q 38 [(0, .ref 0), (1, .int v1), (2, .int v2)] [.int r5] s6
        refine Wp.run 1 (show br (r5 = 0) (Y_X11_cliff d Q 41 [(0, .ref 0), (1, .int v1), (2, .int v2)] [] s6) (Y_X11_cliff d Q 68 [(0, .ref 0), (1, .int v1), (2, .int v2)] [] s6) from ⟨fun c9 => ?_, fun c9 => ?_⟩)
        · have H := oq_t c9 H
          refine Wp.run 5 (show room8 [.int v1] ∧ WpM SHC MT (d + 1) 23 [.ref 26, .int v2] s6 (fun v9 s9 => Y_X11_cliff d Q 50 [(0, .ref 0), (1, .int v1), (2, .int v2)] (v9.toList ++ [.int v1]) s9) from ⟨rm8_ rfl, ?_⟩)
          refine w_X2_lying (d := d) _ ?_
          refine oq_bd H (fun r7 s8 H => ?_)
          show Y_X11_cliff d Q 50 [(0, .ref 0), (1, .int v1), (2, .int v2)] [.int r7, .int v1] s8
          refine Wp.run 6 (show room8 [.int r7, .int v1] ∧ WpM SHC MT (d + 1) 23 [.ref 26, .int (v2 + 1)] s8 (fun v9 s9 => Y_X11_cliff d Q 60 [(0, .ref 0), (1, .int v1), (2, .int v2)] (v9.toList ++ [.int r7, .int v1]) s9) from ⟨rm8_ rfl, ?_⟩)
          refine w_X2_lying (d := d) _ ?_
          refine oq_bd H (fun r9 s10 H => ?_)
          show Y_X11_cliff d Q 60 [(0, .ref 0), (1, .int v1), (2, .int v2)] [.int r9, .int r7, .int v1] s10
          refine Wp.run 2 (show room8 [.int v1] ∧ Y_X11_cliff d Q 64 [(0, .ref 0), (1, .int v1), (2, .int v2)] [.int (if 0 ≤ (r7 - r9) then (r7 - r9) else 0 - (r7 - r9)), .int v1] s10 from ⟨rm8_ rfl, ?_⟩)
          refine Wp.run 1 (show room8 [] ∧ Y_X11_cliff d Q 67 [(0, .ref 0), (1, .int v1), (2, .int v2)] [.int (if v1 < (if 0 ≤ (r7 - r9) then (r7 - r9) else 0 - (r7 - r9)) then (if 0 ≤ (r7 - r9) then (r7 - r9) else 0 - (r7 - r9)) else v1)] s10 from ⟨rm8_ rfl, ?_⟩)
          refine Wp.run 1 (show Y_X11_cliff d Q 68 [(1, .int (if v1 < (if 0 ≤ (r7 - r9) then (r7 - r9) else 0 - (r7 - r9)) then (if 0 ≤ (r7 - r9) then (r7 - r9) else 0 - (r7 - r9)) else v1)), (0, .ref 0), (2, .int v2)] [] s10 from ?_)
          revert H
          generalize (if v1 < (if 0 ≤ (r7 - r9) then (r7 - r9) else 0 - (r7 - r9)) then (if 0 ≤ (r7 - r9) then (r7 - r9) else 0 - (r7 - r9)) else v1 : Int32) = x11
          intro H
          have H := nmx_e H
          refine Wp.run 2 (show Y_X11_cliff d Q 4 [(2, .int (v2 + 1)), (1, .int x11), (0, .ref 0)] [] s10 from ?_)
          refine Wp.weak [2, 1, 0] (lv' := [(0, .ref 0), (1, .int x11), (2, .int (v2 + 1))]) rfl ?_
          exact ih _ _ _ H
        · have H := oq_f c9 H
          refine Wp.run 2 (show Y_X11_cliff d Q 4 [(2, .int (v2 + 1)), (0, .ref 0), (1, .int v1)] [] s6 from ?_)
          refine Wp.weak [1, 2, 0] (lv' := [(0, .ref 0), (1, .int v1), (2, .int (v2 + 1))]) rfl ?_
          exact ih _ _ _ H
      · have H := oq_f c9 H
        refine Wp.run 2 (show Y_X11_cliff d Q 4 [(2, .int (v2 + 1)), (0, .ref 0), (1, .int v1)] [] s4 from ?_)
        refine Wp.weak [1, 2, 0] (lv' := [(0, .ref 0), (1, .int v1), (2, .int (v2 + 1))]) rfl ?_
        exact ih _ _ _ H
def f_X11_cliff  (s : Sg) : Option (Int32 × Sg) :=
  f_X11_cliff_b4 BIG 0 0 s
set_option maxRecDepth 100000 in
theorem w_X11_cliff {d : Nat} {s : Sg} {Q : Qt}  (H : OQ (f_X11_cliff  s) (fun r9 s9 => Q (some (.int r9)) s9)) : WpM SHC MT (d + 2) 145 [.ref 0] s Q := by
  refine WpM.enter me_X11_cliff rfl rfl ?_
  show Y_X11_cliff d Q 0 [(0, .ref 0)] [] s
  unfold f_X11_cliff at H
  refine Wp.run 4 (show Y_X11_cliff d Q 4 [(2, .int 0), (1, .int 0), (0, .ref 0)] [] s from ?_)
  refine Wp.weak [2, 1, 0] (lv' := [(0, .ref 0), (1, .int 0), (2, .int 0)]) rfl ?_
  exact w_X11_cliff_b4 _ _ _ _ H
abbrev Y_X2_looksLike (d : Nat) (Q : Qt) : Xt := Wp SHC (WpM SHC MT (d + 1)) cd_X2_looksLike (some .boolean) Q
def f_X2_looksLike (a1 : Int32) (a2 : Int32) (s : Sg) : Option (Int32 × Sg) :=
  if a2 = 0 then
    ck (inr a1 8) (
    if (s.1 41 a1.toNatClampNeg) ≤ 0 then
      some (0, s)
    else
      some (1, s)
    )
  else
    if a2 = 1 then
      ck (inr a1 8) (
      if (s.1 42 a1.toNatClampNeg) ≤ 0 then
        some (0, s)
      else
        some (1, s)
      )
    else
      ck (inr a1 8) (
      if (s.1 42 a1.toNatClampNeg) = 0 then
        bd (f_X2_lying a1 s) (fun r4 s5 =>
        if r4 = 0 then
          some (1, s5)
        else
          some (0, s5)
        )
      else
        some (0, s)
      )
set_option maxRecDepth 100000 in
theorem w_X2_looksLike {d : Nat} {s : Sg} {Q : Qt} (a1 : Int32) (a2 : Int32) (H : OQ (f_X2_looksLike a1 a2 s) (fun r9 s9 => Q (some (.int r9)) s9)) : WpM SHC MT (d + 2) 27 [.ref 26, .int a1, .int a2] s Q := by
  refine WpM.enter me_X2_looksLike rfl rfl ?_
  show Y_X2_looksLike d Q 0 [(0, .ref 26), (1, .int a1), (2, .int a2)] [] s
  unfold f_X2_looksLike at H
  refine Wp.run 2 (show br (a2 = 0) (Y_X2_looksLike d Q 4 [(0, .ref 26), (1, .int a1), (2, .int a2)] [] s) (Y_X2_looksLike d Q 19 [(0, .ref 26), (1, .int a1), (2, .int a2)] [] s) from ⟨fun c9 => ?_, fun c9 => ?_⟩)
  · have H := oq_t c9 H
    obtain ⟨hc1, H⟩ := oq_ck H
    refine Wp.run 4 (show (vp_in a1 8) ∧ Y_X2_looksLike d Q 10 [(0, .ref 26), (1, .int a1), (2, .int a2)] [.int (s.1 41 a1.toNatClampNeg)] s from ⟨hc1, ?_⟩)
    refine Wp.run 1 (show br ((s.1 41 a1.toNatClampNeg) ≤ 0) (Y_X2_looksLike d Q 17 [(0, .ref 26), (1, .int a1), (2, .int a2)] [] s) (Y_X2_looksLike d Q 13 [(0, .ref 26), (1, .int a1), (2, .int a2)] [] s) from ⟨fun c9 => ?_, fun c9 => ?_⟩)
    · have H := oq_t c9 H
      exact Wp.run 2 ⟨rfl, H⟩
    · have H := oq_f c9 H
      exact Wp.run 3 ⟨rfl, H⟩
  · have H := oq_f c9 H
    refine Wp.run 3 (show br (a2 = 1) (Y_X2_looksLike d Q 24 [(0, .ref 26), (1, .int a1), (2, .int a2)] [] s) (Y_X2_looksLike d Q 41 [(0, .ref 26), (1, .int a1), (2, .int a2)] [] s) from ⟨fun c9 => ?_, fun c9 => ?_⟩)
    · have H := oq_t c9 H
      obtain ⟨hc2, H⟩ := oq_ck H
      refine Wp.run 4 (show (vp_in a1 8) ∧ Y_X2_looksLike d Q 30 [(0, .ref 26), (1, .int a1), (2, .int a2)] [.int (s.1 42 a1.toNatClampNeg)] s from ⟨hc2, ?_⟩)
      refine Wp.run 1 (show br ((s.1 42 a1.toNatClampNeg) ≤ 0) (Y_X2_looksLike d Q 37 [(0, .ref 26), (1, .int a1), (2, .int a2)] [] s) (Y_X2_looksLike d Q 33 [(0, .ref 26), (1, .int a1), (2, .int a2)] [] s) from ⟨fun c9 => ?_, fun c9 => ?_⟩)
      · have H := oq_t c9 H
        exact Wp.run 3 ⟨rfl, H⟩
      · have H := oq_f c9 H
        exact Wp.run 3 ⟨rfl, H⟩
    · have H := oq_f c9 H
      obtain ⟨hc3, H⟩ := oq_ck H
      refine Wp.run 4 (show (vp_in a1 8) ∧ Y_X2_looksLike d Q 47 [(0, .ref 26), (1, .int a1), (2, .int a2)] [.int (s.1 42 a1.toNatClampNeg)] s from ⟨hc3, ?_⟩)
      refine Wp.run 1 (show br ((s.1 42 a1.toNatClampNeg) = 0) (Y_X2_looksLike d Q 50 [(0, .ref 26), (1, .int a1), (2, .int a2)] [] s) (Y_X2_looksLike d Q 62 [(0, .ref 26), (1, .int a1), (2, .int a2)] [] s) from ⟨fun c9 => ?_, fun c9 => ?_⟩)
      · have H := oq_t c9 H
        refine Wp.run 3 (show room8 [] ∧ WpM SHC MT (d + 1) 23 [.ref 26, .int a1] s (fun v9 s9 => Y_X2_looksLike d Q 55 [(0, .ref 26), (1, .int a1), (2, .int a2)] (v9.toList ++ []) s9) from ⟨rm8_ rfl, ?_⟩)
        refine w_X2_lying (d := d) _ ?_
        refine oq_bd H (fun r4 s5 H => ?_)
        show Y_X2_looksLike d Q 55 [(0, .ref 26), (1, .int a1), (2, .int a2)] [.int r4] s5
        refine Wp.run 1 (show br (r4 = 0) (Y_X2_looksLike d Q 58 [(0, .ref 26), (1, .int a1), (2, .int a2)] [] s5) (Y_X2_looksLike d Q 62 [(0, .ref 26), (1, .int a1), (2, .int a2)] [] s5) from ⟨fun c9 => ?_, fun c9 => ?_⟩)
        · have H := oq_t c9 H
          exact Wp.run 3 ⟨rfl, H⟩
        · have H := oq_f c9 H
          exact Wp.run 2 ⟨rfl, H⟩
      · have H := oq_f c9 H
        exact Wp.run 2 ⟨rfl, H⟩
abbrev Y_X11_steps (d : Nat) (Q : Qt) : Xt := Wp SHC (WpM SHC MT (d + 2)) cd_X11_steps (some .int) Q
def f_X11_steps_b19 : Nat → Int32 → Int32 → Int32 → Sg → Option (Int32 × Sg)
  | 0, _, _, _, _ => none
  | n + 1, v1, v2, v3, s =>
    if (s.1 25 13) ≤ v3 then
      bd (f_X11_answer v2 s) (fun r5 s6 =>
      some (r5, s6)
      )
    else
      bd (f_X4_isGone v3 s) (fun r7 s8 =>
      if r7 = 0 then
        bd (f_X2_looksLike v3 v1 s8) (fun r9 s10 =>
        if r9 = 0 then
          (f_X11_steps_b19 n) v1 v2 (v3 + 1) s10
        else
          (f_X11_steps_b19 n) v1 (v2 + 1) (v3 + 1) s10
        )
      else
        (f_X11_steps_b19 n) v1 v2 (v3 + 1) s8
      )
set_option maxRecDepth 100000 in
theorem w_X11_steps_b19 {d : Nat} {Q : Qt} (n : Nat) : ∀ (v1 : Int32) (v2 : Int32) (v3 : Int32) (s : Sg), OQ (f_X11_steps_b19 n v1 v2 v3 s) (fun r9 s9 => Q (some (.int r9)) s9) → Y_X11_steps d Q 19 [(0, .ref 0), (1, .int v1), (2, .int v2), (3, .int v3)] [] s := by
  induction n with
  | zero => intro v1 v2 v3 s H; exact H.elim
  | succ n ih =>
    intro v1 v2 v3 s H
    unfold f_X11_steps_b19 at H
    refine Wp.run 5 (show br ((s.1 25 13) ≤ v3) (Y_X11_steps d Q 62 [(0, .ref 0), (1, .int v1), (2, .int v2), (3, .int v3)] [] s) (Y_X11_steps d Q 30 [(0, .ref 0), (1, .int v1), (2, .int v2), (3, .int v3)] [] s) from ⟨fun c9 => ?_, fun c9 => ?_⟩)
    · have H := oq_t c9 H
      refine Wp.run 3 (show room8 [] ∧ WpM SHC MT (d + 2) 164 [.ref 0, .int v2] s (fun v9 s9 => Y_X11_steps d Q 67 [(0, .ref 0), (1, .int v1), (2, .int v2), (3, .int v3)] (v9.toList ++ []) s9) from ⟨rm8_ rfl, ?_⟩)
      refine w_X11_answer (d := d + 1) _ ?_
      refine oq_bd H (fun r5 s6 H => ?_)
      show Y_X11_steps d Q 67 [(0, .ref 0), (1, .int v1), (2, .int v2), (3, .int v3)] [.int r5] s6
      exact Wp.run 1 ⟨rfl, H⟩
    · have H := oq_f c9 H
      refine Wp.run 4 (show room8 [] ∧ WpM SHC MT (d + 2) 55 [.ref 25, .int v3] s (fun v9 s9 => Y_X11_steps d Q 38 [(0, .ref 0), (1, .int v1), (2, .int v2), (3, .int v3)] (v9.toList ++ []) s9) from ⟨rm8_ rfl, ?_⟩)
      refine w_X4_isGone (d := d + 1) _ ?_
      refine oq_bd H (fun r7 s8 H => ?_)
      show Y_X11_steps d Q 38 [(0, .ref 0), (1, .int v1), (2, .int v2), (3, .int v3)] [.int r7] s8
      refine Wp.run 1 (show br (r7 = 0) (Y_X11_steps d Q 41 [(0, .ref 0), (1, .int v1), (2, .int v2), (3, .int v3)] [] s8) (Y_X11_steps d Q 56 [(0, .ref 0), (1, .int v1), (2, .int v2), (3, .int v3)] [] s8) from ⟨fun c9 => ?_, fun c9 => ?_⟩)
      · have H := oq_t c9 H
        refine Wp.run 5 (show room8 [] ∧ WpM SHC MT (d + 2) 27 [.ref 26, .int v3, .int v1] s8 (fun v9 s9 => Y_X11_steps d Q 50 [(0, .ref 0), (1, .int v1), (2, .int v2), (3, .int v3)] (v9.toList ++ []) s9) from ⟨rm8_ rfl, ?_⟩)
        refine w_X2_looksLike (d := d) _ _ ?_
        refine oq_bd H (fun r9 s10 H => ?_)
        show Y_X11_steps d Q 50 [(0, .ref 0), (1, .int v1), (2, .int v2), (3, .int v3)] [.int r9] s10
        refine Wp.run 1 (show br (r9 = 0) (Y_X11_steps d Q 56 [(0, .ref 0), (1, .int v1), (2, .int v2), (3, .int v3)] [] s10) (Y_X11_steps d Q 53 [(0, .ref 0), (1, .int v1), (2, .int v2), (3, .int v3)] [] s10) from ⟨fun c9 => ?_, fun c9 => ?_⟩)
        · have H := oq_t c9 H
          refine Wp.run 2 (show Y_X11_steps d Q 19 [(3, .int (v3 + 1)), (0, .ref 0), (1, .int v1), (2, .int v2)] [] s10 from ?_)
          refine Wp.weak [1, 2, 3, 0] (lv' := [(0, .ref 0), (1, .int v1), (2, .int v2), (3, .int (v3 + 1))]) rfl ?_
          exact ih _ _ _ _ H
        · have H := oq_f c9 H
          refine Wp.run 3 (show Y_X11_steps d Q 19 [(3, .int (v3 + 1)), (2, .int (v2 + 1)), (0, .ref 0), (1, .int v1)] [] s10 from ?_)
          refine Wp.weak [2, 3, 1, 0] (lv' := [(0, .ref 0), (1, .int v1), (2, .int (v2 + 1)), (3, .int (v3 + 1))]) rfl ?_
          exact ih _ _ _ _ H
      · have H := oq_f c9 H
        refine Wp.run 2 (show Y_X11_steps d Q 19 [(3, .int (v3 + 1)), (0, .ref 0), (1, .int v1), (2, .int v2)] [] s8 from ?_)
        refine Wp.weak [1, 2, 3, 0] (lv' := [(0, .ref 0), (1, .int v1), (2, .int v2), (3, .int (v3 + 1))]) rfl ?_
        exact ih _ _ _ _ H
def f_X11_steps (a1 : Int32) (s : Sg) : Option (Int32 × Sg) :=
  bd (f_X11_within a1 0 2 s) (fun r1 s2 =>
  if r1 = 0 then
    bd (f_X11_refuse 1 s2) (fun r3 s4 =>
    some (r3, s4)
    )
  else
    f_X11_steps_b19 BIG a1 0 0 s2
  )
set_option maxRecDepth 100000 in
theorem w_X11_steps {d : Nat} {s : Sg} {Q : Qt} (a1 : Int32) (H : OQ (f_X11_steps a1 s) (fun r9 s9 => Q (some (.int r9)) s9)) : WpM SHC MT (d + 3) 146 [.ref 0, .int a1] s Q := by
  refine WpM.enter me_X11_steps rfl rfl ?_
  show Y_X11_steps d Q 0 [(0, .ref 0), (1, .int a1)] [] s
  unfold f_X11_steps at H
  refine Wp.run 4 (show room8 [] ∧ WpM SHC MT (d + 2) 169 [.int a1, .int 0, .int 2] s (fun v9 s9 => Y_X11_steps d Q 6 [(0, .ref 0), (1, .int a1)] (v9.toList ++ []) s9) from ⟨rm8_ rfl, ?_⟩)
  refine w_X11_within (d := d + 1) _ _ _ ?_
  refine oq_bd H (fun r1 s2 H => ?_)
  show Y_X11_steps d Q 6 [(0, .ref 0), (1, .int a1)] [.int r1] s2
  refine Wp.run 1 (show br (r1 = 0) (Y_X11_steps d Q 9 [(0, .ref 0), (1, .int a1)] [] s2) (Y_X11_steps d Q 15 [(0, .ref 0), (1, .int a1)] [] s2) from ⟨fun c9 => ?_, fun c9 => ?_⟩)
  · have H := oq_t c9 H
    refine Wp.run 3 (show room8 [] ∧ WpM SHC MT (d + 2) 166 [.ref 0, .int 1] s2 (fun v9 s9 => Y_X11_steps d Q 14 [(0, .ref 0), (1, .int a1)] (v9.toList ++ []) s9) from ⟨rm8_ rfl, ?_⟩)
    refine w_X11_refuse (d := d + 1) _ ?_
    refine oq_bd H (fun r3 s4 H => ?_)
    show Y_X11_steps d Q 14 [(0, .ref 0), (1, .int a1)] [.int r3] s4
    exact Wp.run 1 ⟨rfl, H⟩
  · have H := oq_f c9 H
    refine Wp.run 4 (show Y_X11_steps d Q 19 [(3, .int 0), (2, .int 0), (0, .ref 0), (1, .int a1)] [] s2 from ?_)
    refine Wp.weak [2, 3, 1, 0] (lv' := [(0, .ref 0), (1, .int a1), (2, .int 0), (3, .int 0)]) rfl ?_
    exact w_X11_steps_b19 _ _ _ _ _ H
abbrev Y_X0_cheapest_25 (d : Nat) (Q : Qt) : Xt := Wp SHC (WpM SHC MT (d + 1)) cd_X0_cheapest (some .int) Q
def f_X0_cheapest_25_b4 : Nat → Int32 → Int32 → Int32 → Sg → Option (Int32 × Sg)
  | 0, _, _, _, _ => none
  | n + 1, v1, v2, v3, s =>
    if (s.1 25 16) ≤ v3 then
      some (v2, s)
    else
      bd (f_X11_has v1 v3 s) (fun r1 s2 =>
      if r1 = 0 then
        if v2 = (-1) then
          (f_X0_cheapest_25_b4 n) v1 v3 (v3 + 1) s2
        else
          ck (inr v3 4) (
          ck (inr v2 4) (
          if (s2.1 38 v2.toNatClampNeg) ≤ (s2.1 38 v3.toNatClampNeg) then
            (f_X0_cheapest_25_b4 n) v1 v2 (v3 + 1) s2
          else
            (f_X0_cheapest_25_b4 n) v1 v3 (v3 + 1) s2
          )
          )
      else
        (f_X0_cheapest_25_b4 n) v1 v2 (v3 + 1) s2
      )
set_option maxRecDepth 100000 in
theorem w_X0_cheapest_25_b4 {d : Nat} {Q : Qt} (n : Nat) : ∀ (v1 : Int32) (v2 : Int32) (v3 : Int32) (s : Sg), OQ (f_X0_cheapest_25_b4 n v1 v2 v3 s) (fun r9 s9 => Q (some (.int r9)) s9) → Y_X0_cheapest_25 d Q 4 [(0, .ref 25), (1, .int v1), (2, .int v2), (3, .int v3)] [] s := by
  induction n with
  | zero => intro v1 v2 v3 s H; exact H.elim
  | succ n ih =>
    intro v1 v2 v3 s H
    unfold f_X0_cheapest_25_b4 at H
    refine Wp.run 4 (show br ((s.1 25 16) ≤ v3) (Y_X0_cheapest_25 d Q 48 [(0, .ref 25), (1, .int v1), (2, .int v2), (3, .int v3)] [] s) (Y_X0_cheapest_25 d Q 12 [(0, .ref 25), (1, .int v1), (2, .int v2), (3, .int v3)] [] s) from ⟨fun c9 => ?_, fun c9 => ?_⟩)
    · have H := oq_t c9 H
      exact Wp.run 2 ⟨rfl, H⟩
    · have H := oq_f c9 H
      refine Wp.run 3 (show room8 [] ∧ WpM SHC MT (d + 1) 170 [.int v1, .int v3] s (fun v9 s9 => Y_X0_cheapest_25 d Q 17 [(0, .ref 25), (1, .int v1), (2, .int v2), (3, .int v3)] (v9.toList ++ []) s9) from ⟨rm8_ rfl, ?_⟩)
      refine w_X11_has (d := d) _ _ ?_
      refine oq_bd H (fun r1 s2 H => ?_)
      show Y_X0_cheapest_25 d Q 17 [(0, .ref 25), (1, .int v1), (2, .int v2), (3, .int v3)] [.int r1] s2
      refine Wp.run 1 (show br (r1 = 0) (Y_X0_cheapest_25 d Q 20 [(0, .ref 25), (1, .int v1), (2, .int v2), (3, .int v3)] [] s2) (Y_X0_cheapest_25 d Q 42 [(0, .ref 25), (1, .int v1), (2, .int v2), (3, .int v3)] [] s2) from ⟨fun c9 => ?_, fun c9 => ?_⟩)
      · have H := oq_t c9 H
        refine Wp.run 3 (show br (v2 = (-1)) (Y_X0_cheapest_25 d Q 40 [(0, .ref 25), (1, .int v1), (2, .int v2), (3, .int v3)] [] s2) (Y_X0_cheapest_25 d Q 25 [(0, .ref 25), (1, .int v1), (2, .int v2), (3, .int v3)] [] s2) from ⟨fun c9 => ?_, fun c9 => ?_⟩)
        · have H := oq_t c9 H
          refine Wp.run 4 (show Y_X0_cheapest_25 d Q 4 [(3, .int (v3 + 1)), (2, .int v3), (0, .ref 25), (1, .int v1)] [] s2 from ?_)
          refine Wp.weak [2, 3, 1, 0] (lv' := [(0, .ref 25), (1, .int v1), (2, .int v3), (3, .int (v3 + 1))]) rfl ?_
          exact ih _ _ _ _ H
        · have H := oq_f c9 H
          obtain ⟨hc3, H⟩ := oq_ck H
          refine Wp.run 4 (show (vp_in v3 4) ∧ Y_X0_cheapest_25 d Q 31 [(0, .ref 25), (1, .int v1), (2, .int v2), (3, .int v3)] [.int (s2.1 38 v3.toNatClampNeg)] s2 from ⟨hc3, ?_⟩)
          obtain ⟨hc4, H⟩ := oq_ck H
          refine Wp.run 4 (show (vp_in v2 4) ∧ Y_X0_cheapest_25 d Q 37 [(0, .ref 25), (1, .int v1), (2, .int v2), (3, .int v3)] [.int (s2.1 38 v2.toNatClampNeg), .int (s2.1 38 v3.toNatClampNeg)] s2 from ⟨hc4, ?_⟩)
          refine Wp.run 1 (show br ((s2.1 38 v2.toNatClampNeg) ≤ (s2.1 38 v3.toNatClampNeg)) (Y_X0_cheapest_25 d Q 42 [(0, .ref 25), (1, .int v1), (2, .int v2), (3, .int v3)] [] s2) (Y_X0_cheapest_25 d Q 40 [(0, .ref 25), (1, .int v1), (2, .int v2), (3, .int v3)] [] s2) from ⟨fun c9 => ?_, fun c9 => ?_⟩)
          · have H := oq_t c9 H
            refine Wp.run 2 (show Y_X0_cheapest_25 d Q 4 [(3, .int (v3 + 1)), (0, .ref 25), (1, .int v1), (2, .int v2)] [] s2 from ?_)
            refine Wp.weak [1, 2, 3, 0] (lv' := [(0, .ref 25), (1, .int v1), (2, .int v2), (3, .int (v3 + 1))]) rfl ?_
            exact ih _ _ _ _ H
          · have H := oq_f c9 H
            refine Wp.run 4 (show Y_X0_cheapest_25 d Q 4 [(3, .int (v3 + 1)), (2, .int v3), (0, .ref 25), (1, .int v1)] [] s2 from ?_)
            refine Wp.weak [2, 3, 1, 0] (lv' := [(0, .ref 25), (1, .int v1), (2, .int v3), (3, .int (v3 + 1))]) rfl ?_
            exact ih _ _ _ _ H
      · have H := oq_f c9 H
        refine Wp.run 2 (show Y_X0_cheapest_25 d Q 4 [(3, .int (v3 + 1)), (0, .ref 25), (1, .int v1), (2, .int v2)] [] s2 from ?_)
        refine Wp.weak [1, 2, 3, 0] (lv' := [(0, .ref 25), (1, .int v1), (2, .int v2), (3, .int (v3 + 1))]) rfl ?_
        exact ih _ _ _ _ H
def f_X0_cheapest_25 (a1 : Int32) (s : Sg) : Option (Int32 × Sg) :=
  f_X0_cheapest_25_b4 BIG a1 (-1) 0 s
set_option maxRecDepth 100000 in
theorem w_X0_cheapest_25 {d : Nat} {s : Sg} {Q : Qt} (a1 : Int32) (H : OQ (f_X0_cheapest_25 a1 s) (fun r9 s9 => Q (some (.int r9)) s9)) : WpM SHC MT (d + 2) 7 [.ref 25, .int a1] s Q := by
  refine WpM.enter me_X0_cheapest rfl rfl ?_
  show Y_X0_cheapest_25 d Q 0 [(0, .ref 25), (1, .int a1)] [] s
  unfold f_X0_cheapest_25 at H
  refine Wp.run 4 (show Y_X0_cheapest_25 d Q 4 [(3, .int 0), (2, .int (-1)), (0, .ref 25), (1, .int a1)] [] s from ?_)
  refine Wp.weak [2, 3, 1, 0] (lv' := [(0, .ref 25), (1, .int a1), (2, .int (-1)), (3, .int 0)]) rfl ?_
  exact w_X0_cheapest_25_b4 _ _ _ _ _ H
abbrev Y_X0_payFor_25_26 (d : Nat) (Q : Qt) : Xt := Wp SHC (WpM SHC MT (d + 2)) cd_X0_payFor (some .boolean) Q
def f_X0_payFor_25_26_b19 : Nat → Int32 → Int32 → Int32 → Sg → Option (Int32 × Sg)
  | 0, _, _, _, _ => none
  | n + 1, v4, v5, v6, s =>
    if (s.1 25 16) ≤ v6 then
      if v4 = 0 then
        some (1, s)
      else
        some (0, s)
    else
      if v4 ≤ 0 then
        if v4 = 0 then
          some (1, s)
        else
          some (0, s)
      else
        bd (f_X0_cheapest_25 v5 s) (fun r1 s2 =>
        if r1 = (-1) then
          (f_X0_payFor_25_26_b19 n) v4 v5 (v6 + 1) s2
        else
          nmx (v5 ||| ((1 : Int32) <<< (r1 &&& 31)) : Int32) (fun x3 =>
          ck (inr r1 4) (
          nmx (if (s2.1 44 r1.toNatClampNeg) < v4 then (s2.1 44 r1.toNatClampNeg) else v4 : Int32) (fun x5 =>
          nmx (pI s2 6 3 ((s2.1 6 3) + (x5 * (s2.1 38 r1.toNatClampNeg)))) (fun s6 =>
          nmx (pI s6 6 4 (s6.1 38 r1.toNatClampNeg)) (fun s7 =>
          (f_X0_payFor_25_26_b19 n) (v4 - x5) x3 (v6 + 1) s7
          )
          )
          )
          )
          )
        )
set_option maxRecDepth 100000 in
theorem w_X0_payFor_25_26_b19 {d : Nat} {Q : Qt} (n : Nat) : ∀ (v4 : Int32) (v5 : Int32) (v6 : Int32) (s : Sg), OQ (f_X0_payFor_25_26_b19 n v4 v5 v6 s) (fun r9 s9 => Q (some (.int r9)) s9) → Y_X0_payFor_25_26 d Q 19 [(0, .ref 6), (1, .ref 25), (2, .ref 26), (4, .int v4), (5, .int v5), (6, .int v6)] [] s := by
  induction n with
  | zero => intro v4 v5 v6 s H; exact H.elim
  | succ n ih =>
    intro v4 v5 v6 s H
    unfold f_X0_payFor_25_26_b19 at H
    refine Wp.run 4 (show br ((s.1 25 16) ≤ v6) (Y_X0_payFor_25_26 d Q 113 [(0, .ref 6), (1, .ref 25), (2, .ref 26), (4, .int v4), (5, .int v5), (6, .int v6)] [] s) (Y_X0_payFor_25_26 d Q 28 [(0, .ref 6), (1, .ref 25), (2, .ref 26), (4, .int v4), (5, .int v5), (6, .int v6)] [] s) from ⟨fun c9 => ?_, fun c9 => ?_⟩)
    · have H := oq_t c9 H
      refine Wp.run 2 (show br (v4 = 0) (Y_X0_payFor_25_26 d Q 118 [(0, .ref 6), (1, .ref 25), (2, .ref 26), (4, .int v4), (5, .int v5), (6, .int v6)] [] s) (Y_X0_payFor_25_26 d Q 122 [(0, .ref 6), (1, .ref 25), (2, .ref 26), (4, .int v4), (5, .int v5), (6, .int v6)] [] s) from ⟨fun c9 => ?_, fun c9 => ?_⟩)
      · have H := oq_t c9 H
        exact Wp.run 3 ⟨rfl, H⟩
      · have H := oq_f c9 H
        exact Wp.run 2 ⟨rfl, H⟩
    · have H := oq_f c9 H
      refine Wp.run 2 (show br (v4 ≤ 0) (Y_X0_payFor_25_26 d Q 113 [(0, .ref 6), (1, .ref 25), (2, .ref 26), (4, .int v4), (5, .int v5), (6, .int v6)] [] s) (Y_X0_payFor_25_26 d Q 33 [(0, .ref 6), (1, .ref 25), (2, .ref 26), (4, .int v4), (5, .int v5), (6, .int v6)] [] s) from ⟨fun c9 => ?_, fun c9 => ?_⟩)
      · have H := oq_t c9 H
        refine Wp.run 2 (show br (v4 = 0) (Y_X0_payFor_25_26 d Q 118 [(0, .ref 6), (1, .ref 25), (2, .ref 26), (4, .int v4), (5, .int v5), (6, .int v6)] [] s) (Y_X0_payFor_25_26 d Q 122 [(0, .ref 6), (1, .ref 25), (2, .ref 26), (4, .int v4), (5, .int v5), (6, .int v6)] [] s) from ⟨fun c9 => ?_, fun c9 => ?_⟩)
        · have H := oq_t c9 H
          exact Wp.run 3 ⟨rfl, H⟩
        · have H := oq_f c9 H
          exact Wp.run 2 ⟨rfl, H⟩
      · have H := oq_f c9 H
        refine Wp.run 3 (show room8 [] ∧ WpM SHC MT (d + 2) 7 [.ref 25, .int v5] s (fun v9 s9 => Y_X0_payFor_25_26 d Q 39 [(0, .ref 6), (1, .ref 25), (2, .ref 26), (4, .int v4), (5, .int v5), (6, .int v6)] (v9.toList ++ []) s9) from ⟨rm8_ rfl, ?_⟩)
        refine w_X0_cheapest_25 (d := d) _ ?_
        refine oq_bd H (fun r1 s2 H => ?_)
        show Y_X0_payFor_25_26 d Q 39 [(0, .ref 6), (1, .ref 25), (2, .ref 26), (4, .int v4), (5, .int v5), (6, .int v6)] [.int r1] s2
        refine Wp.run 4 (show br (r1 = (-1)) (Y_X0_payFor_25_26 d Q 107 [(7, .int r1), (0, .ref 6), (1, .ref 25), (2, .ref 26), (4, .int v4), (5, .int v5), (6, .int v6)] [] s2) (Y_X0_payFor_25_26 d Q 47 [(7, .int r1), (0, .ref 6), (1, .ref 25), (2, .ref 26), (4, .int v4), (5, .int v5), (6, .int v6)] [] s2) from ⟨fun c9 => ?_, fun c9 => ?_⟩)
        · have H := oq_t c9 H
          refine Wp.run 2 (show Y_X0_payFor_25_26 d Q 19 [(6, .int (v6 + 1)), (7, .int r1), (0, .ref 6), (1, .ref 25), (2, .ref 26), (4, .int v4), (5, .int v5)] [] s2 from ?_)
          refine Wp.weak [2, 3, 4, 5, 6, 0] (lv' := [(0, .ref 6), (1, .ref 25), (2, .ref 26), (4, .int v4), (5, .int v5), (6, .int (v6 + 1))]) rfl ?_
          exact ih _ _ _ _ H
        · have H := oq_f c9 H
          refine Wp.run 6 (show Y_X0_payFor_25_26 d Q 56 [(5, .int (v5 ||| ((1 : Int32) <<< (r1 &&& 31)))), (7, .int r1), (0, .ref 6), (1, .ref 25), (2, .ref 26), (4, .int v4), (6, .int v6)] [] s2 from ?_)
          revert H
          generalize (v5 ||| ((1 : Int32) <<< (r1 &&& 31)) : Int32) = x3
          intro H
          have H := nmx_e H
          obtain ⟨hc4, H⟩ := oq_ck H
          refine Wp.run 5 (show (vp_in r1 4) ∧ Y_X0_payFor_25_26 d Q 65 [(5, .int x3), (7, .int r1), (0, .ref 6), (1, .ref 25), (2, .ref 26), (4, .int v4), (6, .int v6)] [.int (s2.1 44 r1.toNatClampNeg), .int v4] s2 from ⟨hc4, ?_⟩)
          refine Wp.run 1 (show room8 [] ∧ Y_X0_payFor_25_26 d Q 68 [(5, .int x3), (7, .int r1), (0, .ref 6), (1, .ref 25), (2, .ref 26), (4, .int v4), (6, .int v6)] [.int (if (s2.1 44 r1.toNatClampNeg) < v4 then (s2.1 44 r1.toNatClampNeg) else v4)] s2 from ⟨rm8_ rfl, ?_⟩)
          refine Wp.run 1 (show Y_X0_payFor_25_26 d Q 70 [(8, .int (if (s2.1 44 r1.toNatClampNeg) < v4 then (s2.1 44 r1.toNatClampNeg) else v4)), (5, .int x3), (7, .int r1), (0, .ref 6), (1, .ref 25), (2, .ref 26), (4, .int v4), (6, .int v6)] [] s2 from ?_)
          revert H
          generalize (if (s2.1 44 r1.toNatClampNeg) < v4 then (s2.1 44 r1.toNatClampNeg) else v4 : Int32) = x5
          intro H
          have H := nmx_e H
          refine Wp.run 12 (show (vp_in r1 4) ∧ Y_X0_payFor_25_26 d Q 91 [(4, .int (v4 - x5)), (8, .int x5), (5, .int x3), (7, .int r1), (0, .ref 6), (1, .ref 25), (2, .ref 26), (6, .int v6)] [.int (s2.1 38 r1.toNatClampNeg), .int x5, .int (s2.1 6 3), .ref 6] s2 from ⟨hc4, ?_⟩)
          refine Wp.run 3 (show Y_X0_payFor_25_26 d Q 96 [(4, .int (v4 - x5)), (8, .int x5), (5, .int x3), (7, .int r1), (0, .ref 6), (1, .ref 25), (2, .ref 26), (6, .int v6)] [] (pI s2 6 3 ((s2.1 6 3) + (x5 * (s2.1 38 r1.toNatClampNeg)))) from ?_)
          revert H
          generalize pI s2 6 3 ((s2.1 6 3) + (x5 * (s2.1 38 r1.toNatClampNeg))) = s6
          intro H
          have H := nmx_e H
          refine Wp.run 5 (show (vp_in r1 4) ∧ Y_X0_payFor_25_26 d Q 104 [(4, .int (v4 - x5)), (8, .int x5), (5, .int x3), (7, .int r1), (0, .ref 6), (1, .ref 25), (2, .ref 26), (6, .int v6)] [.int (s6.1 38 r1.toNatClampNeg), .ref 6] s6 from ⟨hc4, ?_⟩)
          refine Wp.run 1 (show Y_X0_payFor_25_26 d Q 107 [(4, .int (v4 - x5)), (8, .int x5), (5, .int x3), (7, .int r1), (0, .ref 6), (1, .ref 25), (2, .ref 26), (6, .int v6)] [] (pI s6 6 4 (s6.1 38 r1.toNatClampNeg)) from ?_)
          revert H
          generalize pI s6 6 4 (s6.1 38 r1.toNatClampNeg) = s7
          intro H
          have H := nmx_e H
          refine Wp.run 2 (show Y_X0_payFor_25_26 d Q 19 [(6, .int (v6 + 1)), (4, .int (v4 - x5)), (8, .int x5), (5, .int x3), (7, .int r1), (0, .ref 6), (1, .ref 25), (2, .ref 26)] [] s7 from ?_)
          refine Wp.weak [5, 6, 7, 1, 3, 0] (lv' := [(0, .ref 6), (1, .ref 25), (2, .ref 26), (4, .int (v4 - x5)), (5, .int x3), (6, .int (v6 + 1))]) rfl ?_
          exact ih _ _ _ _ H
def f_X0_payFor_25_26 (a3 : Int32) (s : Sg) : Option (Int32 × Sg) :=
  f_X0_payFor_25_26_b19 BIG a3 0 0 (pI (pI s 6 3 0) 6 4 0)
set_option maxRecDepth 100000 in
theorem w_X0_payFor_25_26 {d : Nat} {s : Sg} {Q : Qt} (a3 : Int32) (H : OQ (f_X0_payFor_25_26 a3 s) (fun r9 s9 => Q (some (.int r9)) s9)) : WpM SHC MT (d + 3) 6 [.ref 6, .ref 25, .ref 26, .int a3] s Q := by
  refine WpM.enter me_X0_payFor rfl rfl ?_
  show Y_X0_payFor_25_26 d Q 0 [(0, .ref 6), (1, .ref 25), (2, .ref 26), (3, .int a3)] [] s
  unfold f_X0_payFor_25_26 at H
  refine Wp.run 12 (show Y_X0_payFor_25_26 d Q 19 [(6, .int 0), (5, .int 0), (4, .int a3), (0, .ref 6), (1, .ref 25), (2, .ref 26), (3, .int a3)] [] (pI (pI s 6 3 0) 6 4 0) from ?_)
  refine Wp.weak [3, 4, 5, 2, 1, 0] (lv' := [(0, .ref 6), (1, .ref 25), (2, .ref 26), (4, .int a3), (5, .int 0), (6, .int 0)]) rfl ?_
  exact w_X0_payFor_25_26_b19 _ _ _ _ _ H
abbrev Y_X11_value (d : Nat) (Q : Qt) : Xt := Wp SHC (WpM SHC MT (d + 3)) cd_X11_value (some .int) Q
def f_X11_value (a1 : Int32) (s : Sg) : Option (Int32 × Sg) :=
  bd (f_X11_whyNoStep a1 1 s) (fun r1 s2 =>
  if r1 = 0 then
    bd (f_X2_lying a1 s2) (fun r3 s4 =>
    bd (f_X0_payFor_25_26 r3 s4) (fun r5 s6 =>
    if r5 = 0 then
      bd (f_X11_refuse 6 s6) (fun r7 s8 =>
      some (r7, s8)
      )
    else
      bd (f_X11_answer (s6.1 6 3) s6) (fun r9 s10 =>
      some (r9, s10)
      )
    )
    )
  else
    bd (f_X11_refuse r1 s2) (fun r11 s12 =>
    some (r11, s12)
    )
  )
set_option maxRecDepth 100000 in
theorem w_X11_value {d : Nat} {s : Sg} {Q : Qt} (a1 : Int32) (H : OQ (f_X11_value a1 s) (fun r9 s9 => Q (some (.int r9)) s9)) : WpM SHC MT (d + 4) 147 [.ref 0, .int a1] s Q := by
  refine WpM.enter me_X11_value rfl rfl ?_
  show Y_X11_value d Q 0 [(0, .ref 0), (1, .int a1)] [] s
  unfold f_X11_value at H
  refine Wp.run 4 (show room8 [] ∧ WpM SHC MT (d + 3) 177 [.ref 0, .int a1, .int 1] s (fun v9 s9 => Y_X11_value d Q 6 [(0, .ref 0), (1, .int a1)] (v9.toList ++ []) s9) from ⟨rm8_ rfl, ?_⟩)
  refine w_X11_whyNoStep (d := d) _ _ ?_
  refine oq_bd H (fun r1 s2 H => ?_)
  show Y_X11_value d Q 6 [(0, .ref 0), (1, .int a1)] [.int r1] s2
  refine Wp.run 3 (show br (r1 = 0) (Y_X11_value d Q 17 [(2, .int r1), (0, .ref 0), (1, .int a1)] [] s2) (Y_X11_value d Q 11 [(2, .int r1), (0, .ref 0), (1, .int a1)] [] s2) from ⟨fun c9 => ?_, fun c9 => ?_⟩)
  · have H := oq_t c9 H
    refine Wp.run 10 (show room8 [.ref 26, .ref 25, .ref 6] ∧ WpM SHC MT (d + 3) 23 [.ref 26, .int a1] s2 (fun v9 s9 => Y_X11_value d Q 37 [(2, .int r1), (0, .ref 0), (1, .int a1)] (v9.toList ++ [.ref 26, .ref 25, .ref 6]) s9) from ⟨rm8_ rfl, ?_⟩)
    refine w_X2_lying (d := d + 2) _ ?_
    refine oq_bd H (fun r3 s4 H => ?_)
    show Y_X11_value d Q 37 [(2, .int r1), (0, .ref 0), (1, .int a1)] [.int r3, .ref 26, .ref 25, .ref 6] s4
    refine Wp.run 1 (show room8 [] ∧ WpM SHC MT (d + 3) 6 [.ref 6, .ref 25, .ref 26, .int r3] s4 (fun v9 s9 => Y_X11_value d Q 40 [(2, .int r1), (0, .ref 0), (1, .int a1)] (v9.toList ++ []) s9) from ⟨rm8_ rfl, ?_⟩)
    refine w_X0_payFor_25_26 (d := d) _ ?_
    refine oq_bd H (fun r5 s6 H => ?_)
    show Y_X11_value d Q 40 [(2, .int r1), (0, .ref 0), (1, .int a1)] [.int r5] s6
    refine Wp.run 1 (show br (r5 = 0) (Y_X11_value d Q 57 [(2, .int r1), (0, .ref 0), (1, .int a1)] [] s6) (Y_X11_value d Q 43 [(2, .int r1), (0, .ref 0), (1, .int a1)] [] s6) from ⟨fun c9 => ?_, fun c9 => ?_⟩)
    · have H := oq_t c9 H
      refine Wp.run 3 (show room8 [] ∧ WpM SHC MT (d + 3) 166 [.ref 0, .int 6] s6 (fun v9 s9 => Y_X11_value d Q 63 [(2, .int r1), (0, .ref 0), (1, .int a1)] (v9.toList ++ []) s9) from ⟨rm8_ rfl, ?_⟩)
      refine w_X11_refuse (d := d + 2) _ ?_
      refine oq_bd H (fun r7 s8 H => ?_)
      show Y_X11_value d Q 63 [(2, .int r1), (0, .ref 0), (1, .int a1)] [.int r7] s8
      exact Wp.run 1 ⟨rfl, H⟩
    · have H := oq_f c9 H
      refine Wp.run 5 (show room8 [] ∧ WpM SHC MT (d + 3) 164 [.ref 0, .int (s6.1 6 3)] s6 (fun v9 s9 => Y_X11_value d Q 54 [(2, .int r1), (0, .ref 0), (1, .int a1)] (v9.toList ++ []) s9) from ⟨rm8_ rfl, ?_⟩)
      refine w_X11_answer (d := d + 2) _ ?_
      refine oq_bd H (fun r9 s10 H => ?_)
      show Y_X11_value d Q 54 [(2, .int r1), (0, .ref 0), (1, .int a1)] [.int r9] s10
      exact Wp.run 2 ⟨rfl, H⟩
  · have H := oq_f c9 H
    refine Wp.run 3 (show room8 [] ∧ WpM SHC MT (d + 3) 166 [.ref 0, .int r1] s2 (fun v9 s9 => Y_X11_value d Q 16 [(2, .int r1), (0, .ref 0), (1, .int a1)] (v9.toList ++ []) s9) from ⟨rm8_ rfl, ?_⟩)
    refine w_X11_refuse (d := d + 2) _ ?_
    refine oq_bd H (fun r11 s12 H => ?_)
    show Y_X11_value d Q 16 [(2, .int r1), (0, .ref 0), (1, .int a1)] [.int r11] s12
    exact Wp.run 1 ⟨rfl, H⟩
abbrev Y_X11_beside (d : Nat) (Q : Qt) : Xt := Wp SHC (WpM SHC MT (d + 2)) cd_X11_beside (some .int) Q
def f_X11_beside_b32 (v1 : Int32) (t0 : Int32) (s : Sg) : Option (Int32 × Sg) :=
  if (s.1 25 13) ≤ (v1 + 1) then
    bd (f_X11_answer (t0 + 0) s) (fun r5 s6 =>
    some (r5, s6)
    )
  else
    bd (f_X2_lying (v1 + 1) s) (fun r7 s8 =>
    bd (f_X11_answer (t0 + r7) s8) (fun r9 s10 =>
    some (r9, s10)
    )
    )
set_option maxRecDepth 100000 in
theorem w_X11_beside_b32 {d : Nat} {Q : Qt} (v1 : Int32) (t0 : Int32) (s : Sg) (H : OQ (f_X11_beside_b32 v1 t0 s) (fun r9 s9 => Q (some (.int r9)) s9)) : Y_X11_beside d Q 32 [(0, .ref 0), (1, .int v1)] [.int t0] s := by
  unfold f_X11_beside_b32 at H
  refine Wp.run 8 (show br ((s.1 25 13) ≤ (v1 + 1)) (Y_X11_beside d Q 59 [(2, .int t0), (0, .ref 0), (1, .int v1)] [] s) (Y_X11_beside d Q 46 [(2, .int t0), (0, .ref 0), (1, .int v1)] [] s) from ⟨fun c9 => ?_, fun c9 => ?_⟩)
  · have H := oq_t c9 H
    refine Wp.run 7 (show room8 [] ∧ WpM SHC MT (d + 2) 164 [.ref 0, .int (t0 + 0)] s (fun v9 s9 => Y_X11_beside d Q 68 [(3, .int 0), (2, .int t0), (0, .ref 0), (1, .int v1)] (v9.toList ++ []) s9) from ⟨rm8_ rfl, ?_⟩)
    refine w_X11_answer (d := d + 1) _ ?_
    refine oq_bd H (fun r5 s6 H => ?_)
    show Y_X11_beside d Q 68 [(3, .int 0), (2, .int t0), (0, .ref 0), (1, .int v1)] [.int r5] s6
    exact Wp.run 1 ⟨rfl, H⟩
  · have H := oq_f c9 H
    refine Wp.run 6 (show room8 [] ∧ WpM SHC MT (d + 2) 23 [.ref 26, .int (v1 + 1)] s (fun v9 s9 => Y_X11_beside d Q 56 [(2, .int t0), (0, .ref 0), (1, .int v1)] (v9.toList ++ []) s9) from ⟨rm8_ rfl, ?_⟩)
    refine w_X2_lying (d := d + 1) _ ?_
    refine oq_bd H (fun r7 s8 H => ?_)
    show Y_X11_beside d Q 56 [(2, .int t0), (0, .ref 0), (1, .int v1)] [.int r7] s8
    refine Wp.run 7 (show room8 [] ∧ WpM SHC MT (d + 2) 164 [.ref 0, .int (t0 + r7)] s8 (fun v9 s9 => Y_X11_beside d Q 68 [(3, .int r7), (2, .int t0), (0, .ref 0), (1, .int v1)] (v9.toList ++ []) s9) from ⟨rm8_ rfl, ?_⟩)
    refine w_X11_answer (d := d + 1) _ ?_
    refine oq_bd H (fun r9 s10 H => ?_)
    show Y_X11_beside d Q 68 [(3, .int r7), (2, .int t0), (0, .ref 0), (1, .int v1)] [.int r9] s10
    exact Wp.run 1 ⟨rfl, H⟩
def f_X11_beside (a1 : Int32) (s : Sg) : Option (Int32 × Sg) :=
  bd (f_X11_isHouse a1 s) (fun r1 s2 =>
  if r1 = 0 then
    bd (f_X11_refuse 1 s2) (fun r3 s4 =>
    some (r3, s4)
    )
  else
    if a1 ≤ 0 then
      f_X11_beside_b32 a1 0 s2
    else
      bd (f_X2_lying (a1 - 1) s2) (fun r11 s12 =>
      f_X11_beside_b32 a1 r11 s12
      )
  )
set_option maxRecDepth 100000 in
theorem w_X11_beside {d : Nat} {s : Sg} {Q : Qt} (a1 : Int32) (H : OQ (f_X11_beside a1 s) (fun r9 s9 => Q (some (.int r9)) s9)) : WpM SHC MT (d + 3) 148 [.ref 0, .int a1] s Q := by
  refine WpM.enter me_X11_beside rfl rfl ?_
  show Y_X11_beside d Q 0 [(0, .ref 0), (1, .int a1)] [] s
  unfold f_X11_beside at H
  refine Wp.run 3 (show room8 [] ∧ WpM SHC MT (d + 2) 172 [.ref 0, .int a1] s (fun v9 s9 => Y_X11_beside d Q 5 [(0, .ref 0), (1, .int a1)] (v9.toList ++ []) s9) from ⟨rm8_ rfl, ?_⟩)
  refine w_X11_isHouse (d := d) _ ?_
  refine oq_bd H (fun r1 s2 H => ?_)
  show Y_X11_beside d Q 5 [(0, .ref 0), (1, .int a1)] [.int r1] s2
  refine Wp.run 1 (show br (r1 = 0) (Y_X11_beside d Q 8 [(0, .ref 0), (1, .int a1)] [] s2) (Y_X11_beside d Q 14 [(0, .ref 0), (1, .int a1)] [] s2) from ⟨fun c9 => ?_, fun c9 => ?_⟩)
  · have H := oq_t c9 H
    refine Wp.run 3 (show room8 [] ∧ WpM SHC MT (d + 2) 166 [.ref 0, .int 1] s2 (fun v9 s9 => Y_X11_beside d Q 13 [(0, .ref 0), (1, .int a1)] (v9.toList ++ []) s9) from ⟨rm8_ rfl, ?_⟩)
    refine w_X11_refuse (d := d + 1) _ ?_
    refine oq_bd H (fun r3 s4 H => ?_)
    show Y_X11_beside d Q 13 [(0, .ref 0), (1, .int a1)] [.int r3] s4
    exact Wp.run 1 ⟨rfl, H⟩
  · have H := oq_f c9 H
    refine Wp.run 2 (show br (a1 ≤ 0) (Y_X11_beside d Q 31 [(0, .ref 0), (1, .int a1)] [] s2) (Y_X11_beside d Q 18 [(0, .ref 0), (1, .int a1)] [] s2) from ⟨fun c9 => ?_, fun c9 => ?_⟩)
    · have H := oq_t c9 H
      refine Wp.run 1 (show Y_X11_beside d Q 32 [(0, .ref 0), (1, .int a1)] [.int 0] s2 from ?_)
      refine Wp.weak [0, 1] (lv' := [(0, .ref 0), (1, .int a1)]) rfl ?_
      exact w_X11_beside_b32 _ _ _ H
    · have H := oq_f c9 H
      refine Wp.run 6 (show room8 [] ∧ WpM SHC MT (d + 2) 23 [.ref 26, .int (a1 - 1)] s2 (fun v9 s9 => Y_X11_beside d Q 28 [(0, .ref 0), (1, .int a1)] (v9.toList ++ []) s9) from ⟨rm8_ rfl, ?_⟩)
      refine w_X2_lying (d := d + 1) _ ?_
      refine oq_bd H (fun r11 s12 H => ?_)
      show Y_X11_beside d Q 28 [(0, .ref 0), (1, .int a1)] [.int r11] s12
      refine Wp.run 1 (show Y_X11_beside d Q 32 [(0, .ref 0), (1, .int a1)] [.int r11] s12 from ?_)
      refine Wp.weak [0, 1] (lv' := [(0, .ref 0), (1, .int a1)]) rfl ?_
      exact w_X11_beside_b32 _ _ _ H
abbrev Y_X11_ghosts (d : Nat) (Q : Qt) : Xt := Wp SHC (WpM SHC MT (d + 1)) cd_X11_ghosts (some .int) Q
def f_X11_ghosts_b4 : Nat → Int32 → Int32 → Sg → Option (Int32 × Sg)
  | 0, _, _, _ => none
  | n + 1, v1, v2, s =>
    if (s.1 25 14) ≤ v2 then
      bd (f_X11_answer v1 s) (fun r1 s2 =>
      some (r1, s2)
      )
    else
      ck (inr v2 8) (
      bd (f_X4_isGone (s.1 31 v2.toNatClampNeg) s) (fun r4 s5 =>
      if r4 = 0 then
        (f_X11_ghosts_b4 n) v1 (v2 + 1) s5
      else
        bd (f_X4_isGone (s5.1 32 v2.toNatClampNeg) s5) (fun r6 s7 =>
        if r6 = 0 then
          (f_X11_ghosts_b4 n) v1 (v2 + 1) s7
        else
          nmx (v1 ||| ((1 : Int32) <<< (v2 &&& 31)) : Int32) (fun x8 =>
          (f_X11_ghosts_b4 n) x8 (v2 + 1) s7
          )
        )
      )
      )
set_option maxRecDepth 100000 in
theorem w_X11_ghosts_b4 {d : Nat} {Q : Qt} (n : Nat) : ∀ (v1 : Int32) (v2 : Int32) (s : Sg), OQ (f_X11_ghosts_b4 n v1 v2 s) (fun r9 s9 => Q (some (.int r9)) s9) → Y_X11_ghosts d Q 4 [(0, .ref 0), (1, .int v1), (2, .int v2)] [] s := by
  induction n with
  | zero => intro v1 v2 s H; exact H.elim
  | succ n ih =>
    intro v1 v2 s H
    unfold f_X11_ghosts_b4 at H
    refine Wp.run 5 (show br ((s.1 25 14) ≤ v2) (Y_X11_ghosts d Q 65 [(0, .ref 0), (1, .int v1), (2, .int v2)] [] s) (Y_X11_ghosts d Q 15 [(0, .ref 0), (1, .int v1), (2, .int v2)] [] s) from ⟨fun c9 => ?_, fun c9 => ?_⟩)
    · have H := oq_t c9 H
      refine Wp.run 3 (show room8 [] ∧ WpM SHC MT (d + 1) 164 [.ref 0, .int v1] s (fun v9 s9 => Y_X11_ghosts d Q 70 [(0, .ref 0), (1, .int v1), (2, .int v2)] (v9.toList ++ []) s9) from ⟨rm8_ rfl, ?_⟩)
      refine w_X11_answer (d := d) _ ?_
      refine oq_bd H (fun r1 s2 H => ?_)
      show Y_X11_ghosts d Q 70 [(0, .ref 0), (1, .int v1), (2, .int v2)] [.int r1] s2
      exact Wp.run 1 ⟨rfl, H⟩
    · have H := oq_f c9 H
      obtain ⟨hc3, H⟩ := oq_ck H
      refine Wp.run 7 (show (vp_in v2 8) ∧ Y_X11_ghosts d Q 28 [(0, .ref 0), (1, .int v1), (2, .int v2)] [.int (s.1 31 v2.toNatClampNeg), .ref 25] s from ⟨hc3, ?_⟩)
      refine Wp.run 1 (show room8 [] ∧ WpM SHC MT (d + 1) 55 [.ref 25, .int (s.1 31 v2.toNatClampNeg)] s (fun v9 s9 => Y_X11_ghosts d Q 31 [(0, .ref 0), (1, .int v1), (2, .int v2)] (v9.toList ++ []) s9) from ⟨rm8_ rfl, ?_⟩)
      refine w_X4_isGone (d := d) _ ?_
      refine oq_bd H (fun r4 s5 H => ?_)
      show Y_X11_ghosts d Q 31 [(0, .ref 0), (1, .int v1), (2, .int v2)] [.int r4] s5
      refine Wp.run 1 (show br (r4 = 0) (Y_X11_ghosts d Q 59 [(0, .ref 0), (1, .int v1), (2, .int v2)] [] s5) (Y_X11_ghosts d Q 34 [(0, .ref 0), (1, .int v1), (2, .int v2)] [] s5) from ⟨fun c9 => ?_, fun c9 => ?_⟩)
      · have H := oq_t c9 H
        refine Wp.run 2 (show Y_X11_ghosts d Q 4 [(2, .int (v2 + 1)), (0, .ref 0), (1, .int v1)] [] s5 from ?_)
        refine Wp.weak [1, 2, 0] (lv' := [(0, .ref 0), (1, .int v1), (2, .int (v2 + 1))]) rfl ?_
        exact ih _ _ _ H
      · have H := oq_f c9 H
        refine Wp.run 7 (show (vp_in v2 8) ∧ Y_X11_ghosts d Q 47 [(0, .ref 0), (1, .int v1), (2, .int v2)] [.int (s5.1 32 v2.toNatClampNeg), .ref 25] s5 from ⟨hc3, ?_⟩)
        refine Wp.run 1 (show room8 [] ∧ WpM SHC MT (d + 1) 55 [.ref 25, .int (s5.1 32 v2.toNatClampNeg)] s5 (fun v9 s9 => Y_X11_ghosts d Q 50 [(0, .ref 0), (1, .int v1), (2, .int v2)] (v9.toList ++ []) s9) from ⟨rm8_ rfl, ?_⟩)
        refine w_X4_isGone (d := d) _ ?_
        refine oq_bd H (fun r6 s7 H => ?_)
        show Y_X11_ghosts d Q 50 [(0, .ref 0), (1, .int v1), (2, .int v2)] [.int r6] s7
        refine Wp.run 1 (show br (r6 = 0) (Y_X11_ghosts d Q 59 [(0, .ref 0), (1, .int v1), (2, .int v2)] [] s7) (Y_X11_ghosts d Q 53 [(0, .ref 0), (1, .int v1), (2, .int v2)] [] s7) from ⟨fun c9 => ?_, fun c9 => ?_⟩)
        · have H := oq_t c9 H
          refine Wp.run 2 (show Y_X11_ghosts d Q 4 [(2, .int (v2 + 1)), (0, .ref 0), (1, .int v1)] [] s7 from ?_)
          refine Wp.weak [1, 2, 0] (lv' := [(0, .ref 0), (1, .int v1), (2, .int (v2 + 1))]) rfl ?_
          exact ih _ _ _ H
        · have H := oq_f c9 H
          refine Wp.run 6 (show Y_X11_ghosts d Q 59 [(1, .int (v1 ||| ((1 : Int32) <<< (v2 &&& 31)))), (0, .ref 0), (2, .int v2)] [] s7 from ?_)
          revert H
          generalize (v1 ||| ((1 : Int32) <<< (v2 &&& 31)) : Int32) = x8
          intro H
          have H := nmx_e H
          refine Wp.run 2 (show Y_X11_ghosts d Q 4 [(2, .int (v2 + 1)), (1, .int x8), (0, .ref 0)] [] s7 from ?_)
          refine Wp.weak [2, 1, 0] (lv' := [(0, .ref 0), (1, .int x8), (2, .int (v2 + 1))]) rfl ?_
          exact ih _ _ _ H
def f_X11_ghosts  (s : Sg) : Option (Int32 × Sg) :=
  f_X11_ghosts_b4 BIG 0 0 s
set_option maxRecDepth 100000 in
theorem w_X11_ghosts {d : Nat} {s : Sg} {Q : Qt}  (H : OQ (f_X11_ghosts  s) (fun r9 s9 => Q (some (.int r9)) s9)) : WpM SHC MT (d + 2) 149 [.ref 0] s Q := by
  refine WpM.enter me_X11_ghosts rfl rfl ?_
  show Y_X11_ghosts d Q 0 [(0, .ref 0)] [] s
  unfold f_X11_ghosts at H
  refine Wp.run 4 (show Y_X11_ghosts d Q 4 [(2, .int 0), (1, .int 0), (0, .ref 0)] [] s from ?_)
  refine Wp.weak [2, 1, 0] (lv' := [(0, .ref 0), (1, .int 0), (2, .int 0)]) rfl ?_
  exact w_X11_ghosts_b4 _ _ _ _ H
abbrev Y_X0_isEnough_25_26 (d : Nat) (Q : Qt) : Xt := Wp SHC (WpM SHC MT (d + 2)) cd_X0_isEnough (some .boolean) Q
def f_X0_isEnough_25_26_b9 : Nat → Int32 → Sg → Option (Int32 × Sg)
  | 0, _, _ => none
  | n + 1, v4, s =>
    if (s.1 25 13) ≤ v4 then
      some (1, s)
    else
      bd (f_X4_isGone v4 s) (fun r3 s4 =>
      if r3 = 0 then
        ck (inr v4 8) (
        bd (f_X2_inSight v4 s4) (fun r6 s7 =>
        if (s4.1 20 v4.toNatClampNeg) ≤ r6 then
          (f_X0_isEnough_25_26_b9 n) (v4 + 1) s7
        else
          some (0, s7)
        )
        )
      else
        (f_X0_isEnough_25_26_b9 n) (v4 + 1) s4
      )
set_option maxRecDepth 100000 in
theorem w_X0_isEnough_25_26_b9 {d : Nat} {Q : Qt} (n : Nat) : ∀ (v4 : Int32) (s : Sg), OQ (f_X0_isEnough_25_26_b9 n v4 s) (fun r9 s9 => Q (some (.int r9)) s9) → Y_X0_isEnough_25_26 d Q 9 [(0, .ref 6), (1, .ref 25), (2, .ref 26), (4, .int v4)] [] s := by
  induction n with
  | zero => intro v4 s H; exact H.elim
  | succ n ih =>
    intro v4 s H
    unfold f_X0_isEnough_25_26_b9 at H
    refine Wp.run 4 (show br ((s.1 25 13) ≤ v4) (Y_X0_isEnough_25_26 d Q 51 [(0, .ref 6), (1, .ref 25), (2, .ref 26), (4, .int v4)] [] s) (Y_X0_isEnough_25_26 d Q 18 [(0, .ref 6), (1, .ref 25), (2, .ref 26), (4, .int v4)] [] s) from ⟨fun c9 => ?_, fun c9 => ?_⟩)
    · have H := oq_t c9 H
      exact Wp.run 2 ⟨rfl, H⟩
    · have H := oq_f c9 H
      refine Wp.run 3 (show room8 [] ∧ WpM SHC MT (d + 2) 55 [.ref 25, .int v4] s (fun v9 s9 => Y_X0_isEnough_25_26 d Q 24 [(0, .ref 6), (1, .ref 25), (2, .ref 26), (4, .int v4)] (v9.toList ++ []) s9) from ⟨rm8_ rfl, ?_⟩)
      refine w_X4_isGone (d := d + 1) _ ?_
      refine oq_bd H (fun r3 s4 H => ?_)
      show Y_X0_isEnough_25_26 d Q 24 [(0, .ref 6), (1, .ref 25), (2, .ref 26), (4, .int v4)] [.int r3] s4
      refine Wp.run 1 (show br (r3 = 0) (Y_X0_isEnough_25_26 d Q 27 [(0, .ref 6), (1, .ref 25), (2, .ref 26), (4, .int v4)] [] s4) (Y_X0_isEnough_25_26 d Q 45 [(0, .ref 6), (1, .ref 25), (2, .ref 26), (4, .int v4)] [] s4) from ⟨fun c9 => ?_, fun c9 => ?_⟩)
      · have H := oq_t c9 H
        obtain ⟨hc5, H⟩ := oq_ck H
        refine Wp.run 4 (show (vp_in v4 8) ∧ Y_X0_isEnough_25_26 d Q 34 [(0, .ref 6), (1, .ref 25), (2, .ref 26), (4, .int v4)] [.int (s4.1 20 v4.toNatClampNeg)] s4 from ⟨hc5, ?_⟩)
        refine Wp.run 3 (show room8 [.int (s4.1 20 v4.toNatClampNeg)] ∧ WpM SHC MT (d + 2) 24 [.ref 26, .int v4] s4 (fun v9 s9 => Y_X0_isEnough_25_26 d Q 40 [(0, .ref 6), (1, .ref 25), (2, .ref 26), (4, .int v4)] (v9.toList ++ [.int (s4.1 20 v4.toNatClampNeg)]) s9) from ⟨rm8_ rfl, ?_⟩)
        refine w_X2_inSight (d := d) _ ?_
        refine oq_bd H (fun r6 s7 H => ?_)
        show Y_X0_isEnough_25_26 d Q 40 [(0, .ref 6), (1, .ref 25), (2, .ref 26), (4, .int v4)] [.int r6, .int (s4.1 20 v4.toNatClampNeg)] s7
        refine Wp.run 1 (show br ((s4.1 20 v4.toNatClampNeg) ≤ r6) (Y_X0_isEnough_25_26 d Q 45 [(0, .ref 6), (1, .ref 25), (2, .ref 26), (4, .int v4)] [] s7) (Y_X0_isEnough_25_26 d Q 43 [(0, .ref 6), (1, .ref 25), (2, .ref 26), (4, .int v4)] [] s7) from ⟨fun c9 => ?_, fun c9 => ?_⟩)
        · have H := oq_t c9 H
          refine Wp.run 2 (show Y_X0_isEnough_25_26 d Q 9 [(4, .int (v4 + 1)), (0, .ref 6), (1, .ref 25), (2, .ref 26)] [] s7 from ?_)
          refine Wp.weak [1, 2, 3, 0] (lv' := [(0, .ref 6), (1, .ref 25), (2, .ref 26), (4, .int (v4 + 1))]) rfl ?_
          exact ih _ _ H
        · have H := oq_f c9 H
          exact Wp.run 2 ⟨rfl, H⟩
      · have H := oq_f c9 H
        refine Wp.run 2 (show Y_X0_isEnough_25_26 d Q 9 [(4, .int (v4 + 1)), (0, .ref 6), (1, .ref 25), (2, .ref 26)] [] s4 from ?_)
        refine Wp.weak [1, 2, 3, 0] (lv' := [(0, .ref 6), (1, .ref 25), (2, .ref 26), (4, .int (v4 + 1))]) rfl ?_
        exact ih _ _ H
def f_X0_isEnough_25_26 (a3 : Int32) (s : Sg) : Option (Int32 × Sg) :=
  bd (f_X0_askFor_25 a3 s) (fun _ s2 =>
  f_X0_isEnough_25_26_b9 BIG 0 s2
  )
set_option maxRecDepth 100000 in
theorem w_X0_isEnough_25_26 {d : Nat} {s : Sg} {Q : Qt} (a3 : Int32) (H : OQ (f_X0_isEnough_25_26 a3 s) (fun r9 s9 => Q (some (.int r9)) s9)) : WpM SHC MT (d + 3) 1 [.ref 6, .ref 25, .ref 26, .int a3] s Q := by
  refine WpM.enter me_X0_isEnough rfl rfl ?_
  show Y_X0_isEnough_25_26 d Q 0 [(0, .ref 6), (1, .ref 25), (2, .ref 26), (3, .int a3)] [] s
  unfold f_X0_isEnough_25_26 at H
  refine Wp.run 4 (show room8 [] ∧ WpM SHC MT (d + 2) 2 [.ref 6, .ref 25, .int a3] s (fun v9 s9 => Y_X0_isEnough_25_26 d Q 6 [(0, .ref 6), (1, .ref 25), (2, .ref 26), (3, .int a3)] (v9.toList ++ []) s9) from ⟨rm8_ rfl, ?_⟩)
  refine w_X0_askFor_25 (d := d) _ ?_
  refine oq_bd H (fun _ s2 H => ?_)
  show Y_X0_isEnough_25_26 d Q 6 [(0, .ref 6), (1, .ref 25), (2, .ref 26), (3, .int a3)] [] s2
  refine Wp.run 2 (show Y_X0_isEnough_25_26 d Q 9 [(4, .int 0), (0, .ref 6), (1, .ref 25), (2, .ref 26), (3, .int a3)] [] s2 from ?_)
  refine Wp.weak [1, 2, 3, 0] (lv' := [(0, .ref 6), (1, .ref 25), (2, .ref 26), (4, .int 0)]) rfl ?_
  exact w_X0_isEnough_25_26_b9 _ _ _ H
abbrev Y_X0_greatest_25_26 (d : Nat) (Q : Qt) : Xt := Wp SHC (WpM SHC MT (d + 3)) cd_X0_greatest (some .int) Q
def f_X0_greatest_25_26_b14 : Nat → Int32 → Int32 → Int32 → Int32 → Sg → Option (Int32 × Sg)
  | 0, _, _, _, _, _ => none
  | n + 1, v3, v4, v5, v6, s =>
    bd (f_X4_allQuarrels s) (fun r3 s4 =>
    if r3 < v6 then
      some (v4, s4)
    else
      bd (f_bitCount v6 s4) (fun r5 s6 =>
      if r5 ≤ v5 then
        (f_X0_greatest_25_26_b14 n) v3 v4 v5 (v6 + 1) s6
      else
        if (v6 &&& v3) = 0 then
          bd (f_X0_isEnough_25_26 v6 s6) (fun r7 s8 =>
          if r7 = 0 then
            (f_X0_greatest_25_26_b14 n) v3 v4 v5 (v6 + 1) s8
          else
            (f_X0_greatest_25_26_b14 n) v3 v6 r5 (v6 + 1) s8
          )
        else
          (f_X0_greatest_25_26_b14 n) v3 v4 v5 (v6 + 1) s6
      )
    )
set_option maxRecDepth 100000 in
theorem w_X0_greatest_25_26_b14 {d : Nat} {Q : Qt} (n : Nat) : ∀ (v3 : Int32) (v4 : Int32) (v5 : Int32) (v6 : Int32) (s : Sg), OQ (f_X0_greatest_25_26_b14 n v3 v4 v5 v6 s) (fun r9 s9 => Q (some (.int r9)) s9) → Y_X0_greatest_25_26 d Q 14 [(0, .ref 6), (1, .ref 25), (2, .ref 26), (3, .int v3), (4, .int v4), (5, .int v5), (6, .int v6)] [] s := by
  induction n with
  | zero => intro v3 v4 v5 v6 s H; exact H.elim
  | succ n ih =>
    intro v3 v4 v5 v6 s H
    unfold f_X0_greatest_25_26_b14 at H
    refine Wp.run 3 (show room8 [.int v6] ∧ WpM SHC MT (d + 3) 54 [.ref 25] s (fun v9 s9 => Y_X0_greatest_25_26 d Q 20 [(0, .ref 6), (1, .ref 25), (2, .ref 26), (3, .int v3), (4, .int v4), (5, .int v5), (6, .int v6)] (v9.toList ++ [.int v6]) s9) from ⟨rm8_ rfl, ?_⟩)
    refine w_X4_allQuarrels (d := d + 2)  ?_
    refine oq_bd H (fun r3 s4 H => ?_)
    show Y_X0_greatest_25_26 d Q 20 [(0, .ref 6), (1, .ref 25), (2, .ref 26), (3, .int v3), (4, .int v4), (5, .int v5), (6, .int v6)] [.int r3, .int v6] s4
    refine Wp.run 1 (show br (r3 < v6) (Y_X0_greatest_25_26 d Q 69 [(0, .ref 6), (1, .ref 25), (2, .ref 26), (3, .int v3), (4, .int v4), (5, .int v5), (6, .int v6)] [] s4) (Y_X0_greatest_25_26 d Q 23 [(0, .ref 6), (1, .ref 25), (2, .ref 26), (3, .int v3), (4, .int v4), (5, .int v5), (6, .int v6)] [] s4) from ⟨fun c9 => ?_, fun c9 => ?_⟩)
    · have H := oq_t c9 H
      exact Wp.run 2 ⟨rfl, H⟩
    · have H := oq_f c9 H
      refine Wp.run 2 (show room8 [] ∧ WpM SHC MT (d + 3) 330 [.int v6] s4 (fun v9 s9 => Y_X0_greatest_25_26 d Q 28 [(0, .ref 6), (1, .ref 25), (2, .ref 26), (3, .int v3), (4, .int v4), (5, .int v5), (6, .int v6)] (v9.toList ++ []) s9) from ⟨rm8_ rfl, ?_⟩)
      refine w_bitCount (d := d + 2) _ ?_
      refine oq_bd H (fun r5 s6 H => ?_)
      show Y_X0_greatest_25_26 d Q 28 [(0, .ref 6), (1, .ref 25), (2, .ref 26), (3, .int v3), (4, .int v4), (5, .int v5), (6, .int v6)] [.int r5] s6
      refine Wp.run 4 (show br (r5 ≤ v5) (Y_X0_greatest_25_26 d Q 63 [(7, .int r5), (0, .ref 6), (1, .ref 25), (2, .ref 26), (3, .int v3), (4, .int v4), (5, .int v5), (6, .int v6)] [] s6) (Y_X0_greatest_25_26 d Q 37 [(7, .int r5), (0, .ref 6), (1, .ref 25), (2, .ref 26), (3, .int v3), (4, .int v4), (5, .int v5), (6, .int v6)] [] s6) from ⟨fun c9 => ?_, fun c9 => ?_⟩)
      · have H := oq_t c9 H
        refine Wp.run 2 (show Y_X0_greatest_25_26 d Q 14 [(6, .int (v6 + 1)), (7, .int r5), (0, .ref 6), (1, .ref 25), (2, .ref 26), (3, .int v3), (4, .int v4), (5, .int v5)] [] s6 from ?_)
        refine Wp.weak [2, 3, 4, 5, 6, 7, 0] (lv' := [(0, .ref 6), (1, .ref 25), (2, .ref 26), (3, .int v3), (4, .int v4), (5, .int v5), (6, .int (v6 + 1))]) rfl ?_
        exact ih _ _ _ _ _ H
      · have H := oq_f c9 H
        refine Wp.run 4 (show br ((v6 &&& v3) = 0) (Y_X0_greatest_25_26 d Q 44 [(7, .int r5), (0, .ref 6), (1, .ref 25), (2, .ref 26), (3, .int v3), (4, .int v4), (5, .int v5), (6, .int v6)] [] s6) (Y_X0_greatest_25_26 d Q 63 [(7, .int r5), (0, .ref 6), (1, .ref 25), (2, .ref 26), (3, .int v3), (4, .int v4), (5, .int v5), (6, .int v6)] [] s6) from ⟨fun c9 => ?_, fun c9 => ?_⟩)
        · have H := oq_t c9 H
          refine Wp.run 5 (show room8 [] ∧ WpM SHC MT (d + 3) 1 [.ref 6, .ref 25, .ref 26, .int v6] s6 (fun v9 s9 => Y_X0_greatest_25_26 d Q 52 [(7, .int r5), (0, .ref 6), (1, .ref 25), (2, .ref 26), (3, .int v3), (4, .int v4), (5, .int v5), (6, .int v6)] (v9.toList ++ []) s9) from ⟨rm8_ rfl, ?_⟩)
          refine w_X0_isEnough_25_26 (d := d) _ ?_
          refine oq_bd H (fun r7 s8 H => ?_)
          show Y_X0_greatest_25_26 d Q 52 [(7, .int r5), (0, .ref 6), (1, .ref 25), (2, .ref 26), (3, .int v3), (4, .int v4), (5, .int v5), (6, .int v6)] [.int r7] s8
          refine Wp.run 1 (show br (r7 = 0) (Y_X0_greatest_25_26 d Q 63 [(7, .int r5), (0, .ref 6), (1, .ref 25), (2, .ref 26), (3, .int v3), (4, .int v4), (5, .int v5), (6, .int v6)] [] s8) (Y_X0_greatest_25_26 d Q 55 [(7, .int r5), (0, .ref 6), (1, .ref 25), (2, .ref 26), (3, .int v3), (4, .int v4), (5, .int v5), (6, .int v6)] [] s8) from ⟨fun c9 => ?_, fun c9 => ?_⟩)
          · have H := oq_t c9 H
            refine Wp.run 2 (show Y_X0_greatest_25_26 d Q 14 [(6, .int (v6 + 1)), (7, .int r5), (0, .ref 6), (1, .ref 25), (2, .ref 26), (3, .int v3), (4, .int v4), (5, .int v5)] [] s8 from ?_)
            refine Wp.weak [2, 3, 4, 5, 6, 7, 0] (lv' := [(0, .ref 6), (1, .ref 25), (2, .ref 26), (3, .int v3), (4, .int v4), (5, .int v5), (6, .int (v6 + 1))]) rfl ?_
            exact ih _ _ _ _ _ H
          · have H := oq_f c9 H
            refine Wp.run 6 (show Y_X0_greatest_25_26 d Q 14 [(6, .int (v6 + 1)), (4, .int v6), (5, .int r5), (7, .int r5), (0, .ref 6), (1, .ref 25), (2, .ref 26), (3, .int v3)] [] s8 from ?_)
            refine Wp.weak [4, 5, 6, 7, 1, 2, 0] (lv' := [(0, .ref 6), (1, .ref 25), (2, .ref 26), (3, .int v3), (4, .int v6), (5, .int r5), (6, .int (v6 + 1))]) rfl ?_
            exact ih _ _ _ _ _ H
        · have H := oq_f c9 H
          refine Wp.run 2 (show Y_X0_greatest_25_26 d Q 14 [(6, .int (v6 + 1)), (7, .int r5), (0, .ref 6), (1, .ref 25), (2, .ref 26), (3, .int v3), (4, .int v4), (5, .int v5)] [] s6 from ?_)
          refine Wp.weak [2, 3, 4, 5, 6, 7, 0] (lv' := [(0, .ref 6), (1, .ref 25), (2, .ref 26), (3, .int v3), (4, .int v4), (5, .int v5), (6, .int (v6 + 1))]) rfl ?_
          exact ih _ _ _ _ _ H
def f_X0_greatest_25_26  (s : Sg) : Option (Int32 × Sg) :=
  bd (f_X4_withoutHope s) (fun r1 s2 =>
  f_X0_greatest_25_26_b14 BIG r1 0 0 1 s2
  )
set_option maxRecDepth 100000 in
theorem w_X0_greatest_25_26 {d : Nat} {s : Sg} {Q : Qt}  (H : OQ (f_X0_greatest_25_26  s) (fun r9 s9 => Q (some (.int r9)) s9)) : WpM SHC MT (d + 4) 0 [.ref 6, .ref 25, .ref 26] s Q := by
  refine WpM.enter me_X0_greatest rfl rfl ?_
  show Y_X0_greatest_25_26 d Q 0 [(0, .ref 6), (1, .ref 25), (2, .ref 26)] [] s
  unfold f_X0_greatest_25_26 at H
  refine Wp.run 2 (show room8 [] ∧ WpM SHC MT (d + 3) 58 [.ref 25] s (fun v9 s9 => Y_X0_greatest_25_26 d Q 4 [(0, .ref 6), (1, .ref 25), (2, .ref 26)] (v9.toList ++ []) s9) from ⟨rm8_ rfl, ?_⟩)
  refine w_X4_withoutHope (d := d + 1)  ?_
  refine oq_bd H (fun r1 s2 H => ?_)
  show Y_X0_greatest_25_26 d Q 4 [(0, .ref 6), (1, .ref 25), (2, .ref 26)] [.int r1] s2
  refine Wp.run 7 (show Y_X0_greatest_25_26 d Q 14 [(6, .int 1), (5, .int 0), (4, .int 0), (3, .int r1), (0, .ref 6), (1, .ref 25), (2, .ref 26)] [] s2 from ?_)
  refine Wp.weak [4, 5, 6, 3, 2, 1, 0] (lv' := [(0, .ref 6), (1, .ref 25), (2, .ref 26), (3, .int r1), (4, .int 0), (5, .int 0), (6, .int 1)]) rfl ?_
  exact w_X0_greatest_25_26_b14 _ _ _ _ _ _ H
abbrev Y_X11_most (d : Nat) (Q : Qt) : Xt := Wp SHC (WpM SHC MT (d + 4)) cd_X11_most (some .int) Q
def f_X11_most  (s : Sg) : Option (Int32 × Sg) :=
  bd (f_X0_greatest_25_26 s) (fun r1 s2 =>
  bd (f_X11_answer r1 s2) (fun r3 s4 =>
  some (r3, s4)
  )
  )
set_option maxRecDepth 100000 in
theorem w_X11_most {d : Nat} {s : Sg} {Q : Qt}  (H : OQ (f_X11_most  s) (fun r9 s9 => Q (some (.int r9)) s9)) : WpM SHC MT (d + 5) 150 [.ref 0] s Q := by
  refine WpM.enter me_X11_most rfl rfl ?_
  show Y_X11_most d Q 0 [(0, .ref 0)] [] s
  unfold f_X11_most at H
  refine Wp.run 8 (show room8 [.ref 0] ∧ WpM SHC MT (d + 4) 0 [.ref 6, .ref 25, .ref 26] s (fun v9 s9 => Y_X11_most d Q 16 [(0, .ref 0)] (v9.toList ++ [.ref 0]) s9) from ⟨rm8_ rfl, ?_⟩)
  refine w_X0_greatest_25_26 (d := d)  ?_
  refine oq_bd H (fun r1 s2 H => ?_)
  show Y_X11_most d Q 16 [(0, .ref 0)] [.int r1, .ref 0] s2
  refine Wp.run 1 (show room8 [] ∧ WpM SHC MT (d + 4) 164 [.ref 0, .int r1] s2 (fun v9 s9 => Y_X11_most d Q 19 [(0, .ref 0)] (v9.toList ++ []) s9) from ⟨rm8_ rfl, ?_⟩)
  refine w_X11_answer (d := d + 3) _ ?_
  refine oq_bd H (fun r3 s4 H => ?_)
  show Y_X11_most d Q 19 [(0, .ref 0)] [.int r3] s4
  exact Wp.run 1 ⟨rfl, H⟩
abbrev Y_X11_isSet (d : Nat) (Q : Qt) : Xt := Wp SHC (WpM SHC MT (d + 1)) cd_X11_isSet (some .boolean) Q
def f_X11_isSet (a1 : Int32) (s : Sg) : Option (Int32 × Sg) :=
  bd (f_X4_allQuarrels s) (fun r1 s2 =>
  bd (f_X11_within a1 0 r1 s2) (fun r3 s4 =>
  ck (r3 = 0 ∨ r3 = 1) (some (r3, s4))
  )
  )
set_option maxRecDepth 100000 in
theorem w_X11_isSet {d : Nat} {s : Sg} {Q : Qt} (a1 : Int32) (H : OQ (f_X11_isSet a1 s) (fun r9 s9 => Q (some (.int r9)) s9)) : WpM SHC MT (d + 2) 175 [.ref 0, .int a1] s Q := by
  refine WpM.enter me_X11_isSet rfl rfl ?_
  show Y_X11_isSet d Q 0 [(0, .ref 0), (1, .int a1)] [] s
  unfold f_X11_isSet at H
  refine Wp.run 5 (show room8 [.int 0, .int a1] ∧ WpM SHC MT (d + 1) 54 [.ref 25] s (fun v9 s9 => Y_X11_isSet d Q 9 [(0, .ref 0), (1, .int a1)] (v9.toList ++ [.int 0, .int a1]) s9) from ⟨rm8_ rfl, ?_⟩)
  refine w_X4_allQuarrels (d := d)  ?_
  refine oq_bd H (fun r1 s2 H => ?_)
  show Y_X11_isSet d Q 9 [(0, .ref 0), (1, .int a1)] [.int r1, .int 0, .int a1] s2
  refine Wp.run 1 (show room8 [] ∧ WpM SHC MT (d + 1) 169 [.int a1, .int 0, .int r1] s2 (fun v9 s9 => Y_X11_isSet d Q 12 [(0, .ref 0), (1, .int a1)] (v9.toList ++ []) s9) from ⟨rm8_ rfl, ?_⟩)
  refine w_X11_within (d := d) _ _ _ ?_
  refine oq_bd H (fun r3 s4 H => ?_)
  show Y_X11_isSet d Q 12 [(0, .ref 0), (1, .int a1)] [.int r3] s4
  obtain ⟨c9, H⟩ := oq_ck H
  exact Wp.run 1 ⟨b01_n c9, H⟩
abbrev Y_X11_lack (d : Nat) (Q : Qt) : Xt := Wp SHC (WpM SHC MT (d + 4)) cd_X11_lack (some .int) Q
def f_X11_lack (a1 : Int32) (s : Sg) : Option (Int32 × Sg) :=
  bd (f_X11_isSet a1 s) (fun r1 s2 =>
  if r1 = 0 then
    bd (f_X11_refuse 1 s2) (fun r3 s4 =>
    some (r3, s4)
    )
  else
    bd (f_X0_lackOf_25_26 a1 s2) (fun r5 s6 =>
    bd (f_X11_answer r5 s6) (fun r7 s8 =>
    some (r7, s8)
    )
    )
  )
set_option maxRecDepth 100000 in
theorem w_X11_lack {d : Nat} {s : Sg} {Q : Qt} (a1 : Int32) (H : OQ (f_X11_lack a1 s) (fun r9 s9 => Q (some (.int r9)) s9)) : WpM SHC MT (d + 5) 151 [.ref 0, .int a1] s Q := by
  refine WpM.enter me_X11_lack rfl rfl ?_
  show Y_X11_lack d Q 0 [(0, .ref 0), (1, .int a1)] [] s
  unfold f_X11_lack at H
  refine Wp.run 3 (show room8 [] ∧ WpM SHC MT (d + 4) 175 [.ref 0, .int a1] s (fun v9 s9 => Y_X11_lack d Q 5 [(0, .ref 0), (1, .int a1)] (v9.toList ++ []) s9) from ⟨rm8_ rfl, ?_⟩)
  refine w_X11_isSet (d := d + 2) _ ?_
  refine oq_bd H (fun r1 s2 H => ?_)
  show Y_X11_lack d Q 5 [(0, .ref 0), (1, .int a1)] [.int r1] s2
  refine Wp.run 1 (show br (r1 = 0) (Y_X11_lack d Q 8 [(0, .ref 0), (1, .int a1)] [] s2) (Y_X11_lack d Q 14 [(0, .ref 0), (1, .int a1)] [] s2) from ⟨fun c9 => ?_, fun c9 => ?_⟩)
  · have H := oq_t c9 H
    refine Wp.run 3 (show room8 [] ∧ WpM SHC MT (d + 4) 166 [.ref 0, .int 1] s2 (fun v9 s9 => Y_X11_lack d Q 13 [(0, .ref 0), (1, .int a1)] (v9.toList ++ []) s9) from ⟨rm8_ rfl, ?_⟩)
    refine w_X11_refuse (d := d + 3) _ ?_
    refine oq_bd H (fun r3 s4 H => ?_)
    show Y_X11_lack d Q 13 [(0, .ref 0), (1, .int a1)] [.int r3] s4
    exact Wp.run 1 ⟨rfl, H⟩
  · have H := oq_f c9 H
    refine Wp.run 9 (show room8 [.ref 0] ∧ WpM SHC MT (d + 4) 3 [.ref 6, .ref 25, .ref 26, .int a1] s2 (fun v9 s9 => Y_X11_lack d Q 31 [(0, .ref 0), (1, .int a1)] (v9.toList ++ [.ref 0]) s9) from ⟨rm8_ rfl, ?_⟩)
    refine w_X0_lackOf_25_26 (d := d) _ ?_
    refine oq_bd H (fun r5 s6 H => ?_)
    show Y_X11_lack d Q 31 [(0, .ref 0), (1, .int a1)] [.int r5, .ref 0] s6
    refine Wp.run 1 (show room8 [] ∧ WpM SHC MT (d + 4) 164 [.ref 0, .int r5] s6 (fun v9 s9 => Y_X11_lack d Q 34 [(0, .ref 0), (1, .int a1)] (v9.toList ++ []) s9) from ⟨rm8_ rfl, ?_⟩)
    refine w_X11_answer (d := d + 3) _ ?_
    refine oq_bd H (fun r7 s8 H => ?_)
    show Y_X11_lack d Q 34 [(0, .ref 0), (1, .int a1)] [.int r7] s8
    exact Wp.run 1 ⟨rfl, H⟩
abbrev Y_X11_lackAt (d : Nat) (Q : Qt) : Xt := Wp SHC (WpM SHC MT (d + 3)) cd_X11_lackAt (some .int) Q
def f_X11_lackAt (a1 : Int32) (a2 : Int32) (s : Sg) : Option (Int32 × Sg) :=
  bd (f_X11_isSet a1 s) (fun r1 s2 =>
  bd (f_X11_whyNoStep a2 r1 s2) (fun r3 s4 =>
  if r3 = 0 then
    bd (f_X4_withoutHope s4) (fun r5 s6 =>
    if (a1 &&& r5) = 0 then
      bd (f_X0_lackOnStep_25_26 a1 a2 s6) (fun r7 s8 =>
      bd (f_X11_answer r7 s8) (fun r9 s10 =>
      some (r9, s10)
      )
      )
    else
      bd (f_X11_answer (-1) s6) (fun r11 s12 =>
      some (r11, s12)
      )
    )
  else
    bd (f_X11_refuse r3 s4) (fun r13 s14 =>
    some (r13, s14)
    )
  )
  )
set_option maxRecDepth 100000 in
theorem w_X11_lackAt {d : Nat} {s : Sg} {Q : Qt} (a1 : Int32) (a2 : Int32) (H : OQ (f_X11_lackAt a1 a2 s) (fun r9 s9 => Q (some (.int r9)) s9)) : WpM SHC MT (d + 4) 152 [.ref 0, .int a1, .int a2] s Q := by
  refine WpM.enter me_X11_lackAt rfl rfl ?_
  show Y_X11_lackAt d Q 0 [(0, .ref 0), (1, .int a1), (2, .int a2)] [] s
  unfold f_X11_lackAt at H
  refine Wp.run 5 (show room8 [.int a2, .ref 0] ∧ WpM SHC MT (d + 3) 175 [.ref 0, .int a1] s (fun v9 s9 => Y_X11_lackAt d Q 7 [(0, .ref 0), (1, .int a1), (2, .int a2)] (v9.toList ++ [.int a2, .ref 0]) s9) from ⟨rm8_ rfl, ?_⟩)
  refine w_X11_isSet (d := d + 1) _ ?_
  refine oq_bd H (fun r1 s2 H => ?_)
  show Y_X11_lackAt d Q 7 [(0, .ref 0), (1, .int a1), (2, .int a2)] [.int r1, .int a2, .ref 0] s2
  refine Wp.run 1 (show room8 [] ∧ WpM SHC MT (d + 3) 177 [.ref 0, .int a2, .int r1] s2 (fun v9 s9 => Y_X11_lackAt d Q 10 [(0, .ref 0), (1, .int a1), (2, .int a2)] (v9.toList ++ []) s9) from ⟨rm8_ rfl, ?_⟩)
  refine w_X11_whyNoStep (d := d) _ _ ?_
  refine oq_bd H (fun r3 s4 H => ?_)
  show Y_X11_lackAt d Q 10 [(0, .ref 0), (1, .int a1), (2, .int a2)] [.int r3] s4
  refine Wp.run 3 (show br (r3 = 0) (Y_X11_lackAt d Q 21 [(3, .int r3), (0, .ref 0), (1, .int a1), (2, .int a2)] [] s4) (Y_X11_lackAt d Q 15 [(3, .int r3), (0, .ref 0), (1, .int a1), (2, .int a2)] [] s4) from ⟨fun c9 => ?_, fun c9 => ?_⟩)
  · have H := oq_t c9 H
    refine Wp.run 4 (show room8 [.int a1] ∧ WpM SHC MT (d + 3) 58 [.ref 25] s4 (fun v9 s9 => Y_X11_lackAt d Q 29 [(3, .int r3), (0, .ref 0), (1, .int a1), (2, .int a2)] (v9.toList ++ [.int a1]) s9) from ⟨rm8_ rfl, ?_⟩)
    refine w_X4_withoutHope (d := d + 1)  ?_
    refine oq_bd H (fun r5 s6 H => ?_)
    show Y_X11_lackAt d Q 29 [(3, .int r3), (0, .ref 0), (1, .int a1), (2, .int a2)] [.int r5, .int a1] s6
    refine Wp.run 2 (show br ((a1 &&& r5) = 0) (Y_X11_lackAt d Q 39 [(3, .int r3), (0, .ref 0), (1, .int a1), (2, .int a2)] [] s6) (Y_X11_lackAt d Q 33 [(3, .int r3), (0, .ref 0), (1, .int a1), (2, .int a2)] [] s6) from ⟨fun c9 => ?_, fun c9 => ?_⟩)
    · have H := oq_t c9 H
      refine Wp.run 10 (show room8 [.ref 0] ∧ WpM SHC MT (d + 3) 4 [.ref 6, .ref 25, .ref 26, .int a1, .int a2] s6 (fun v9 s9 => Y_X11_lackAt d Q 57 [(3, .int r3), (0, .ref 0), (1, .int a1), (2, .int a2)] (v9.toList ++ [.ref 0]) s9) from ⟨rm8_ rfl, ?_⟩)
      refine w_X0_lackOnStep_25_26 (d := d) _ _ ?_
      refine oq_bd H (fun r7 s8 H => ?_)
      show Y_X11_lackAt d Q 57 [(3, .int r3), (0, .ref 0), (1, .int a1), (2, .int a2)] [.int r7, .ref 0] s8
      refine Wp.run 1 (show room8 [] ∧ WpM SHC MT (d + 3) 164 [.ref 0, .int r7] s8 (fun v9 s9 => Y_X11_lackAt d Q 60 [(3, .int r3), (0, .ref 0), (1, .int a1), (2, .int a2)] (v9.toList ++ []) s9) from ⟨rm8_ rfl, ?_⟩)
      refine w_X11_answer (d := d + 2) _ ?_
      refine oq_bd H (fun r9 s10 H => ?_)
      show Y_X11_lackAt d Q 60 [(3, .int r3), (0, .ref 0), (1, .int a1), (2, .int a2)] [.int r9] s10
      exact Wp.run 1 ⟨rfl, H⟩
    · have H := oq_f c9 H
      refine Wp.run 3 (show room8 [] ∧ WpM SHC MT (d + 3) 164 [.ref 0, .int (-1)] s6 (fun v9 s9 => Y_X11_lackAt d Q 38 [(3, .int r3), (0, .ref 0), (1, .int a1), (2, .int a2)] (v9.toList ++ []) s9) from ⟨rm8_ rfl, ?_⟩)
      refine w_X11_answer (d := d + 2) _ ?_
      refine oq_bd H (fun r11 s12 H => ?_)
      show Y_X11_lackAt d Q 38 [(3, .int r3), (0, .ref 0), (1, .int a1), (2, .int a2)] [.int r11] s12
      exact Wp.run 1 ⟨rfl, H⟩
  · have H := oq_f c9 H
    refine Wp.run 3 (show room8 [] ∧ WpM SHC MT (d + 3) 166 [.ref 0, .int r3] s4 (fun v9 s9 => Y_X11_lackAt d Q 20 [(3, .int r3), (0, .ref 0), (1, .int a1), (2, .int a2)] (v9.toList ++ []) s9) from ⟨rm8_ rfl, ?_⟩)
    refine w_X11_refuse (d := d + 2) _ ?_
    refine oq_bd H (fun r13 s14 H => ?_)
    show Y_X11_lackAt d Q 20 [(3, .int r3), (0, .ref 0), (1, .int a1), (2, .int a2)] [.int r13] s14
    exact Wp.run 1 ⟨rfl, H⟩
abbrev Y_X9_freedBy_26_25 (d : Nat) (Q : Qt) : Xt := Wp SHC (WpM SHC MT (d + 3)) cd_X9_freedBy (some .int) Q
def f_X9_freedBy_26_25 (a2 : Int32) (s : Sg) : Option (Int32 × Sg) :=
  bd (f_X9_atPeace_26_25 a2 s) (fun r1 s2 =>
  bd (f_X9_atPeace_26_25 (-1) s2) (fun r3 s4 =>
  some ((r1 &&& (r3 ^^^ (-1))) &&& (((1 : Int32) <<< (a2 &&& 31)) ^^^ (-1)), s4)
  )
  )
set_option maxRecDepth 100000 in
theorem w_X9_freedBy_26_25 {d : Nat} {s : Sg} {Q : Qt} (a2 : Int32) (H : OQ (f_X9_freedBy_26_25 a2 s) (fun r9 s9 => Q (some (.int r9)) s9)) : WpM SHC MT (d + 4) 96 [.ref 25, .ref 26, .int a2] s Q := by
  refine WpM.enter me_X9_freedBy rfl rfl ?_
  show Y_X9_freedBy_26_25 d Q 0 [(0, .ref 25), (1, .ref 26), (2, .int a2)] [] s
  unfold f_X9_freedBy_26_25 at H
  refine Wp.run 4 (show room8 [] ∧ WpM SHC MT (d + 3) 93 [.ref 25, .ref 26, .int a2] s (fun v9 s9 => Y_X9_freedBy_26_25 d Q 6 [(0, .ref 25), (1, .ref 26), (2, .int a2)] (v9.toList ++ []) s9) from ⟨rm8_ rfl, ?_⟩)
  refine w_X9_atPeace_26_25 (d := d) _ ?_
  refine oq_bd H (fun r1 s2 H => ?_)
  show Y_X9_freedBy_26_25 d Q 6 [(0, .ref 25), (1, .ref 26), (2, .int a2)] [.int r1] s2
  refine Wp.run 6 (show room8 [.int r1] ∧ WpM SHC MT (d + 3) 93 [.ref 25, .ref 26, .int (-1)] s2 (fun v9 s9 => Y_X9_freedBy_26_25 d Q 14 [(3, .int r1), (0, .ref 25), (1, .ref 26), (2, .int a2)] (v9.toList ++ [.int r1]) s9) from ⟨rm8_ rfl, ?_⟩)
  refine w_X9_atPeace_26_25 (d := d) _ ?_
  refine oq_bd H (fun r3 s4 H => ?_)
  show Y_X9_freedBy_26_25 d Q 14 [(3, .int r1), (0, .ref 25), (1, .ref 26), (2, .int a2)] [.int r3, .int r1] s4
  exact Wp.run 10 ⟨rfl, H⟩
abbrev Y_X11_freed (d : Nat) (Q : Qt) : Xt := Wp SHC (WpM SHC MT (d + 4)) cd_X11_freed (some .int) Q
def f_X11_freed (a1 : Int32) (s : Sg) : Option (Int32 × Sg) :=
  bd (f_X11_isQuarrel a1 s) (fun r1 s2 =>
  if r1 = 0 then
    bd (f_X11_refuse 1 s2) (fun r3 s4 =>
    some (r3, s4)
    )
  else
    bd (f_X9_freedBy_26_25 a1 s2) (fun r5 s6 =>
    bd (f_X11_answer r5 s6) (fun r7 s8 =>
    some (r7, s8)
    )
    )
  )
set_option maxRecDepth 100000 in
theorem w_X11_freed {d : Nat} {s : Sg} {Q : Qt} (a1 : Int32) (H : OQ (f_X11_freed a1 s) (fun r9 s9 => Q (some (.int r9)) s9)) : WpM SHC MT (d + 5) 153 [.ref 0, .int a1] s Q := by
  refine WpM.enter me_X11_freed rfl rfl ?_
  show Y_X11_freed d Q 0 [(0, .ref 0), (1, .int a1)] [] s
  unfold f_X11_freed at H
  refine Wp.run 3 (show room8 [] ∧ WpM SHC MT (d + 4) 173 [.ref 0, .int a1] s (fun v9 s9 => Y_X11_freed d Q 5 [(0, .ref 0), (1, .int a1)] (v9.toList ++ []) s9) from ⟨rm8_ rfl, ?_⟩)
  refine w_X11_isQuarrel (d := d + 2) _ ?_
  refine oq_bd H (fun r1 s2 H => ?_)
  show Y_X11_freed d Q 5 [(0, .ref 0), (1, .int a1)] [.int r1] s2
  refine Wp.run 1 (show br (r1 = 0) (Y_X11_freed d Q 8 [(0, .ref 0), (1, .int a1)] [] s2) (Y_X11_freed d Q 14 [(0, .ref 0), (1, .int a1)] [] s2) from ⟨fun c9 => ?_, fun c9 => ?_⟩)
  · have H := oq_t c9 H
    refine Wp.run 3 (show room8 [] ∧ WpM SHC MT (d + 4) 166 [.ref 0, .int 1] s2 (fun v9 s9 => Y_X11_freed d Q 13 [(0, .ref 0), (1, .int a1)] (v9.toList ++ []) s9) from ⟨rm8_ rfl, ?_⟩)
    refine w_X11_refuse (d := d + 3) _ ?_
    refine oq_bd H (fun r3 s4 H => ?_)
    show Y_X11_freed d Q 13 [(0, .ref 0), (1, .int a1)] [.int r3] s4
    exact Wp.run 1 ⟨rfl, H⟩
  · have H := oq_f c9 H
    refine Wp.run 7 (show room8 [.ref 0] ∧ WpM SHC MT (d + 4) 96 [.ref 25, .ref 26, .int a1] s2 (fun v9 s9 => Y_X11_freed d Q 27 [(0, .ref 0), (1, .int a1)] (v9.toList ++ [.ref 0]) s9) from ⟨rm8_ rfl, ?_⟩)
    refine w_X9_freedBy_26_25 (d := d) _ ?_
    refine oq_bd H (fun r5 s6 H => ?_)
    show Y_X11_freed d Q 27 [(0, .ref 0), (1, .int a1)] [.int r5, .ref 0] s6
    refine Wp.run 1 (show room8 [] ∧ WpM SHC MT (d + 4) 164 [.ref 0, .int r5] s6 (fun v9 s9 => Y_X11_freed d Q 30 [(0, .ref 0), (1, .int a1)] (v9.toList ++ []) s9) from ⟨rm8_ rfl, ?_⟩)
    refine w_X11_answer (d := d + 3) _ ?_
    refine oq_bd H (fun r7 s8 H => ?_)
    show Y_X11_freed d Q 30 [(0, .ref 0), (1, .int a1)] [.int r7] s8
    exact Wp.run 1 ⟨rfl, H⟩
abbrev Y_X11_cost (d : Nat) (Q : Qt) : Xt := Wp SHC (WpM SHC MT (d + 3)) cd_X11_cost (some .int) Q
def f_X11_cost (a1 : Int32) (s : Sg) : Option (Int32 × Sg) :=
  bd (f_X11_within a1 0 9999 s) (fun r1 s2 =>
  if r1 = 0 then
    bd (f_X11_refuse 1 s2) (fun r3 s4 =>
    some (r3, s4)
    )
  else
    bd (f_X0_payFor_25_26 a1 s2) (fun r5 s6 =>
    if r5 = 0 then
      bd (f_X11_refuse 6 s6) (fun r7 s8 =>
      some (r7, s8)
      )
    else
      bd (f_X11_answer (s6.1 6 3) s6) (fun r9 s10 =>
      some (r9, s10)
      )
    )
  )
set_option maxRecDepth 100000 in
theorem w_X11_cost {d : Nat} {s : Sg} {Q : Qt} (a1 : Int32) (H : OQ (f_X11_cost a1 s) (fun r9 s9 => Q (some (.int r9)) s9)) : WpM SHC MT (d + 4) 154 [.ref 0, .int a1] s Q := by
  refine WpM.enter me_X11_cost rfl rfl ?_
  show Y_X11_cost d Q 0 [(0, .ref 0), (1, .int a1)] [] s
  unfold f_X11_cost at H
  refine Wp.run 4 (show room8 [] ∧ WpM SHC MT (d + 3) 169 [.int a1, .int 0, .int 9999] s (fun v9 s9 => Y_X11_cost d Q 8 [(0, .ref 0), (1, .int a1)] (v9.toList ++ []) s9) from ⟨rm8_ rfl, ?_⟩)
  refine w_X11_within (d := d + 2) _ _ _ ?_
  refine oq_bd H (fun r1 s2 H => ?_)
  show Y_X11_cost d Q 8 [(0, .ref 0), (1, .int a1)] [.int r1] s2
  refine Wp.run 1 (show br (r1 = 0) (Y_X11_cost d Q 11 [(0, .ref 0), (1, .int a1)] [] s2) (Y_X11_cost d Q 17 [(0, .ref 0), (1, .int a1)] [] s2) from ⟨fun c9 => ?_, fun c9 => ?_⟩)
  · have H := oq_t c9 H
    refine Wp.run 3 (show room8 [] ∧ WpM SHC MT (d + 3) 166 [.ref 0, .int 1] s2 (fun v9 s9 => Y_X11_cost d Q 16 [(0, .ref 0), (1, .int a1)] (v9.toList ++ []) s9) from ⟨rm8_ rfl, ?_⟩)
    refine w_X11_refuse (d := d + 2) _ ?_
    refine oq_bd H (fun r3 s4 H => ?_)
    show Y_X11_cost d Q 16 [(0, .ref 0), (1, .int a1)] [.int r3] s4
    exact Wp.run 1 ⟨rfl, H⟩
  · have H := oq_f c9 H
    refine Wp.run 8 (show room8 [] ∧ WpM SHC MT (d + 3) 6 [.ref 6, .ref 25, .ref 26, .int a1] s2 (fun v9 s9 => Y_X11_cost d Q 33 [(0, .ref 0), (1, .int a1)] (v9.toList ++ []) s9) from ⟨rm8_ rfl, ?_⟩)
    refine w_X0_payFor_25_26 (d := d) _ ?_
    refine oq_bd H (fun r5 s6 H => ?_)
    show Y_X11_cost d Q 33 [(0, .ref 0), (1, .int a1)] [.int r5] s6
    refine Wp.run 1 (show br (r5 = 0) (Y_X11_cost d Q 50 [(0, .ref 0), (1, .int a1)] [] s6) (Y_X11_cost d Q 36 [(0, .ref 0), (1, .int a1)] [] s6) from ⟨fun c9 => ?_, fun c9 => ?_⟩)
    · have H := oq_t c9 H
      refine Wp.run 3 (show room8 [] ∧ WpM SHC MT (d + 3) 166 [.ref 0, .int 6] s6 (fun v9 s9 => Y_X11_cost d Q 56 [(0, .ref 0), (1, .int a1)] (v9.toList ++ []) s9) from ⟨rm8_ rfl, ?_⟩)
      refine w_X11_refuse (d := d + 2) _ ?_
      refine oq_bd H (fun r7 s8 H => ?_)
      show Y_X11_cost d Q 56 [(0, .ref 0), (1, .int a1)] [.int r7] s8
      exact Wp.run 1 ⟨rfl, H⟩
    · have H := oq_f c9 H
      refine Wp.run 5 (show room8 [] ∧ WpM SHC MT (d + 3) 164 [.ref 0, .int (s6.1 6 3)] s6 (fun v9 s9 => Y_X11_cost d Q 47 [(0, .ref 0), (1, .int a1)] (v9.toList ++ []) s9) from ⟨rm8_ rfl, ?_⟩)
      refine w_X11_answer (d := d + 2) _ ?_
      refine oq_bd H (fun r9 s10 H => ?_)
      show Y_X11_cost d Q 47 [(0, .ref 0), (1, .int a1)] [.int r9] s10
      exact Wp.run 2 ⟨rfl, H⟩
abbrev Y_X11_dearest (d : Nat) (Q : Qt) : Xt := Wp SHC (WpM SHC MT (d + 3)) cd_X11_dearest (some .int) Q
def f_X11_dearest (a1 : Int32) (s : Sg) : Option (Int32 × Sg) :=
  bd (f_X11_within a1 1 9999 s) (fun r1 s2 =>
  if r1 = 0 then
    bd (f_X11_refuse 1 s2) (fun r3 s4 =>
    some (r3, s4)
    )
  else
    bd (f_X0_payFor_25_26 a1 s2) (fun r5 s6 =>
    if r5 = 0 then
      bd (f_X11_refuse 6 s6) (fun r7 s8 =>
      some (r7, s8)
      )
    else
      bd (f_X11_answer (s6.1 6 4) s6) (fun r9 s10 =>
      some (r9, s10)
      )
    )
  )
set_option maxRecDepth 100000 in
theorem w_X11_dearest {d : Nat} {s : Sg} {Q : Qt} (a1 : Int32) (H : OQ (f_X11_dearest a1 s) (fun r9 s9 => Q (some (.int r9)) s9)) : WpM SHC MT (d + 4) 155 [.ref 0, .int a1] s Q := by
  refine WpM.enter me_X11_dearest rfl rfl ?_
  show Y_X11_dearest d Q 0 [(0, .ref 0), (1, .int a1)] [] s
  unfold f_X11_dearest at H
  refine Wp.run 4 (show room8 [] ∧ WpM SHC MT (d + 3) 169 [.int a1, .int 1, .int 9999] s (fun v9 s9 => Y_X11_dearest d Q 8 [(0, .ref 0), (1, .int a1)] (v9.toList ++ []) s9) from ⟨rm8_ rfl, ?_⟩)
  refine w_X11_within (d := d + 2) _ _ _ ?_
  refine oq_bd H (fun r1 s2 H => ?_)
  show Y_X11_dearest d Q 8 [(0, .ref 0), (1, .int a1)] [.int r1] s2
  refine Wp.run 1 (show br (r1 = 0) (Y_X11_dearest d Q 11 [(0, .ref 0), (1, .int a1)] [] s2) (Y_X11_dearest d Q 17 [(0, .ref 0), (1, .int a1)] [] s2) from ⟨fun c9 => ?_, fun c9 => ?_⟩)
  · have H := oq_t c9 H
    refine Wp.run 3 (show room8 [] ∧ WpM SHC MT (d + 3) 166 [.ref 0, .int 1] s2 (fun v9 s9 => Y_X11_dearest d Q 16 [(0, .ref 0), (1, .int a1)] (v9.toList ++ []) s9) from ⟨rm8_ rfl, ?_⟩)
    refine w_X11_refuse (d := d + 2) _ ?_
    refine oq_bd H (fun r3 s4 H => ?_)
    show Y_X11_dearest d Q 16 [(0, .ref 0), (1, .int a1)] [.int r3] s4
    exact Wp.run 1 ⟨rfl, H⟩
  · have H := oq_f c9 H
    refine Wp.run 8 (show room8 [] ∧ WpM SHC MT (d + 3) 6 [.ref 6, .ref 25, .ref 26, .int a1] s2 (fun v9 s9 => Y_X11_dearest d Q 33 [(0, .ref 0), (1, .int a1)] (v9.toList ++ []) s9) from ⟨rm8_ rfl, ?_⟩)
    refine w_X0_payFor_25_26 (d := d) _ ?_
    refine oq_bd H (fun r5 s6 H => ?_)
    show Y_X11_dearest d Q 33 [(0, .ref 0), (1, .int a1)] [.int r5] s6
    refine Wp.run 1 (show br (r5 = 0) (Y_X11_dearest d Q 50 [(0, .ref 0), (1, .int a1)] [] s6) (Y_X11_dearest d Q 36 [(0, .ref 0), (1, .int a1)] [] s6) from ⟨fun c9 => ?_, fun c9 => ?_⟩)
    · have H := oq_t c9 H
      refine Wp.run 3 (show room8 [] ∧ WpM SHC MT (d + 3) 166 [.ref 0, .int 6] s6 (fun v9 s9 => Y_X11_dearest d Q 56 [(0, .ref 0), (1, .int a1)] (v9.toList ++ []) s9) from ⟨rm8_ rfl, ?_⟩)
      refine w_X11_refuse (d := d + 2) _ ?_
      refine oq_bd H (fun r7 s8 H => ?_)
      show Y_X11_dearest d Q 56 [(0, .ref 0), (1, .int a1)] [.int r7] s8
      exact Wp.run 1 ⟨rfl, H⟩
    · have H := oq_f c9 H
      refine Wp.run 5 (show room8 [] ∧ WpM SHC MT (d + 3) 164 [.ref 0, .int (s6.1 6 4)] s6 (fun v9 s9 => Y_X11_dearest d Q 47 [(0, .ref 0), (1, .int a1)] (v9.toList ++ []) s9) from ⟨rm8_ rfl, ?_⟩)
      refine w_X11_answer (d := d + 2) _ ?_
      refine oq_bd H (fun r9 s10 H => ?_)
      show Y_X11_dearest d Q 47 [(0, .ref 0), (1, .int a1)] [.int r9] s10
      exact Wp.run 2 ⟨rfl, H⟩
abbrev Y_X11_quiet (d : Nat) (Q : Qt) : Xt := Wp SHC (WpM SHC MT (d + 3)) cd_X11_quiet (some .int) Q
def f_X11_quiet_b28 (v1 : Int32) (v2 : Int32) (v3 : Int32) (t0 : Int32) (t1 : Int32) (s : Sg) : Option (Int32 × Sg) :=
  bd (f_X11_whyNoStep t1 t0 s) (fun r3 s4 =>
  if r3 = 0 then
    ck (inr v1 8) (
    bd (f_X11_answer (if 0 < ((v2 + ((s4.1 25 18) * v3)) - (s4.1 40 v1.toNatClampNeg)) then ((v2 + ((s4.1 25 18) * v3)) - (s4.1 40 v1.toNatClampNeg)) else 0) s4) (fun r6 s7 =>
    some (r6, s7)
    )
    )
  else
    bd (f_X11_refuse r3 s4) (fun r8 s9 =>
    some (r8, s9)
    )
  )
set_option maxRecDepth 100000 in
theorem w_X11_quiet_b28 {d : Nat} {Q : Qt} (v1 : Int32) (v2 : Int32) (v3 : Int32) (t0 : Int32) (t1 : Int32) (s : Sg) (H : OQ (f_X11_quiet_b28 v1 v2 v3 t0 t1 s) (fun r9 s9 => Q (some (.int r9)) s9)) : Y_X11_quiet d Q 28 [(0, .ref 0), (1, .int v1), (2, .int v2), (3, .int v3)] [.int t0, .int t1, .ref 0] s := by
  unfold f_X11_quiet_b28 at H
  refine Wp.run 1 (show room8 [] ∧ WpM SHC MT (d + 3) 177 [.ref 0, .int t1, .int t0] s (fun v9 s9 => Y_X11_quiet d Q 31 [(0, .ref 0), (1, .int v1), (2, .int v2), (3, .int v3)] (v9.toList ++ []) s9) from ⟨rm8_ rfl, ?_⟩)
  refine w_X11_whyNoStep (d := d) _ _ ?_
  refine oq_bd H (fun r3 s4 H => ?_)
  show Y_X11_quiet d Q 31 [(0, .ref 0), (1, .int v1), (2, .int v2), (3, .int v3)] [.int r3] s4
  refine Wp.run 3 (show br (r3 = 0) (Y_X11_quiet d Q 45 [(4, .int r3), (0, .ref 0), (1, .int v1), (2, .int v2), (3, .int v3)] [] s4) (Y_X11_quiet d Q 38 [(4, .int r3), (0, .ref 0), (1, .int v1), (2, .int v2), (3, .int v3)] [] s4) from ⟨fun c9 => ?_, fun c9 => ?_⟩)
  · have H := oq_t c9 H
    obtain ⟨hc5, H⟩ := oq_ck H
    refine Wp.run 14 (show (vp_in v1 8) ∧ Y_X11_quiet d Q 67 [(4, .int r3), (0, .ref 0), (1, .int v1), (2, .int v2), (3, .int v3)] [.int (s4.1 40 v1.toNatClampNeg), .int (v2 + ((s4.1 25 18) * v3)), .int 0, .ref 0] s4 from ⟨hc5, ?_⟩)
    refine Wp.run 2 (show room8 [.ref 0] ∧ Y_X11_quiet d Q 71 [(4, .int r3), (0, .ref 0), (1, .int v1), (2, .int v2), (3, .int v3)] [.int (if 0 < ((v2 + ((s4.1 25 18) * v3)) - (s4.1 40 v1.toNatClampNeg)) then ((v2 + ((s4.1 25 18) * v3)) - (s4.1 40 v1.toNatClampNeg)) else 0), .ref 0] s4 from ⟨rm8_ rfl, ?_⟩)
    refine Wp.run 1 (show room8 [] ∧ WpM SHC MT (d + 3) 164 [.ref 0, .int (if 0 < ((v2 + ((s4.1 25 18) * v3)) - (s4.1 40 v1.toNatClampNeg)) then ((v2 + ((s4.1 25 18) * v3)) - (s4.1 40 v1.toNatClampNeg)) else 0)] s4 (fun v9 s9 => Y_X11_quiet d Q 74 [(4, .int r3), (0, .ref 0), (1, .int v1), (2, .int v2), (3, .int v3)] (v9.toList ++ []) s9) from ⟨rm8_ rfl, ?_⟩)
    refine w_X11_answer (d := d + 2) _ ?_
    refine oq_bd H (fun r6 s7 H => ?_)
    show Y_X11_quiet d Q 74 [(4, .int r3), (0, .ref 0), (1, .int v1), (2, .int v2), (3, .int v3)] [.int r6] s7
    exact Wp.run 1 ⟨rfl, H⟩
  · have H := oq_f c9 H
    refine Wp.run 3 (show room8 [] ∧ WpM SHC MT (d + 3) 166 [.ref 0, .int r3] s4 (fun v9 s9 => Y_X11_quiet d Q 44 [(4, .int r3), (0, .ref 0), (1, .int v1), (2, .int v2), (3, .int v3)] (v9.toList ++ []) s9) from ⟨rm8_ rfl, ?_⟩)
    refine w_X11_refuse (d := d + 2) _ ?_
    refine oq_bd H (fun r8 s9 H => ?_)
    show Y_X11_quiet d Q 44 [(4, .int r3), (0, .ref 0), (1, .int v1), (2, .int v2), (3, .int v3)] [.int r8] s9
    exact Wp.run 1 ⟨rfl, H⟩
def f_X11_quiet_b27 (v1 : Int32) (v2 : Int32) (v3 : Int32) (t0 : Int32) (s : Sg) : Option (Int32 × Sg) :=
  f_X11_quiet_b28 v1 v2 v3 0 t0 s
set_option maxRecDepth 100000 in
theorem w_X11_quiet_b27 {d : Nat} {Q : Qt} (v1 : Int32) (v2 : Int32) (v3 : Int32) (t0 : Int32) (s : Sg) (H : OQ (f_X11_quiet_b27 v1 v2 v3 t0 s) (fun r9 s9 => Q (some (.int r9)) s9)) : Y_X11_quiet d Q 27 [(0, .ref 0), (1, .int v1), (2, .int v2), (3, .int v3)] [.int t0, .ref 0] s := by
  unfold f_X11_quiet_b27 at H
  refine Wp.run 1 (show Y_X11_quiet d Q 28 [(0, .ref 0), (1, .int v1), (2, .int v2), (3, .int v3)] [.int 0, .int t0, .ref 0] s from ?_)
  refine Wp.weak [0, 1, 2, 3] (lv' := [(0, .ref 0), (1, .int v1), (2, .int v2), (3, .int v3)]) rfl ?_
  exact w_X11_quiet_b28 _ _ _ _ _ _ H
def f_X11_quiet (a1 : Int32) (a2 : Int32) (a3 : Int32) (s : Sg) : Option (Int32 × Sg) :=
  bd (f_X11_within a2 0 999 s) (fun r1 s2 =>
  if r1 = 0 then
    f_X11_quiet_b27 a1 a2 a3 a1 s2
  else
    bd (f_X11_within a3 0 9 s2) (fun r10 s11 =>
    if r10 = 0 then
      f_X11_quiet_b27 a1 a2 a3 a1 s11
    else
      f_X11_quiet_b28 a1 a2 a3 1 a1 s11
    )
  )
set_option maxRecDepth 100000 in
theorem w_X11_quiet {d : Nat} {s : Sg} {Q : Qt} (a1 : Int32) (a2 : Int32) (a3 : Int32) (H : OQ (f_X11_quiet a1 a2 a3 s) (fun r9 s9 => Q (some (.int r9)) s9)) : WpM SHC MT (d + 4) 156 [.ref 0, .int a1, .int a2, .int a3] s Q := by
  refine WpM.enter me_X11_quiet rfl rfl ?_
  show Y_X11_quiet d Q 0 [(0, .ref 0), (1, .int a1), (2, .int a2), (3, .int a3)] [] s
  unfold f_X11_quiet at H
  refine Wp.run 6 (show room8 [.int a1, .ref 0] ∧ WpM SHC MT (d + 3) 169 [.int a2, .int 0, .int 999] s (fun v9 s9 => Y_X11_quiet d Q 10 [(0, .ref 0), (1, .int a1), (2, .int a2), (3, .int a3)] (v9.toList ++ [.int a1, .ref 0]) s9) from ⟨rm8_ rfl, ?_⟩)
  refine w_X11_within (d := d + 2) _ _ _ ?_
  refine oq_bd H (fun r1 s2 H => ?_)
  show Y_X11_quiet d Q 10 [(0, .ref 0), (1, .int a1), (2, .int a2), (3, .int a3)] [.int r1, .int a1, .ref 0] s2
  refine Wp.run 1 (show br (r1 = 0) (Y_X11_quiet d Q 27 [(0, .ref 0), (1, .int a1), (2, .int a2), (3, .int a3)] [.int a1, .ref 0] s2) (Y_X11_quiet d Q 13 [(0, .ref 0), (1, .int a1), (2, .int a2), (3, .int a3)] [.int a1, .ref 0] s2) from ⟨fun c9 => ?_, fun c9 => ?_⟩)
  · have H := oq_t c9 H
    refine Wp.weak [0, 1, 2, 3] (lv' := [(0, .ref 0), (1, .int a1), (2, .int a2), (3, .int a3)]) rfl ?_
    exact w_X11_quiet_b27 _ _ _ _ _ H
  · have H := oq_f c9 H
    refine Wp.run 4 (show room8 [.int a1, .ref 0] ∧ WpM SHC MT (d + 3) 169 [.int a3, .int 0, .int 9] s2 (fun v9 s9 => Y_X11_quiet d Q 20 [(0, .ref 0), (1, .int a1), (2, .int a2), (3, .int a3)] (v9.toList ++ [.int a1, .ref 0]) s9) from ⟨rm8_ rfl, ?_⟩)
    refine w_X11_within (d := d + 2) _ _ _ ?_
    refine oq_bd H (fun r10 s11 H => ?_)
    show Y_X11_quiet d Q 20 [(0, .ref 0), (1, .int a1), (2, .int a2), (3, .int a3)] [.int r10, .int a1, .ref 0] s11
    refine Wp.run 1 (show br (r10 = 0) (Y_X11_quiet d Q 27 [(0, .ref 0), (1, .int a1), (2, .int a2), (3, .int a3)] [.int a1, .ref 0] s11) (Y_X11_quiet d Q 23 [(0, .ref 0), (1, .int a1), (2, .int a2), (3, .int a3)] [.int a1, .ref 0] s11) from ⟨fun c9 => ?_, fun c9 => ?_⟩)
    · have H := oq_t c9 H
      refine Wp.weak [0, 1, 2, 3] (lv' := [(0, .ref 0), (1, .int a1), (2, .int a2), (3, .int a3)]) rfl ?_
      exact w_X11_quiet_b27 _ _ _ _ _ H
    · have H := oq_f c9 H
      refine Wp.run 2 (show Y_X11_quiet d Q 28 [(0, .ref 0), (1, .int a1), (2, .int a2), (3, .int a3)] [.int 1, .int a1, .ref 0] s11 from ?_)
      refine Wp.weak [0, 1, 2, 3] (lv' := [(0, .ref 0), (1, .int a1), (2, .int a2), (3, .int a3)]) rfl ?_
      exact w_X11_quiet_b28 _ _ _ _ _ _ H
abbrev Y_X0_takeMissing_25_14 (d : Nat) (Q : Qt) : Xt := Wp SHC (WpM SHC MT (d + 1)) cd_X0_takeMissing (some .boolean) Q
def f_X0_takeMissing_25_14_b25 (k_2 : Int32 → Sg → Option (Int32 × Sg)) (v3 : Int32) (t0 : Int64) (s : Sg) : Option (Int32 × Sg) :=
  ck (inr v3 60) (
  if (lg_cmp (s.2 14 v3.toNatClampNeg) 0) < 0 then
    some (0, s)
  else
    if (lg_cmp (s.2 14 v3.toNatClampNeg) t0) ≤ 0 then
      ck (inr v3 8) (
      nmx (pI s 21 v3.toNatClampNeg ((s.2 14 v3.toNatClampNeg).toInt32)) (fun s5 =>
      k_2 (v3 + 1) s5
      )
      )
    else
      some (0, s)
  )
set_option maxRecDepth 100000 in
theorem w_X0_takeMissing_25_14_b25 {d : Nat} {Q : Qt} (k_2 : Int32 → Sg → Option (Int32 × Sg)) (h_2 : ∀ (v3 : Int32) s, OQ (k_2 v3 s) (fun r9 s9 => Q (some (.int r9)) s9) → Y_X0_takeMissing_25_14 d Q 2 [(0, .ref 6), (1, .ref 25), (2, .ref 14), (3, .int v3)] [] s) (v3 : Int32) (t0 : Int64) (s : Sg) (H : OQ (f_X0_takeMissing_25_14_b25 k_2 v3 t0 s) (fun r9 s9 => Q (some (.int r9)) s9)) : Y_X0_takeMissing_25_14 d Q 25 [(0, .ref 6), (1, .ref 25), (2, .ref 14), (3, .int v3)] [.long t0] s := by
  unfold f_X0_takeMissing_25_14_b25 at H
  obtain ⟨hc3, H⟩ := oq_ck H
  refine Wp.run 4 (show (vp_in v3 60) ∧ Y_X0_takeMissing_25_14 d Q 30 [(4, .long t0), (0, .ref 6), (1, .ref 25), (2, .ref 14), (3, .int v3)] [.long (s.2 14 v3.toNatClampNeg)] s from ⟨hc3, ?_⟩)
  refine Wp.run 3 (show br ((lg_cmp (s.2 14 v3.toNatClampNeg) 0) < 0) (Y_X0_takeMissing_25_14 d Q 44 [(4, .long t0), (0, .ref 6), (1, .ref 25), (2, .ref 14), (3, .int v3)] [] s) (Y_X0_takeMissing_25_14 d Q 35 [(4, .long t0), (0, .ref 6), (1, .ref 25), (2, .ref 14), (3, .int v3)] [] s) from ⟨fun c9 => ?_, fun c9 => ?_⟩)
  · have H := oq_t c9 H
    exact Wp.run 2 ⟨rfl, H⟩
  · have H := oq_f c9 H
    refine Wp.run 3 (show (vp_in v3 60) ∧ Y_X0_takeMissing_25_14 d Q 38 [(4, .long t0), (0, .ref 6), (1, .ref 25), (2, .ref 14), (3, .int v3)] [.long (s.2 14 v3.toNatClampNeg)] s from ⟨hc3, ?_⟩)
    refine Wp.run 3 (show br ((lg_cmp (s.2 14 v3.toNatClampNeg) t0) ≤ 0) (Y_X0_takeMissing_25_14 d Q 46 [(4, .long t0), (0, .ref 6), (1, .ref 25), (2, .ref 14), (3, .int v3)] [] s) (Y_X0_takeMissing_25_14 d Q 44 [(4, .long t0), (0, .ref 6), (1, .ref 25), (2, .ref 14), (3, .int v3)] [] s) from ⟨fun c9 => ?_, fun c9 => ?_⟩)
    · have H := oq_t c9 H
      refine Wp.run 6 (show (vp_in v3 60) ∧ Y_X0_takeMissing_25_14 d Q 54 [(4, .long t0), (0, .ref 6), (1, .ref 25), (2, .ref 14), (3, .int v3)] [.long (s.2 14 v3.toNatClampNeg), .int v3, .ref 21] s from ⟨hc3, ?_⟩)
      obtain ⟨hc4, H⟩ := oq_ck H
      refine Wp.run 2 (show (vp_in v3 8) ∧ Y_X0_takeMissing_25_14 d Q 56 [(4, .long t0), (0, .ref 6), (1, .ref 25), (2, .ref 14), (3, .int v3)] [] (pI s 21 v3.toNatClampNeg ((s.2 14 v3.toNatClampNeg).toInt32)) from ⟨hc4, ?_⟩)
      revert H
      generalize pI s 21 v3.toNatClampNeg ((s.2 14 v3.toNatClampNeg).toInt32) = s5
      intro H
      have H := nmx_e H
      refine Wp.run 2 (show Y_X0_takeMissing_25_14 d Q 2 [(3, .int (v3 + 1)), (4, .long t0), (0, .ref 6), (1, .ref 25), (2, .ref 14)] [] s5 from ?_)
      refine Wp.weak [2, 3, 4, 0] (lv' := [(0, .ref 6), (1, .ref 25), (2, .ref 14), (3, .int (v3 + 1))]) rfl ?_
      exact h_2 _ _ H
    · have H := oq_f c9 H
      exact Wp.run 2 ⟨rfl, H⟩
def f_X0_takeMissing_25_14_b2 : Nat → Int32 → Sg → Option (Int32 × Sg)
  | 0, _, _ => none
  | n + 1, v3, s =>
    if (s.1 25 13) ≤ v3 then
      some (1, s)
    else
      bd (f_X4_isGone v3 s) (fun r1 s2 =>
      if r1 = 0 then
        f_X0_takeMissing_25_14_b25 (f_X0_takeMissing_25_14_b2 n) v3 9999 s2
      else
        f_X0_takeMissing_25_14_b25 (f_X0_takeMissing_25_14_b2 n) v3 0 s2
      )
set_option maxRecDepth 100000 in
theorem w_X0_takeMissing_25_14_b2 {d : Nat} {Q : Qt} (n : Nat) : ∀ (v3 : Int32) (s : Sg), OQ (f_X0_takeMissing_25_14_b2 n v3 s) (fun r9 s9 => Q (some (.int r9)) s9) → Y_X0_takeMissing_25_14 d Q 2 [(0, .ref 6), (1, .ref 25), (2, .ref 14), (3, .int v3)] [] s := by
  induction n with
  | zero => intro v3 s H; exact H.elim
  | succ n ih =>
    intro v3 s H
    unfold f_X0_takeMissing_25_14_b2 at H
    refine Wp.run 4 (show br ((s.1 25 13) ≤ v3) (Y_X0_takeMissing_25_14 d Q 62 [(0, .ref 6), (1, .ref 25), (2, .ref 14), (3, .int v3)] [] s) (Y_X0_takeMissing_25_14 d Q 10 [(0, .ref 6), (1, .ref 25), (2, .ref 14), (3, .int v3)] [] s) from ⟨fun c9 => ?_, fun c9 => ?_⟩)
    · have H := oq_t c9 H
      exact Wp.run 2 ⟨rfl, H⟩
    · have H := oq_f c9 H
      refine Wp.run 3 (show room8 [] ∧ WpM SHC MT (d + 1) 55 [.ref 25, .int v3] s (fun v9 s9 => Y_X0_takeMissing_25_14 d Q 15 [(0, .ref 6), (1, .ref 25), (2, .ref 14), (3, .int v3)] (v9.toList ++ []) s9) from ⟨rm8_ rfl, ?_⟩)
      refine w_X4_isGone (d := d) _ ?_
      refine oq_bd H (fun r1 s2 H => ?_)
      show Y_X0_takeMissing_25_14 d Q 15 [(0, .ref 6), (1, .ref 25), (2, .ref 14), (3, .int v3)] [.int r1] s2
      refine Wp.run 1 (show br (r1 = 0) (Y_X0_takeMissing_25_14 d Q 22 [(0, .ref 6), (1, .ref 25), (2, .ref 14), (3, .int v3)] [] s2) (Y_X0_takeMissing_25_14 d Q 18 [(0, .ref 6), (1, .ref 25), (2, .ref 14), (3, .int v3)] [] s2) from ⟨fun c9 => ?_, fun c9 => ?_⟩)
      · have H := oq_t c9 H
        refine Wp.run 1 (show Y_X0_takeMissing_25_14 d Q 25 [(0, .ref 6), (1, .ref 25), (2, .ref 14), (3, .int v3)] [.long 9999] s2 from ?_)
        refine Wp.weak [0, 1, 2, 3] (lv' := [(0, .ref 6), (1, .ref 25), (2, .ref 14), (3, .int v3)]) rfl ?_
        exact w_X0_takeMissing_25_14_b25 (f_X0_takeMissing_25_14_b2 n) ih _ _ _ H
      · have H := oq_f c9 H
        refine Wp.run 2 (show Y_X0_takeMissing_25_14 d Q 25 [(0, .ref 6), (1, .ref 25), (2, .ref 14), (3, .int v3)] [.long 0] s2 from ?_)
        refine Wp.weak [0, 1, 2, 3] (lv' := [(0, .ref 6), (1, .ref 25), (2, .ref 14), (3, .int v3)]) rfl ?_
        exact w_X0_takeMissing_25_14_b25 (f_X0_takeMissing_25_14_b2 n) ih _ _ _ H
def f_X0_takeMissing_25_14  (s : Sg) : Option (Int32 × Sg) :=
  f_X0_takeMissing_25_14_b2 BIG 0 s
set_option maxRecDepth 100000 in
theorem w_X0_takeMissing_25_14 {d : Nat} {s : Sg} {Q : Qt}  (H : OQ (f_X0_takeMissing_25_14  s) (fun r9 s9 => Q (some (.int r9)) s9)) : WpM SHC MT (d + 2) 8 [.ref 6, .ref 25, .ref 14] s Q := by
  refine WpM.enter me_X0_takeMissing rfl rfl ?_
  show Y_X0_takeMissing_25_14 d Q 0 [(0, .ref 6), (1, .ref 25), (2, .ref 14)] [] s
  unfold f_X0_takeMissing_25_14 at H
  refine Wp.run 2 (show Y_X0_takeMissing_25_14 d Q 2 [(3, .int 0), (0, .ref 6), (1, .ref 25), (2, .ref 14)] [] s from ?_)
  refine Wp.weak [1, 2, 3, 0] (lv' := [(0, .ref 6), (1, .ref 25), (2, .ref 14), (3, .int 0)]) rfl ?_
  exact w_X0_takeMissing_25_14_b2 _ _ _ H
abbrev Y_X0_isExplained (d : Nat) (Q : Qt) : Xt := Wp SHC (WpM SHC MT (d + 1)) cd_X0_isExplained (some .boolean) Q
def f_X0_isExplained_b64 (k_39 : Int32 → Int32 → Sg → Option (Int32 × Sg)) : Nat → Int32 → Int32 → Int32 → Int32 → Sg → Option (Int32 × Sg)
  | 0, _, _, _, _, _ => none
  | n + 1, v1, v4, v5, v6, s =>
    if (v4 + 1) < v6 then
      if v5 ≤ 0 then
        k_39 v1 (v4 + 1) s
      else
        some (0, s)
    else
      if v1 ≤ v6 then
        if v5 ≤ 0 then
          k_39 v1 (v4 + 1) s
        else
          some (0, s)
      else
        ck (inr v6 8) (
        nmx (if (s.1 22 v6.toNatClampNeg) < v5 then (s.1 22 v6.toNatClampNeg) else v5 : Int32) (fun x4 =>
        nmx (pI s 22 v6.toNatClampNeg ((s.1 22 v6.toNatClampNeg) - x4)) (fun s5 =>
        (f_X0_isExplained_b64 k_39 n) v1 v4 (v5 - x4) (v6 + 1) s5
        )
        )
        )
set_option maxRecDepth 100000 in
theorem w_X0_isExplained_b64 {d : Nat} {Q : Qt} (k_39 : Int32 → Int32 → Sg → Option (Int32 × Sg)) (h_39 : ∀ (v1 : Int32) (v4 : Int32) s, OQ (k_39 v1 v4 s) (fun r9 s9 => Q (some (.int r9)) s9) → Y_X0_isExplained d Q 39 [(0, .ref 6), (1, .int v1), (4, .int v4)] [] s) (n : Nat) : ∀ (v1 : Int32) (v4 : Int32) (v5 : Int32) (v6 : Int32) (s : Sg), OQ (f_X0_isExplained_b64 k_39 n v1 v4 v5 v6 s) (fun r9 s9 => Q (some (.int r9)) s9) → Y_X0_isExplained d Q 64 [(0, .ref 6), (1, .int v1), (4, .int v4), (5, .int v5), (6, .int v6)] [] s := by
  induction n with
  | zero => intro v1 v4 v5 v6 s H; exact H.elim
  | succ n ih =>
    intro v1 v4 v5 v6 s H
    unfold f_X0_isExplained_b64 at H
    refine Wp.run 5 (show br ((v4 + 1) < v6) (Y_X0_isExplained d Q 118 [(0, .ref 6), (1, .int v1), (4, .int v4), (5, .int v5), (6, .int v6)] [] s) (Y_X0_isExplained d Q 73 [(0, .ref 6), (1, .int v1), (4, .int v4), (5, .int v5), (6, .int v6)] [] s) from ⟨fun c9 => ?_, fun c9 => ?_⟩)
    · have H := oq_t c9 H
      refine Wp.run 2 (show br (v5 ≤ 0) (Y_X0_isExplained d Q 125 [(0, .ref 6), (1, .int v1), (4, .int v4), (5, .int v5), (6, .int v6)] [] s) (Y_X0_isExplained d Q 123 [(0, .ref 6), (1, .int v1), (4, .int v4), (5, .int v5), (6, .int v6)] [] s) from ⟨fun c9 => ?_, fun c9 => ?_⟩)
      · have H := oq_t c9 H
        refine Wp.run 2 (show Y_X0_isExplained d Q 39 [(4, .int (v4 + 1)), (0, .ref 6), (1, .int v1), (5, .int v5), (6, .int v6)] [] s from ?_)
        refine Wp.weak [1, 2, 0] (lv' := [(0, .ref 6), (1, .int v1), (4, .int (v4 + 1))]) rfl ?_
        exact h_39 _ _ _ H
      · have H := oq_f c9 H
        exact Wp.run 2 ⟨rfl, H⟩
    · have H := oq_f c9 H
      refine Wp.run 3 (show br (v1 ≤ v6) (Y_X0_isExplained d Q 118 [(0, .ref 6), (1, .int v1), (4, .int v4), (5, .int v5), (6, .int v6)] [] s) (Y_X0_isExplained d Q 79 [(0, .ref 6), (1, .int v1), (4, .int v4), (5, .int v5), (6, .int v6)] [] s) from ⟨fun c9 => ?_, fun c9 => ?_⟩)
      · have H := oq_t c9 H
        refine Wp.run 2 (show br (v5 ≤ 0) (Y_X0_isExplained d Q 125 [(0, .ref 6), (1, .int v1), (4, .int v4), (5, .int v5), (6, .int v6)] [] s) (Y_X0_isExplained d Q 123 [(0, .ref 6), (1, .int v1), (4, .int v4), (5, .int v5), (6, .int v6)] [] s) from ⟨fun c9 => ?_, fun c9 => ?_⟩)
        · have H := oq_t c9 H
          refine Wp.run 2 (show Y_X0_isExplained d Q 39 [(4, .int (v4 + 1)), (0, .ref 6), (1, .int v1), (5, .int v5), (6, .int v6)] [] s from ?_)
          refine Wp.weak [1, 2, 0] (lv' := [(0, .ref 6), (1, .int v1), (4, .int (v4 + 1))]) rfl ?_
          exact h_39 _ _ _ H
        · have H := oq_f c9 H
          exact Wp.run 2 ⟨rfl, H⟩
      · have H := oq_f c9 H
        obtain ⟨hc3, H⟩ := oq_ck H
        refine Wp.run 5 (show (vp_in v6 8) ∧ Y_X0_isExplained d Q 88 [(0, .ref 6), (1, .int v1), (4, .int v4), (5, .int v5), (6, .int v6)] [.int (s.1 22 v6.toNatClampNeg), .int v5] s from ⟨hc3, ?_⟩)
        refine Wp.run 1 (show room8 [] ∧ Y_X0_isExplained d Q 91 [(0, .ref 6), (1, .int v1), (4, .int v4), (5, .int v5), (6, .int v6)] [.int (if (s.1 22 v6.toNatClampNeg) < v5 then (s.1 22 v6.toNatClampNeg) else v5)] s from ⟨rm8_ rfl, ?_⟩)
        refine Wp.run 1 (show Y_X0_isExplained d Q 93 [(7, .int (if (s.1 22 v6.toNatClampNeg) < v5 then (s.1 22 v6.toNatClampNeg) else v5)), (0, .ref 6), (1, .int v1), (4, .int v4), (5, .int v5), (6, .int v6)] [] s from ?_)
        revert H
        generalize (if (s.1 22 v6.toNatClampNeg) < v5 then (s.1 22 v6.toNatClampNeg) else v5 : Int32) = x4
        intro H
        have H := nmx_e H
        refine Wp.run 5 (show (vp_in v6 8) ∧ Y_X0_isExplained d Q 101 [(7, .int x4), (0, .ref 6), (1, .int v1), (4, .int v4), (5, .int v5), (6, .int v6)] [.int (s.1 22 v6.toNatClampNeg), .int v6, .ref 22] s from ⟨hc3, ?_⟩)
        refine Wp.run 3 (show (vp_in v6 8) ∧ Y_X0_isExplained d Q 105 [(7, .int x4), (0, .ref 6), (1, .int v1), (4, .int v4), (5, .int v5), (6, .int v6)] [] (pI s 22 v6.toNatClampNeg ((s.1 22 v6.toNatClampNeg) - x4)) from ⟨hc3, ?_⟩)
        revert H
        generalize pI s 22 v6.toNatClampNeg ((s.1 22 v6.toNatClampNeg) - x4) = s5
        intro H
        have H := nmx_e H
        refine Wp.run 6 (show Y_X0_isExplained d Q 64 [(6, .int (v6 + 1)), (5, .int (v5 - x4)), (7, .int x4), (0, .ref 6), (1, .int v1), (4, .int v4)] [] s5 from ?_)
        refine Wp.weak [3, 4, 5, 1, 0] (lv' := [(0, .ref 6), (1, .int v1), (4, .int v4), (5, .int (v5 - x4)), (6, .int (v6 + 1))]) rfl ?_
        exact ih _ _ _ _ _ H
def f_X0_isExplained_b39 : Nat → Int32 → Int32 → Sg → Option (Int32 × Sg)
  | 0, _, _, _ => none
  | n + 1, v1, v4, s =>
    if v1 ≤ v4 then
      some (1, s)
    else
      ck (inr v4 8) (
      nmx (if 0 < (v4 - 1) then (v4 - 1) else 0 : Int32) (fun x2 =>
      f_X0_isExplained_b64 (f_X0_isExplained_b39 n) BIG v1 v4 (s.1 21 v4.toNatClampNeg) x2 s
      )
      )
set_option maxRecDepth 100000 in
theorem w_X0_isExplained_b39 {d : Nat} {Q : Qt} (n : Nat) : ∀ (v1 : Int32) (v4 : Int32) (s : Sg), OQ (f_X0_isExplained_b39 n v1 v4 s) (fun r9 s9 => Q (some (.int r9)) s9) → Y_X0_isExplained d Q 39 [(0, .ref 6), (1, .int v1), (4, .int v4)] [] s := by
  induction n with
  | zero => intro v1 v4 s H; exact H.elim
  | succ n ih =>
    intro v1 v4 s H
    unfold f_X0_isExplained_b39 at H
    refine Wp.run 3 (show br (v1 ≤ v4) (Y_X0_isExplained d Q 131 [(0, .ref 6), (1, .int v1), (4, .int v4)] [] s) (Y_X0_isExplained d Q 45 [(0, .ref 6), (1, .int v1), (4, .int v4)] [] s) from ⟨fun c9 => ?_, fun c9 => ?_⟩)
    · have H := oq_t c9 H
      exact Wp.run 2 ⟨rfl, H⟩
    · have H := oq_f c9 H
      obtain ⟨hc1, H⟩ := oq_ck H
      refine Wp.run 4 (show (vp_in v4 8) ∧ Y_X0_isExplained d Q 52 [(0, .ref 6), (1, .int v1), (4, .int v4)] [.int (s.1 21 v4.toNatClampNeg)] s from ⟨hc1, ?_⟩)
      refine Wp.run 6 (show room8 [] ∧ Y_X0_isExplained d Q 62 [(5, .int (s.1 21 v4.toNatClampNeg)), (0, .ref 6), (1, .int v1), (4, .int v4)] [.int (if 0 < (v4 - 1) then (v4 - 1) else 0)] s from ⟨rm8_ rfl, ?_⟩)
      refine Wp.run 1 (show Y_X0_isExplained d Q 64 [(6, .int (if 0 < (v4 - 1) then (v4 - 1) else 0)), (5, .int (s.1 21 v4.toNatClampNeg)), (0, .ref 6), (1, .int v1), (4, .int v4)] [] s from ?_)
      revert H
      generalize (if 0 < (v4 - 1) then (v4 - 1) else 0 : Int32) = x2
      intro H
      have H := nmx_e H
      refine Wp.weak [2, 3, 4, 1, 0] (lv' := [(0, .ref 6), (1, .int v1), (4, .int v4), (5, .int (s.1 21 v4.toNatClampNeg)), (6, .int x2)]) rfl ?_
      exact w_X0_isExplained_b64 (f_X0_isExplained_b39 n) ih _ _ _ _ _ _ H
def f_X0_isExplained_b3 : Nat → Int32 → Int32 → Int32 → Int32 → Sg → Option (Int32 × Sg)
  | 0, _, _, _, _, _ => none
  | n + 1, v1, v2, v3, v4, s =>
    if v1 ≤ v4 then
      f_X0_isExplained_b39 BIG v1 0 s
    else
      bd (f_X11_has v2 v4 s) (fun r6 s7 =>
      if r6 = 0 then
        ck (inr v4 8) (
        (f_X0_isExplained_b3 n) v1 v2 v3 (v4 + 1) (pI s7 22 v4.toNatClampNeg 0)
        )
      else
        ck (inr v4 8) (
        (f_X0_isExplained_b3 n) v1 v2 v3 (v4 + 1) (pI s7 22 v4.toNatClampNeg v3)
        )
      )
set_option maxRecDepth 100000 in
theorem w_X0_isExplained_b3 {d : Nat} {Q : Qt} (n : Nat) : ∀ (v1 : Int32) (v2 : Int32) (v3 : Int32) (v4 : Int32) (s : Sg), OQ (f_X0_isExplained_b3 n v1 v2 v3 v4 s) (fun r9 s9 => Q (some (.int r9)) s9) → Y_X0_isExplained d Q 3 [(0, .ref 6), (1, .int v1), (2, .int v2), (3, .int v3), (4, .int v4)] [] s := by
  induction n with
  | zero => intro v1 v2 v3 v4 s H; exact H.elim
  | succ n ih =>
    intro v1 v2 v3 v4 s H
    unfold f_X0_isExplained_b3 at H
    refine Wp.run 3 (show br (v1 ≤ v4) (Y_X0_isExplained d Q 36 [(0, .ref 6), (1, .int v1), (2, .int v2), (3, .int v3), (4, .int v4)] [] s) (Y_X0_isExplained d Q 9 [(0, .ref 6), (1, .int v1), (2, .int v2), (3, .int v3), (4, .int v4)] [] s) from ⟨fun c9 => ?_, fun c9 => ?_⟩)
    · have H := oq_t c9 H
      refine Wp.run 2 (show Y_X0_isExplained d Q 39 [(4, .int 0), (0, .ref 6), (1, .int v1), (2, .int v2), (3, .int v3)] [] s from ?_)
      refine Wp.weak [1, 2, 0] (lv' := [(0, .ref 6), (1, .int v1), (4, .int 0)]) rfl ?_
      exact w_X0_isExplained_b39 _ _ _ _ H
    · have H := oq_f c9 H
      refine Wp.run 6 (show room8 [.int v4, .ref 22] ∧ WpM SHC MT (d + 1) 170 [.int v2, .int v4] s (fun v9 s9 => Y_X0_isExplained d Q 21 [(0, .ref 6), (1, .int v1), (2, .int v2), (3, .int v3), (4, .int v4)] (v9.toList ++ [.int v4, .ref 22]) s9) from ⟨rm8_ rfl, ?_⟩)
      refine w_X11_has (d := d) _ _ ?_
      refine oq_bd H (fun r6 s7 H => ?_)
      show Y_X0_isExplained d Q 21 [(0, .ref 6), (1, .int v1), (2, .int v2), (3, .int v3), (4, .int v4)] [.int r6, .int v4, .ref 22] s7
      refine Wp.run 1 (show br (r6 = 0) (Y_X0_isExplained d Q 28 [(0, .ref 6), (1, .int v1), (2, .int v2), (3, .int v3), (4, .int v4)] [.int v4, .ref 22] s7) (Y_X0_isExplained d Q 24 [(0, .ref 6), (1, .int v1), (2, .int v2), (3, .int v3), (4, .int v4)] [.int v4, .ref 22] s7) from ⟨fun c9 => ?_, fun c9 => ?_⟩)
      · have H := oq_t c9 H
        obtain ⟨hc8, H⟩ := oq_ck H
        refine Wp.run 2 (show (vp_in v4 8) ∧ Y_X0_isExplained d Q 30 [(0, .ref 6), (1, .int v1), (2, .int v2), (3, .int v3), (4, .int v4)] [] (pI s7 22 v4.toNatClampNeg 0) from ⟨hc8, ?_⟩)
        refine Wp.run 2 (show Y_X0_isExplained d Q 3 [(4, .int (v4 + 1)), (0, .ref 6), (1, .int v1), (2, .int v2), (3, .int v3)] [] (pI s7 22 v4.toNatClampNeg 0) from ?_)
        refine Wp.weak [1, 2, 3, 4, 0] (lv' := [(0, .ref 6), (1, .int v1), (2, .int v2), (3, .int v3), (4, .int (v4 + 1))]) rfl ?_
        exact ih _ _ _ _ _ H
      · have H := oq_f c9 H
        obtain ⟨hc9, H⟩ := oq_ck H
        refine Wp.run 3 (show (vp_in v4 8) ∧ Y_X0_isExplained d Q 30 [(0, .ref 6), (1, .int v1), (2, .int v2), (3, .int v3), (4, .int v4)] [] (pI s7 22 v4.toNatClampNeg v3) from ⟨hc9, ?_⟩)
        refine Wp.run 2 (show Y_X0_isExplained d Q 3 [(4, .int (v4 + 1)), (0, .ref 6), (1, .int v1), (2, .int v2), (3, .int v3)] [] (pI s7 22 v4.toNatClampNeg v3) from ?_)
        refine Wp.weak [1, 2, 3, 4, 0] (lv' := [(0, .ref 6), (1, .int v1), (2, .int v2), (3, .int v3), (4, .int (v4 + 1))]) rfl ?_
        exact ih _ _ _ _ _ H
def f_X0_isExplained (a1 : Int32) (a2 : Int32) (a3 : Int32) (s : Sg) : Option (Int32 × Sg) :=
  f_X0_isExplained_b3 BIG a1 a2 a3 0 s
set_option maxRecDepth 100000 in
theorem w_X0_isExplained {d : Nat} {s : Sg} {Q : Qt} (a1 : Int32) (a2 : Int32) (a3 : Int32) (H : OQ (f_X0_isExplained a1 a2 a3 s) (fun r9 s9 => Q (some (.int r9)) s9)) : WpM SHC MT (d + 2) 10 [.ref 6, .int a1, .int a2, .int a3] s Q := by
  refine WpM.enter me_X0_isExplained rfl rfl ?_
  show Y_X0_isExplained d Q 0 [(0, .ref 6), (1, .int a1), (2, .int a2), (3, .int a3)] [] s
  unfold f_X0_isExplained at H
  refine Wp.run 2 (show Y_X0_isExplained d Q 3 [(4, .int 0), (0, .ref 6), (1, .int a1), (2, .int a2), (3, .int a3)] [] s from ?_)
  refine Wp.weak [1, 2, 3, 4, 0] (lv' := [(0, .ref 6), (1, .int a1), (2, .int a2), (3, .int a3), (4, .int 0)]) rfl ?_
  exact w_X0_isExplained_b3 _ _ _ _ _ _ H
abbrev Y_X0_fewestSweepers (d : Nat) (Q : Qt) : Xt := Wp SHC (WpM SHC MT (d + 2)) cd_X0_fewestSweepers (some .int) Q
def f_X0_fewestSweepers_b10 : Nat → Int32 → Int32 → Int32 → Int32 → Int32 → Sg → Option (Int32 × Sg)
  | 0, _, _, _, _, _, _ => none
  | n + 1, v1, v2, v3, v4, v5, s =>
    if ((1 : Int32) <<< (v1 &&& 31)) ≤ v5 then
      some (v3, s)
    else
      bd (f_bitCount v5 s) (fun r1 s2 =>
      if v4 ≤ r1 then
        (f_X0_fewestSweepers_b10 n) v1 v2 v3 v4 (v5 + 1) s2
      else
        bd (f_X0_isExplained v1 v5 v2 s2) (fun r3 s4 =>
        if r3 = 0 then
          (f_X0_fewestSweepers_b10 n) v1 v2 v3 v4 (v5 + 1) s4
        else
          (f_X0_fewestSweepers_b10 n) v1 v2 v5 r1 (v5 + 1) s4
        )
      )
set_option maxRecDepth 100000 in
theorem w_X0_fewestSweepers_b10 {d : Nat} {Q : Qt} (n : Nat) : ∀ (v1 : Int32) (v2 : Int32) (v3 : Int32) (v4 : Int32) (v5 : Int32) (s : Sg), OQ (f_X0_fewestSweepers_b10 n v1 v2 v3 v4 v5 s) (fun r9 s9 => Q (some (.int r9)) s9) → Y_X0_fewestSweepers d Q 10 [(0, .ref 6), (1, .int v1), (2, .int v2), (3, .int v3), (4, .int v4), (5, .int v5)] [] s := by
  induction n with
  | zero => intro v1 v2 v3 v4 v5 s H; exact H.elim
  | succ n ih =>
    intro v1 v2 v3 v4 v5 s H
    unfold f_X0_fewestSweepers_b10 at H
    refine Wp.run 5 (show br (((1 : Int32) <<< (v1 &&& 31)) ≤ v5) (Y_X0_fewestSweepers d Q 56 [(0, .ref 6), (1, .int v1), (2, .int v2), (3, .int v3), (4, .int v4), (5, .int v5)] [] s) (Y_X0_fewestSweepers d Q 18 [(0, .ref 6), (1, .int v1), (2, .int v2), (3, .int v3), (4, .int v4), (5, .int v5)] [] s) from ⟨fun c9 => ?_, fun c9 => ?_⟩)
    · have H := oq_t c9 H
      exact Wp.run 2 ⟨rfl, H⟩
    · have H := oq_f c9 H
      refine Wp.run 2 (show room8 [] ∧ WpM SHC MT (d + 2) 330 [.int v5] s (fun v9 s9 => Y_X0_fewestSweepers d Q 23 [(0, .ref 6), (1, .int v1), (2, .int v2), (3, .int v3), (4, .int v4), (5, .int v5)] (v9.toList ++ []) s9) from ⟨rm8_ rfl, ?_⟩)
      refine w_bitCount (d := d + 1) _ ?_
      refine oq_bd H (fun r1 s2 H => ?_)
      show Y_X0_fewestSweepers d Q 23 [(0, .ref 6), (1, .int v1), (2, .int v2), (3, .int v3), (4, .int v4), (5, .int v5)] [.int r1] s2
      refine Wp.run 4 (show br (v4 ≤ r1) (Y_X0_fewestSweepers d Q 50 [(6, .int r1), (0, .ref 6), (1, .int v1), (2, .int v2), (3, .int v3), (4, .int v4), (5, .int v5)] [] s2) (Y_X0_fewestSweepers d Q 32 [(6, .int r1), (0, .ref 6), (1, .int v1), (2, .int v2), (3, .int v3), (4, .int v4), (5, .int v5)] [] s2) from ⟨fun c9 => ?_, fun c9 => ?_⟩)
      · have H := oq_t c9 H
        refine Wp.run 2 (show Y_X0_fewestSweepers d Q 10 [(5, .int (v5 + 1)), (6, .int r1), (0, .ref 6), (1, .int v1), (2, .int v2), (3, .int v3), (4, .int v4)] [] s2 from ?_)
        refine Wp.weak [2, 3, 4, 5, 6, 0] (lv' := [(0, .ref 6), (1, .int v1), (2, .int v2), (3, .int v3), (4, .int v4), (5, .int (v5 + 1))]) rfl ?_
        exact ih _ _ _ _ _ _ H
      · have H := oq_f c9 H
        refine Wp.run 5 (show room8 [] ∧ WpM SHC MT (d + 2) 10 [.ref 6, .int v1, .int v5, .int v2] s2 (fun v9 s9 => Y_X0_fewestSweepers d Q 40 [(6, .int r1), (0, .ref 6), (1, .int v1), (2, .int v2), (3, .int v3), (4, .int v4), (5, .int v5)] (v9.toList ++ []) s9) from ⟨rm8_ rfl, ?_⟩)
        refine w_X0_isExplained (d := d) _ _ _ ?_
        refine oq_bd H (fun r3 s4 H => ?_)
        show Y_X0_fewestSweepers d Q 40 [(6, .int r1), (0, .ref 6), (1, .int v1), (2, .int v2), (3, .int v3), (4, .int v4), (5, .int v5)] [.int r3] s4
        refine Wp.run 1 (show br (r3 = 0) (Y_X0_fewestSweepers d Q 50 [(6, .int r1), (0, .ref 6), (1, .int v1), (2, .int v2), (3, .int v3), (4, .int v4), (5, .int v5)] [] s4) (Y_X0_fewestSweepers d Q 43 [(6, .int r1), (0, .ref 6), (1, .int v1), (2, .int v2), (3, .int v3), (4, .int v4), (5, .int v5)] [] s4) from ⟨fun c9 => ?_, fun c9 => ?_⟩)
        · have H := oq_t c9 H
          refine Wp.run 2 (show Y_X0_fewestSweepers d Q 10 [(5, .int (v5 + 1)), (6, .int r1), (0, .ref 6), (1, .int v1), (2, .int v2), (3, .int v3), (4, .int v4)] [] s4 from ?_)
          refine Wp.weak [2, 3, 4, 5, 6, 0] (lv' := [(0, .ref 6), (1, .int v1), (2, .int v2), (3, .int v3), (4, .int v4), (5, .int (v5 + 1))]) rfl ?_
          exact ih _ _ _ _ _ _ H
        · have H := oq_f c9 H
          refine Wp.run 6 (show Y_X0_fewestSweepers d Q 10 [(5, .int (v5 + 1)), (3, .int v5), (4, .int r1), (6, .int r1), (0, .ref 6), (1, .int v1), (2, .int v2)] [] s4 from ?_)
          refine Wp.weak [4, 5, 6, 1, 2, 0] (lv' := [(0, .ref 6), (1, .int v1), (2, .int v2), (3, .int v5), (4, .int r1), (5, .int (v5 + 1))]) rfl ?_
          exact ih _ _ _ _ _ _ H
def f_X0_fewestSweepers (a1 : Int32) (a2 : Int32) (s : Sg) : Option (Int32 × Sg) :=
  f_X0_fewestSweepers_b10 BIG a1 a2 (-1) (a1 + 1) 0 s
set_option maxRecDepth 100000 in
theorem w_X0_fewestSweepers {d : Nat} {s : Sg} {Q : Qt} (a1 : Int32) (a2 : Int32) (H : OQ (f_X0_fewestSweepers a1 a2 s) (fun r9 s9 => Q (some (.int r9)) s9)) : WpM SHC MT (d + 3) 9 [.ref 6, .int a1, .int a2] s Q := by
  refine WpM.enter me_X0_fewestSweepers rfl rfl ?_
  show Y_X0_fewestSweepers d Q 0 [(0, .ref 6), (1, .int a1), (2, .int a2)] [] s
  unfold f_X0_fewestSweepers at H
  refine Wp.run 8 (show Y_X0_fewestSweepers d Q 10 [(5, .int 0), (4, .int (a1 + 1)), (3, .int (-1)), (0, .ref 6), (1, .int a1), (2, .int a2)] [] s from ?_)
  refine Wp.weak [3, 4, 5, 2, 1, 0] (lv' := [(0, .ref 6), (1, .int a1), (2, .int a2), (3, .int (-1)), (4, .int (a1 + 1)), (5, .int 0)]) rfl ?_
  exact w_X0_fewestSweepers_b10 _ _ _ _ _ _ _ H
abbrev Y_X0_takeMissing_25_15 (d : Nat) (Q : Qt) : Xt := Wp SHC (WpM SHC MT (d + 1)) cd_X0_takeMissing (some .boolean) Q
def f_X0_takeMissing_25_15_b25 (k_2 : Int32 → Sg → Option (Int32 × Sg)) (v3 : Int32) (t0 : Int64) (s : Sg) : Option (Int32 × Sg) :=
  ck (inr v3 60) (
  if (lg_cmp (s.2 15 v3.toNatClampNeg) 0) < 0 then
    some (0, s)
  else
    if (lg_cmp (s.2 15 v3.toNatClampNeg) t0) ≤ 0 then
      ck (inr v3 8) (
      nmx (pI s 21 v3.toNatClampNeg ((s.2 15 v3.toNatClampNeg).toInt32)) (fun s5 =>
      k_2 (v3 + 1) s5
      )
      )
    else
      some (0, s)
  )
set_option maxRecDepth 100000 in
theorem w_X0_takeMissing_25_15_b25 {d : Nat} {Q : Qt} (k_2 : Int32 → Sg → Option (Int32 × Sg)) (h_2 : ∀ (v3 : Int32) s, OQ (k_2 v3 s) (fun r9 s9 => Q (some (.int r9)) s9) → Y_X0_takeMissing_25_15 d Q 2 [(0, .ref 6), (1, .ref 25), (2, .ref 15), (3, .int v3)] [] s) (v3 : Int32) (t0 : Int64) (s : Sg) (H : OQ (f_X0_takeMissing_25_15_b25 k_2 v3 t0 s) (fun r9 s9 => Q (some (.int r9)) s9)) : Y_X0_takeMissing_25_15 d Q 25 [(0, .ref 6), (1, .ref 25), (2, .ref 15), (3, .int v3)] [.long t0] s := by
  unfold f_X0_takeMissing_25_15_b25 at H
  obtain ⟨hc3, H⟩ := oq_ck H
  refine Wp.run 4 (show (vp_in v3 60) ∧ Y_X0_takeMissing_25_15 d Q 30 [(4, .long t0), (0, .ref 6), (1, .ref 25), (2, .ref 15), (3, .int v3)] [.long (s.2 15 v3.toNatClampNeg)] s from ⟨hc3, ?_⟩)
  refine Wp.run 3 (show br ((lg_cmp (s.2 15 v3.toNatClampNeg) 0) < 0) (Y_X0_takeMissing_25_15 d Q 44 [(4, .long t0), (0, .ref 6), (1, .ref 25), (2, .ref 15), (3, .int v3)] [] s) (Y_X0_takeMissing_25_15 d Q 35 [(4, .long t0), (0, .ref 6), (1, .ref 25), (2, .ref 15), (3, .int v3)] [] s) from ⟨fun c9 => ?_, fun c9 => ?_⟩)
  · have H := oq_t c9 H
    exact Wp.run 2 ⟨rfl, H⟩
  · have H := oq_f c9 H
    refine Wp.run 3 (show (vp_in v3 60) ∧ Y_X0_takeMissing_25_15 d Q 38 [(4, .long t0), (0, .ref 6), (1, .ref 25), (2, .ref 15), (3, .int v3)] [.long (s.2 15 v3.toNatClampNeg)] s from ⟨hc3, ?_⟩)
    refine Wp.run 3 (show br ((lg_cmp (s.2 15 v3.toNatClampNeg) t0) ≤ 0) (Y_X0_takeMissing_25_15 d Q 46 [(4, .long t0), (0, .ref 6), (1, .ref 25), (2, .ref 15), (3, .int v3)] [] s) (Y_X0_takeMissing_25_15 d Q 44 [(4, .long t0), (0, .ref 6), (1, .ref 25), (2, .ref 15), (3, .int v3)] [] s) from ⟨fun c9 => ?_, fun c9 => ?_⟩)
    · have H := oq_t c9 H
      refine Wp.run 6 (show (vp_in v3 60) ∧ Y_X0_takeMissing_25_15 d Q 54 [(4, .long t0), (0, .ref 6), (1, .ref 25), (2, .ref 15), (3, .int v3)] [.long (s.2 15 v3.toNatClampNeg), .int v3, .ref 21] s from ⟨hc3, ?_⟩)
      obtain ⟨hc4, H⟩ := oq_ck H
      refine Wp.run 2 (show (vp_in v3 8) ∧ Y_X0_takeMissing_25_15 d Q 56 [(4, .long t0), (0, .ref 6), (1, .ref 25), (2, .ref 15), (3, .int v3)] [] (pI s 21 v3.toNatClampNeg ((s.2 15 v3.toNatClampNeg).toInt32)) from ⟨hc4, ?_⟩)
      revert H
      generalize pI s 21 v3.toNatClampNeg ((s.2 15 v3.toNatClampNeg).toInt32) = s5
      intro H
      have H := nmx_e H
      refine Wp.run 2 (show Y_X0_takeMissing_25_15 d Q 2 [(3, .int (v3 + 1)), (4, .long t0), (0, .ref 6), (1, .ref 25), (2, .ref 15)] [] s5 from ?_)
      refine Wp.weak [2, 3, 4, 0] (lv' := [(0, .ref 6), (1, .ref 25), (2, .ref 15), (3, .int (v3 + 1))]) rfl ?_
      exact h_2 _ _ H
    · have H := oq_f c9 H
      exact Wp.run 2 ⟨rfl, H⟩
def f_X0_takeMissing_25_15_b2 : Nat → Int32 → Sg → Option (Int32 × Sg)
  | 0, _, _ => none
  | n + 1, v3, s =>
    if (s.1 25 13) ≤ v3 then
      some (1, s)
    else
      bd (f_X4_isGone v3 s) (fun r1 s2 =>
      if r1 = 0 then
        f_X0_takeMissing_25_15_b25 (f_X0_takeMissing_25_15_b2 n) v3 9999 s2
      else
        f_X0_takeMissing_25_15_b25 (f_X0_takeMissing_25_15_b2 n) v3 0 s2
      )
set_option maxRecDepth 100000 in
theorem w_X0_takeMissing_25_15_b2 {d : Nat} {Q : Qt} (n : Nat) : ∀ (v3 : Int32) (s : Sg), OQ (f_X0_takeMissing_25_15_b2 n v3 s) (fun r9 s9 => Q (some (.int r9)) s9) → Y_X0_takeMissing_25_15 d Q 2 [(0, .ref 6), (1, .ref 25), (2, .ref 15), (3, .int v3)] [] s := by
  induction n with
  | zero => intro v3 s H; exact H.elim
  | succ n ih =>
    intro v3 s H
    unfold f_X0_takeMissing_25_15_b2 at H
    refine Wp.run 4 (show br ((s.1 25 13) ≤ v3) (Y_X0_takeMissing_25_15 d Q 62 [(0, .ref 6), (1, .ref 25), (2, .ref 15), (3, .int v3)] [] s) (Y_X0_takeMissing_25_15 d Q 10 [(0, .ref 6), (1, .ref 25), (2, .ref 15), (3, .int v3)] [] s) from ⟨fun c9 => ?_, fun c9 => ?_⟩)
    · have H := oq_t c9 H
      exact Wp.run 2 ⟨rfl, H⟩
    · have H := oq_f c9 H
      refine Wp.run 3 (show room8 [] ∧ WpM SHC MT (d + 1) 55 [.ref 25, .int v3] s (fun v9 s9 => Y_X0_takeMissing_25_15 d Q 15 [(0, .ref 6), (1, .ref 25), (2, .ref 15), (3, .int v3)] (v9.toList ++ []) s9) from ⟨rm8_ rfl, ?_⟩)
      refine w_X4_isGone (d := d) _ ?_
      refine oq_bd H (fun r1 s2 H => ?_)
      show Y_X0_takeMissing_25_15 d Q 15 [(0, .ref 6), (1, .ref 25), (2, .ref 15), (3, .int v3)] [.int r1] s2
      refine Wp.run 1 (show br (r1 = 0) (Y_X0_takeMissing_25_15 d Q 22 [(0, .ref 6), (1, .ref 25), (2, .ref 15), (3, .int v3)] [] s2) (Y_X0_takeMissing_25_15 d Q 18 [(0, .ref 6), (1, .ref 25), (2, .ref 15), (3, .int v3)] [] s2) from ⟨fun c9 => ?_, fun c9 => ?_⟩)
      · have H := oq_t c9 H
        refine Wp.run 1 (show Y_X0_takeMissing_25_15 d Q 25 [(0, .ref 6), (1, .ref 25), (2, .ref 15), (3, .int v3)] [.long 9999] s2 from ?_)
        refine Wp.weak [0, 1, 2, 3] (lv' := [(0, .ref 6), (1, .ref 25), (2, .ref 15), (3, .int v3)]) rfl ?_
        exact w_X0_takeMissing_25_15_b25 (f_X0_takeMissing_25_15_b2 n) ih _ _ _ H
      · have H := oq_f c9 H
        refine Wp.run 2 (show Y_X0_takeMissing_25_15 d Q 25 [(0, .ref 6), (1, .ref 25), (2, .ref 15), (3, .int v3)] [.long 0] s2 from ?_)
        refine Wp.weak [0, 1, 2, 3] (lv' := [(0, .ref 6), (1, .ref 25), (2, .ref 15), (3, .int v3)]) rfl ?_
        exact w_X0_takeMissing_25_15_b25 (f_X0_takeMissing_25_15_b2 n) ih _ _ _ H
def f_X0_takeMissing_25_15  (s : Sg) : Option (Int32 × Sg) :=
  f_X0_takeMissing_25_15_b2 BIG 0 s
set_option maxRecDepth 100000 in
theorem w_X0_takeMissing_25_15 {d : Nat} {s : Sg} {Q : Qt}  (H : OQ (f_X0_takeMissing_25_15  s) (fun r9 s9 => Q (some (.int r9)) s9)) : WpM SHC MT (d + 2) 8 [.ref 6, .ref 25, .ref 15] s Q := by
  refine WpM.enter me_X0_takeMissing rfl rfl ?_
  show Y_X0_takeMissing_25_15 d Q 0 [(0, .ref 6), (1, .ref 25), (2, .ref 15)] [] s
  unfold f_X0_takeMissing_25_15 at H
  refine Wp.run 2 (show Y_X0_takeMissing_25_15 d Q 2 [(3, .int 0), (0, .ref 6), (1, .ref 25), (2, .ref 15)] [] s from ?_)
  refine Wp.weak [1, 2, 3, 0] (lv' := [(0, .ref 6), (1, .ref 25), (2, .ref 15), (3, .int 0)]) rfl ?_
  exact w_X0_takeMissing_25_15_b2 _ _ _ H
abbrev Y_X0_takeMissing_25_16 (d : Nat) (Q : Qt) : Xt := Wp SHC (WpM SHC MT (d + 1)) cd_X0_takeMissing (some .boolean) Q
def f_X0_takeMissing_25_16_b25 (k_2 : Int32 → Sg → Option (Int32 × Sg)) (v3 : Int32) (t0 : Int64) (s : Sg) : Option (Int32 × Sg) :=
  ck (inr v3 60) (
  if (lg_cmp (s.2 16 v3.toNatClampNeg) 0) < 0 then
    some (0, s)
  else
    if (lg_cmp (s.2 16 v3.toNatClampNeg) t0) ≤ 0 then
      ck (inr v3 8) (
      nmx (pI s 21 v3.toNatClampNeg ((s.2 16 v3.toNatClampNeg).toInt32)) (fun s5 =>
      k_2 (v3 + 1) s5
      )
      )
    else
      some (0, s)
  )
set_option maxRecDepth 100000 in
theorem w_X0_takeMissing_25_16_b25 {d : Nat} {Q : Qt} (k_2 : Int32 → Sg → Option (Int32 × Sg)) (h_2 : ∀ (v3 : Int32) s, OQ (k_2 v3 s) (fun r9 s9 => Q (some (.int r9)) s9) → Y_X0_takeMissing_25_16 d Q 2 [(0, .ref 6), (1, .ref 25), (2, .ref 16), (3, .int v3)] [] s) (v3 : Int32) (t0 : Int64) (s : Sg) (H : OQ (f_X0_takeMissing_25_16_b25 k_2 v3 t0 s) (fun r9 s9 => Q (some (.int r9)) s9)) : Y_X0_takeMissing_25_16 d Q 25 [(0, .ref 6), (1, .ref 25), (2, .ref 16), (3, .int v3)] [.long t0] s := by
  unfold f_X0_takeMissing_25_16_b25 at H
  obtain ⟨hc3, H⟩ := oq_ck H
  refine Wp.run 4 (show (vp_in v3 60) ∧ Y_X0_takeMissing_25_16 d Q 30 [(4, .long t0), (0, .ref 6), (1, .ref 25), (2, .ref 16), (3, .int v3)] [.long (s.2 16 v3.toNatClampNeg)] s from ⟨hc3, ?_⟩)
  refine Wp.run 3 (show br ((lg_cmp (s.2 16 v3.toNatClampNeg) 0) < 0) (Y_X0_takeMissing_25_16 d Q 44 [(4, .long t0), (0, .ref 6), (1, .ref 25), (2, .ref 16), (3, .int v3)] [] s) (Y_X0_takeMissing_25_16 d Q 35 [(4, .long t0), (0, .ref 6), (1, .ref 25), (2, .ref 16), (3, .int v3)] [] s) from ⟨fun c9 => ?_, fun c9 => ?_⟩)
  · have H := oq_t c9 H
    exact Wp.run 2 ⟨rfl, H⟩
  · have H := oq_f c9 H
    refine Wp.run 3 (show (vp_in v3 60) ∧ Y_X0_takeMissing_25_16 d Q 38 [(4, .long t0), (0, .ref 6), (1, .ref 25), (2, .ref 16), (3, .int v3)] [.long (s.2 16 v3.toNatClampNeg)] s from ⟨hc3, ?_⟩)
    refine Wp.run 3 (show br ((lg_cmp (s.2 16 v3.toNatClampNeg) t0) ≤ 0) (Y_X0_takeMissing_25_16 d Q 46 [(4, .long t0), (0, .ref 6), (1, .ref 25), (2, .ref 16), (3, .int v3)] [] s) (Y_X0_takeMissing_25_16 d Q 44 [(4, .long t0), (0, .ref 6), (1, .ref 25), (2, .ref 16), (3, .int v3)] [] s) from ⟨fun c9 => ?_, fun c9 => ?_⟩)
    · have H := oq_t c9 H
      refine Wp.run 6 (show (vp_in v3 60) ∧ Y_X0_takeMissing_25_16 d Q 54 [(4, .long t0), (0, .ref 6), (1, .ref 25), (2, .ref 16), (3, .int v3)] [.long (s.2 16 v3.toNatClampNeg), .int v3, .ref 21] s from ⟨hc3, ?_⟩)
      obtain ⟨hc4, H⟩ := oq_ck H
      refine Wp.run 2 (show (vp_in v3 8) ∧ Y_X0_takeMissing_25_16 d Q 56 [(4, .long t0), (0, .ref 6), (1, .ref 25), (2, .ref 16), (3, .int v3)] [] (pI s 21 v3.toNatClampNeg ((s.2 16 v3.toNatClampNeg).toInt32)) from ⟨hc4, ?_⟩)
      revert H
      generalize pI s 21 v3.toNatClampNeg ((s.2 16 v3.toNatClampNeg).toInt32) = s5
      intro H
      have H := nmx_e H
      refine Wp.run 2 (show Y_X0_takeMissing_25_16 d Q 2 [(3, .int (v3 + 1)), (4, .long t0), (0, .ref 6), (1, .ref 25), (2, .ref 16)] [] s5 from ?_)
      refine Wp.weak [2, 3, 4, 0] (lv' := [(0, .ref 6), (1, .ref 25), (2, .ref 16), (3, .int (v3 + 1))]) rfl ?_
      exact h_2 _ _ H
    · have H := oq_f c9 H
      exact Wp.run 2 ⟨rfl, H⟩
def f_X0_takeMissing_25_16_b2 : Nat → Int32 → Sg → Option (Int32 × Sg)
  | 0, _, _ => none
  | n + 1, v3, s =>
    if (s.1 25 13) ≤ v3 then
      some (1, s)
    else
      bd (f_X4_isGone v3 s) (fun r1 s2 =>
      if r1 = 0 then
        f_X0_takeMissing_25_16_b25 (f_X0_takeMissing_25_16_b2 n) v3 9999 s2
      else
        f_X0_takeMissing_25_16_b25 (f_X0_takeMissing_25_16_b2 n) v3 0 s2
      )
set_option maxRecDepth 100000 in
theorem w_X0_takeMissing_25_16_b2 {d : Nat} {Q : Qt} (n : Nat) : ∀ (v3 : Int32) (s : Sg), OQ (f_X0_takeMissing_25_16_b2 n v3 s) (fun r9 s9 => Q (some (.int r9)) s9) → Y_X0_takeMissing_25_16 d Q 2 [(0, .ref 6), (1, .ref 25), (2, .ref 16), (3, .int v3)] [] s := by
  induction n with
  | zero => intro v3 s H; exact H.elim
  | succ n ih =>
    intro v3 s H
    unfold f_X0_takeMissing_25_16_b2 at H
    refine Wp.run 4 (show br ((s.1 25 13) ≤ v3) (Y_X0_takeMissing_25_16 d Q 62 [(0, .ref 6), (1, .ref 25), (2, .ref 16), (3, .int v3)] [] s) (Y_X0_takeMissing_25_16 d Q 10 [(0, .ref 6), (1, .ref 25), (2, .ref 16), (3, .int v3)] [] s) from ⟨fun c9 => ?_, fun c9 => ?_⟩)
    · have H := oq_t c9 H
      exact Wp.run 2 ⟨rfl, H⟩
    · have H := oq_f c9 H
      refine Wp.run 3 (show room8 [] ∧ WpM SHC MT (d + 1) 55 [.ref 25, .int v3] s (fun v9 s9 => Y_X0_takeMissing_25_16 d Q 15 [(0, .ref 6), (1, .ref 25), (2, .ref 16), (3, .int v3)] (v9.toList ++ []) s9) from ⟨rm8_ rfl, ?_⟩)
      refine w_X4_isGone (d := d) _ ?_
      refine oq_bd H (fun r1 s2 H => ?_)
      show Y_X0_takeMissing_25_16 d Q 15 [(0, .ref 6), (1, .ref 25), (2, .ref 16), (3, .int v3)] [.int r1] s2
      refine Wp.run 1 (show br (r1 = 0) (Y_X0_takeMissing_25_16 d Q 22 [(0, .ref 6), (1, .ref 25), (2, .ref 16), (3, .int v3)] [] s2) (Y_X0_takeMissing_25_16 d Q 18 [(0, .ref 6), (1, .ref 25), (2, .ref 16), (3, .int v3)] [] s2) from ⟨fun c9 => ?_, fun c9 => ?_⟩)
      · have H := oq_t c9 H
        refine Wp.run 1 (show Y_X0_takeMissing_25_16 d Q 25 [(0, .ref 6), (1, .ref 25), (2, .ref 16), (3, .int v3)] [.long 9999] s2 from ?_)
        refine Wp.weak [0, 1, 2, 3] (lv' := [(0, .ref 6), (1, .ref 25), (2, .ref 16), (3, .int v3)]) rfl ?_
        exact w_X0_takeMissing_25_16_b25 (f_X0_takeMissing_25_16_b2 n) ih _ _ _ H
      · have H := oq_f c9 H
        refine Wp.run 2 (show Y_X0_takeMissing_25_16 d Q 25 [(0, .ref 6), (1, .ref 25), (2, .ref 16), (3, .int v3)] [.long 0] s2 from ?_)
        refine Wp.weak [0, 1, 2, 3] (lv' := [(0, .ref 6), (1, .ref 25), (2, .ref 16), (3, .int v3)]) rfl ?_
        exact w_X0_takeMissing_25_16_b25 (f_X0_takeMissing_25_16_b2 n) ih _ _ _ H
def f_X0_takeMissing_25_16  (s : Sg) : Option (Int32 × Sg) :=
  f_X0_takeMissing_25_16_b2 BIG 0 s
set_option maxRecDepth 100000 in
theorem w_X0_takeMissing_25_16 {d : Nat} {s : Sg} {Q : Qt}  (H : OQ (f_X0_takeMissing_25_16  s) (fun r9 s9 => Q (some (.int r9)) s9)) : WpM SHC MT (d + 2) 8 [.ref 6, .ref 25, .ref 16] s Q := by
  refine WpM.enter me_X0_takeMissing rfl rfl ?_
  show Y_X0_takeMissing_25_16 d Q 0 [(0, .ref 6), (1, .ref 25), (2, .ref 16)] [] s
  unfold f_X0_takeMissing_25_16 at H
  refine Wp.run 2 (show Y_X0_takeMissing_25_16 d Q 2 [(3, .int 0), (0, .ref 6), (1, .ref 25), (2, .ref 16)] [] s from ?_)
  refine Wp.weak [1, 2, 3, 0] (lv' := [(0, .ref 6), (1, .ref 25), (2, .ref 16), (3, .int 0)]) rfl ?_
  exact w_X0_takeMissing_25_16_b2 _ _ _ H
abbrev Y_X0_takeMissing_25_17 (d : Nat) (Q : Qt) : Xt := Wp SHC (WpM SHC MT (d + 1)) cd_X0_takeMissing (some .boolean) Q
def f_X0_takeMissing_25_17_b25 (k_2 : Int32 → Sg → Option (Int32 × Sg)) (v3 : Int32) (t0 : Int64) (s : Sg) : Option (Int32 × Sg) :=
  ck (inr v3 60) (
  if (lg_cmp (s.2 17 v3.toNatClampNeg) 0) < 0 then
    some (0, s)
  else
    if (lg_cmp (s.2 17 v3.toNatClampNeg) t0) ≤ 0 then
      ck (inr v3 8) (
      nmx (pI s 21 v3.toNatClampNeg ((s.2 17 v3.toNatClampNeg).toInt32)) (fun s5 =>
      k_2 (v3 + 1) s5
      )
      )
    else
      some (0, s)
  )
set_option maxRecDepth 100000 in
theorem w_X0_takeMissing_25_17_b25 {d : Nat} {Q : Qt} (k_2 : Int32 → Sg → Option (Int32 × Sg)) (h_2 : ∀ (v3 : Int32) s, OQ (k_2 v3 s) (fun r9 s9 => Q (some (.int r9)) s9) → Y_X0_takeMissing_25_17 d Q 2 [(0, .ref 6), (1, .ref 25), (2, .ref 17), (3, .int v3)] [] s) (v3 : Int32) (t0 : Int64) (s : Sg) (H : OQ (f_X0_takeMissing_25_17_b25 k_2 v3 t0 s) (fun r9 s9 => Q (some (.int r9)) s9)) : Y_X0_takeMissing_25_17 d Q 25 [(0, .ref 6), (1, .ref 25), (2, .ref 17), (3, .int v3)] [.long t0] s := by
  unfold f_X0_takeMissing_25_17_b25 at H
  obtain ⟨hc3, H⟩ := oq_ck H
  refine Wp.run 4 (show (vp_in v3 60) ∧ Y_X0_takeMissing_25_17 d Q 30 [(4, .long t0), (0, .ref 6), (1, .ref 25), (2, .ref 17), (3, .int v3)] [.long (s.2 17 v3.toNatClampNeg)] s from ⟨hc3, ?_⟩)
  refine Wp.run 3 (show br ((lg_cmp (s.2 17 v3.toNatClampNeg) 0) < 0) (Y_X0_takeMissing_25_17 d Q 44 [(4, .long t0), (0, .ref 6), (1, .ref 25), (2, .ref 17), (3, .int v3)] [] s) (Y_X0_takeMissing_25_17 d Q 35 [(4, .long t0), (0, .ref 6), (1, .ref 25), (2, .ref 17), (3, .int v3)] [] s) from ⟨fun c9 => ?_, fun c9 => ?_⟩)
  · have H := oq_t c9 H
    exact Wp.run 2 ⟨rfl, H⟩
  · have H := oq_f c9 H
    refine Wp.run 3 (show (vp_in v3 60) ∧ Y_X0_takeMissing_25_17 d Q 38 [(4, .long t0), (0, .ref 6), (1, .ref 25), (2, .ref 17), (3, .int v3)] [.long (s.2 17 v3.toNatClampNeg)] s from ⟨hc3, ?_⟩)
    refine Wp.run 3 (show br ((lg_cmp (s.2 17 v3.toNatClampNeg) t0) ≤ 0) (Y_X0_takeMissing_25_17 d Q 46 [(4, .long t0), (0, .ref 6), (1, .ref 25), (2, .ref 17), (3, .int v3)] [] s) (Y_X0_takeMissing_25_17 d Q 44 [(4, .long t0), (0, .ref 6), (1, .ref 25), (2, .ref 17), (3, .int v3)] [] s) from ⟨fun c9 => ?_, fun c9 => ?_⟩)
    · have H := oq_t c9 H
      refine Wp.run 6 (show (vp_in v3 60) ∧ Y_X0_takeMissing_25_17 d Q 54 [(4, .long t0), (0, .ref 6), (1, .ref 25), (2, .ref 17), (3, .int v3)] [.long (s.2 17 v3.toNatClampNeg), .int v3, .ref 21] s from ⟨hc3, ?_⟩)
      obtain ⟨hc4, H⟩ := oq_ck H
      refine Wp.run 2 (show (vp_in v3 8) ∧ Y_X0_takeMissing_25_17 d Q 56 [(4, .long t0), (0, .ref 6), (1, .ref 25), (2, .ref 17), (3, .int v3)] [] (pI s 21 v3.toNatClampNeg ((s.2 17 v3.toNatClampNeg).toInt32)) from ⟨hc4, ?_⟩)
      revert H
      generalize pI s 21 v3.toNatClampNeg ((s.2 17 v3.toNatClampNeg).toInt32) = s5
      intro H
      have H := nmx_e H
      refine Wp.run 2 (show Y_X0_takeMissing_25_17 d Q 2 [(3, .int (v3 + 1)), (4, .long t0), (0, .ref 6), (1, .ref 25), (2, .ref 17)] [] s5 from ?_)
      refine Wp.weak [2, 3, 4, 0] (lv' := [(0, .ref 6), (1, .ref 25), (2, .ref 17), (3, .int (v3 + 1))]) rfl ?_
      exact h_2 _ _ H
    · have H := oq_f c9 H
      exact Wp.run 2 ⟨rfl, H⟩
def f_X0_takeMissing_25_17_b2 : Nat → Int32 → Sg → Option (Int32 × Sg)
  | 0, _, _ => none
  | n + 1, v3, s =>
    if (s.1 25 13) ≤ v3 then
      some (1, s)
    else
      bd (f_X4_isGone v3 s) (fun r1 s2 =>
      if r1 = 0 then
        f_X0_takeMissing_25_17_b25 (f_X0_takeMissing_25_17_b2 n) v3 9999 s2
      else
        f_X0_takeMissing_25_17_b25 (f_X0_takeMissing_25_17_b2 n) v3 0 s2
      )
set_option maxRecDepth 100000 in
theorem w_X0_takeMissing_25_17_b2 {d : Nat} {Q : Qt} (n : Nat) : ∀ (v3 : Int32) (s : Sg), OQ (f_X0_takeMissing_25_17_b2 n v3 s) (fun r9 s9 => Q (some (.int r9)) s9) → Y_X0_takeMissing_25_17 d Q 2 [(0, .ref 6), (1, .ref 25), (2, .ref 17), (3, .int v3)] [] s := by
  induction n with
  | zero => intro v3 s H; exact H.elim
  | succ n ih =>
    intro v3 s H
    unfold f_X0_takeMissing_25_17_b2 at H
    refine Wp.run 4 (show br ((s.1 25 13) ≤ v3) (Y_X0_takeMissing_25_17 d Q 62 [(0, .ref 6), (1, .ref 25), (2, .ref 17), (3, .int v3)] [] s) (Y_X0_takeMissing_25_17 d Q 10 [(0, .ref 6), (1, .ref 25), (2, .ref 17), (3, .int v3)] [] s) from ⟨fun c9 => ?_, fun c9 => ?_⟩)
    · have H := oq_t c9 H
      exact Wp.run 2 ⟨rfl, H⟩
    · have H := oq_f c9 H
      refine Wp.run 3 (show room8 [] ∧ WpM SHC MT (d + 1) 55 [.ref 25, .int v3] s (fun v9 s9 => Y_X0_takeMissing_25_17 d Q 15 [(0, .ref 6), (1, .ref 25), (2, .ref 17), (3, .int v3)] (v9.toList ++ []) s9) from ⟨rm8_ rfl, ?_⟩)
      refine w_X4_isGone (d := d) _ ?_
      refine oq_bd H (fun r1 s2 H => ?_)
      show Y_X0_takeMissing_25_17 d Q 15 [(0, .ref 6), (1, .ref 25), (2, .ref 17), (3, .int v3)] [.int r1] s2
      refine Wp.run 1 (show br (r1 = 0) (Y_X0_takeMissing_25_17 d Q 22 [(0, .ref 6), (1, .ref 25), (2, .ref 17), (3, .int v3)] [] s2) (Y_X0_takeMissing_25_17 d Q 18 [(0, .ref 6), (1, .ref 25), (2, .ref 17), (3, .int v3)] [] s2) from ⟨fun c9 => ?_, fun c9 => ?_⟩)
      · have H := oq_t c9 H
        refine Wp.run 1 (show Y_X0_takeMissing_25_17 d Q 25 [(0, .ref 6), (1, .ref 25), (2, .ref 17), (3, .int v3)] [.long 9999] s2 from ?_)
        refine Wp.weak [0, 1, 2, 3] (lv' := [(0, .ref 6), (1, .ref 25), (2, .ref 17), (3, .int v3)]) rfl ?_
        exact w_X0_takeMissing_25_17_b25 (f_X0_takeMissing_25_17_b2 n) ih _ _ _ H
      · have H := oq_f c9 H
        refine Wp.run 2 (show Y_X0_takeMissing_25_17 d Q 25 [(0, .ref 6), (1, .ref 25), (2, .ref 17), (3, .int v3)] [.long 0] s2 from ?_)
        refine Wp.weak [0, 1, 2, 3] (lv' := [(0, .ref 6), (1, .ref 25), (2, .ref 17), (3, .int v3)]) rfl ?_
        exact w_X0_takeMissing_25_17_b25 (f_X0_takeMissing_25_17_b2 n) ih _ _ _ H
def f_X0_takeMissing_25_17  (s : Sg) : Option (Int32 × Sg) :=
  f_X0_takeMissing_25_17_b2 BIG 0 s
set_option maxRecDepth 100000 in
theorem w_X0_takeMissing_25_17 {d : Nat} {s : Sg} {Q : Qt}  (H : OQ (f_X0_takeMissing_25_17  s) (fun r9 s9 => Q (some (.int r9)) s9)) : WpM SHC MT (d + 2) 8 [.ref 6, .ref 25, .ref 17] s Q := by
  refine WpM.enter me_X0_takeMissing rfl rfl ?_
  show Y_X0_takeMissing_25_17 d Q 0 [(0, .ref 6), (1, .ref 25), (2, .ref 17)] [] s
  unfold f_X0_takeMissing_25_17 at H
  refine Wp.run 2 (show Y_X0_takeMissing_25_17 d Q 2 [(3, .int 0), (0, .ref 6), (1, .ref 25), (2, .ref 17)] [] s from ?_)
  refine Wp.weak [1, 2, 3, 0] (lv' := [(0, .ref 6), (1, .ref 25), (2, .ref 17), (3, .int 0)]) rfl ?_
  exact w_X0_takeMissing_25_17_b2 _ _ _ H
abbrev Y_X11_who (d : Nat) (Q : Qt) : Xt := Wp SHC (WpM SHC MT (d + 3)) cd_X11_who (some .int) Q
def f_X11_who (a1 : Int32) (a2 : Int32) (s : Sg) : Option (Int32 × Sg) :=
  bd (f_X11_isTray a1 s) (fun r1 s2 =>
  if r1 = 0 then
    bd (f_X11_refuse 1 s2) (fun r3 s4 =>
    some (r3, s4)
    )
  else
    bd (f_X11_within a2 1 999 s2) (fun r5 s6 =>
    if r5 = 0 then
      bd (f_X11_refuse 1 s6) (fun r7 s8 =>
      some (r7, s8)
      )
    else
      ck (inr a1 4) (
      sel4 a1
        (
          if (s6.1 10 1) = 0 then
            bd (f_X11_refuse 2 s6) (fun r10 s11 =>
            some (r10, s11)
            )
          else
            if (s6.1 25 13) ≤ (s6.1 10 3) then
              bd (f_X0_takeMissing_25_14 s6) (fun r12 s13 =>
              if r12 = 0 then
                bd (f_X11_refuse 5 s13) (fun r14 s15 =>
                some (r14, s15)
                )
              else
                bd (f_X0_fewestSweepers (s13.1 25 13) a2 s13) (fun r16 s17 =>
                bd (f_X11_answerIfAny r16 s17) (fun r18 s19 =>
                some (r18, s19)
                )
                )
              )
            else
              bd (f_X11_refuse 3 s6) (fun r20 s21 =>
              some (r20, s21)
              )
        )
        (
          if (s6.1 11 1) = 0 then
            bd (f_X11_refuse 2 s6) (fun r22 s23 =>
            some (r22, s23)
            )
          else
            if (s6.1 25 13) ≤ (s6.1 11 3) then
              bd (f_X0_takeMissing_25_15 s6) (fun r24 s25 =>
              if r24 = 0 then
                bd (f_X11_refuse 5 s25) (fun r26 s27 =>
                some (r26, s27)
                )
              else
                bd (f_X0_fewestSweepers (s25.1 25 13) a2 s25) (fun r28 s29 =>
                bd (f_X11_answerIfAny r28 s29) (fun r30 s31 =>
                some (r30, s31)
                )
                )
              )
            else
              bd (f_X11_refuse 3 s6) (fun r32 s33 =>
              some (r32, s33)
              )
        )
        (
          if (s6.1 12 1) = 0 then
            bd (f_X11_refuse 2 s6) (fun r34 s35 =>
            some (r34, s35)
            )
          else
            if (s6.1 25 13) ≤ (s6.1 12 3) then
              bd (f_X0_takeMissing_25_16 s6) (fun r36 s37 =>
              if r36 = 0 then
                bd (f_X11_refuse 5 s37) (fun r38 s39 =>
                some (r38, s39)
                )
              else
                bd (f_X0_fewestSweepers (s37.1 25 13) a2 s37) (fun r40 s41 =>
                bd (f_X11_answerIfAny r40 s41) (fun r42 s43 =>
                some (r42, s43)
                )
                )
              )
            else
              bd (f_X11_refuse 3 s6) (fun r44 s45 =>
              some (r44, s45)
              )
        )
        (
          if (s6.1 13 1) = 0 then
            bd (f_X11_refuse 2 s6) (fun r46 s47 =>
            some (r46, s47)
            )
          else
            if (s6.1 25 13) ≤ (s6.1 13 3) then
              bd (f_X0_takeMissing_25_17 s6) (fun r48 s49 =>
              if r48 = 0 then
                bd (f_X11_refuse 5 s49) (fun r50 s51 =>
                some (r50, s51)
                )
              else
                bd (f_X0_fewestSweepers (s49.1 25 13) a2 s49) (fun r52 s53 =>
                bd (f_X11_answerIfAny r52 s53) (fun r54 s55 =>
                some (r54, s55)
                )
                )
              )
            else
              bd (f_X11_refuse 3 s6) (fun r56 s57 =>
              some (r56, s57)
              )
        )
      )
    )
  )
set_option maxRecDepth 100000 in
theorem w_X11_who {d : Nat} {s : Sg} {Q : Qt} (a1 : Int32) (a2 : Int32) (H : OQ (f_X11_who a1 a2 s) (fun r9 s9 => Q (some (.int r9)) s9)) : WpM SHC MT (d + 4) 157 [.ref 0, .int a1, .int a2] s Q := by
  refine WpM.enter me_X11_who rfl rfl ?_
  show Y_X11_who d Q 0 [(0, .ref 0), (1, .int a1), (2, .int a2)] [] s
  unfold f_X11_who at H
  refine Wp.run 2 (show room8 [] ∧ WpM SHC MT (d + 3) 171 [.int a1] s (fun v9 s9 => Y_X11_who d Q 4 [(0, .ref 0), (1, .int a1), (2, .int a2)] (v9.toList ++ []) s9) from ⟨rm8_ rfl, ?_⟩)
  refine w_X11_isTray (d := d + 1) _ ?_
  refine oq_bd H (fun r1 s2 H => ?_)
  show Y_X11_who d Q 4 [(0, .ref 0), (1, .int a1), (2, .int a2)] [.int r1] s2
  refine Wp.run 1 (show br (r1 = 0) (Y_X11_who d Q 18 [(0, .ref 0), (1, .int a1), (2, .int a2)] [] s2) (Y_X11_who d Q 7 [(0, .ref 0), (1, .int a1), (2, .int a2)] [] s2) from ⟨fun c9 => ?_, fun c9 => ?_⟩)
  · have H := oq_t c9 H
    refine Wp.run 3 (show room8 [] ∧ WpM SHC MT (d + 3) 166 [.ref 0, .int 1] s2 (fun v9 s9 => Y_X11_who d Q 23 [(0, .ref 0), (1, .int a1), (2, .int a2)] (v9.toList ++ []) s9) from ⟨rm8_ rfl, ?_⟩)
    refine w_X11_refuse (d := d + 2) _ ?_
    refine oq_bd H (fun r3 s4 H => ?_)
    show Y_X11_who d Q 23 [(0, .ref 0), (1, .int a1), (2, .int a2)] [.int r3] s4
    exact Wp.run 1 ⟨rfl, H⟩
  · have H := oq_f c9 H
    refine Wp.run 4 (show room8 [] ∧ WpM SHC MT (d + 3) 169 [.int a2, .int 1, .int 999] s2 (fun v9 s9 => Y_X11_who d Q 15 [(0, .ref 0), (1, .int a1), (2, .int a2)] (v9.toList ++ []) s9) from ⟨rm8_ rfl, ?_⟩)
    refine w_X11_within (d := d + 2) _ _ _ ?_
    refine oq_bd H (fun r5 s6 H => ?_)
    show Y_X11_who d Q 15 [(0, .ref 0), (1, .int a1), (2, .int a2)] [.int r5] s6
    refine Wp.run 1 (show br (r5 = 0) (Y_X11_who d Q 18 [(0, .ref 0), (1, .int a1), (2, .int a2)] [] s6) (Y_X11_who d Q 24 [(0, .ref 0), (1, .int a1), (2, .int a2)] [] s6) from ⟨fun c9 => ?_, fun c9 => ?_⟩)
    · have H := oq_t c9 H
      refine Wp.run 3 (show room8 [] ∧ WpM SHC MT (d + 3) 166 [.ref 0, .int 1] s6 (fun v9 s9 => Y_X11_who d Q 23 [(0, .ref 0), (1, .int a1), (2, .int a2)] (v9.toList ++ []) s9) from ⟨rm8_ rfl, ?_⟩)
      refine w_X11_refuse (d := d + 2) _ ?_
      refine oq_bd H (fun r7 s8 H => ?_)
      show Y_X11_who d Q 23 [(0, .ref 0), (1, .int a1), (2, .int a2)] [.int r7] s8
      exact Wp.run 1 ⟨rfl, H⟩
    · have H := oq_f c9 H
      obtain ⟨c9, H⟩ := oq_ck H
      refine Wp.run 4 (show vp_in a1 4 ∧ (a1 = nI 0 → Y_X11_who d Q 30 [(0, .ref 0), (1, .int a1), (2, .int a2)] [.ref 10] s6) ∧ (a1 = nI 1 → Y_X11_who d Q 30 [(0, .ref 0), (1, .int a1), (2, .int a2)] [.ref 11] s6) ∧ (a1 = nI 2 → Y_X11_who d Q 30 [(0, .ref 0), (1, .int a1), (2, .int a2)] [.ref 12] s6) ∧ (a1 = nI 3 → Y_X11_who d Q 30 [(0, .ref 0), (1, .int a1), (2, .int a2)] [.ref 13] s6) ∧ True from ⟨c9, fun e9 => ?_, fun e9 => ?_, fun e9 => ?_, fun e9 => ?_, trivial⟩)
      · have ek9 := e9
        have H := oq_sel4_0 (i := a1) e9 H
        refine Wp.run 2 (show br ((s6.1 10 1) = 0) (Y_X11_who d Q 36 [(0, .ref 0), (1, .int a1), (2, .int a2)] [] s6) (Y_X11_who d Q 42 [(0, .ref 0), (1, .int a1), (2, .int a2)] [] s6) from ⟨fun c9 => ?_, fun c9 => ?_⟩)
        · have H := oq_t c9 H
          refine Wp.run 3 (show room8 [] ∧ WpM SHC MT (d + 3) 166 [.ref 0, .int 2] s6 (fun v9 s9 => Y_X11_who d Q 41 [(0, .ref 0), (1, .int a1), (2, .int a2)] (v9.toList ++ []) s9) from ⟨rm8_ rfl, ?_⟩)
          refine w_X11_refuse (d := d + 2) _ ?_
          refine oq_bd H (fun r10 s11 H => ?_)
          show Y_X11_who d Q 41 [(0, .ref 0), (1, .int a1), (2, .int a2)] [.int r10] s11
          exact Wp.run 1 ⟨rfl, H⟩
        · have H := oq_f c9 H
          refine Wp.run 4 (show vp_in a1 4 ∧ (a1 = nI 0 → Y_X11_who d Q 48 [(0, .ref 0), (1, .int a1), (2, .int a2)] [.ref 10] s6) ∧ (a1 = nI 1 → Y_X11_who d Q 48 [(0, .ref 0), (1, .int a1), (2, .int a2)] [.ref 11] s6) ∧ (a1 = nI 2 → Y_X11_who d Q 48 [(0, .ref 0), (1, .int a1), (2, .int a2)] [.ref 12] s6) ∧ (a1 = nI 3 → Y_X11_who d Q 48 [(0, .ref 0), (1, .int a1), (2, .int a2)] [.ref 13] s6) ∧ True from ⟨by rw [ek9]; unfold vp_in; decide, fun _ => ?_, fun z9 => absurd (ek9.symm.trans z9) (by decide), fun z9 => absurd (ek9.symm.trans z9) (by decide), fun z9 => absurd (ek9.symm.trans z9) (by decide), trivial⟩)
          refine Wp.run 5 (show br ((s6.1 25 13) ≤ (s6.1 10 3)) (Y_X11_who d Q 67 [(0, .ref 0), (1, .int a1), (2, .int a2)] [] s6) (Y_X11_who d Q 61 [(0, .ref 0), (1, .int a1), (2, .int a2)] [] s6) from ⟨fun c9 => ?_, fun c9 => ?_⟩)
          · have H := oq_t c9 H
            refine Wp.run 8 (show vp_in a1 4 ∧ (a1 = nI 0 → Y_X11_who d Q 81 [(0, .ref 0), (1, .int a1), (2, .int a2)] [.ref 10, .ref 25, .ref 6] s6) ∧ (a1 = nI 1 → Y_X11_who d Q 81 [(0, .ref 0), (1, .int a1), (2, .int a2)] [.ref 11, .ref 25, .ref 6] s6) ∧ (a1 = nI 2 → Y_X11_who d Q 81 [(0, .ref 0), (1, .int a1), (2, .int a2)] [.ref 12, .ref 25, .ref 6] s6) ∧ (a1 = nI 3 → Y_X11_who d Q 81 [(0, .ref 0), (1, .int a1), (2, .int a2)] [.ref 13, .ref 25, .ref 6] s6) ∧ True from ⟨by rw [ek9]; unfold vp_in; decide, fun _ => ?_, fun z9 => absurd (ek9.symm.trans z9) (by decide), fun z9 => absurd (ek9.symm.trans z9) (by decide), fun z9 => absurd (ek9.symm.trans z9) (by decide), trivial⟩)
            refine Wp.run 2 (show room8 [] ∧ WpM SHC MT (d + 3) 8 [.ref 6, .ref 25, .ref 14] s6 (fun v9 s9 => Y_X11_who d Q 87 [(0, .ref 0), (1, .int a1), (2, .int a2)] (v9.toList ++ []) s9) from ⟨rm8_ rfl, ?_⟩)
            refine w_X0_takeMissing_25_14 (d := d + 1)  ?_
            refine oq_bd H (fun r12 s13 H => ?_)
            show Y_X11_who d Q 87 [(0, .ref 0), (1, .int a1), (2, .int a2)] [.int r12] s13
            refine Wp.run 1 (show br (r12 = 0) (Y_X11_who d Q 90 [(0, .ref 0), (1, .int a1), (2, .int a2)] [] s13) (Y_X11_who d Q 96 [(0, .ref 0), (1, .int a1), (2, .int a2)] [] s13) from ⟨fun c9 => ?_, fun c9 => ?_⟩)
            · have H := oq_t c9 H
              refine Wp.run 3 (show room8 [] ∧ WpM SHC MT (d + 3) 166 [.ref 0, .int 5] s13 (fun v9 s9 => Y_X11_who d Q 95 [(0, .ref 0), (1, .int a1), (2, .int a2)] (v9.toList ++ []) s9) from ⟨rm8_ rfl, ?_⟩)
              refine w_X11_refuse (d := d + 2) _ ?_
              refine oq_bd H (fun r14 s15 H => ?_)
              show Y_X11_who d Q 95 [(0, .ref 0), (1, .int a1), (2, .int a2)] [.int r14] s15
              exact Wp.run 1 ⟨rfl, H⟩
            · have H := oq_f c9 H
              refine Wp.run 8 (show room8 [.ref 0] ∧ WpM SHC MT (d + 3) 9 [.ref 6, .int (s13.1 25 13), .int a2] s13 (fun v9 s9 => Y_X11_who d Q 112 [(0, .ref 0), (1, .int a1), (2, .int a2)] (v9.toList ++ [.ref 0]) s9) from ⟨rm8_ rfl, ?_⟩)
              refine w_X0_fewestSweepers (d := d) _ _ ?_
              refine oq_bd H (fun r16 s17 H => ?_)
              show Y_X11_who d Q 112 [(0, .ref 0), (1, .int a1), (2, .int a2)] [.int r16, .ref 0] s17
              refine Wp.run 1 (show room8 [] ∧ WpM SHC MT (d + 3) 165 [.ref 0, .int r16] s17 (fun v9 s9 => Y_X11_who d Q 115 [(0, .ref 0), (1, .int a1), (2, .int a2)] (v9.toList ++ []) s9) from ⟨rm8_ rfl, ?_⟩)
              refine w_X11_answerIfAny (d := d + 1) _ ?_
              refine oq_bd H (fun r18 s19 H => ?_)
              show Y_X11_who d Q 115 [(0, .ref 0), (1, .int a1), (2, .int a2)] [.int r18] s19
              exact Wp.run 1 ⟨rfl, H⟩
          · have H := oq_f c9 H
            refine Wp.run 3 (show room8 [] ∧ WpM SHC MT (d + 3) 166 [.ref 0, .int 3] s6 (fun v9 s9 => Y_X11_who d Q 66 [(0, .ref 0), (1, .int a1), (2, .int a2)] (v9.toList ++ []) s9) from ⟨rm8_ rfl, ?_⟩)
            refine w_X11_refuse (d := d + 2) _ ?_
            refine oq_bd H (fun r20 s21 H => ?_)
            show Y_X11_who d Q 66 [(0, .ref 0), (1, .int a1), (2, .int a2)] [.int r20] s21
            exact Wp.run 1 ⟨rfl, H⟩
      · have ek9 := e9
        have H := oq_sel4_1 (i := a1) e9 H
        refine Wp.run 2 (show br ((s6.1 11 1) = 0) (Y_X11_who d Q 36 [(0, .ref 0), (1, .int a1), (2, .int a2)] [] s6) (Y_X11_who d Q 42 [(0, .ref 0), (1, .int a1), (2, .int a2)] [] s6) from ⟨fun c9 => ?_, fun c9 => ?_⟩)
        · have H := oq_t c9 H
          refine Wp.run 3 (show room8 [] ∧ WpM SHC MT (d + 3) 166 [.ref 0, .int 2] s6 (fun v9 s9 => Y_X11_who d Q 41 [(0, .ref 0), (1, .int a1), (2, .int a2)] (v9.toList ++ []) s9) from ⟨rm8_ rfl, ?_⟩)
          refine w_X11_refuse (d := d + 2) _ ?_
          refine oq_bd H (fun r22 s23 H => ?_)
          show Y_X11_who d Q 41 [(0, .ref 0), (1, .int a1), (2, .int a2)] [.int r22] s23
          exact Wp.run 1 ⟨rfl, H⟩
        · have H := oq_f c9 H
          refine Wp.run 4 (show vp_in a1 4 ∧ (a1 = nI 0 → Y_X11_who d Q 48 [(0, .ref 0), (1, .int a1), (2, .int a2)] [.ref 10] s6) ∧ (a1 = nI 1 → Y_X11_who d Q 48 [(0, .ref 0), (1, .int a1), (2, .int a2)] [.ref 11] s6) ∧ (a1 = nI 2 → Y_X11_who d Q 48 [(0, .ref 0), (1, .int a1), (2, .int a2)] [.ref 12] s6) ∧ (a1 = nI 3 → Y_X11_who d Q 48 [(0, .ref 0), (1, .int a1), (2, .int a2)] [.ref 13] s6) ∧ True from ⟨by rw [ek9]; unfold vp_in; decide, fun z9 => absurd (ek9.symm.trans z9) (by decide), fun _ => ?_, fun z9 => absurd (ek9.symm.trans z9) (by decide), fun z9 => absurd (ek9.symm.trans z9) (by decide), trivial⟩)
          refine Wp.run 5 (show br ((s6.1 25 13) ≤ (s6.1 11 3)) (Y_X11_who d Q 67 [(0, .ref 0), (1, .int a1), (2, .int a2)] [] s6) (Y_X11_who d Q 61 [(0, .ref 0), (1, .int a1), (2, .int a2)] [] s6) from ⟨fun c9 => ?_, fun c9 => ?_⟩)
          · have H := oq_t c9 H
            refine Wp.run 8 (show vp_in a1 4 ∧ (a1 = nI 0 → Y_X11_who d Q 81 [(0, .ref 0), (1, .int a1), (2, .int a2)] [.ref 10, .ref 25, .ref 6] s6) ∧ (a1 = nI 1 → Y_X11_who d Q 81 [(0, .ref 0), (1, .int a1), (2, .int a2)] [.ref 11, .ref 25, .ref 6] s6) ∧ (a1 = nI 2 → Y_X11_who d Q 81 [(0, .ref 0), (1, .int a1), (2, .int a2)] [.ref 12, .ref 25, .ref 6] s6) ∧ (a1 = nI 3 → Y_X11_who d Q 81 [(0, .ref 0), (1, .int a1), (2, .int a2)] [.ref 13, .ref 25, .ref 6] s6) ∧ True from ⟨by rw [ek9]; unfold vp_in; decide, fun z9 => absurd (ek9.symm.trans z9) (by decide), fun _ => ?_, fun z9 => absurd (ek9.symm.trans z9) (by decide), fun z9 => absurd (ek9.symm.trans z9) (by decide), trivial⟩)
            refine Wp.run 2 (show room8 [] ∧ WpM SHC MT (d + 3) 8 [.ref 6, .ref 25, .ref 15] s6 (fun v9 s9 => Y_X11_who d Q 87 [(0, .ref 0), (1, .int a1), (2, .int a2)] (v9.toList ++ []) s9) from ⟨rm8_ rfl, ?_⟩)
            refine w_X0_takeMissing_25_15 (d := d + 1)  ?_
            refine oq_bd H (fun r24 s25 H => ?_)
            show Y_X11_who d Q 87 [(0, .ref 0), (1, .int a1), (2, .int a2)] [.int r24] s25
            refine Wp.run 1 (show br (r24 = 0) (Y_X11_who d Q 90 [(0, .ref 0), (1, .int a1), (2, .int a2)] [] s25) (Y_X11_who d Q 96 [(0, .ref 0), (1, .int a1), (2, .int a2)] [] s25) from ⟨fun c9 => ?_, fun c9 => ?_⟩)
            · have H := oq_t c9 H
              refine Wp.run 3 (show room8 [] ∧ WpM SHC MT (d + 3) 166 [.ref 0, .int 5] s25 (fun v9 s9 => Y_X11_who d Q 95 [(0, .ref 0), (1, .int a1), (2, .int a2)] (v9.toList ++ []) s9) from ⟨rm8_ rfl, ?_⟩)
              refine w_X11_refuse (d := d + 2) _ ?_
              refine oq_bd H (fun r26 s27 H => ?_)
              show Y_X11_who d Q 95 [(0, .ref 0), (1, .int a1), (2, .int a2)] [.int r26] s27
              exact Wp.run 1 ⟨rfl, H⟩
            · have H := oq_f c9 H
              refine Wp.run 8 (show room8 [.ref 0] ∧ WpM SHC MT (d + 3) 9 [.ref 6, .int (s25.1 25 13), .int a2] s25 (fun v9 s9 => Y_X11_who d Q 112 [(0, .ref 0), (1, .int a1), (2, .int a2)] (v9.toList ++ [.ref 0]) s9) from ⟨rm8_ rfl, ?_⟩)
              refine w_X0_fewestSweepers (d := d) _ _ ?_
              refine oq_bd H (fun r28 s29 H => ?_)
              show Y_X11_who d Q 112 [(0, .ref 0), (1, .int a1), (2, .int a2)] [.int r28, .ref 0] s29
              refine Wp.run 1 (show room8 [] ∧ WpM SHC MT (d + 3) 165 [.ref 0, .int r28] s29 (fun v9 s9 => Y_X11_who d Q 115 [(0, .ref 0), (1, .int a1), (2, .int a2)] (v9.toList ++ []) s9) from ⟨rm8_ rfl, ?_⟩)
              refine w_X11_answerIfAny (d := d + 1) _ ?_
              refine oq_bd H (fun r30 s31 H => ?_)
              show Y_X11_who d Q 115 [(0, .ref 0), (1, .int a1), (2, .int a2)] [.int r30] s31
              exact Wp.run 1 ⟨rfl, H⟩
          · have H := oq_f c9 H
            refine Wp.run 3 (show room8 [] ∧ WpM SHC MT (d + 3) 166 [.ref 0, .int 3] s6 (fun v9 s9 => Y_X11_who d Q 66 [(0, .ref 0), (1, .int a1), (2, .int a2)] (v9.toList ++ []) s9) from ⟨rm8_ rfl, ?_⟩)
            refine w_X11_refuse (d := d + 2) _ ?_
            refine oq_bd H (fun r32 s33 H => ?_)
            show Y_X11_who d Q 66 [(0, .ref 0), (1, .int a1), (2, .int a2)] [.int r32] s33
            exact Wp.run 1 ⟨rfl, H⟩
      · have ek9 := e9
        have H := oq_sel4_2 (i := a1) e9 H
        refine Wp.run 2 (show br ((s6.1 12 1) = 0) (Y_X11_who d Q 36 [(0, .ref 0), (1, .int a1), (2, .int a2)] [] s6) (Y_X11_who d Q 42 [(0, .ref 0), (1, .int a1), (2, .int a2)] [] s6) from ⟨fun c9 => ?_, fun c9 => ?_⟩)
        · have H := oq_t c9 H
          refine Wp.run 3 (show room8 [] ∧ WpM SHC MT (d + 3) 166 [.ref 0, .int 2] s6 (fun v9 s9 => Y_X11_who d Q 41 [(0, .ref 0), (1, .int a1), (2, .int a2)] (v9.toList ++ []) s9) from ⟨rm8_ rfl, ?_⟩)
          refine w_X11_refuse (d := d + 2) _ ?_
          refine oq_bd H (fun r34 s35 H => ?_)
          show Y_X11_who d Q 41 [(0, .ref 0), (1, .int a1), (2, .int a2)] [.int r34] s35
          exact Wp.run 1 ⟨rfl, H⟩
        · have H := oq_f c9 H
          refine Wp.run 4 (show vp_in a1 4 ∧ (a1 = nI 0 → Y_X11_who d Q 48 [(0, .ref 0), (1, .int a1), (2, .int a2)] [.ref 10] s6) ∧ (a1 = nI 1 → Y_X11_who d Q 48 [(0, .ref 0), (1, .int a1), (2, .int a2)] [.ref 11] s6) ∧ (a1 = nI 2 → Y_X11_who d Q 48 [(0, .ref 0), (1, .int a1), (2, .int a2)] [.ref 12] s6) ∧ (a1 = nI 3 → Y_X11_who d Q 48 [(0, .ref 0), (1, .int a1), (2, .int a2)] [.ref 13] s6) ∧ True from ⟨by rw [ek9]; unfold vp_in; decide, fun z9 => absurd (ek9.symm.trans z9) (by decide), fun z9 => absurd (ek9.symm.trans z9) (by decide), fun _ => ?_, fun z9 => absurd (ek9.symm.trans z9) (by decide), trivial⟩)
          refine Wp.run 5 (show br ((s6.1 25 13) ≤ (s6.1 12 3)) (Y_X11_who d Q 67 [(0, .ref 0), (1, .int a1), (2, .int a2)] [] s6) (Y_X11_who d Q 61 [(0, .ref 0), (1, .int a1), (2, .int a2)] [] s6) from ⟨fun c9 => ?_, fun c9 => ?_⟩)
          · have H := oq_t c9 H
            refine Wp.run 8 (show vp_in a1 4 ∧ (a1 = nI 0 → Y_X11_who d Q 81 [(0, .ref 0), (1, .int a1), (2, .int a2)] [.ref 10, .ref 25, .ref 6] s6) ∧ (a1 = nI 1 → Y_X11_who d Q 81 [(0, .ref 0), (1, .int a1), (2, .int a2)] [.ref 11, .ref 25, .ref 6] s6) ∧ (a1 = nI 2 → Y_X11_who d Q 81 [(0, .ref 0), (1, .int a1), (2, .int a2)] [.ref 12, .ref 25, .ref 6] s6) ∧ (a1 = nI 3 → Y_X11_who d Q 81 [(0, .ref 0), (1, .int a1), (2, .int a2)] [.ref 13, .ref 25, .ref 6] s6) ∧ True from ⟨by rw [ek9]; unfold vp_in; decide, fun z9 => absurd (ek9.symm.trans z9) (by decide), fun z9 => absurd (ek9.symm.trans z9) (by decide), fun _ => ?_, fun z9 => absurd (ek9.symm.trans z9) (by decide), trivial⟩)
            refine Wp.run 2 (show room8 [] ∧ WpM SHC MT (d + 3) 8 [.ref 6, .ref 25, .ref 16] s6 (fun v9 s9 => Y_X11_who d Q 87 [(0, .ref 0), (1, .int a1), (2, .int a2)] (v9.toList ++ []) s9) from ⟨rm8_ rfl, ?_⟩)
            refine w_X0_takeMissing_25_16 (d := d + 1)  ?_
            refine oq_bd H (fun r36 s37 H => ?_)
            show Y_X11_who d Q 87 [(0, .ref 0), (1, .int a1), (2, .int a2)] [.int r36] s37
            refine Wp.run 1 (show br (r36 = 0) (Y_X11_who d Q 90 [(0, .ref 0), (1, .int a1), (2, .int a2)] [] s37) (Y_X11_who d Q 96 [(0, .ref 0), (1, .int a1), (2, .int a2)] [] s37) from ⟨fun c9 => ?_, fun c9 => ?_⟩)
            · have H := oq_t c9 H
              refine Wp.run 3 (show room8 [] ∧ WpM SHC MT (d + 3) 166 [.ref 0, .int 5] s37 (fun v9 s9 => Y_X11_who d Q 95 [(0, .ref 0), (1, .int a1), (2, .int a2)] (v9.toList ++ []) s9) from ⟨rm8_ rfl, ?_⟩)
              refine w_X11_refuse (d := d + 2) _ ?_
              refine oq_bd H (fun r38 s39 H => ?_)
              show Y_X11_who d Q 95 [(0, .ref 0), (1, .int a1), (2, .int a2)] [.int r38] s39
              exact Wp.run 1 ⟨rfl, H⟩
            · have H := oq_f c9 H
              refine Wp.run 8 (show room8 [.ref 0] ∧ WpM SHC MT (d + 3) 9 [.ref 6, .int (s37.1 25 13), .int a2] s37 (fun v9 s9 => Y_X11_who d Q 112 [(0, .ref 0), (1, .int a1), (2, .int a2)] (v9.toList ++ [.ref 0]) s9) from ⟨rm8_ rfl, ?_⟩)
              refine w_X0_fewestSweepers (d := d) _ _ ?_
              refine oq_bd H (fun r40 s41 H => ?_)
              show Y_X11_who d Q 112 [(0, .ref 0), (1, .int a1), (2, .int a2)] [.int r40, .ref 0] s41
              refine Wp.run 1 (show room8 [] ∧ WpM SHC MT (d + 3) 165 [.ref 0, .int r40] s41 (fun v9 s9 => Y_X11_who d Q 115 [(0, .ref 0), (1, .int a1), (2, .int a2)] (v9.toList ++ []) s9) from ⟨rm8_ rfl, ?_⟩)
              refine w_X11_answerIfAny (d := d + 1) _ ?_
              refine oq_bd H (fun r42 s43 H => ?_)
              show Y_X11_who d Q 115 [(0, .ref 0), (1, .int a1), (2, .int a2)] [.int r42] s43
              exact Wp.run 1 ⟨rfl, H⟩
          · have H := oq_f c9 H
            refine Wp.run 3 (show room8 [] ∧ WpM SHC MT (d + 3) 166 [.ref 0, .int 3] s6 (fun v9 s9 => Y_X11_who d Q 66 [(0, .ref 0), (1, .int a1), (2, .int a2)] (v9.toList ++ []) s9) from ⟨rm8_ rfl, ?_⟩)
            refine w_X11_refuse (d := d + 2) _ ?_
            refine oq_bd H (fun r44 s45 H => ?_)
            show Y_X11_who d Q 66 [(0, .ref 0), (1, .int a1), (2, .int a2)] [.int r44] s45
            exact Wp.run 1 ⟨rfl, H⟩
      · have ek9 := e9
        have H := oq_sel4_3 (i := a1) e9 H
        refine Wp.run 2 (show br ((s6.1 13 1) = 0) (Y_X11_who d Q 36 [(0, .ref 0), (1, .int a1), (2, .int a2)] [] s6) (Y_X11_who d Q 42 [(0, .ref 0), (1, .int a1), (2, .int a2)] [] s6) from ⟨fun c9 => ?_, fun c9 => ?_⟩)
        · have H := oq_t c9 H
          refine Wp.run 3 (show room8 [] ∧ WpM SHC MT (d + 3) 166 [.ref 0, .int 2] s6 (fun v9 s9 => Y_X11_who d Q 41 [(0, .ref 0), (1, .int a1), (2, .int a2)] (v9.toList ++ []) s9) from ⟨rm8_ rfl, ?_⟩)
          refine w_X11_refuse (d := d + 2) _ ?_
          refine oq_bd H (fun r46 s47 H => ?_)
          show Y_X11_who d Q 41 [(0, .ref 0), (1, .int a1), (2, .int a2)] [.int r46] s47
          exact Wp.run 1 ⟨rfl, H⟩
        · have H := oq_f c9 H
          refine Wp.run 4 (show vp_in a1 4 ∧ (a1 = nI 0 → Y_X11_who d Q 48 [(0, .ref 0), (1, .int a1), (2, .int a2)] [.ref 10] s6) ∧ (a1 = nI 1 → Y_X11_who d Q 48 [(0, .ref 0), (1, .int a1), (2, .int a2)] [.ref 11] s6) ∧ (a1 = nI 2 → Y_X11_who d Q 48 [(0, .ref 0), (1, .int a1), (2, .int a2)] [.ref 12] s6) ∧ (a1 = nI 3 → Y_X11_who d Q 48 [(0, .ref 0), (1, .int a1), (2, .int a2)] [.ref 13] s6) ∧ True from ⟨by rw [ek9]; unfold vp_in; decide, fun z9 => absurd (ek9.symm.trans z9) (by decide), fun z9 => absurd (ek9.symm.trans z9) (by decide), fun z9 => absurd (ek9.symm.trans z9) (by decide), fun _ => ?_, trivial⟩)
          refine Wp.run 5 (show br ((s6.1 25 13) ≤ (s6.1 13 3)) (Y_X11_who d Q 67 [(0, .ref 0), (1, .int a1), (2, .int a2)] [] s6) (Y_X11_who d Q 61 [(0, .ref 0), (1, .int a1), (2, .int a2)] [] s6) from ⟨fun c9 => ?_, fun c9 => ?_⟩)
          · have H := oq_t c9 H
            refine Wp.run 8 (show vp_in a1 4 ∧ (a1 = nI 0 → Y_X11_who d Q 81 [(0, .ref 0), (1, .int a1), (2, .int a2)] [.ref 10, .ref 25, .ref 6] s6) ∧ (a1 = nI 1 → Y_X11_who d Q 81 [(0, .ref 0), (1, .int a1), (2, .int a2)] [.ref 11, .ref 25, .ref 6] s6) ∧ (a1 = nI 2 → Y_X11_who d Q 81 [(0, .ref 0), (1, .int a1), (2, .int a2)] [.ref 12, .ref 25, .ref 6] s6) ∧ (a1 = nI 3 → Y_X11_who d Q 81 [(0, .ref 0), (1, .int a1), (2, .int a2)] [.ref 13, .ref 25, .ref 6] s6) ∧ True from ⟨by rw [ek9]; unfold vp_in; decide, fun z9 => absurd (ek9.symm.trans z9) (by decide), fun z9 => absurd (ek9.symm.trans z9) (by decide), fun z9 => absurd (ek9.symm.trans z9) (by decide), fun _ => ?_, trivial⟩)
            refine Wp.run 2 (show room8 [] ∧ WpM SHC MT (d + 3) 8 [.ref 6, .ref 25, .ref 17] s6 (fun v9 s9 => Y_X11_who d Q 87 [(0, .ref 0), (1, .int a1), (2, .int a2)] (v9.toList ++ []) s9) from ⟨rm8_ rfl, ?_⟩)
            refine w_X0_takeMissing_25_17 (d := d + 1)  ?_
            refine oq_bd H (fun r48 s49 H => ?_)
            show Y_X11_who d Q 87 [(0, .ref 0), (1, .int a1), (2, .int a2)] [.int r48] s49
            refine Wp.run 1 (show br (r48 = 0) (Y_X11_who d Q 90 [(0, .ref 0), (1, .int a1), (2, .int a2)] [] s49) (Y_X11_who d Q 96 [(0, .ref 0), (1, .int a1), (2, .int a2)] [] s49) from ⟨fun c9 => ?_, fun c9 => ?_⟩)
            · have H := oq_t c9 H
              refine Wp.run 3 (show room8 [] ∧ WpM SHC MT (d + 3) 166 [.ref 0, .int 5] s49 (fun v9 s9 => Y_X11_who d Q 95 [(0, .ref 0), (1, .int a1), (2, .int a2)] (v9.toList ++ []) s9) from ⟨rm8_ rfl, ?_⟩)
              refine w_X11_refuse (d := d + 2) _ ?_
              refine oq_bd H (fun r50 s51 H => ?_)
              show Y_X11_who d Q 95 [(0, .ref 0), (1, .int a1), (2, .int a2)] [.int r50] s51
              exact Wp.run 1 ⟨rfl, H⟩
            · have H := oq_f c9 H
              refine Wp.run 8 (show room8 [.ref 0] ∧ WpM SHC MT (d + 3) 9 [.ref 6, .int (s49.1 25 13), .int a2] s49 (fun v9 s9 => Y_X11_who d Q 112 [(0, .ref 0), (1, .int a1), (2, .int a2)] (v9.toList ++ [.ref 0]) s9) from ⟨rm8_ rfl, ?_⟩)
              refine w_X0_fewestSweepers (d := d) _ _ ?_
              refine oq_bd H (fun r52 s53 H => ?_)
              show Y_X11_who d Q 112 [(0, .ref 0), (1, .int a1), (2, .int a2)] [.int r52, .ref 0] s53
              refine Wp.run 1 (show room8 [] ∧ WpM SHC MT (d + 3) 165 [.ref 0, .int r52] s53 (fun v9 s9 => Y_X11_who d Q 115 [(0, .ref 0), (1, .int a1), (2, .int a2)] (v9.toList ++ []) s9) from ⟨rm8_ rfl, ?_⟩)
              refine w_X11_answerIfAny (d := d + 1) _ ?_
              refine oq_bd H (fun r54 s55 H => ?_)
              show Y_X11_who d Q 115 [(0, .ref 0), (1, .int a1), (2, .int a2)] [.int r54] s55
              exact Wp.run 1 ⟨rfl, H⟩
          · have H := oq_f c9 H
            refine Wp.run 3 (show room8 [] ∧ WpM SHC MT (d + 3) 166 [.ref 0, .int 3] s6 (fun v9 s9 => Y_X11_who d Q 66 [(0, .ref 0), (1, .int a1), (2, .int a2)] (v9.toList ++ []) s9) from ⟨rm8_ rfl, ?_⟩)
            refine w_X11_refuse (d := d + 2) _ ?_
            refine oq_bd H (fun r56 s57 H => ?_)
            show Y_X11_who d Q 66 [(0, .ref 0), (1, .int a1), (2, .int a2)] [.int r56] s57
            exact Wp.run 1 ⟨rfl, H⟩
abbrev Y_X11_waysToTaste (d : Nat) (Q : Qt) : Xt := Wp SHC (WpM SHC MT (d + 0)) cd_X11_waysToTaste (some .long) Q
def f_X11_waysToTaste_b5 : Nat → Int32 → Int32 → Int64 → Int32 → Sg → Option (Int64 × Sg)
  | 0, _, _, _, _, _ => none
  | n + 1, v0, v1, v2, v4, s =>
    if v1 ≤ v4 then
      some (v2, s)
    else
      nmx (v2 * ((if 0 < (v0 - v4) then (v0 - v4) else 0).toInt64) : Int64) (fun x1 =>
      (f_X11_waysToTaste_b5 n) v0 v1 x1 (v4 + 1) s
      )
set_option maxRecDepth 100000 in
theorem w_X11_waysToTaste_b5 {d : Nat} {Q : Qt} (n : Nat) : ∀ (v0 : Int32) (v1 : Int32) (v2 : Int64) (v4 : Int32) (s : Sg), OQ (f_X11_waysToTaste_b5 n v0 v1 v2 v4 s) (fun r9 s9 => Q (some (.long r9)) s9) → Y_X11_waysToTaste d Q 5 [(0, .int v0), (1, .int v1), (2, .long v2), (4, .int v4)] [] s := by
  induction n with
  | zero => intro v0 v1 v2 v4 s H; exact H.elim
  | succ n ih =>
    intro v0 v1 v2 v4 s H
    unfold f_X11_waysToTaste_b5 at H
    refine Wp.run 3 (show br (v1 ≤ v4) (Y_X11_waysToTaste d Q 29 [(0, .int v0), (1, .int v1), (2, .long v2), (4, .int v4)] [] s) (Y_X11_waysToTaste d Q 11 [(0, .int v0), (1, .int v1), (2, .long v2), (4, .int v4)] [] s) from ⟨fun c9 => ?_, fun c9 => ?_⟩)
    · have H := oq_t c9 H
      exact Wp.run 2 H
    · have H := oq_f c9 H
      refine Wp.run 6 (show room8 [.long v2] ∧ Y_X11_waysToTaste d Q 20 [(0, .int v0), (1, .int v1), (2, .long v2), (4, .int v4)] [.int (if 0 < (v0 - v4) then (v0 - v4) else 0), .long v2] s from ⟨rm8_ rfl, ?_⟩)
      refine Wp.run 3 (show Y_X11_waysToTaste d Q 23 [(2, .long (v2 * ((if 0 < (v0 - v4) then (v0 - v4) else 0).toInt64))), (0, .int v0), (1, .int v1), (4, .int v4)] [] s from ?_)
      revert H
      generalize (v2 * ((if 0 < (v0 - v4) then (v0 - v4) else 0).toInt64) : Int64) = x1
      intro H
      have H := nmx_e H
      refine Wp.run 2 (show Y_X11_waysToTaste d Q 5 [(4, .int (v4 + 1)), (2, .long x1), (0, .int v0), (1, .int v1)] [] s from ?_)
      refine Wp.weak [2, 3, 1, 0] (lv' := [(0, .int v0), (1, .int v1), (2, .long x1), (4, .int (v4 + 1))]) rfl ?_
      exact ih _ _ _ _ _ H
def f_X11_waysToTaste (a0 : Int32) (a1 : Int32) (s : Sg) : Option (Int64 × Sg) :=
  f_X11_waysToTaste_b5 BIG a0 a1 1 0 s
set_option maxRecDepth 100000 in
theorem w_X11_waysToTaste {d : Nat} {s : Sg} {Q : Qt} (a0 : Int32) (a1 : Int32) (H : OQ (f_X11_waysToTaste a0 a1 s) (fun r9 s9 => Q (some (.long r9)) s9)) : WpM SHC MT (d + 1) 182 [.int a0, .int a1] s Q := by
  refine WpM.enter me_X11_waysToTaste rfl rfl ?_
  show Y_X11_waysToTaste d Q 0 [(0, .int a0), (1, .int a1)] [] s
  unfold f_X11_waysToTaste at H
  refine Wp.run 4 (show Y_X11_waysToTaste d Q 5 [(4, .int 0), (2, .long 1), (0, .int a0), (1, .int a1)] [] s from ?_)
  refine Wp.weak [2, 3, 1, 0] (lv' := [(0, .int a0), (1, .int a1), (2, .long 1), (4, .int 0)]) rfl ?_
  exact w_X11_waysToTaste_b5 _ _ _ _ _ _ H
abbrev Y_X11_tellFraction (d : Nat) (Q : Qt) : Xt := Wp SHC (WpM SHC MT (d + 0)) cd_X11_tellFraction (none) Q
def f_X11_tellFraction_b45 (v1 : Int64) (v3 : Int64) (v5 : Int64) (s : Sg) : Option (Unit × Sg) :=
  if (lg_cmp v5 0) ≤ 0 then
    some ((), s)
  else
    ck (¬ v5 = 0) (
    nmx (pL (pL s 0 16 (v1 / v5)) 0 17 (v3 / v5)) (fun s2 =>
    some ((), s2)
    )
    )
set_option maxRecDepth 100000 in
theorem w_X11_tellFraction_b45 {d : Nat} {Q : Qt} (v1 : Int64) (v3 : Int64) (v5 : Int64) (s : Sg) (H : OQ (f_X11_tellFraction_b45 v1 v3 v5 s) (fun _ s9 => Q none s9)) : Y_X11_tellFraction d Q 45 [(0, .ref 0), (1, .long v1), (3, .long v3), (5, .long v5)] [] s := by
  unfold f_X11_tellFraction_b45 at H
  refine Wp.run 4 (show br ((lg_cmp v5 0) ≤ 0) (Y_X11_tellFraction d Q 68 [(0, .ref 0), (1, .long v1), (3, .long v3), (5, .long v5)] [] s) (Y_X11_tellFraction d Q 52 [(0, .ref 0), (1, .long v1), (3, .long v3), (5, .long v5)] [] s) from ⟨fun c9 => ?_, fun c9 => ?_⟩)
  · have H := oq_t c9 H
    exact Wp.run 1 H
  · have H := oq_f c9 H
    obtain ⟨hc1, H⟩ := oq_ck H
    refine Wp.run 4 (show (¬ v5 = 0) ∧ Y_X11_tellFraction d Q 57 [(0, .ref 0), (1, .long v1), (3, .long v3), (5, .long v5)] [.long (v1 / v5), .ref 0] s from ⟨hc1, ?_⟩)
    refine Wp.run 5 (show (¬ v5 = 0) ∧ Y_X11_tellFraction d Q 65 [(0, .ref 0), (1, .long v1), (3, .long v3), (5, .long v5)] [.long (v3 / v5), .ref 0] (pL s 0 16 (v1 / v5)) from ⟨hc1, ?_⟩)
    refine Wp.run 1 (show Y_X11_tellFraction d Q 68 [(0, .ref 0), (1, .long v1), (3, .long v3), (5, .long v5)] [] (pL (pL s 0 16 (v1 / v5)) 0 17 (v3 / v5)) from ?_)
    revert H
    generalize pL (pL s 0 16 (v1 / v5)) 0 17 (v3 / v5) = s2
    intro H
    have H := nmx_e H
    exact Wp.run 1 H
def f_X11_tellFraction_b9 : Nat → Int64 → Int64 → Int64 → Int64 → Int32 → Sg → Option (Unit × Sg)
  | 0, _, _, _, _, _, _ => none
  | n + 1, v1, v3, v5, v7, v9, s =>
    if 1000 ≤ v9 then
      f_X11_tellFraction_b45 v1 v3 v5 s
    else
      if (lg_cmp v7 0) = 0 then
        f_X11_tellFraction_b45 v1 v3 v5 s
      else
        ck (¬ v7 = 0) (
        (f_X11_tellFraction_b9 n) v1 v3 v7 (v5 - v5 / v7 * v7) (v9 + 1) s
        )
set_option maxRecDepth 100000 in
theorem w_X11_tellFraction_b9 {d : Nat} {Q : Qt} (n : Nat) : ∀ (v1 : Int64) (v3 : Int64) (v5 : Int64) (v7 : Int64) (v9 : Int32) (s : Sg), OQ (f_X11_tellFraction_b9 n v1 v3 v5 v7 v9 s) (fun _ s9 => Q none s9) → Y_X11_tellFraction d Q 9 [(0, .ref 0), (1, .long v1), (3, .long v3), (5, .long v5), (7, .long v7), (9, .int v9)] [] s := by
  induction n with
  | zero => intro v1 v3 v5 v7 v9 s H; exact H.elim
  | succ n ih =>
    intro v1 v3 v5 v7 v9 s H
    unfold f_X11_tellFraction_b9 at H
    refine Wp.run 3 (show br (1000 ≤ v9) (Y_X11_tellFraction d Q 45 [(0, .ref 0), (1, .long v1), (3, .long v3), (5, .long v5), (7, .long v7), (9, .int v9)] [] s) (Y_X11_tellFraction d Q 17 [(0, .ref 0), (1, .long v1), (3, .long v3), (5, .long v5), (7, .long v7), (9, .int v9)] [] s) from ⟨fun c9 => ?_, fun c9 => ?_⟩)
    · have H := oq_t c9 H
      refine Wp.weak [0, 1, 2, 3] (lv' := [(0, .ref 0), (1, .long v1), (3, .long v3), (5, .long v5)]) rfl ?_
      exact w_X11_tellFraction_b45 _ _ _ _ H
    · have H := oq_f c9 H
      refine Wp.run 4 (show br ((lg_cmp v7 0) = 0) (Y_X11_tellFraction d Q 45 [(0, .ref 0), (1, .long v1), (3, .long v3), (5, .long v5), (7, .long v7), (9, .int v9)] [] s) (Y_X11_tellFraction d Q 24 [(0, .ref 0), (1, .long v1), (3, .long v3), (5, .long v5), (7, .long v7), (9, .int v9)] [] s) from ⟨fun c9 => ?_, fun c9 => ?_⟩)
      · have H := oq_t c9 H
        refine Wp.weak [0, 1, 2, 3] (lv' := [(0, .ref 0), (1, .long v1), (3, .long v3), (5, .long v5)]) rfl ?_
        exact w_X11_tellFraction_b45 _ _ _ _ H
      · have H := oq_f c9 H
        obtain ⟨hc3, H⟩ := oq_ck H
        refine Wp.run 3 (show (¬ v7 = 0) ∧ Y_X11_tellFraction d Q 29 [(0, .ref 0), (1, .long v1), (3, .long v3), (5, .long v5), (7, .long v7), (9, .int v9)] [.long (v5 - v5 / v7 * v7)] s from ⟨hc3, ?_⟩)
        refine Wp.run 7 (show Y_X11_tellFraction d Q 9 [(9, .int (v9 + 1)), (7, .long (v5 - v5 / v7 * v7)), (5, .long v7), (10, .long (v5 - v5 / v7 * v7)), (0, .ref 0), (1, .long v1), (3, .long v3)] [] s from ?_)
        refine Wp.weak [4, 5, 6, 2, 1, 0] (lv' := [(0, .ref 0), (1, .long v1), (3, .long v3), (5, .long v7), (7, .long (v5 - v5 / v7 * v7)), (9, .int (v9 + 1))]) rfl ?_
        exact ih _ _ _ _ _ _ H
def f_X11_tellFraction (a1 : Int64) (a2 : Int64) (s : Sg) : Option (Unit × Sg) :=
  f_X11_tellFraction_b9 BIG a1 a2 a1 a2 0 s
set_option maxRecDepth 100000 in
theorem w_X11_tellFraction {d : Nat} {s : Sg} {Q : Qt} (a1 : Int64) (a2 : Int64) (H : OQ (f_X11_tellFraction a1 a2 s) (fun _ s9 => Q none s9)) : WpM SHC MT (d + 1) 183 [.ref 0, .long a1, .long a2] s Q := by
  refine WpM.enter me_X11_tellFraction rfl rfl ?_
  show Y_X11_tellFraction d Q 0 [(0, .ref 0), (1, .long a1), (3, .long a2)] [] s
  unfold f_X11_tellFraction at H
  refine Wp.run 6 (show Y_X11_tellFraction d Q 9 [(9, .int 0), (7, .long a2), (5, .long a1), (0, .ref 0), (1, .long a1), (3, .long a2)] [] s from ?_)
  refine Wp.weak [3, 4, 5, 2, 1, 0] (lv' := [(0, .ref 0), (1, .long a1), (3, .long a2), (5, .long a1), (7, .long a2), (9, .int 0)]) rfl ?_
  exact w_X11_tellFraction_b9 _ _ _ _ _ _ _ H
abbrev Y_X11_found (d : Nat) (Q : Qt) : Xt := Wp SHC (WpM SHC MT (d + 3)) cd_X11_found (some .boolean) Q
def f_X11_found (a1 : Int32) (a2 : Int32) (s : Sg) : Option (Int32 × Sg) :=
  bd (f_X11_within a2 1 4 s) (fun r1 s2 =>
  bd (f_X11_whyNoStep a1 r1 s2) (fun r3 s4 =>
  if r3 = 0 then
    bd (f_X2_lying a1 s4) (fun r5 s6 =>
    if r5 < a2 then
      bd (f_X11_refused 7 s6) (fun r7 s8 =>
      ck (r7 = 0 ∨ r7 = 1) (some (r7, s8))
      )
    else
      if r5 ≤ 9999 then
        bd (f_X11_waysToTaste r5 a2 s6) (fun r9 s10 =>
        ck (inr a1 8) (
        bd (f_X11_waysToTaste (s10.1 40 a1.toNatClampNeg) a2 s10) (fun r12 s13 =>
        bd (f_X11_tellFraction (r9 - r12) r9 s13) (fun _ s15 =>
        bd (f_X11_granted s15) (fun r16 s17 =>
        ck (r16 = 0 ∨ r16 = 1) (some (r16, s17))
        )
        )
        )
        )
        )
      else
        bd (f_X11_refused 7 s6) (fun r18 s19 =>
        ck (r18 = 0 ∨ r18 = 1) (some (r18, s19))
        )
    )
  else
    bd (f_X11_refused r3 s4) (fun r20 s21 =>
    ck (r20 = 0 ∨ r20 = 1) (some (r20, s21))
    )
  )
  )
set_option maxRecDepth 100000 in
theorem w_X11_found {d : Nat} {s : Sg} {Q : Qt} (a1 : Int32) (a2 : Int32) (H : OQ (f_X11_found a1 a2 s) (fun r9 s9 => Q (some (.int r9)) s9)) : WpM SHC MT (d + 4) 158 [.ref 0, .int a1, .int a2] s Q := by
  refine WpM.enter me_X11_found rfl rfl ?_
  show Y_X11_found d Q 0 [(0, .ref 0), (1, .int a1), (2, .int a2)] [] s
  unfold f_X11_found at H
  refine Wp.run 6 (show room8 [.int a1, .ref 0] ∧ WpM SHC MT (d + 3) 169 [.int a2, .int 1, .int 4] s (fun v9 s9 => Y_X11_found d Q 8 [(0, .ref 0), (1, .int a1), (2, .int a2)] (v9.toList ++ [.int a1, .ref 0]) s9) from ⟨rm8_ rfl, ?_⟩)
  refine w_X11_within (d := d + 2) _ _ _ ?_
  refine oq_bd H (fun r1 s2 H => ?_)
  show Y_X11_found d Q 8 [(0, .ref 0), (1, .int a1), (2, .int a2)] [.int r1, .int a1, .ref 0] s2
  refine Wp.run 1 (show room8 [] ∧ WpM SHC MT (d + 3) 177 [.ref 0, .int a1, .int r1] s2 (fun v9 s9 => Y_X11_found d Q 11 [(0, .ref 0), (1, .int a1), (2, .int a2)] (v9.toList ++ []) s9) from ⟨rm8_ rfl, ?_⟩)
  refine w_X11_whyNoStep (d := d) _ _ ?_
  refine oq_bd H (fun r3 s4 H => ?_)
  show Y_X11_found d Q 11 [(0, .ref 0), (1, .int a1), (2, .int a2)] [.int r3] s4
  refine Wp.run 3 (show br (r3 = 0) (Y_X11_found d Q 22 [(3, .int r3), (0, .ref 0), (1, .int a1), (2, .int a2)] [] s4) (Y_X11_found d Q 16 [(3, .int r3), (0, .ref 0), (1, .int a1), (2, .int a2)] [] s4) from ⟨fun c9 => ?_, fun c9 => ?_⟩)
  · have H := oq_t c9 H
    refine Wp.run 4 (show room8 [] ∧ WpM SHC MT (d + 3) 23 [.ref 26, .int a1] s4 (fun v9 s9 => Y_X11_found d Q 30 [(3, .int r3), (0, .ref 0), (1, .int a1), (2, .int a2)] (v9.toList ++ []) s9) from ⟨rm8_ rfl, ?_⟩)
    refine w_X2_lying (d := d + 2) _ ?_
    refine oq_bd H (fun r5 s6 H => ?_)
    show Y_X11_found d Q 30 [(3, .int r3), (0, .ref 0), (1, .int a1), (2, .int a2)] [.int r5] s6
    refine Wp.run 4 (show br (r5 < a2) (Y_X11_found d Q 46 [(4, .int r5), (3, .int r3), (0, .ref 0), (1, .int a1), (2, .int a2)] [] s6) (Y_X11_found d Q 38 [(4, .int r5), (3, .int r3), (0, .ref 0), (1, .int a1), (2, .int a2)] [] s6) from ⟨fun c9 => ?_, fun c9 => ?_⟩)
    · have H := oq_t c9 H
      refine Wp.run 3 (show room8 [] ∧ WpM SHC MT (d + 3) 168 [.ref 0, .int 7] s6 (fun v9 s9 => Y_X11_found d Q 52 [(4, .int r5), (3, .int r3), (0, .ref 0), (1, .int a1), (2, .int a2)] (v9.toList ++ []) s9) from ⟨rm8_ rfl, ?_⟩)
      refine w_X11_refused (d := d + 2) _ ?_
      refine oq_bd H (fun r7 s8 H => ?_)
      show Y_X11_found d Q 52 [(4, .int r5), (3, .int r3), (0, .ref 0), (1, .int a1), (2, .int a2)] [.int r7] s8
      obtain ⟨c9, H⟩ := oq_ck H
      exact Wp.run 1 ⟨b01_n c9, H⟩
    · have H := oq_f c9 H
      refine Wp.run 3 (show br (r5 ≤ 9999) (Y_X11_found d Q 53 [(4, .int r5), (3, .int r3), (0, .ref 0), (1, .int a1), (2, .int a2)] [] s6) (Y_X11_found d Q 46 [(4, .int r5), (3, .int r3), (0, .ref 0), (1, .int a1), (2, .int a2)] [] s6) from ⟨fun c9 => ?_, fun c9 => ?_⟩)
      · have H := oq_t c9 H
        refine Wp.run 3 (show room8 [] ∧ WpM SHC MT (d + 3) 182 [.int r5, .int a2] s6 (fun v9 s9 => Y_X11_found d Q 59 [(4, .int r5), (3, .int r3), (0, .ref 0), (1, .int a1), (2, .int a2)] (v9.toList ++ []) s9) from ⟨rm8_ rfl, ?_⟩)
        refine w_X11_waysToTaste (d := d + 2) _ _ ?_
        refine oq_bd H (fun r9 s10 H => ?_)
        show Y_X11_found d Q 59 [(4, .int r5), (3, .int r3), (0, .ref 0), (1, .int a1), (2, .int a2)] [.long r9] s10
        obtain ⟨hc11, H⟩ := oq_ck H
        refine Wp.run 8 (show (vp_in a1 8) ∧ Y_X11_found d Q 73 [(5, .long r9), (4, .int r5), (3, .int r3), (0, .ref 0), (1, .int a1), (2, .int a2)] [.int (s10.1 40 a1.toNatClampNeg), .long r9, .ref 0] s10 from ⟨hc11, ?_⟩)
        refine Wp.run 2 (show room8 [.long r9, .ref 0] ∧ WpM SHC MT (d + 3) 182 [.int (s10.1 40 a1.toNatClampNeg), .int a2] s10 (fun v9 s9 => Y_X11_found d Q 77 [(5, .long r9), (4, .int r5), (3, .int r3), (0, .ref 0), (1, .int a1), (2, .int a2)] (v9.toList ++ [.long r9, .ref 0]) s9) from ⟨rm8_ rfl, ?_⟩)
        refine w_X11_waysToTaste (d := d + 2) _ _ ?_
        refine oq_bd H (fun r12 s13 H => ?_)
        show Y_X11_found d Q 77 [(5, .long r9), (4, .int r5), (3, .int r3), (0, .ref 0), (1, .int a1), (2, .int a2)] [.long r12, .long r9, .ref 0] s13
        refine Wp.run 3 (show room8 [] ∧ WpM SHC MT (d + 3) 183 [.ref 0, .long (r9 - r12), .long r9] s13 (fun v9 s9 => Y_X11_found d Q 83 [(5, .long r9), (4, .int r5), (3, .int r3), (0, .ref 0), (1, .int a1), (2, .int a2)] (v9.toList ++ []) s9) from ⟨rm8_ rfl, ?_⟩)
        refine w_X11_tellFraction (d := d + 2) _ _ ?_
        refine oq_bd H (fun _ s15 H => ?_)
        show Y_X11_found d Q 83 [(5, .long r9), (4, .int r5), (3, .int r3), (0, .ref 0), (1, .int a1), (2, .int a2)] [] s15
        refine Wp.run 2 (show room8 [] ∧ WpM SHC MT (d + 3) 167 [.ref 0] s15 (fun v9 s9 => Y_X11_found d Q 87 [(5, .long r9), (4, .int r5), (3, .int r3), (0, .ref 0), (1, .int a1), (2, .int a2)] (v9.toList ++ []) s9) from ⟨rm8_ rfl, ?_⟩)
        refine w_X11_granted (d := d + 2)  ?_
        refine oq_bd H (fun r16 s17 H => ?_)
        show Y_X11_found d Q 87 [(5, .long r9), (4, .int r5), (3, .int r3), (0, .ref 0), (1, .int a1), (2, .int a2)] [.int r16] s17
        obtain ⟨c9, H⟩ := oq_ck H
        exact Wp.run 1 ⟨b01_n c9, H⟩
      · have H := oq_f c9 H
        refine Wp.run 3 (show room8 [] ∧ WpM SHC MT (d + 3) 168 [.ref 0, .int 7] s6 (fun v9 s9 => Y_X11_found d Q 52 [(4, .int r5), (3, .int r3), (0, .ref 0), (1, .int a1), (2, .int a2)] (v9.toList ++ []) s9) from ⟨rm8_ rfl, ?_⟩)
        refine w_X11_refused (d := d + 2) _ ?_
        refine oq_bd H (fun r18 s19 H => ?_)
        show Y_X11_found d Q 52 [(4, .int r5), (3, .int r3), (0, .ref 0), (1, .int a1), (2, .int a2)] [.int r18] s19
        obtain ⟨c9, H⟩ := oq_ck H
        exact Wp.run 1 ⟨b01_n c9, H⟩
  · have H := oq_f c9 H
    refine Wp.run 3 (show room8 [] ∧ WpM SHC MT (d + 3) 168 [.ref 0, .int r3] s4 (fun v9 s9 => Y_X11_found d Q 21 [(3, .int r3), (0, .ref 0), (1, .int a1), (2, .int a2)] (v9.toList ++ []) s9) from ⟨rm8_ rfl, ?_⟩)
    refine w_X11_refused (d := d + 2) _ ?_
    refine oq_bd H (fun r20 s21 H => ?_)
    show Y_X11_found d Q 21 [(3, .int r3), (0, .ref 0), (1, .int a1), (2, .int a2)] [.int r20] s21
    obtain ⟨c9, H⟩ := oq_ck H
    exact Wp.run 1 ⟨b01_n c9, H⟩
