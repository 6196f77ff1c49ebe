abbrev inr (i : Int32) (n : Nat) : Prop := ¬ (i < 0 ∨ n ≤ i.toNatClampNeg)
theorem r8 {st : List Value} (h : Nat.ble ((st.map fun v => v.category).sum) 8 = true) : room8 st := Nat.le_of_ble_eq_true h
def sel4 {α : Type} (i : Int32) (a b c d : Option (α × Sg)) : Option (α × Sg) := if i = nI 0 then a else if i = nI 1 then b else if i = nI 2 then c else d
def sel3 {α : Type} (i : Int32) (a b c : Option (α × Sg)) : Option (α × Sg) := if i = nI 0 then a else if i = nI 1 then b else c
abbrev Y_X11_within (d : Nat) (Q : Qt) : Xt := Wp SHC (WpM SHC MT (d + 0)) cd_X11_within (some .boolean) Q
def f_X11_within (a0 : Int32) (a1 : Int32) (a2 : Int32) (s : Sg) : Option (Int32 × Sg) :=
  if a0 < a1 then
    some (0, s)
  else
    if a2 < a0 then
      some (0, s)
    else
      some (1, s)
theorem w_X11_within {d : Nat} {s : Sg} {Q : Qt} (a0 : Int32) (a1 : Int32) (a2 : Int32) (H : OQ (f_X11_within a0 a1 a2 s) (fun r9 s9 => Q (some (.int r9)) s9)) : WpM SHC MT (d + 1) 169 [.int a0, .int a1, .int a2] s Q := by
  refine WpM.enter me_X11_within rfl rfl ?_
  show Y_X11_within d Q 0 [(0, .int a0), (1, .int a1), (2, .int a2)] [] s
  unfold f_X11_within at H
  refine Wp.run 3 (show br (a0 < a1) (Y_X11_within d Q 14 [(0, .int a0), (1, .int a1), (2, .int a2)] [] s) (Y_X11_within d Q 5 [(0, .int a0), (1, .int a1), (2, .int a2)] [] s) from ⟨fun c9 => ?_, fun c9 => ?_⟩)
  · have H := oq_t c9 H
    exact Wp.run 2 ⟨rfl, H⟩
  · have H := oq_f c9 H
    refine Wp.run 3 (show br (a2 < a0) (Y_X11_within d Q 14 [(0, .int a0), (1, .int a1), (2, .int a2)] [] s) (Y_X11_within d Q 10 [(0, .int a0), (1, .int a1), (2, .int a2)] [] s) from ⟨fun c9 => ?_, fun c9 => ?_⟩)
    · have H := oq_t c9 H
      exact Wp.run 2 ⟨rfl, H⟩
    · have H := oq_f c9 H
      exact Wp.run 3 ⟨rfl, H⟩

abbrev Y_X11_isHouse (d : Nat) (Q : Qt) : Xt := Wp SHC (WpM SHC MT (d + 1)) cd_X11_isHouse (some .boolean) Q
def f_X11_isHouse (a1 : Int32) (s : Sg) : Option (Int32 × Sg) :=
  bd (f_X11_within a1 0 ((s.1 25 13) - 1) s) (fun r1 s2 =>
  ck (r1 = 0 ∨ r1 = 1) (some (r1, s2))
  )
theorem w_X11_isHouse {d : Nat} {s : Sg} {Q : Qt} (a1 : Int32) (H : OQ (f_X11_isHouse a1 s) (fun r9 s9 => Q (some (.int r9)) s9)) : WpM SHC MT (d + 2) 172 [.ref 0, .int a1] s Q := by
  refine WpM.enter me_X11_isHouse rfl rfl ?_
  show Y_X11_isHouse d Q 0 [(0, .ref 0), (1, .int a1)] [] s
  unfold f_X11_isHouse at H
  refine Wp.run 8 (show room8 [] ∧ WpM SHC MT (d + 1) 169 [.int a1, .int 0, .int ((s.1 25 13) - 1)] s (fun v9 s9 => Y_X11_isHouse d Q 14 [(0, .ref 0), (1, .int a1)] (v9.toList ++ []) s9) from ⟨r8 rfl, ?_⟩)
  refine w_X11_within (d := d) _ _ _ ?_
  refine oq_bd H (fun r1 s2 H => ?_)
  show Y_X11_isHouse d Q 14 [(0, .ref 0), (1, .int a1)] [.int r1] s2
  obtain ⟨c9, H⟩ := oq_ck H
  exact Wp.run 1 ⟨b01_n c9, H⟩

abbrev Y_X12_isFrom (d : Nat) (Q : Qt) : Xt := Wp SHM (WpM SHM MT (d + 0)) cd_X12_isFrom (some .boolean) Q
def f_X12_isFrom (a0 : Int64) (a1 : Int64) (a2 : Int64) (s : Sg) : Option (Int32 × Sg) :=
  if (lg_cmp a0 a1) < 0 then
    some (0, s)
  else
    if 0 < (lg_cmp a0 a2) then
      some (0, s)
    else
      some (1, s)
theorem w_X12_isFrom {d : Nat} {s : Sg} {Q : Qt} (a0 : Int64) (a1 : Int64) (a2 : Int64) (H : OQ (f_X12_isFrom a0 a1 a2 s) (fun r9 s9 => Q (some (.int r9)) s9)) : WpM SHM MT (d + 1) 202 [.long a0, .long a1, .long a2] s Q := by
  refine WpM.enter me_X12_isFrom rfl rfl ?_
  show Y_X12_isFrom d Q 0 [(0, .long a0), (2, .long a1), (4, .long a2)] [] s
  unfold f_X12_isFrom at H
  refine Wp.run 4 (show br ((lg_cmp a0 a1) < 0) (Y_X12_isFrom d Q 17 [(0, .long a0), (2, .long a1), (4, .long a2)] [] s) (Y_X12_isFrom d Q 6 [(0, .long a0), (2, .long a1), (4, .long a2)] [] s) from ⟨fun c9 => ?_, fun c9 => ?_⟩)
  · have H := oq_t c9 H
    exact Wp.run 2 ⟨rfl, H⟩
  · have H := oq_f c9 H
    refine Wp.run 4 (show br (0 < (lg_cmp a0 a2)) (Y_X12_isFrom d Q 17 [(0, .long a0), (2, .long a1), (4, .long a2)] [] s) (Y_X12_isFrom d Q 13 [(0, .long a0), (2, .long a1), (4, .long a2)] [] s) from ⟨fun c9 => ?_, fun c9 => ?_⟩)
    · have H := oq_t c9 H
      exact Wp.run 2 ⟨rfl, H⟩
    · have H := oq_f c9 H
      exact Wp.run 3 ⟨rfl, H⟩

abbrev Y_X12_is (d : Nat) (Q : Qt) : Xt := Wp SHM (WpM SHM MT (d + 0)) cd_X12_is (some .boolean) Q
def f_X12_is (a1 : Int32) (s : Sg) : Option (Int32 × Sg) :=
  if a1 = 0 then
    some (1, pI s 0 2 a1)
  else
    some (0, pI s 0 2 a1)
theorem w_X12_is {d : Nat} {s : Sg} {Q : Qt} (a1 : Int32) (H : OQ (f_X12_is a1 s) (fun r9 s9 => Q (some (.int r9)) s9)) : WpM SHM MT (d + 1) 190 [.ref 0, .int a1] s Q := by
  refine WpM.enter me_X12_is rfl rfl ?_
  show Y_X12_is d Q 0 [(0, .ref 0), (1, .int a1)] [] s
  unfold f_X12_is at H
  refine Wp.run 5 (show br (a1 = 0) (Y_X12_is d Q 9 [(0, .ref 0), (1, .int a1)] [] (pI s 0 2 a1)) (Y_X12_is d Q 13 [(0, .ref 0), (1, .int a1)] [] (pI s 0 2 a1)) from ⟨fun c9 => ?_, fun c9 => ?_⟩)
  · have H := oq_t c9 H
    exact Wp.run 3 ⟨rfl, H⟩
  · have H := oq_f c9 H
    exact Wp.run 2 ⟨rfl, H⟩

abbrev Y_X12_isGone (d : Nat) (Q : Qt) : Xt := Wp SHM (WpM SHM MT (d + 0)) cd_X12_isGone (some .boolean) Q
def f_X12_isGone (a1 : Int32) (s : Sg) : Option (Int32 × Sg) :=
  if (((s.1 1 9) >>> (a1 &&& 31)) &&& 1) = 1 then
    some (1, s)
  else
    some (0, s)
theorem w_X12_isGone {d : Nat} {s : Sg} {Q : Qt} (a1 : Int32) (H : OQ (f_X12_isGone a1 s) (fun r9 s9 => Q (some (.int r9)) s9)) : WpM SHM MT (d + 1) 242 [.ref 0, .int a1] s Q := by
  refine WpM.enter me_X12_isGone rfl rfl ?_
  show Y_X12_isGone d Q 0 [(0, .ref 0), (1, .int a1)] [] s
  unfold f_X12_isGone at H
  refine Wp.run 4 (show (vp_in 9 2880) ∧ Y_X12_isGone d Q 7 [(0, .ref 0), (1, .int a1)] [.int (s.1 1 9)] s from ⟨by unfold vp_in; decide, ?_⟩)
  refine Wp.run 6 (show br ((((s.1 1 9) >>> (a1 &&& 31)) &&& 1) = 1) (Y_X12_isGone d Q 15 [(0, .ref 0), (1, .int a1)] [] s) (Y_X12_isGone d Q 19 [(0, .ref 0), (1, .int a1)] [] s) from ⟨fun c9 => ?_, fun c9 => ?_⟩)
  · have H := oq_t c9 H
    exact Wp.run 3 ⟨rfl, H⟩
  · have H := oq_f c9 H
    exact Wp.run 2 ⟨rfl, H⟩

abbrev Y_X12_houseRow (d : Nat) (Q : Qt) : Xt := Wp SHM (WpM SHM MT (d + 0)) cd_X12_houseRow (some .int) Q
def f_X12_houseRow (a0 : Int32) (s : Sg) : Option (Int32 × Sg) :=
  some (16 + (3 * a0), s)
theorem w_X12_houseRow {d : Nat} {s : Sg} {Q : Qt} (a0 : Int32) (H : OQ (f_X12_houseRow a0 s) (fun r9 s9 => Q (some (.int r9)) s9)) : WpM SHM MT (d + 1) 238 [.int a0] s Q := by
  refine WpM.enter me_X12_houseRow rfl rfl ?_
  show Y_X12_houseRow d Q 0 [(0, .int a0)] [] s
  unfold f_X12_houseRow at H
  exact Wp.run 6 ⟨rfl, H⟩

abbrev Y_X12_snows (d : Nat) (Q : Qt) : Xt := Wp SHM (WpM SHM MT (d + 1)) cd_X12_snows (none) Q
def f_X12_snows_b2 : Nat → Int32 → Int32 → Sg → Option (Unit × Sg)
  | 0, _, _, _ => none
  | n + 1, v1, v2, s =>
    if (s.1 1 0) ≤ v2 then
      some ((), s)
    else
      bd (f_X12_isGone v2 s) (fun r1 s2 =>
      if r1 = 0 then
        bd (f_X12_houseRow v2 s2) (fun r3 s4 =>
        bd (f_X12_houseRow v2 s4) (fun r5 s6 =>
        ck (inr (r5 + 2) 2880) (
        ck (inr (r3 + 2) 2880) (
        (f_X12_snows_b2 n) v1 (v2 + 1) (pI s6 1 ((r3 + 2).toNatClampNeg) (if ((s6.1 1 ((r5 + 2).toNatClampNeg)) + v1) < 99 then ((s6.1 1 ((r5 + 2).toNatClampNeg)) + v1) else 99))
        )
        )
        )
        )
      else
        (f_X12_snows_b2 n) v1 (v2 + 1) s2
      )
theorem w_X12_snows_b2 {d : Nat} {Q : Qt} (n : Nat) : ∀ (v1 : Int32) (v2 : Int32) (s : Sg), OQ (f_X12_snows_b2 n v1 v2 s) (fun _ s9 => Q none s9) → Y_X12_snows d Q 2 [(0, .ref 0), (1, .int v1), (2, .int v2)] [] s := by
  induction n with
  | zero => intro v1 v2 s H; exact H.elim
  | succ n ih =>
    intro v1 v2 s H
    unfold f_X12_snows_b2 at H
    refine Wp.run 5 (show (vp_in 0 2880) ∧ Y_X12_snows d Q 9 [(0, .ref 0), (1, .int v1), (2, .int v2)] [.int (s.1 1 0), .int v2] s from ⟨by unfold vp_in; decide, ?_⟩)
    refine Wp.run 1 (show br ((s.1 1 0) ≤ v2) (Y_X12_snows d Q 55 [(0, .ref 0), (1, .int v1), (2, .int v2)] [] s) (Y_X12_snows d Q 12 [(0, .ref 0), (1, .int v1), (2, .int v2)] [] s) from ⟨fun c9 => ?_, fun c9 => ?_⟩)
    · have H := oq_t c9 H
      exact Wp.run 1 H
    · have H := oq_f c9 H
      refine Wp.run 3 (show room8 [] ∧ WpM SHM MT (d + 1) 242 [.ref 0, .int v2] s (fun v9 s9 => Y_X12_snows d Q 17 [(0, .ref 0), (1, .int v1), (2, .int v2)] (v9.toList ++ []) s9) from ⟨r8 rfl, ?_⟩)
      refine w_X12_isGone (d := d) _ ?_
      refine oq_bd H (fun r1 s2 H => ?_)
      show Y_X12_snows d Q 17 [(0, .ref 0), (1, .int v1), (2, .int v2)] [.int r1] s2
      refine Wp.run 1 (show br (r1 = 0) (Y_X12_snows d Q 20 [(0, .ref 0), (1, .int v1), (2, .int v2)] [] s2) (Y_X12_snows d Q 49 [(0, .ref 0), (1, .int v1), (2, .int v2)] [] s2) from ⟨fun c9 => ?_, fun c9 => ?_⟩)
      · have H := oq_t c9 H
        refine Wp.run 4 (show room8 [.ref 1] ∧ WpM SHM MT (d + 1) 238 [.int v2] s2 (fun v9 s9 => Y_X12_snows d Q 28 [(0, .ref 0), (1, .int v1), (2, .int v2)] (v9.toList ++ [.ref 1]) s9) from ⟨r8 rfl, ?_⟩)
        refine w_X12_houseRow (d := d) _ ?_
        refine oq_bd H (fun r3 s4 H => ?_)
        show Y_X12_snows d Q 28 [(0, .ref 0), (1, .int v1), (2, .int v2)] [.int r3, .ref 1] s4
        refine Wp.run 7 (show room8 [.ref 1, .int 99, .int (r3 + 2), .ref 1] ∧ WpM SHM MT (d + 1) 238 [.int v2] s4 (fun v9 s9 => Y_X12_snows d Q 40 [(0, .ref 0), (1, .int v1), (2, .int v2)] (v9.toList ++ [.ref 1, .int 99, .int (r3 + 2), .ref 1]) s9) from ⟨r8 rfl, ?_⟩)
        refine w_X12_houseRow (d := d) _ ?_
        refine oq_bd H (fun r5 s6 H => ?_)
        show Y_X12_snows d Q 40 [(0, .ref 0), (1, .int v1), (2, .int v2)] [.int r5, .ref 1, .int 99, .int (r3 + 2), .ref 1] s6
        obtain ⟨c9, H⟩ := oq_ck H
        refine Wp.run 3 (show (vp_in (r5 + 2) 2880) ∧ Y_X12_snows d Q 43 [(0, .ref 0), (1, .int v1), (2, .int v2)] [.int (s6.1 1 ((r5 + 2).toNatClampNeg)), .int 99, .int (r3 + 2), .ref 1] s6 from ⟨c9, ?_⟩)
        refine Wp.run 3 (show room8 [.int (r3 + 2), .ref 1] ∧ Y_X12_snows d Q 48 [(0, .ref 0), (1, .int v1), (2, .int v2)] [.int (if ((s6.1 1 ((r5 + 2).toNatClampNeg)) + v1) < 99 then ((s6.1 1 ((r5 + 2).toNatClampNeg)) + v1) else 99), .int (r3 + 2), .ref 1] s6 from ⟨r8 rfl, ?_⟩)
        obtain ⟨c9, H⟩ := oq_ck H
        refine Wp.run 1 (show (vp_in (r3 + 2) 2880) ∧ Y_X12_snows d Q 49 [(0, .ref 0), (1, .int v1), (2, .int v2)] [] (pI s6 1 ((r3 + 2).toNatClampNeg) (if ((s6.1 1 ((r5 + 2).toNatClampNeg)) + v1) < 99 then ((s6.1 1 ((r5 + 2).toNatClampNeg)) + v1) else 99)) from ⟨c9, ?_⟩)
        refine Wp.run 2 (show Y_X12_snows d Q 2 [(2, .int (v2 + 1)), (0, .ref 0), (1, .int v1)] [] (pI s6 1 ((r3 + 2).toNatClampNeg) (if ((s6.1 1 ((r5 + 2).toNatClampNeg)) + v1) < 99 then ((s6.1 1 ((r5 + 2).toNatClampNeg)) + v1) else 99)) from ?_)
        refine Wp.weak [1, 2, 0] (lv' := [(0, .ref 0), (1, .int v1), (2, .int (v2 + 1))]) rfl ?_
        exact ih _ _ _ H
      · have H := oq_f c9 H
        refine Wp.run 2 (show Y_X12_snows d Q 2 [(2, .int (v2 + 1)), (0, .ref 0), (1, .int v1)] [] s2 from ?_)
        refine Wp.weak [1, 2, 0] (lv' := [(0, .ref 0), (1, .int v1), (2, .int (v2 + 1))]) rfl ?_
        exact ih _ _ _ H
def f_X12_snows (a1 : Int32) (s : Sg) : Option (Unit × Sg) :=
  f_X12_snows_b2 BIG a1 0 s
theorem w_X12_snows {d : Nat} {s : Sg} {Q : Qt} (a1 : Int32) (H : OQ (f_X12_snows a1 s) (fun _ s9 => Q none s9)) : WpM SHM MT (d + 2) 278 [.ref 0, .int a1] s Q := by
  refine WpM.enter me_X12_snows rfl rfl ?_
  show Y_X12_snows d Q 0 [(0, .ref 0), (1, .int a1)] [] s
  unfold f_X12_snows at H
  refine Wp.run 2 (show Y_X12_snows d Q 2 [(2, .int 0), (0, .ref 0), (1, .int a1)] [] s from ?_)
  refine Wp.weak [1, 2, 0] (lv' := [(0, .ref 0), (1, .int a1), (2, .int 0)]) rfl ?_
  exact w_X12_snows_b2 _ _ _ _ H

abbrev Y_X12_snow (d : Nat) (Q : Qt) : Xt := Wp SHM (WpM SHM MT (d + 2)) cd_X12_snow (some .boolean) Q
def f_X12_snow (a1 : Int32) (s : Sg) : Option (Int32 × Sg) :=
  bd (f_X12_isFrom a1.toInt64 0 99 s) (fun r1 s2 =>
  if r1 = 0 then
    bd (f_X12_is 1 s2) (fun r3 s4 =>
    ck (r3 = 0 ∨ r3 = 1) (some (r3, s4))
    )
  else
    bd (f_X12_snows a1 s2) (fun _ s6 =>
    bd (f_X12_is 0 s6) (fun r7 s8 =>
    ck (r7 = 0 ∨ r7 = 1) (some (r7, s8))
    )
    )
  )
theorem w_X12_snow {d : Nat} {s : Sg} {Q : Qt} (a1 : Int32) (H : OQ (f_X12_snow a1 s) (fun r9 s9 => Q (some (.int r9)) s9)) : WpM SHM MT (d + 3) 279 [.ref 0, .int a1] s Q := by
  refine WpM.enter me_X12_snow rfl rfl ?_
  show Y_X12_snow d Q 0 [(0, .ref 0), (1, .int a1)] [] s
  unfold f_X12_snow at H
  refine Wp.run 5 (show room8 [] ∧ WpM SHM MT (d + 2) 202 [.long a1.toInt64, .long 0, .long 99] s (fun v9 s9 => Y_X12_snow d Q 9 [(0, .ref 0), (1, .int a1)] (v9.toList ++ []) s9) from ⟨r8 rfl, ?_⟩)
  refine w_X12_isFrom (d := d + 1) _ _ _ ?_
  refine oq_bd H (fun r1 s2 H => ?_)
  show Y_X12_snow d Q 9 [(0, .ref 0), (1, .int a1)] [.int r1] s2
  refine Wp.run 1 (show br (r1 = 0) (Y_X12_snow d Q 12 [(0, .ref 0), (1, .int a1)] [] s2) (Y_X12_snow d Q 18 [(0, .ref 0), (1, .int a1)] [] s2) from ⟨fun c9 => ?_, fun c9 => ?_⟩)
  · have H := oq_t c9 H
    refine Wp.run 3 (show room8 [] ∧ WpM SHM MT (d + 2) 190 [.ref 0, .int 1] s2 (fun v9 s9 => Y_X12_snow d Q 17 [(0, .ref 0), (1, .int a1)] (v9.toList ++ []) s9) from ⟨r8 rfl, ?_⟩)
    refine w_X12_is (d := d + 1) _ ?_
    refine oq_bd H (fun r3 s4 H => ?_)
    show Y_X12_snow d Q 17 [(0, .ref 0), (1, .int a1)] [.int r3] s4
    obtain ⟨c9, H⟩ := oq_ck H
    exact Wp.run 1 ⟨b01_n c9, H⟩
  · have H := oq_f c9 H
    refine Wp.run 3 (show room8 [] ∧ WpM SHM MT (d + 2) 278 [.ref 0, .int a1] s2 (fun v9 s9 => Y_X12_snow d Q 23 [(0, .ref 0), (1, .int a1)] (v9.toList ++ []) s9) from ⟨r8 rfl, ?_⟩)
    refine w_X12_snows (d := d) _ ?_
    refine oq_bd H (fun _ s6 H => ?_)
    show Y_X12_snow d Q 23 [(0, .ref 0), (1, .int a1)] [] s6
    refine Wp.run 3 (show room8 [] ∧ WpM SHM MT (d + 2) 190 [.ref 0, .int 0] s6 (fun v9 s9 => Y_X12_snow d Q 28 [(0, .ref 0), (1, .int a1)] (v9.toList ++ []) s9) from ⟨r8 rfl, ?_⟩)
    refine w_X12_is (d := d + 1) _ ?_
    refine oq_bd H (fun r7 s8 H => ?_)
    show Y_X12_snow d Q 28 [(0, .ref 0), (1, .int a1)] [.int r7] s8
    obtain ⟨c9, H⟩ := oq_ck H
    exact Wp.run 1 ⟨b01_n c9, H⟩

abbrev Y_X12_grainsOn (d : Nat) (Q : Qt) : Xt := Wp SHM (WpM SHM MT (d + 1)) cd_X12_grainsOn (some .int) Q
def f_X12_grainsOn (a1 : Int32) (s : Sg) : Option (Int32 × Sg) :=
  bd (f_X12_houseRow a1 s) (fun r1 s2 =>
  ck (inr r1 2880) (
  bd (f_X12_houseRow a1 s2) (fun r3 s4 =>
  ck (inr (r3 + 1) 2880) (
  some ((s2.1 1 r1.toNatClampNeg) + (s4.1 1 ((r3 + 1).toNatClampNeg)), s4)
  )
  )
  )
  )
theorem w_X12_grainsOn {d : Nat} {s : Sg} {Q : Qt} (a1 : Int32) (H : OQ (f_X12_grainsOn a1 s) (fun r9 s9 => Q (some (.int r9)) s9)) : WpM SHM MT (d + 2) 244 [.ref 0, .int a1] s Q := by
  refine WpM.enter me_X12_grainsOn rfl rfl ?_
  show Y_X12_grainsOn d Q 0 [(0, .ref 0), (1, .int a1)] [] s
  unfold f_X12_grainsOn at H
  refine Wp.run 4 (show room8 [.ref 1] ∧ WpM SHM MT (d + 1) 238 [.int a1] s (fun v9 s9 => Y_X12_grainsOn d Q 8 [(0, .ref 0), (1, .int a1)] (v9.toList ++ [.ref 1]) s9) from ⟨r8 rfl, ?_⟩)
  refine w_X12_houseRow (d := d) _ ?_
  refine oq_bd H (fun r1 s2 H => ?_)
  show Y_X12_grainsOn d Q 8 [(0, .ref 0), (1, .int a1)] [.int r1, .ref 1] s2
  obtain ⟨c9, H⟩ := oq_ck H
  refine Wp.run 1 (show (vp_in r1 2880) ∧ Y_X12_grainsOn d Q 9 [(0, .ref 0), (1, .int a1)] [.int (s2.1 1 r1.toNatClampNeg)] s2 from ⟨c9, ?_⟩)
  refine Wp.run 4 (show room8 [.ref 1, .int (s2.1 1 r1.toNatClampNeg)] ∧ WpM SHM MT (d + 1) 238 [.int a1] s2 (fun v9 s9 => Y_X12_grainsOn d Q 17 [(0, .ref 0), (1, .int a1)] (v9.toList ++ [.ref 1, .int (s2.1 1 r1.toNatClampNeg)]) s9) from ⟨r8 rfl, ?_⟩)
  refine w_X12_houseRow (d := d) _ ?_
  refine oq_bd H (fun r3 s4 H => ?_)
  show Y_X12_grainsOn d Q 17 [(0, .ref 0), (1, .int a1)] [.int r3, .ref 1, .int (s2.1 1 r1.toNatClampNeg)] s4
  obtain ⟨c9, H⟩ := oq_ck H
  refine Wp.run 3 (show (vp_in (r3 + 1) 2880) ∧ Y_X12_grainsOn d Q 20 [(0, .ref 0), (1, .int a1)] [.int (s4.1 1 ((r3 + 1).toNatClampNeg)), .int (s2.1 1 r1.toNatClampNeg)] s4 from ⟨c9, ?_⟩)
  exact Wp.run 2 ⟨rfl, H⟩

abbrev Y_X12_quarrelRow (d : Nat) (Q : Qt) : Xt := Wp SHM (WpM SHM MT (d + 0)) cd_X12_quarrelRow (some .int) Q
def f_X12_quarrelRow (a0 : Int32) (s : Sg) : Option (Int32 × Sg) :=
  some (40 + (5 * a0), s)
theorem w_X12_quarrelRow {d : Nat} {s : Sg} {Q : Qt} (a0 : Int32) (H : OQ (f_X12_quarrelRow a0 s) (fun r9 s9 => Q (some (.int r9)) s9)) : WpM SHM MT (d + 1) 239 [.int a0] s Q := by
  refine WpM.enter me_X12_quarrelRow rfl rfl ?_
  show Y_X12_quarrelRow d Q 0 [(0, .int a0)] [] s
  unfold f_X12_quarrelRow at H
  exact Wp.run 6 ⟨rfl, H⟩

abbrev Y_X12_needOf (d : Nat) (Q : Qt) : Xt := Wp SHM (WpM SHM MT (d + 1)) cd_X12_needOf (some .int) Q
def f_X12_needOf (a1 : Int32) (s : Sg) : Option (Int32 × Sg) :=
  if a1 = (s.1 0 24) then
    some (0, s)
  else
    bd (f_X12_quarrelRow a1 s) (fun r1 s2 =>
    ck (inr (r1 + 2) 2880) (
    some (s2.1 1 ((r1 + 2).toNatClampNeg), s2)
    )
    )
theorem w_X12_needOf {d : Nat} {s : Sg} {Q : Qt} (a1 : Int32) (H : OQ (f_X12_needOf a1 s) (fun r9 s9 => Q (some (.int r9)) s9)) : WpM SHM MT (d + 2) 253 [.ref 0, .int a1] s Q := by
  refine WpM.enter me_X12_needOf rfl rfl ?_
  show Y_X12_needOf d Q 0 [(0, .ref 0), (1, .int a1)] [] s
  unfold f_X12_needOf at H
  refine Wp.run 4 (show br (a1 = (s.1 0 24)) (Y_X12_needOf d Q 8 [(0, .ref 0), (1, .int a1)] [] s) (Y_X12_needOf d Q 12 [(0, .ref 0), (1, .int a1)] [] s) from ⟨fun c9 => ?_, fun c9 => ?_⟩)
  · have H := oq_t c9 H
    exact Wp.run 3 ⟨rfl, H⟩
  · have H := oq_f c9 H
    refine Wp.run 4 (show room8 [.ref 1] ∧ WpM SHM MT (d + 1) 239 [.int a1] s (fun v9 s9 => Y_X12_needOf d Q 20 [(0, .ref 0), (1, .int a1)] (v9.toList ++ [.ref 1]) s9) from ⟨r8 rfl, ?_⟩)
    refine w_X12_quarrelRow (d := d) _ ?_
    refine oq_bd H (fun r1 s2 H => ?_)
    show Y_X12_needOf d Q 20 [(0, .ref 0), (1, .int a1)] [.int r1, .ref 1] s2
    obtain ⟨c9, H⟩ := oq_ck H
    refine Wp.run 3 (show (vp_in (r1 + 2) 2880) ∧ Y_X12_needOf d Q 23 [(0, .ref 0), (1, .int a1)] [.int (s2.1 1 ((r1 + 2).toNatClampNeg))] s2 from ⟨c9, ?_⟩)
    exact Wp.run 1 ⟨rfl, H⟩

abbrev Y_X12_quarrelHouse (d : Nat) (Q : Qt) : Xt := Wp SHM (WpM SHM MT (d + 1)) cd_X12_quarrelHouse (some .int) Q
def f_X12_quarrelHouse (a0 : Int32) (a1 : Int32) (s : Sg) : Option (Int32 × Sg) :=
  bd (f_X12_quarrelRow a0 s) (fun r1 s2 =>
  some (r1 + a1, s2)
  )
theorem w_X12_quarrelHouse {d : Nat} {s : Sg} {Q : Qt} (a0 : Int32) (a1 : Int32) (H : OQ (f_X12_quarrelHouse a0 a1 s) (fun r9 s9 => Q (some (.int r9)) s9)) : WpM SHM MT (d + 2) 245 [.int a0, .int a1] s Q := by
  refine WpM.enter me_X12_quarrelHouse rfl rfl ?_
  show Y_X12_quarrelHouse d Q 0 [(0, .int a0), (1, .int a1)] [] s
  unfold f_X12_quarrelHouse at H
  refine Wp.run 2 (show room8 [] ∧ WpM SHM MT (d + 1) 239 [.int a0] s (fun v9 s9 => Y_X12_quarrelHouse d Q 4 [(0, .int a0), (1, .int a1)] (v9.toList ++ []) s9) from ⟨r8 rfl, ?_⟩)
  refine w_X12_quarrelRow (d := d) _ ?_
  refine oq_bd H (fun r1 s2 H => ?_)
  show Y_X12_quarrelHouse d Q 4 [(0, .int a0), (1, .int a1)] [.int r1] s2
  exact Wp.run 3 ⟨rfl, H⟩

abbrev Y_X12_isAt (d : Nat) (Q : Qt) : Xt := Wp SHM (WpM SHM MT (d + 2)) cd_X12_isAt (some .boolean) Q
def f_X12_isAt (a1 : Int32) (a2 : Int32) (s : Sg) : Option (Int32 × Sg) :=
  bd (f_X12_quarrelHouse a1 0 s) (fun r1 s2 =>
  ck (inr r1 2880) (
  if (s2.1 1 r1.toNatClampNeg) = a2 then
    some (1, s2)
  else
    bd (f_X12_quarrelHouse a1 1 s2) (fun r3 s4 =>
    ck (inr r3 2880) (
    if (s4.1 1 r3.toNatClampNeg) = a2 then
      some (1, s4)
    else
      some (0, s4)
    )
    )
  )
  )
theorem w_X12_isAt {d : Nat} {s : Sg} {Q : Qt} (a1 : Int32) (a2 : Int32) (H : OQ (f_X12_isAt a1 a2 s) (fun r9 s9 => Q (some (.int r9)) s9)) : WpM SHM MT (d + 3) 246 [.ref 0, .int a1, .int a2] s Q := by
  refine WpM.enter me_X12_isAt rfl rfl ?_
  show Y_X12_isAt d Q 0 [(0, .ref 0), (1, .int a1), (2, .int a2)] [] s
  unfold f_X12_isAt at H
  refine Wp.run 5 (show room8 [.ref 1] ∧ WpM SHM MT (d + 2) 245 [.int a1, .int 0] s (fun v9 s9 => Y_X12_isAt d Q 9 [(0, .ref 0), (1, .int a1), (2, .int a2)] (v9.toList ++ [.ref 1]) s9) from ⟨r8 rfl, ?_⟩)
  refine w_X12_quarrelHouse (d := d) _ _ ?_
  refine oq_bd H (fun r1 s2 H => ?_)
  show Y_X12_isAt d Q 9 [(0, .ref 0), (1, .int a1), (2, .int a2)] [.int r1, .ref 1] s2
  obtain ⟨c9, H⟩ := oq_ck H
  refine Wp.run 1 (show (vp_in r1 2880) ∧ Y_X12_isAt d Q 10 [(0, .ref 0), (1, .int a1), (2, .int a2)] [.int (s2.1 1 r1.toNatClampNeg)] s2 from ⟨c9, ?_⟩)
  refine Wp.run 2 (show br ((s2.1 1 r1.toNatClampNeg) = a2) (Y_X12_isAt d Q 28 [(0, .ref 0), (1, .int a1), (2, .int a2)] [] s2) (Y_X12_isAt d Q 14 [(0, .ref 0), (1, .int a1), (2, .int a2)] [] s2) from ⟨fun c9 => ?_, fun c9 => ?_⟩)
  · have H := oq_t c9 H
    exact Wp.run 3 ⟨rfl, H⟩
  · have H := oq_f c9 H
    refine Wp.run 5 (show room8 [.ref 1] ∧ WpM SHM MT (d + 2) 245 [.int a1, .int 1] s2 (fun v9 s9 => Y_X12_isAt d Q 23 [(0, .ref 0), (1, .int a1), (2, .int a2)] (v9.toList ++ [.ref 1]) s9) from ⟨r8 rfl, ?_⟩)
    refine w_X12_quarrelHouse (d := d) _ _ ?_
    refine oq_bd H (fun r3 s4 H => ?_)
    show Y_X12_isAt d Q 23 [(0, .ref 0), (1, .int a1), (2, .int a2)] [.int r3, .ref 1] s4
    obtain ⟨c9, H⟩ := oq_ck H
    refine Wp.run 1 (show (vp_in r3 2880) ∧ Y_X12_isAt d Q 24 [(0, .ref 0), (1, .int a1), (2, .int a2)] [.int (s4.1 1 r3.toNatClampNeg)] s4 from ⟨c9, ?_⟩)
    refine Wp.run 2 (show br ((s4.1 1 r3.toNatClampNeg) = a2) (Y_X12_isAt d Q 28 [(0, .ref 0), (1, .int a1), (2, .int a2)] [] s4) (Y_X12_isAt d Q 32 [(0, .ref 0), (1, .int a1), (2, .int a2)] [] s4) from ⟨fun c9 => ?_, fun c9 => ?_⟩)
    · have H := oq_t c9 H
      exact Wp.run 3 ⟨rfl, H⟩
    · have H := oq_f c9 H
      exact Wp.run 2 ⟨rfl, H⟩

abbrev Y_X12_hasAt (d : Nat) (Q : Qt) : Xt := Wp SHM (WpM SHM MT (d + 3)) cd_X12_hasAt (some .int) Q
def f_X12_hasAt_b27 : Nat → Int32 → Int32 → Int32 → Int32 → Sg → Option (Int32 × Sg)
  | 0, _, _, _, _, _ => none
  | n + 1, v1, v2, v3, v4, s =>
    if v1 ≤ v4 then
      bd (f_X12_needOf v1 s) (fun r5 s6 =>
      some (if r5 < v3 then r5 else v3, s6)
      )
    else
      bd (f_X12_isAt v4 v2 s) (fun r7 s8 =>
      if r7 = 0 then
        (f_X12_hasAt_b27 n) v1 v2 (v3 - 0) (v4 + 1) s8
      else
        bd (f_X12_needOf v4 s8) (fun r9 s10 =>
        (f_X12_hasAt_b27 n) v1 v2 (v3 - (if r9 < v3 then r9 else v3)) (v4 + 1) s10
        )
      )
theorem w_X12_hasAt_b27 {d : Nat} {Q : Qt} (n : Nat) : ∀ (v1 : Int32) (v2 : Int32) (v3 : Int32) (v4 : Int32) (s : Sg), OQ (f_X12_hasAt_b27 n v1 v2 v3 v4 s) (fun r9 s9 => Q (some (.int r9)) s9) → Y_X12_hasAt d Q 27 [(0, .ref 0), (1, .int v1), (2, .int v2), (3, .int v3), (4, .int v4)] [] s := by
  induction n with
  | zero => intro v1 v2 v3 v4 s H; exact H.elim
  | succ n ih =>
    intro v1 v2 v3 v4 s H
    unfold f_X12_hasAt_b27 at H
    refine Wp.run 3 (show br (v1 ≤ v4) (Y_X12_hasAt d Q 66 [(0, .ref 0), (1, .int v1), (2, .int v2), (3, .int v3), (4, .int v4)] [] s) (Y_X12_hasAt d Q 33 [(0, .ref 0), (1, .int v1), (2, .int v2), (3, .int v3), (4, .int v4)] [] s) from ⟨fun c9 => ?_, fun c9 => ?_⟩)
    · have H := oq_t c9 H
      refine Wp.run 4 (show room8 [.int v3] ∧ WpM SHM MT (d + 3) 253 [.ref 0, .int v1] s (fun v9 s9 => Y_X12_hasAt d Q 72 [(0, .ref 0), (1, .int v1), (2, .int v2), (3, .int v3), (4, .int v4)] (v9.toList ++ [.int v3]) s9) from ⟨r8 rfl, ?_⟩)
      refine w_X12_needOf (d := d + 1) _ ?_
      refine oq_bd H (fun r5 s6 H => ?_)
      show Y_X12_hasAt d Q 72 [(0, .ref 0), (1, .int v1), (2, .int v2), (3, .int v3), (4, .int v4)] [.int r5, .int v3] s6
      refine Wp.run 1 (show room8 [] ∧ Y_X12_hasAt d Q 75 [(0, .ref 0), (1, .int v1), (2, .int v2), (3, .int v3), (4, .int v4)] [.int (if r5 < v3 then r5 else v3)] s6 from ⟨r8 rfl, ?_⟩)
      exact Wp.run 1 ⟨rfl, H⟩
    · have H := oq_f c9 H
      refine Wp.run 5 (show room8 [.int v3] ∧ WpM SHM MT (d + 3) 246 [.ref 0, .int v4, .int v2] s (fun v9 s9 => Y_X12_hasAt d Q 41 [(0, .ref 0), (1, .int v1), (2, .int v2), (3, .int v3), (4, .int v4)] (v9.toList ++ [.int v3]) s9) from ⟨r8 rfl, ?_⟩)
      refine w_X12_isAt (d := d) _ _ ?_
      refine oq_bd H (fun r7 s8 H => ?_)
      show Y_X12_hasAt d Q 41 [(0, .ref 0), (1, .int v1), (2, .int v2), (3, .int v3), (4, .int v4)] [.int r7, .int v3] s8
      refine Wp.run 1 (show br (r7 = 0) (Y_X12_hasAt d Q 57 [(0, .ref 0), (1, .int v1), (2, .int v2), (3, .int v3), (4, .int v4)] [.int v3] s8) (Y_X12_hasAt d Q 44 [(0, .ref 0), (1, .int v1), (2, .int v2), (3, .int v3), (4, .int v4)] [.int v3] s8) from ⟨fun c9 => ?_, fun c9 => ?_⟩)
      · have H := oq_t c9 H
        refine Wp.run 5 (show Y_X12_hasAt d Q 27 [(4, .int (v4 + 1)), (3, .int (v3 - 0)), (0, .ref 0), (1, .int v1), (2, .int v2)] [] s8 from ?_)
        refine Wp.weak [2, 3, 4, 1, 0] (lv' := [(0, .ref 0), (1, .int v1), (2, .int v2), (3, .int (v3 - 0)), (4, .int (v4 + 1))]) rfl ?_
        exact ih _ _ _ _ _ H
      · have H := oq_f c9 H
        refine Wp.run 4 (show room8 [.int v3, .int v3] ∧ WpM SHM MT (d + 3) 253 [.ref 0, .int v4] s8 (fun v9 s9 => Y_X12_hasAt d Q 51 [(0, .ref 0), (1, .int v1), (2, .int v2), (3, .int v3), (4, .int v4)] (v9.toList ++ [.int v3, .int v3]) s9) from ⟨r8 rfl, ?_⟩)
        refine w_X12_needOf (d := d + 1) _ ?_
        refine oq_bd H (fun r9 s10 H => ?_)
        show Y_X12_hasAt d Q 51 [(0, .ref 0), (1, .int v1), (2, .int v2), (3, .int v3), (4, .int v4)] [.int r9, .int v3, .int v3] s10
        refine Wp.run 1 (show room8 [.int v3] ∧ Y_X12_hasAt d Q 54 [(0, .ref 0), (1, .int v1), (2, .int v2), (3, .int v3), (4, .int v4)] [.int (if r9 < v3 then r9 else v3), .int v3] s10 from ⟨r8 rfl, ?_⟩)
        refine Wp.run 5 (show Y_X12_hasAt d Q 27 [(4, .int (v4 + 1)), (3, .int (v3 - (if r9 < v3 then r9 else v3))), (0, .ref 0), (1, .int v1), (2, .int v2)] [] s10 from ?_)
        refine Wp.weak [2, 3, 4, 1, 0] (lv' := [(0, .ref 0), (1, .int v1), (2, .int v2), (3, .int (v3 - (if r9 < v3 then r9 else v3))), (4, .int (v4 + 1))]) rfl ?_
        exact ih _ _ _ _ _ H
def f_X12_hasAt (a1 : Int32) (a2 : Int32) (s : Sg) : Option (Int32 × Sg) :=
  bd (f_X12_houseRow a2 s) (fun r1 s2 =>
  ck (inr (r1 + 2) 2880) (
  if (s2.1 1 ((r1 + 2).toNatClampNeg)) ≤ 0 then
    bd (f_X12_grainsOn a2 s2) (fun r3 s4 =>
    f_X12_hasAt_b27 BIG a1 a2 r3 0 s4
    )
  else
    f_X12_hasAt_b27 BIG a1 a2 0 0 s2
  )
  )
theorem w_X12_hasAt {d : Nat} {s : Sg} {Q : Qt} (a1 : Int32) (a2 : Int32) (H : OQ (f_X12_hasAt a1 a2 s) (fun r9 s9 => Q (some (.int r9)) s9)) : WpM SHM MT (d + 4) 254 [.ref 0, .int a1, .int a2] s Q := by
  refine WpM.enter me_X12_hasAt rfl rfl ?_
  show Y_X12_hasAt d Q 0 [(0, .ref 0), (1, .int a1), (2, .int a2)] [] s
  unfold f_X12_hasAt at H
  refine Wp.run 4 (show room8 [.ref 1] ∧ WpM SHM MT (d + 3) 238 [.int a2] s (fun v9 s9 => Y_X12_hasAt d Q 8 [(0, .ref 0), (1, .int a1), (2, .int a2)] (v9.toList ++ [.ref 1]) s9) from ⟨r8 rfl, ?_⟩)
  refine w_X12_houseRow (d := d + 2) _ ?_
  refine oq_bd H (fun r1 s2 H => ?_)
  show Y_X12_hasAt d Q 8 [(0, .ref 0), (1, .int a1), (2, .int a2)] [.int r1, .ref 1] s2
  obtain ⟨c9, H⟩ := oq_ck H
  refine Wp.run 3 (show (vp_in (r1 + 2) 2880) ∧ Y_X12_hasAt d Q 11 [(0, .ref 0), (1, .int a1), (2, .int a2)] [.int (s2.1 1 ((r1 + 2).toNatClampNeg))] s2 from ⟨c9, ?_⟩)
  refine Wp.run 1 (show br ((s2.1 1 ((r1 + 2).toNatClampNeg)) ≤ 0) (Y_X12_hasAt d Q 18 [(0, .ref 0), (1, .int a1), (2, .int a2)] [] s2) (Y_X12_hasAt d Q 14 [(0, .ref 0), (1, .int a1), (2, .int a2)] [] s2) from ⟨fun c9 => ?_, fun c9 => ?_⟩)
  · have H := oq_t c9 H
    refine Wp.run 3 (show room8 [] ∧ WpM SHM MT (d + 3) 244 [.ref 0, .int a2] s2 (fun v9 s9 => Y_X12_hasAt d Q 23 [(0, .ref 0), (1, .int a1), (2, .int a2)] (v9.toList ++ []) s9) from ⟨r8 rfl, ?_⟩)
    refine w_X12_grainsOn (d := d + 1) _ ?_
    refine oq_bd H (fun r3 s4 H => ?_)
    show Y_X12_hasAt d Q 23 [(0, .ref 0), (1, .int a1), (2, .int a2)] [.int r3] s4
    refine Wp.run 3 (show Y_X12_hasAt d Q 27 [(4, .int 0), (3, .int r3), (0, .ref 0), (1, .int a1), (2, .int a2)] [] s4 from ?_)
    refine Wp.weak [2, 3, 4, 1, 0] (lv' := [(0, .ref 0), (1, .int a1), (2, .int a2), (3, .int r3), (4, .int 0)]) rfl ?_
    exact w_X12_hasAt_b27 _ _ _ _ _ _ H
  · have H := oq_f c9 H
    refine Wp.run 5 (show Y_X12_hasAt d Q 27 [(4, .int 0), (3, .int 0), (0, .ref 0), (1, .int a1), (2, .int a2)] [] s2 from ?_)
    refine Wp.weak [2, 3, 4, 1, 0] (lv' := [(0, .ref 0), (1, .int a1), (2, .int a2), (3, .int 0), (4, .int 0)]) rfl ?_
    exact w_X12_hasAt_b27 _ _ _ _ _ _ H

abbrev Y_X2_letRain_25 (d : Nat) (Q : Qt) : Xt := Wp SHC (WpM SHC MT (d + 0)) cd_X2_letRain (some .int) Q
def f_X2_letRain_25_b4 : Nat → Int32 → Int32 → Sg → Option (Int32 × Sg)
  | 0, _, _, _ => none
  | n + 1, v2, v3, s =>
    if (s.1 25 13) ≤ v3 then
      some (v2, pI (pI s 26 10 ((s.1 26 10) + v2)) 26 7 1)
    else
      ck (inr v3 8) (
      ck (inr v3 8) (
      ck (inr v3 8) (
      ck (inr v3 8) (
      ck (inr v3 8) (
      (f_X2_letRain_25_b4 n) (v2 + ((s.1 41 v3.toNatClampNeg) + (if (s.1 40 v3.toNatClampNeg) < (s.1 25 18) then (s.1 40 v3.toNatClampNeg) else (s.1 25 18)))) (v3 + 1) (pI (pI s 41 v3.toNatClampNeg 0) 40 v3.toNatClampNeg ((s.1 40 v3.toNatClampNeg) - (if (s.1 40 v3.toNatClampNeg) < (s.1 25 18) then (s.1 40 v3.toNatClampNeg) else (s.1 25 18))))
      )
      )
      )
      )
      )
theorem w_X2_letRain_25_b4 {d : Nat} {Q : Qt} (n : Nat) : ∀ (v2 : Int32) (v3 : Int32) (s : Sg), OQ (f_X2_letRain_25_b4 n v2 v3 s) (fun r9 s9 => Q (some (.int r9)) s9) → Y_X2_letRain_25 d Q 4 [(0, .ref 26), (1, .ref 25), (2, .int v2), (3, .int v3)] [] s := by
  induction n with
  | zero => intro v2 v3 s H; exact H.elim
  | succ n ih =>
    intro v2 v3 s H
    unfold f_X2_letRain_25_b4 at H
    refine Wp.run 4 (show br ((s.1 25 13) ≤ v3) (Y_X2_letRain_25 d Q 63 [(0, .ref 26), (1, .ref 25), (2, .int v2), (3, .int v3)] [] s) (Y_X2_letRain_25 d Q 12 [(0, .ref 26), (1, .ref 25), (2, .int v2), (3, .int v3)] [] s) from ⟨fun c9 => ?_, fun c9 => ?_⟩)
    · have H := oq_t c9 H
      refine Wp.run 9 (show ((1 : Int32) = 0 ∨ 1 = 1) ∧ Y_X2_letRain_25 d Q 78 [(0, .ref 26), (1, .ref 25), (2, .int v2), (3, .int v3)] [] (pI (pI s 26 10 ((s.1 26 10) + v2)) 26 7 1) from ⟨Or.inr rfl, ?_⟩)
      exact Wp.run 2 ⟨rfl, H⟩
    · have H := oq_f c9 H
      obtain ⟨c9, H⟩ := oq_ck H
      refine Wp.run 6 (show (vp_in v3 8) ∧ Y_X2_letRain_25 d Q 22 [(0, .ref 26), (1, .ref 25), (2, .int v2), (3, .int v3)] [.int (s.1 40 v3.toNatClampNeg), .int (s.1 25 18)] s from ⟨c9, ?_⟩)
      refine Wp.run 1 (show room8 [] ∧ Y_X2_letRain_25 d Q 25 [(0, .ref 26), (1, .ref 25), (2, .int v2), (3, .int v3)] [.int (if (s.1 40 v3.toNatClampNeg) < (s.1 25 18) then (s.1 40 v3.toNatClampNeg) else (s.1 25 18))] s from ⟨r8 rfl, ?_⟩)
      obtain ⟨c9, H⟩ := oq_ck H
      refine Wp.run 6 (show (vp_in v3 8) ∧ Y_X2_letRain_25 d Q 34 [(4, .int (if (s.1 40 v3.toNatClampNeg) < (s.1 25 18) then (s.1 40 v3.toNatClampNeg) else (s.1 25 18))), (0, .ref 26), (1, .ref 25), (2, .int v2), (3, .int v3)] [.int (s.1 41 v3.toNatClampNeg), .int v2] s from ⟨c9, ?_⟩)
      obtain ⟨c9, H⟩ := oq_ck H
      refine Wp.run 9 (show (vp_in v3 8) ∧ Y_X2_letRain_25 d Q 46 [(2, .int (v2 + ((s.1 41 v3.toNatClampNeg) + (if (s.1 40 v3.toNatClampNeg) < (s.1 25 18) then (s.1 40 v3.toNatClampNeg) else (s.1 25 18))))), (4, .int (if (s.1 40 v3.toNatClampNeg) < (s.1 25 18) then (s.1 40 v3.toNatClampNeg) else (s.1 25 18))), (0, .ref 26), (1, .ref 25), (3, .int v3)] [] (pI s 41 v3.toNatClampNeg 0) from ⟨c9, ?_⟩)
      obtain ⟨c9, H⟩ := oq_ck H
      refine Wp.run 5 (show (vp_in v3 8) ∧ Y_X2_letRain_25 d Q 53 [(2, .int (v2 + ((s.1 41 v3.toNatClampNeg) + (if (s.1 40 v3.toNatClampNeg) < (s.1 25 18) then (s.1 40 v3.toNatClampNeg) else (s.1 25 18))))), (4, .int (if (s.1 40 v3.toNatClampNeg) < (s.1 25 18) then (s.1 40 v3.toNatClampNeg) else (s.1 25 18))), (0, .ref 26), (1, .ref 25), (3, .int v3)] [.int (s.1 40 v3.toNatClampNeg), .int v3, .ref 40] (pI s 41 v3.toNatClampNeg 0) from ⟨c9, ?_⟩)
      obtain ⟨c9, H⟩ := oq_ck H
      refine Wp.run 3 (show (vp_in v3 8) ∧ Y_X2_letRain_25 d Q 57 [(2, .int (v2 + ((s.1 41 v3.toNatClampNeg) + (if (s.1 40 v3.toNatClampNeg) < (s.1 25 18) then (s.1 40 v3.toNatClampNeg) else (s.1 25 18))))), (4, .int (if (s.1 40 v3.toNatClampNeg) < (s.1 25 18) then (s.1 40 v3.toNatClampNeg) else (s.1 25 18))), (0, .ref 26), (1, .ref 25), (3, .int v3)] [] (pI (pI s 41 v3.toNatClampNeg 0) 40 v3.toNatClampNeg ((s.1 40 v3.toNatClampNeg) - (if (s.1 40 v3.toNatClampNeg) < (s.1 25 18) then (s.1 40 v3.toNatClampNeg) else (s.1 25 18)))) from ⟨c9, ?_⟩)
      refine Wp.run 2 (show Y_X2_letRain_25 d Q 4 [(3, .int (v3 + 1)), (2, .int (v2 + ((s.1 41 v3.toNatClampNeg) + (if (s.1 40 v3.toNatClampNeg) < (s.1 25 18) then (s.1 40 v3.toNatClampNeg) else (s.1 25 18))))), (4, .int (if (s.1 40 v3.toNatClampNeg) < (s.1 25 18) then (s.1 40 v3.toNatClampNeg) else (s.1 25 18))), (0, .ref 26), (1, .ref 25)] [] (pI (pI s 41 v3.toNatClampNeg 0) 40 v3.toNatClampNeg ((s.1 40 v3.toNatClampNeg) - (if (s.1 40 v3.toNatClampNeg) < (s.1 25 18) then (s.1 40 v3.toNatClampNeg) else (s.1 25 18)))) from ?_)
      refine Wp.weak [3, 4, 1, 0] (lv' := [(0, .ref 26), (1, .ref 25), (2, .int (v2 + ((s.1 41 v3.toNatClampNeg) + (if (s.1 40 v3.toNatClampNeg) < (s.1 25 18) then (s.1 40 v3.toNatClampNeg) else (s.1 25 18))))), (3, .int (v3 + 1))]) rfl ?_
      exact ih _ _ _ H
def f_X2_letRain_25  (s : Sg) : Option (Int32 × Sg) :=
  f_X2_letRain_25_b4 BIG 0 0 s
theorem w_X2_letRain_25 {d : Nat} {s : Sg} {Q : Qt}  (H : OQ (f_X2_letRain_25  s) (fun r9 s9 => Q (some (.int r9)) s9)) : WpM SHC MT (d + 1) 32 [.ref 26, .ref 25] s Q := by
  refine WpM.enter me_X2_letRain rfl rfl ?_
  show Y_X2_letRain_25 d Q 0 [(0, .ref 26), (1, .ref 25)] [] s
  unfold f_X2_letRain_25 at H
  refine Wp.run 4 (show Y_X2_letRain_25 d Q 4 [(3, .int 0), (2, .int 0), (0, .ref 26), (1, .ref 25)] [] s from ?_)
  refine Wp.weak [2, 3, 1, 0] (lv' := [(0, .ref 26), (1, .ref 25), (2, .int 0), (3, .int 0)]) rfl ?_
  exact w_X2_letRain_25_b4 _ _ _ _ H
