set_option maxHeartbeats 4000000 in
set_option maxRecDepth 100000 in
theorem law_head {p : Program} {l : Launch} {e : Env} {s : State} {m : MethodId} {below : List Frame} {meth : Method} {c : Code} {b : Nat} {xs : Nat → Int32} {D : va_G} {kc : Nat → ClassId} {A : Nat → Prop} {L : Nat} (hL : L ≤ 6) (C0 : lw_At p s m meth c b L xs) (hE : EK D kc s) (hA : ∀ q : Nat, s.heap.size ≤ q → A q) (hAi : ∀ q : Nat, A q → s.heap.size ≤ q) (hbA : ¬ A b) (xa : Nat → Nat) (na : Nat → Nat) (pa : Nat → Nat) (ka : Nat → Nat) (mb : Nat) (mc : Nat) (ma : Nat → Nat) {H : Heap} {locs : List Loc} {ls : Array Slot} (hP : va_P D vwCl (lwW kc xa na pa ka mb mc ma) H) (hD : va_D A (lwW kc xa na pa ka mb mc ma)) (hS : va_S A s.heap H locs) (hl : lv_has ls 4 [(0, .ref b), (1, .ref (xa 0)), (2, .ref (ma 0)), (3, .int 0)]) : W p l e room_1 s m #[Value.ref b] below meth c H locs 172 9393 (lw_Z below #[Value.ref b] s) (F0 m 18 ls []) := by
  obtain ⟨hx, hb, hr, hml, hown0, hts0, hX, hbl, hlocks, hgv⟩ := id C0
  have hown : s.vm.findClass RL = some m.cls := hown0
  have hts : ∀ w ∈ vlaw, w.before #[Value.ref b] s = true := fun w h => hts0 w (vlaw_in w h)
  have hK := hE.1
  have hLc : L = 6 ∨ L = 5 ∨ L = 4 ∨ L = 3 ∨ L = 2 ∨ L = 1 ∨ L = 0 := by omega
  rcases hLc with rfl | rfl | rfl | rfl | rfl | rfl | rfl
  · refine lv_iload_n hx hb dL_law_18 rfl (lv_at hl 3 rfl) ?_
    refine lv_aload_n hx hb dL_law_19 rfl (lv_at hl 0 rfl) ?_
    refine va_slen hx hb hX hbl hbA hS dL_law_20 ?_
    refine lv_ci (y := 6) rfl ?_
    refine lv_bipush (v := 6) hx hb dL_law_21 (by decide) ?_
    refine lv_isub hx hb dL_law_23 ?_
    refine lv_ci (y := 0) (by decide) ?_
    refine lv_icmp_gt (tgt := 1891) hx hb dL_law_24 (by decide) (fun h => absurd h (by decide)) (fun _ => ?_)
    refine lv_aload_n hx hb dL_law_27 rfl (lv_at hl 0 rfl) ?_
    refine lv_iload_n hx hb dL_law_28 rfl (lv_at hl 3 rfl) ?_
    refine va_sld hx hb hX hbl hbA hS (by unfold vp_in; decide) dL_law_29 ?_
    refine lv_ci (y := xs 0) rfl ?_
    refine lv_bipush (v := 63) hx hb dL_law_30 (by decide) ?_
    refine lv_iand hx hb dL_law_32 ?_
    obtain ⟨j, hj, ej⟩ := pk_andE (xs 0) (m := 63) 6 rfl
    refine lv_ci (y := nI j) ej ?_
    have g0 : 0 ≤ j := Nat.zero_le j
    rcases Nat.eq_or_lt_of_le g0 with e0 | g1
    · subst e0
      refine lv_tableIn (tgt := 296) (off := 263) hx hb dL_law_33 (by decide) (by decide) (by decide +kernel) (by decide) ?_
      exact law_case_0 C0 hE hA hAi hbA xa na pa ka mb mc ma hP hD hS (lv_sub hl [0, 1, 2, 3] rfl)
    rcases Nat.eq_or_lt_of_le g1 with e0 | g2
    · subst e0
      refine lv_tableIn (tgt := 309) (off := 276) hx hb dL_law_33 (by decide) (by decide) (by decide +kernel) (by decide) ?_
      exact law_case_1 C0 hE hA hAi hbA xa na pa ka mb mc ma hP hD hS (lv_sub hl [0, 1, 2, 3] rfl)
    rcases Nat.eq_or_lt_of_le g2 with e0 | g3
    · subst e0
      refine lv_tableIn (tgt := 323) (off := 290) hx hb dL_law_33 (by decide) (by decide) (by decide +kernel) (by decide) ?_
      exact law_case_2 C0 hE hA hAi hbA xa na pa ka mb mc ma hP hD hS (lv_sub hl [0, 1, 2, 3] rfl)
    rcases Nat.eq_or_lt_of_le g3 with e0 | g4
    · subst e0
      refine lv_tableIn (tgt := 337) (off := 304) hx hb dL_law_33 (by decide) (by decide) (by decide +kernel) (by decide) ?_
      exact law_case_3 C0 hE hA hAi hbA xa na pa ka mb mc ma hP hD hS (lv_sub hl [0, 1, 2, 3] rfl)
    rcases Nat.eq_or_lt_of_le g4 with e0 | g5
    · subst e0
      refine lv_tableIn (tgt := 380) (off := 347) hx hb dL_law_33 (by decide) (by decide) (by decide +kernel) (by decide) ?_
      exact law_case_4 C0 hE hA hAi hbA xa na pa ka mb mc ma hP hD hS (lv_sub hl [0, 1, 2, 3] rfl)
    rcases Nat.eq_or_lt_of_le g5 with e0 | g6
    · subst e0
      refine lv_tableIn (tgt := 453) (off := 420) hx hb dL_law_33 (by decide) (by decide) (by decide +kernel) (by decide) ?_
      exact law_case_5 C0 hE hA hAi hbA xa na pa ka mb mc ma hP hD hS (lv_sub hl [0, 1, 2, 3] rfl)
    rcases Nat.eq_or_lt_of_le g6 with e0 | g7
    · subst e0
      refine lv_tableIn (tgt := 487) (off := 454) hx hb dL_law_33 (by decide) (by decide) (by decide +kernel) (by decide) ?_
      exact law_case_6 C0 hE hA hAi hbA xa na pa ka mb mc ma hP hD hS (lv_sub hl [0, 1, 2, 3] rfl)
    rcases Nat.eq_or_lt_of_le g7 with e0 | g8
    · subst e0
      refine lv_tableIn (tgt := 550) (off := 517) hx hb dL_law_33 (by decide) (by decide) (by decide +kernel) (by decide) ?_
      exact law_case_7 C0 hE hA hAi hbA xa na pa ka mb mc ma hP hD hS (lv_sub hl [0, 1, 2, 3] rfl)
    rcases Nat.eq_or_lt_of_le g8 with e0 | g9
    · subst e0
      refine lv_tableIn (tgt := 613) (off := 580) hx hb dL_law_33 (by decide) (by decide) (by decide +kernel) (by decide) ?_
      exact law_case_8 C0 hE hA hAi hbA xa na pa ka mb mc ma hP hD hS (lv_sub hl [0, 1, 2, 3] rfl)
    rcases Nat.eq_or_lt_of_le g9 with e0 | g10
    · subst e0
      refine lv_tableIn (tgt := 636) (off := 603) hx hb dL_law_33 (by decide) (by decide) (by decide +kernel) (by decide) ?_
      exact law_case_9 C0 hE hA hAi hbA xa na pa ka mb mc ma hP hD hS (lv_sub hl [0, 1, 2, 3] rfl)
    rcases Nat.eq_or_lt_of_le g10 with e0 | g11
    · subst e0
      refine lv_tableIn (tgt := 659) (off := 626) hx hb dL_law_33 (by decide) (by decide) (by decide +kernel) (by decide) ?_
      exact law_case_10 C0 hE hA hAi hbA xa na pa ka mb mc ma hP hD hS (lv_sub hl [0, 1, 2, 3] rfl)
    rcases Nat.eq_or_lt_of_le g11 with e0 | g12
    · subst e0
      refine lv_tableIn (tgt := 682) (off := 649) hx hb dL_law_33 (by decide) (by decide) (by decide +kernel) (by decide) ?_
      exact law_case_11 C0 hE hA hAi hbA xa na pa ka mb mc ma hP hD hS (lv_sub hl [0, 1, 2, 3] rfl)
    rcases Nat.eq_or_lt_of_le g12 with e0 | g13
    · subst e0
      refine lv_tableIn (tgt := 705) (off := 672) hx hb dL_law_33 (by decide) (by decide) (by decide +kernel) (by decide) ?_
      exact law_case_12 C0 hE hA hAi hbA xa na pa ka mb mc ma hP hD hS (lv_sub hl [0, 1, 2, 3] rfl)
    rcases Nat.eq_or_lt_of_le g13 with e0 | g14
    · subst e0
      refine lv_tableIn (tgt := 718) (off := 685) hx hb dL_law_33 (by decide) (by decide) (by decide +kernel) (by decide) ?_
      exact law_case_13 C0 hE hA hAi hbA xa na pa ka mb mc ma hP hD hS (lv_sub hl [0, 1, 2, 3] rfl)
    rcases Nat.eq_or_lt_of_le g14 with e0 | g15
    · subst e0
      refine lv_tableIn (tgt := 751) (off := 718) hx hb dL_law_33 (by decide) (by decide) (by decide +kernel) (by decide) ?_
      exact law_case_14 C0 hE hA hAi hbA xa na pa ka mb mc ma hP hD hS (lv_sub hl [0, 1, 2, 3] rfl)
    rcases Nat.eq_or_lt_of_le g15 with e0 | g16
    · subst e0
      refine lv_tableIn (tgt := 784) (off := 751) hx hb dL_law_33 (by decide) (by decide) (by decide +kernel) (by decide) ?_
      exact law_case_15 C0 hE hA hAi hbA xa na pa ka mb mc ma hP hD hS (lv_sub hl [0, 1, 2, 3] rfl)
    rcases Nat.eq_or_lt_of_le g16 with e0 | g17
    · subst e0
      refine lv_tableIn (tgt := 817) (off := 784) hx hb dL_law_33 (by decide) (by decide) (by decide +kernel) (by decide) ?_
      exact law_case_16 C0 hE hA hAi hbA xa na pa ka mb mc ma hP hD hS (lv_sub hl [0, 1, 2, 3] rfl)
    rcases Nat.eq_or_lt_of_le g17 with e0 | g18
    · subst e0
      refine lv_tableIn (tgt := 850) (off := 817) hx hb dL_law_33 (by decide) (by decide) (by decide +kernel) (by decide) ?_
      exact law_case_17 C0 hE hA hAi hbA xa na pa ka mb mc ma hP hD hS (lv_sub hl [0, 1, 2, 3] rfl)
    rcases Nat.eq_or_lt_of_le g18 with e0 | g19
    · subst e0
      refine lv_tableIn (tgt := 883) (off := 850) hx hb dL_law_33 (by decide) (by decide) (by decide +kernel) (by decide) ?_
      exact law_case_18 C0 hE hA hAi hbA xa na pa ka mb mc ma hP hD hS (lv_sub hl [0, 1, 2, 3] rfl)
    rcases Nat.eq_or_lt_of_le g19 with e0 | g20
    · subst e0
      refine lv_tableIn (tgt := 906) (off := 873) hx hb dL_law_33 (by decide) (by decide) (by decide +kernel) (by decide) ?_
      exact law_case_19 C0 hE hA hAi hbA xa na pa ka mb mc ma hP hD hS (lv_sub hl [0, 1, 2, 3] rfl)
    rcases Nat.eq_or_lt_of_le g20 with e0 | g21
    · subst e0
      refine lv_tableIn (tgt := 919) (off := 886) hx hb dL_law_33 (by decide) (by decide) (by decide +kernel) (by decide) ?_
      exact law_case_20 C0 hE hA hAi hbA xa na pa ka mb mc ma hP hD hS (lv_sub hl [0, 1, 2, 3] rfl)
    rcases Nat.eq_or_lt_of_le g21 with e0 | g22
    · subst e0
      refine lv_tableIn (tgt := 932) (off := 899) hx hb dL_law_33 (by decide) (by decide) (by decide +kernel) (by decide) ?_
      exact law_case_21 C0 hE hA hAi hbA xa na pa ka mb mc ma hP hD hS (lv_sub hl [0, 1, 2, 3] rfl)
    rcases Nat.eq_or_lt_of_le g22 with e0 | g23
    · subst e0
      refine lv_tableIn (tgt := 945) (off := 912) hx hb dL_law_33 (by decide) (by decide) (by decide +kernel) (by decide) ?_
      exact law_case_22 C0 hE hA hAi hbA xa na pa ka mb mc ma hP hD hS (lv_sub hl [0, 1, 2, 3] rfl)
    rcases Nat.eq_or_lt_of_le g23 with e0 | g24
    · subst e0
      refine lv_tableIn (tgt := 958) (off := 925) hx hb dL_law_33 (by decide) (by decide) (by decide +kernel) (by decide) ?_
      exact law_case_23 C0 hE hA hAi hbA xa na pa ka mb mc ma hP hD hS (lv_sub hl [0, 1, 2, 3] rfl)
    rcases Nat.eq_or_lt_of_le g24 with e0 | g25
    · subst e0
      refine lv_tableIn (tgt := 991) (off := 958) hx hb dL_law_33 (by decide) (by decide) (by decide +kernel) (by decide) ?_
      exact law_case_24 C0 hE hA hAi hbA xa na pa ka mb mc ma hP hD hS (lv_sub hl [0, 1, 2, 3] rfl)
    rcases Nat.eq_or_lt_of_le g25 with e0 | g26
    · subst e0
      refine lv_tableIn (tgt := 1034) (off := 1001) hx hb dL_law_33 (by decide) (by decide) (by decide +kernel) (by decide) ?_
      exact law_case_25 C0 hE hA hAi hbA xa na pa ka mb mc ma hP hD hS (lv_sub hl [0, 1, 2, 3] rfl)
    rcases Nat.eq_or_lt_of_le g26 with e0 | g27
    · subst e0
      refine lv_tableIn (tgt := 1057) (off := 1024) hx hb dL_law_33 (by decide) (by decide) (by decide +kernel) (by decide) ?_
      exact law_case_26 C0 hE hA hAi hbA xa na pa ka mb mc ma hP hD hS (lv_sub hl [0, 1, 2, 3] rfl)
    rcases Nat.eq_or_lt_of_le g27 with e0 | g28
    · subst e0
      refine lv_tableIn (tgt := 1100) (off := 1067) hx hb dL_law_33 (by decide) (by decide) (by decide +kernel) (by decide) ?_
      exact law_case_27 C0 hE hA hAi hbA xa na pa ka mb mc ma hP hD hS (lv_sub hl [0, 1, 2, 3] rfl)
    rcases Nat.eq_or_lt_of_le g28 with e0 | g29
    · subst e0
      refine lv_tableIn (tgt := 1113) (off := 1080) hx hb dL_law_33 (by decide) (by decide) (by decide +kernel) (by decide) ?_
      exact law_case_28 C0 hE hA hAi hbA xa na pa ka mb mc ma hP hD hS (lv_sub hl [0, 1, 2, 3] rfl)
    rcases Nat.eq_or_lt_of_le g29 with e0 | g30
    · subst e0
      refine lv_tableIn (tgt := 1136) (off := 1103) hx hb dL_law_33 (by decide) (by decide) (by decide +kernel) (by decide) ?_
      exact law_case_29 C0 hE hA hAi hbA xa na pa ka mb mc ma hP hD hS (lv_sub hl [0, 1, 2, 3] rfl)
    rcases Nat.eq_or_lt_of_le g30 with e0 | g31
    · subst e0
      refine lv_tableIn (tgt := 1149) (off := 1116) hx hb dL_law_33 (by decide) (by decide) (by decide +kernel) (by decide) ?_
      exact law_case_30 C0 hE hA hAi hbA xa na pa ka mb mc ma hP hD hS (lv_sub hl [0, 1, 2, 3] rfl)
    rcases Nat.eq_or_lt_of_le g31 with e0 | g32
    · subst e0
      refine lv_tableIn (tgt := 1182) (off := 1149) hx hb dL_law_33 (by decide) (by decide) (by decide +kernel) (by decide) ?_
      exact law_case_31 C0 hE hA hAi hbA xa na pa ka mb mc ma hP hD hS (lv_sub hl [0, 1, 2, 3] rfl)
    rcases Nat.eq_or_lt_of_le g32 with e0 | g33
    · subst e0
      refine lv_tableIn (tgt := 1205) (off := 1172) hx hb dL_law_33 (by decide) (by decide) (by decide +kernel) (by decide) ?_
      exact law_case_32 C0 hE hA hAi hbA xa na pa ka mb mc ma hP hD hS (lv_sub hl [0, 1, 2, 3] rfl)
    rcases Nat.eq_or_lt_of_le g33 with e0 | g34
    · subst e0
      refine lv_tableIn (tgt := 1228) (off := 1195) hx hb dL_law_33 (by decide) (by decide) (by decide +kernel) (by decide) ?_
      exact law_case_33 C0 hE hA hAi hbA xa na pa ka mb mc ma hP hD hS (lv_sub hl [0, 1, 2, 3] rfl)
    rcases Nat.eq_or_lt_of_le g34 with e0 | g35
    · subst e0
      refine lv_tableIn (tgt := 1271) (off := 1238) hx hb dL_law_33 (by decide) (by decide) (by decide +kernel) (by decide) ?_
      exact law_case_34 C0 hE hA hAi hbA xa na pa ka mb mc ma hP hD hS (lv_sub hl [0, 1, 2, 3] rfl)
    rcases Nat.eq_or_lt_of_le g35 with e0 | g36
    · subst e0
      refine lv_tableIn (tgt := 1294) (off := 1261) hx hb dL_law_33 (by decide) (by decide) (by decide +kernel) (by decide) ?_
      exact law_case_35 C0 hE hA hAi hbA xa na pa ka mb mc ma hP hD hS (lv_sub hl [0, 1, 2, 3] rfl)
    rcases Nat.eq_or_lt_of_le g36 with e0 | g37
    · subst e0
      refine lv_tableIn (tgt := 1307) (off := 1274) hx hb dL_law_33 (by decide) (by decide) (by decide +kernel) (by decide) ?_
      exact law_case_36 C0 hE hA hAi hbA xa na pa ka mb mc ma hP hD hS (lv_sub hl [0, 1, 2, 3] rfl)
    rcases Nat.eq_or_lt_of_le g37 with e0 | g38
    · subst e0
      refine lv_tableIn (tgt := 1320) (off := 1287) hx hb dL_law_33 (by decide) (by decide) (by decide +kernel) (by decide) ?_
      exact law_case_37 C0 hE hA hAi hbA xa na pa ka mb mc ma hP hD hS (lv_sub hl [0, 1, 2, 3] rfl)
    rcases Nat.eq_or_lt_of_le g38 with e0 | g39
    · subst e0
      refine lv_tableIn (tgt := 1343) (off := 1310) hx hb dL_law_33 (by decide) (by decide) (by decide +kernel) (by decide) ?_
      exact law_case_38 C0 hE hA hAi hbA xa na pa ka mb mc ma hP hD hS (lv_sub hl [0, 1, 2, 3] rfl)
    rcases Nat.eq_or_lt_of_le g39 with e0 | g40
    · subst e0
      refine lv_tableIn (tgt := 1356) (off := 1323) hx hb dL_law_33 (by decide) (by decide) (by decide +kernel) (by decide) ?_
      exact law_case_39 C0 hE hA hAi hbA xa na pa ka mb mc ma hP hD hS (lv_sub hl [0, 1, 2, 3] rfl)
    rcases Nat.eq_or_lt_of_le g40 with e0 | g41
    · subst e0
      refine lv_tableIn (tgt := 1369) (off := 1336) hx hb dL_law_33 (by decide) (by decide) (by decide +kernel) (by decide) ?_
      exact law_case_40 C0 hE hA hAi hbA xa na pa ka mb mc ma hP hD hS (lv_sub hl [0, 1, 2, 3] rfl)
    rcases Nat.eq_or_lt_of_le g41 with e0 | g42
    · subst e0
      refine lv_tableIn (tgt := 1392) (off := 1359) hx hb dL_law_33 (by decide) (by decide) (by decide +kernel) (by decide) ?_
      exact law_case_41 C0 hE hA hAi hbA xa na pa ka mb mc ma hP hD hS (lv_sub hl [0, 1, 2, 3] rfl)
    rcases Nat.eq_or_lt_of_le g42 with e0 | g43
    · subst e0
      refine lv_tableIn (tgt := 1405) (off := 1372) hx hb dL_law_33 (by decide) (by decide) (by decide +kernel) (by decide) ?_
      exact law_case_42 C0 hE hA hAi hbA xa na pa ka mb mc ma hP hD hS (lv_sub hl [0, 1, 2, 3] rfl)
    rcases Nat.eq_or_lt_of_le g43 with e0 | g44
    · subst e0
      refine lv_tableIn (tgt := 1428) (off := 1395) hx hb dL_law_33 (by decide) (by decide) (by decide +kernel) (by decide) ?_
      exact law_case_43 C0 hE hA hAi hbA xa na pa ka mb mc ma hP hD hS (lv_sub hl [0, 1, 2, 3] rfl)
    rcases Nat.eq_or_lt_of_le g44 with e0 | g45
    · subst e0
      refine lv_tableIn (tgt := 1441) (off := 1408) hx hb dL_law_33 (by decide) (by decide) (by decide +kernel) (by decide) ?_
      exact law_case_44 C0 hE hA hAi hbA xa na pa ka mb mc ma hP hD hS (lv_sub hl [0, 1, 2, 3] rfl)
    rcases Nat.eq_or_lt_of_le g45 with e0 | g46
    · subst e0
      refine lv_tableIn (tgt := 1464) (off := 1431) hx hb dL_law_33 (by decide) (by decide) (by decide +kernel) (by decide) ?_
      exact law_case_45 C0 hE hA hAi hbA xa na pa ka mb mc ma hP hD hS (lv_sub hl [0, 1, 2, 3] rfl)
    rcases Nat.eq_or_lt_of_le g46 with e0 | g47
    · subst e0
      refine lv_tableIn (tgt := 1487) (off := 1454) hx hb dL_law_33 (by decide) (by decide) (by decide +kernel) (by decide) ?_
      exact law_case_46 C0 hE hA hAi hbA xa na pa ka mb mc ma hP hD hS (lv_sub hl [0, 1, 2, 3] rfl)
    rcases Nat.eq_or_lt_of_le g47 with e0 | g48
    · subst e0
      refine lv_tableIn (tgt := 1510) (off := 1477) hx hb dL_law_33 (by decide) (by decide) (by decide +kernel) (by decide) ?_
      exact law_case_47 C0 hE hA hAi hbA xa na pa ka mb mc ma hP hD hS (lv_sub hl [0, 1, 2, 3] rfl)
    rcases Nat.eq_or_lt_of_le g48 with e0 | g49
    · subst e0
      refine lv_tableIn (tgt := 1523) (off := 1490) hx hb dL_law_33 (by decide) (by decide) (by decide +kernel) (by decide) ?_
      exact law_case_48 C0 hE hA hAi hbA xa na pa ka mb mc ma hP hD hS (lv_sub hl [0, 1, 2, 3] rfl)
    rcases Nat.eq_or_lt_of_le g49 with e0 | g50
    · subst e0
      refine lv_tableIn (tgt := 1536) (off := 1503) hx hb dL_law_33 (by decide) (by decide) (by decide +kernel) (by decide) ?_
      exact law_case_49 C0 hE hA hAi hbA xa na pa ka mb mc ma hP hD hS (lv_sub hl [0, 1, 2, 3] rfl)
    rcases Nat.eq_or_lt_of_le g50 with e0 | g51
    · subst e0
      refine lv_tableIn (tgt := 1559) (off := 1526) hx hb dL_law_33 (by decide) (by decide) (by decide +kernel) (by decide) ?_
      exact law_case_50 C0 hE hA hAi hbA xa na pa ka mb mc ma hP hD hS (lv_sub hl [0, 1, 2, 3] rfl)
    rcases Nat.eq_or_lt_of_le g51 with e0 | g52
    · subst e0
      refine lv_tableIn (tgt := 1592) (off := 1559) hx hb dL_law_33 (by decide) (by decide) (by decide +kernel) (by decide) ?_
      exact law_case_51 C0 hE hA hAi hbA xa na pa ka mb mc ma hP hD hS (lv_sub hl [0, 1, 2, 3] rfl)
    rcases Nat.eq_or_lt_of_le g52 with e0 | g53
    · subst e0
      refine lv_tableIn (tgt := 1615) (off := 1582) hx hb dL_law_33 (by decide) (by decide) (by decide +kernel) (by decide) ?_
      exact law_case_52 C0 hE hA hAi hbA xa na pa ka mb mc ma hP hD hS (lv_sub hl [0, 1, 2, 3] rfl)
    rcases Nat.eq_or_lt_of_le g53 with e0 | g54
    · subst e0
      refine lv_tableIn (tgt := 1638) (off := 1605) hx hb dL_law_33 (by decide) (by decide) (by decide +kernel) (by decide) ?_
      exact law_case_53 C0 hE hA hAi hbA xa na pa ka mb mc ma hP hD hS (lv_sub hl [0, 1, 2, 3] rfl)
    rcases Nat.eq_or_lt_of_le g54 with e0 | g55
    · subst e0
      refine lv_tableIn (tgt := 1661) (off := 1628) hx hb dL_law_33 (by decide) (by decide) (by decide +kernel) (by decide) ?_
      exact law_case_54 C0 hE hA hAi hbA xa na pa ka mb mc ma hP hD hS (lv_sub hl [0, 1, 2, 3] rfl)
    rcases Nat.eq_or_lt_of_le g55 with e0 | g56
    · subst e0
      refine lv_tableIn (tgt := 1704) (off := 1671) hx hb dL_law_33 (by decide) (by decide) (by decide +kernel) (by decide) ?_
      exact law_case_55 C0 hE hA hAi hbA xa na pa ka mb mc ma hP hD hS (lv_sub hl [0, 1, 2, 3] rfl)
    rcases Nat.eq_or_lt_of_le g56 with e0 | g57
    · subst e0
      refine lv_tableIn (tgt := 1737) (off := 1704) hx hb dL_law_33 (by decide) (by decide) (by decide +kernel) (by decide) ?_
      exact law_case_56 C0 hE hA hAi hbA xa na pa ka mb mc ma hP hD hS (lv_sub hl [0, 1, 2, 3] rfl)
    rcases Nat.eq_or_lt_of_le g57 with e0 | g58
    · subst e0
      refine lv_tableIn (tgt := 1770) (off := 1737) hx hb dL_law_33 (by decide) (by decide) (by decide +kernel) (by decide) ?_
      exact law_case_57 C0 hE hA hAi hbA xa na pa ka mb mc ma hP hD hS (lv_sub hl [0, 1, 2, 3] rfl)
    rcases Nat.eq_or_lt_of_le g58 with e0 | g59
    · subst e0
      refine lv_tableIn (tgt := 1793) (off := 1760) hx hb dL_law_33 (by decide) (by decide) (by decide +kernel) (by decide) ?_
      exact law_case_58 C0 hE hA hAi hbA xa na pa ka mb mc ma hP hD hS (lv_sub hl [0, 1, 2, 3] rfl)
    rcases Nat.eq_or_lt_of_le g59 with e0 | g60
    · subst e0
      refine lv_tableIn (tgt := 1816) (off := 1783) hx hb dL_law_33 (by decide) (by decide) (by decide +kernel) (by decide) ?_
      exact law_case_59 C0 hE hA hAi hbA xa na pa ka mb mc ma hP hD hS (lv_sub hl [0, 1, 2, 3] rfl)
    rcases Nat.eq_or_lt_of_le g60 with e0 | g61
    · subst e0
      refine lv_tableIn (tgt := 1859) (off := 1826) hx hb dL_law_33 (by decide) (by decide) (by decide +kernel) (by decide) ?_
      exact law_case_60 C0 hE hA hAi hbA xa na pa ka mb mc ma hP hD hS (lv_sub hl [0, 1, 2, 3] rfl)
    rcases Nat.eq_or_lt_of_le g61 with e0 | g62
    · subst e0
      refine lv_tableIn (tgt := 1872) (off := 1839) hx hb dL_law_33 (by decide) (by decide) (by decide +kernel) (by decide) ?_
      exact law_case_61 C0 hE hA hAi hbA xa na pa ka mb mc ma hP hD hS (lv_sub hl [0, 1, 2, 3] rfl)
    rcases Nat.eq_or_lt_of_le g62 with e0 | g63
    · subst e0
      refine lv_tableOut (tgt := 1885) hx hb dL_law_33 (by decide) (by decide) ?_
      exact law_end C0 hE hA hAi hbA xa na pa ka mb mc ma hS (lv_sub hl [0, 1, 2, 3] rfl)
    rcases Nat.eq_or_lt_of_le g63 with e0 | g64
    · subst e0
      refine lv_tableOut (tgt := 1885) hx hb dL_law_33 (by decide) (by decide) ?_
      exact law_end C0 hE hA hAi hbA xa na pa ka mb mc ma hS (lv_sub hl [0, 1, 2, 3] rfl)
    exact absurd hj (Nat.not_lt.mpr g64)
  · refine lv_iload_n hx hb dL_law_18 rfl (lv_at hl 3 rfl) ?_
    refine lv_aload_n hx hb dL_law_19 rfl (lv_at hl 0 rfl) ?_
    refine va_slen hx hb hX hbl hbA hS dL_law_20 ?_
    refine lv_ci (y := 5) rfl ?_
    refine lv_bipush (v := 6) hx hb dL_law_21 (by decide) ?_
    refine lv_isub hx hb dL_law_23 ?_
    refine lv_ci (y := (-1)) (by decide) ?_
    refine lv_icmp_gt (tgt := 1891) hx hb dL_law_24 (by decide) (fun _ => ?_) (fun h => absurd (by decide) h)
    refine lv_iconst (v := 1) hx hb dL_law_1891 (by decide) ?_
    refine va_forget (fun q hq => hAi _ (hS.2.2 q hq)) ?_
    refine W.widen (k := 600000) (n := 7302250) (Nat.le_of_ble_eq_true rfl) (Nat.le_of_ble_eq_true rfl) ?_
    exact lw_ret hx hb hr hlocks dL_law_1892
  · refine lv_iload_n hx hb dL_law_18 rfl (lv_at hl 3 rfl) ?_
    refine lv_aload_n hx hb dL_law_19 rfl (lv_at hl 0 rfl) ?_
    refine va_slen hx hb hX hbl hbA hS dL_law_20 ?_
    refine lv_ci (y := 4) rfl ?_
    refine lv_bipush (v := 6) hx hb dL_law_21 (by decide) ?_
    refine lv_isub hx hb dL_law_23 ?_
    refine lv_ci (y := (-2)) (by decide) ?_
    refine lv_icmp_gt (tgt := 1891) hx hb dL_law_24 (by decide) (fun _ => ?_) (fun h => absurd (by decide) h)
    refine lv_iconst (v := 1) hx hb dL_law_1891 (by decide) ?_
    refine va_forget (fun q hq => hAi _ (hS.2.2 q hq)) ?_
    refine W.widen (k := 600000) (n := 7302250) (Nat.le_of_ble_eq_true rfl) (Nat.le_of_ble_eq_true rfl) ?_
    exact lw_ret hx hb hr hlocks dL_law_1892
  · refine lv_iload_n hx hb dL_law_18 rfl (lv_at hl 3 rfl) ?_
    refine lv_aload_n hx hb dL_law_19 rfl (lv_at hl 0 rfl) ?_
    refine va_slen hx hb hX hbl hbA hS dL_law_20 ?_
    refine lv_ci (y := 3) rfl ?_
    refine lv_bipush (v := 6) hx hb dL_law_21 (by decide) ?_
    refine lv_isub hx hb dL_law_23 ?_
    refine lv_ci (y := (-3)) (by decide) ?_
    refine lv_icmp_gt (tgt := 1891) hx hb dL_law_24 (by decide) (fun _ => ?_) (fun h => absurd (by decide) h)
    refine lv_iconst (v := 1) hx hb dL_law_1891 (by decide) ?_
    refine va_forget (fun q hq => hAi _ (hS.2.2 q hq)) ?_
    refine W.widen (k := 600000) (n := 7302250) (Nat.le_of_ble_eq_true rfl) (Nat.le_of_ble_eq_true rfl) ?_
    exact lw_ret hx hb hr hlocks dL_law_1892
  · refine lv_iload_n hx hb dL_law_18 rfl (lv_at hl 3 rfl) ?_
    refine lv_aload_n hx hb dL_law_19 rfl (lv_at hl 0 rfl) ?_
    refine va_slen hx hb hX hbl hbA hS dL_law_20 ?_
    refine lv_ci (y := 2) rfl ?_
    refine lv_bipush (v := 6) hx hb dL_law_21 (by decide) ?_
    refine lv_isub hx hb dL_law_23 ?_
    refine lv_ci (y := (-4)) (by decide) ?_
    refine lv_icmp_gt (tgt := 1891) hx hb dL_law_24 (by decide) (fun _ => ?_) (fun h => absurd (by decide) h)
    refine lv_iconst (v := 1) hx hb dL_law_1891 (by decide) ?_
    refine va_forget (fun q hq => hAi _ (hS.2.2 q hq)) ?_
    refine W.widen (k := 600000) (n := 7302250) (Nat.le_of_ble_eq_true rfl) (Nat.le_of_ble_eq_true rfl) ?_
    exact lw_ret hx hb hr hlocks dL_law_1892
  · refine lv_iload_n hx hb dL_law_18 rfl (lv_at hl 3 rfl) ?_
    refine lv_aload_n hx hb dL_law_19 rfl (lv_at hl 0 rfl) ?_
    refine va_slen hx hb hX hbl hbA hS dL_law_20 ?_
    refine lv_ci (y := 1) rfl ?_
    refine lv_bipush (v := 6) hx hb dL_law_21 (by decide) ?_
    refine lv_isub hx hb dL_law_23 ?_
    refine lv_ci (y := (-5)) (by decide) ?_
    refine lv_icmp_gt (tgt := 1891) hx hb dL_law_24 (by decide) (fun _ => ?_) (fun h => absurd (by decide) h)
    refine lv_iconst (v := 1) hx hb dL_law_1891 (by decide) ?_
    refine va_forget (fun q hq => hAi _ (hS.2.2 q hq)) ?_
    refine W.widen (k := 600000) (n := 7302250) (Nat.le_of_ble_eq_true rfl) (Nat.le_of_ble_eq_true rfl) ?_
    exact lw_ret hx hb hr hlocks dL_law_1892
  · refine lv_iload_n hx hb dL_law_18 rfl (lv_at hl 3 rfl) ?_
    refine lv_aload_n hx hb dL_law_19 rfl (lv_at hl 0 rfl) ?_
    refine va_slen hx hb hX hbl hbA hS dL_law_20 ?_
    refine lv_ci (y := 0) rfl ?_
    refine lv_bipush (v := 6) hx hb dL_law_21 (by decide) ?_
    refine lv_isub hx hb dL_law_23 ?_
    refine lv_ci (y := (-6)) (by decide) ?_
    refine lv_icmp_gt (tgt := 1891) hx hb dL_law_24 (by decide) (fun _ => ?_) (fun h => absurd (by decide) h)
    refine lv_iconst (v := 1) hx hb dL_law_1891 (by decide) ?_
    refine va_forget (fun q hq => hAi _ (hS.2.2 q hq)) ?_
    refine W.widen (k := 600000) (n := 7302250) (Nat.le_of_ble_eq_true rfl) (Nat.le_of_ble_eq_true rfl) ?_
    exact lw_ret hx hb hr hlocks dL_law_1892
