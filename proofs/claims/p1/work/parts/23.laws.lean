set_option maxHeartbeats 4000000 in
set_option maxRecDepth 100000 in
theorem law_head {p : Program} {l : Launch} {e : Env} {s : State} {m : MethodId} {below : List Frame} {meth : Method} {c : Code} {b : Nat} {xs : Nat → Int32} {D : va_G} {kc : Nat → ClassId} {A : Nat → Prop} {L : Nat} (hL : L ≤ 6) (C0 : lw_At p s m meth c b L xs) (hE : EK D kc s) (hA : ∀ q : Nat, s.heap.size ≤ q → A q) (hAi : ∀ q : Nat, A q → s.heap.size ≤ q) (hbA : ¬ A b) (xa : Nat → Nat) (na : Nat → Nat) (pa : Nat → Nat) (ka : Nat → Nat) (mb : Nat) (mc : Nat) (ma : Nat → Nat) {H : Heap} {locs : List Loc} {ls : Array Slot} (hP : va_P D vwCl (lwW kc xa na pa ka mb mc ma) H) (hD : va_D A (lwW kc xa na pa ka mb mc ma)) (hS : va_S A s.heap H locs) (hl : lv_has ls 4 [(0, .ref b), (1, .ref (xa 0)), (2, .ref (ma 0)), (3, .int 0)]) : W p l e room_1 s m #[Value.ref b] below meth c H locs 172 9393 (lw_Z below #[Value.ref b] s) (F0 m 18 ls []) := by
  obtain ⟨hx, hb, hr, hml, hown0, hts0, hX, hbl, hlocks, hgv⟩ := id C0
  have hown : s.vm.findClass RL = some m.cls := hown0
  have hts : ∀ w ∈ vlaw, w.before #[Value.ref b] s = true := fun w h => hts0 w (vlaw_in w h)
  have hK := hE.1
  have hLc : L = 6 ∨ L = 5 ∨ L = 4 ∨ L = 3 ∨ L = 2 ∨ L = 1 ∨ L = 0 := by omega
  rcases hLc with rfl | rfl | rfl | rfl | rfl | rfl | rfl
  · refine lv_iload_n hx hb dL_law_18 rfl (lv_at hl 3 rfl) ?_
    refine lv_aload_n hx hb dL_law_19 rfl (lv_at hl 0 rfl) ?_
    refine va_slen hx hb hX hbl hbA hS dL_law_20 ?_
    refine lv_ci (y := 6) rfl ?_
    refine lv_bipush (v := 6) hx hb dL_law_21 (by decide) ?_
    refine lv_isub hx hb dL_law_23 ?_
    refine lv_ci (y := 0) (by decide) ?_
    refine lv_icmp_gt (tgt := 1891) hx hb dL_law_24 (by decide) (fun h => absurd h (by decide)) (fun _ => ?_)
    refine lv_aload_n hx hb dL_law_27 rfl (lv_at hl 0 rfl) ?_
    refine lv_iload_n hx hb dL_law_28 rfl (lv_at hl 3 rfl) ?_
    refine va_sld hx hb hX hbl hbA hS (by unfold vp_in; decide) dL_law_29 ?_
    refine lv_ci (y := xs 0) rfl ?_
    refine lv_bipush (v := 63) hx hb dL_law_30 (by decide) ?_
    refine lv_iand hx hb dL_law_32 ?_
    obtain ⟨j, hj, ej⟩ := pk_andE (xs 0) (m := 63) 6 rfl
    refine lv_ci (y := nI j) ej ?_
    have g0 : 0 ≤ j := Nat.zero_le j
    rcases Nat.eq_or_lt_of_le g0 with e0 | g1
    · subst e0
      refine lv_tableIn (tgt := 296) (off := 263) hx hb dL_law_33 (by decide) (by decide) (by decide +kernel) (by decide) ?_
      exact law_case_0 C0 hE hA hAi hbA xa na pa ka mb mc ma hP hD hS (lv_sub hl [0, 1, 2, 3] rfl)
    rcases Nat.eq_or_lt_of_le g1 with e0 | g2
    · subst e0
      refine lv_tableIn (tgt := 309) (off := 276) hx hb dL_law_33 (by decide) (by decide) (by decide +kernel) (by decide) ?_
      exact law_case_1 C0 hE hA hAi hbA xa na pa ka mb mc ma hP hD hS (lv_sub hl [0, 1, 2, 3] rfl)
    rcases Nat.eq_or_lt_of_le g2 with e0 | g3
    · subst e0
      refine lv_tableIn (tgt := 323) (off := 290) hx hb dL_law_33 (by decide) (by decide) (by decide +kernel) (by decide) ?_
      exact law_case_2 C0 hE hA hAi hbA xa na pa ka mb mc ma hP hD hS (lv_sub hl [0, 1, 2, 3] rfl)
    rcases Nat.eq_or_lt_of_le g3 with e0 | g4
    · subst e0
      refine lv_tableIn (tgt := 337) (off := 304) hx hb dL_law_33 (by decide) (by decide) (by decide +kernel) (by decide) ?_
      exact law_case_3 C0 hE hA hAi hbA xa na pa ka mb mc ma hP hD hS (lv_sub hl [0, 1, 2, 3] rfl)
    rcases Nat.eq_or_lt_of_le g4 with e0 | g5
    · subst e0
      refine lv_tableIn (tgt := 380) (off := 347) hx hb dL_law_33 (by decide) (by decide) (by decide +kernel) (by decide) ?_
      exact law_case_4 C0 hE hA hAi hbA xa na pa ka mb mc ma hP hD hS (lv_sub hl [0, 1, 2, 3] rfl)
    rcases Nat.eq_or_lt_of_le g5 with e0 | g6
    · subst e0
      refine lv_tableIn (tgt := 453) (off := 420) hx hb dL_law_33 (by decide) (by decide) (by decide +kernel) (by decide) ?_
      exact law_case_5 C0 hE hA hAi hbA xa na pa ka mb mc ma hP hD hS (lv_sub hl [0, 1, 2, 3] rfl)
    rcases Nat.eq_or_lt_of_le g6 with e0 | g7
    · subst e0
      refine lv_tableIn (tgt := 487) (off := 454) hx hb dL_law_33 (by decide) (by decide) (by decide +kernel) (by decide) ?_
      exact law_case_6 C0 hE hA hAi hbA xa na pa ka mb mc ma hP hD hS (lv_sub hl [0, 1, 2, 3] rfl)
    rcases Nat.eq_or_lt_of_le g7 with e0 | g8
    · subst e0
      refine lv_tableIn (tgt := 550) (off := 517) hx hb dL_law_33 (by decide) (by decide) (by decide +kernel) (by decide) ?_
      exact law_case_7 C0 hE hA hAi hbA xa na pa ka mb mc ma hP hD hS (lv_sub hl [0, 1, 2, 3] rfl)
    rcases Nat.eq_or_lt_of_le g8 with e0 | g9
    · subst e0
      refine lv_tableIn (tgt := 613) (off := 580) hx hb dL_law_33 (by decide) (by decide) (by decide +kernel) (by decide) ?_
      exact law_case_8 C0 hE hA hAi hbA xa na pa ka mb mc ma hP hD hS (lv_sub hl [0, 1, 2, 3] rfl)
    rcases Nat.eq_or_lt_of_le g9 with e0 | g10
    · subst e0
      refine lv_tableIn (tgt := 636) (off := 603) hx hb dL_law_33 (by decide) (by decide) (by decide +kernel) (by decide) ?_
      exact law_case_9 C0 hE hA hAi hbA xa na pa ka mb mc ma hP hD hS (lv_sub hl [0, 1, 2, 3] rfl)
    rcases Nat.eq_or_lt_of_le g10 with e0 | g11
    · subst e0
      refine lv_tableIn (tgt := 659) (off := 626) hx hb dL_law_33 (by decide) (by decide) (by decide +kernel) (by decide) ?_
      exact law_case_10 C0 hE hA hAi hbA xa na pa ka mb mc ma hP hD hS (lv_sub hl [0, 1, 2, 3] rfl)
    rcases Nat.eq_or_lt_of_le g11 with e0 | g12
    · subst e0
      refine lv_tableIn (tgt := 682) (off := 649) hx hb dL_law_33 (by decide) (by decide) (by decide +kernel) (by decide) ?_
      exact law_case_11 C0 hE hA hAi hbA xa na pa ka mb mc ma hP hD hS (lv_sub hl [0, 1, 2, 3] rfl)
    rcases Nat.eq_or_lt_of_le g12 with e0 | g13
    · subst e0
      refine lv_tableIn (tgt := 705) (off := 672) hx hb dL_law_33 (by decide) (by decide) (by decide +kernel) (by decide) ?_
      exact law_case_12 C0 hE hA hAi hbA xa na pa ka mb mc ma hP hD hS (lv_sub hl [0, 1, 2, 3] rfl)
    rcases Nat.eq_or_lt_of_le g13 with e0 | g14
    · subst e0
      refine lv_tableIn (tgt := 718) (off := 685) hx hb dL_law_33 (by decide) (by decide) (by decide +kernel) (by decide) ?_
      exact law_case_13 C0 hE hA hAi hbA xa na pa ka mb mc ma hP hD hS (lv_sub hl [0, 1, 2, 3] rfl)
    rcases Nat.eq_or_lt_of_le g14 with e0 | g15
    · subst e0
      refine lv_tableIn (tgt := 751) (off := 718) hx hb dL_law_33 (by decide) (by decide) (by decide +kernel) (by decide) ?_
      exact law_case_14 C0 hE hA hAi hbA xa na pa ka mb mc ma hP hD hS (lv_sub hl [0, 1, 2, 3] rfl)
    rcases Nat.eq_or_lt_of_le g15 with e0 | g16
    · subst e0
      refine lv_tableIn (tgt := 784) (off := 751) hx hb dL_law_33 (by decide) (by decide) (by decide +kernel) (by decide) ?_
      exact law_case_15 C0 hE hA hAi hbA xa na pa ka mb mc ma hP hD hS (lv_sub hl [0, 1, 2, 3] rfl)
    rcases Nat.eq_or_lt_of_le g16 with e0 | g17
    · subst e0
      refine lv_tableIn (tgt := 817) (off := 784) hx hb dL_law_33 (by decide) (by decide) (by decide +kernel) (by decide) ?_
      exact law_case_16 C0 hE hA hAi hbA xa na pa ka mb mc ma hP hD hS (lv_sub hl [0, 1, 2, 3] rfl)
    rcases Nat.eq_or_lt_of_le g17 with e0 | g18
    · subst e0
      refine lv_tableIn (tgt := 850) (off := 817) hx hb dL_law_33 (by decide) (by decide) (by decide +kernel) (by decide) ?_
      exact law_case_17 C0 hE hA hAi hbA xa na pa ka mb mc ma hP hD hS (lv_sub hl [0, 1, 2, 3] rfl)
    rcases Nat.eq_or_lt_of_le g18 with e0 | g19
    · subst e0
      refine lv_tableIn (tgt := 883) (off := 850) hx hb dL_law_33 (by decide) (by decide) (by decide +kernel) (by decide) ?_
      exact law_case_18 C0 hE hA hAi hbA xa na pa ka mb mc ma hP hD hS (lv_sub hl [0, 1, 2, 3] rfl)
    rcases Nat.eq_or_lt_of_le g19 with e0 | g20
    · subst e0
      refine lv_tableIn (tgt := 906) (off := 873) hx hb dL_law_33 (by decide) (by decide) (by decide +kernel) (by decide) ?_
      exact law_case_19 C0 hE hA hAi hbA xa na pa ka mb mc ma hP hD hS (lv_sub hl [0, 1, 2, 3] rfl)
    rcases Nat.eq_or_lt_of_le g20 with e0 | g21
    · subst e0
      refine lv_tableIn (tgt := 919) (off := 886) hx hb dL_law_33 (by decide) (by decide) (by decide +kernel) (by decide) ?_
      exact law_case_20 C0 hE hA hAi hbA xa na pa ka mb mc ma hP hD hS (lv_sub hl [0, 1, 2, 3] rfl)
    rcases Nat.eq_or_lt_of_le g21 with e0 | g22
    · subst e0
      refine lv_tableIn (tgt := 932) (off := 899) hx hb dL_law_33 (by decide) (by decide) (by decide +kernel) (by decide) ?_
      exact law_case_21 C0 hE hA hAi hbA xa na pa ka mb mc ma hP hD hS (lv_sub hl [0, 1, 2, 3] rfl)
    rcases Nat.eq_or_lt_of_le g22 with e0 | g23
    · subst e0
      refine lv_tableIn (tgt := 945) (off := 912) hx hb dL_law_33 (by decide) (by decide) (by decide +kernel) (by decide) ?_
      exact law_case_22 C0 hE hA hAi hbA xa na pa ka mb mc ma hP hD hS (lv_sub hl [0, 1, 2, 3] rfl)
    rcases Nat.eq_or_lt_of_le g23 with e0 | g24
    · subst e0
      refine lv_tableIn (tgt := 958) (off := 925) hx hb dL_law_33 (by decide) (by decide) (by decide +kernel) (by decide) ?_
      exact law_case_23 C0 hE hA hAi hbA xa na pa ka mb mc ma hP hD hS (lv_sub hl [0, 1, 2, 3] rfl)
    rcases Nat.eq_or_lt_of_le g24 with e0 | g25
    · subst e0
      refine lv_tableIn (tgt := 991) (off := 958) hx hb dL_law_33 (by decide) (by decide) (by decide +kernel) (by decide) ?_
      exact law_case_24 C0 hE hA hAi hbA xa na pa ka mb mc ma hP hD hS (lv_sub hl [0, 1, 2, 3] rfl)
    rcases Nat.eq_or_lt_of_le g25 with e0 | g26
    · subst e0
      refine lv_tableIn (tgt := 1034) (off := 1001) hx hb dL_law_33 (by decide) (by decide) (by decide +kernel) (by decide) ?_
      exact law_case_25 C0 hE hA hAi hbA xa na pa ka mb mc ma hP hD hS (lv_sub hl [0, 1, 2, 3] rfl)
    rcases Nat.eq_or_lt_of_le g26 with e0 | g27
    · subst e0
      refine lv_tableIn (tgt := 1057) (off := 1024) hx hb dL_law_33 (by decide) (by decide) (by decide +kernel) (by decide) ?_
      exact law_case_26 C0 hE hA hAi hbA xa na pa ka mb mc ma hP hD hS (lv_sub hl [0, 1, 2, 3] rfl)
    rcases Nat.eq_or_lt_of_le g27 with e0 | g28
    · subst e0
      refine lv_tableIn (tgt := 1100) (off := 1067) hx hb dL_law_33 (by decide) (by decide) (by decide +kernel) (by decide) ?_
      exact law_case_27 C0 hE hA hAi hbA xa na pa ka mb mc ma hP hD hS (lv_sub hl [0, 1, 2, 3] rfl)
    rcases Nat.eq_or_lt_of_le g28 with e0 | g29
    · subst e0
      refine lv_tableIn (tgt := 1113) (off := 1080) hx hb dL_law_33 (by decide) (by decide) (by decide +kernel) (by decide) ?_
      exact law_case_28 C0 hE hA hAi hbA xa na pa ka mb mc ma hP hD hS (lv_sub hl [0, 1, 2, 3] rfl)
    rcases Nat.eq_or_lt_of_le g29 with e0 | g30
    · subst e0
      refine lv_tableIn (tgt := 1136) (off := 1103) hx hb dL_law_33 (by decide) (by decide) (by decide +kernel) (by decide) ?_
      exact law_case_29 C0 hE hA hAi hbA xa na pa ka mb mc ma hP hD hS (lv_sub hl [0, 1, 2, 3] rfl)
    rcases Nat.eq_or_lt_of_le g30 with e0 | g31
    · subst e0
      refine lv_tableIn (tgt := 1149) (off := 1116) hx hb dL_law_33 (by decide) (by decide) (by decide +kernel) (by decide) ?_
      exact law_case_30 C0 hE hA hAi hbA xa na pa ka mb mc ma hP hD hS (lv_sub hl [0, 1, 2, 3] rfl)
    rcases Nat.eq_or_lt_of_le g31 with e0 | g32
    · subst e0
      refine lv_tableIn (tgt := 1182) (off := 1149) hx hb dL_law_33 (by decide) (by decide) (by decide +kernel) (by decide) ?_
      exact law_case_31 C0 hE hA hAi hbA xa na pa ka mb mc ma hP hD hS (lv_sub hl [0, 1, 2, 3] rfl)
    rcases Nat.eq_or_lt_of_le g32 with e0 | g33
    · subst e0
      refine lv_tableIn (tgt := 1205) (off := 1172) hx hb dL_law_33 (by decide) (by decide) (by decide +kernel) (by decide) ?_
      exact law_case_32 C0 hE hA hAi hbA xa na pa ka mb mc ma hP hD hS (lv_sub hl [0, 1, 2, 3] rfl)
    rcases Nat.eq_or_lt_of_le g33 with e0 | g34
    · subst e0
      refine lv_tableIn (tgt := 1228) (off := 1195) hx hb dL_law_33 (by decide) (by decide) (by decide +kernel) (by decide) ?_
      exact law_case_33 C0 hE hA hAi hbA xa na pa ka mb mc ma hP hD hS (lv_sub hl [0, 1, 2, 3] rfl)
    rcases Nat.eq_or_lt_of_le g34 with e0 | g35
    · subst e0
      refine lv_tableIn (tgt := 1271) (off := 1238) hx hb dL_law_33 (by decide) (by decide) (by decide +kernel) (by decide) ?_
      exact law_case_34 C0 hE hA hAi hbA xa na pa ka mb mc ma hP hD hS (lv_sub hl [0, 1, 2, 3] rfl)
    rcases Nat.eq_or_lt_of_le g35 with e0 | g36
    · subst e0
      refine lv_tableIn (tgt := 1294) (off := 1261) hx hb dL_law_33 (by decide) (by decide) (by decide +kernel) (by decide) ?_
      exact law_case_35 C0 hE hA hAi hbA xa na pa ka mb mc ma hP hD hS (lv_sub hl [0, 1, 2, 3] rfl)
    rcases Nat.eq_or_lt_of_le g36 with e0 | g37
    · subst e0
      refine lv_tableIn (tgt := 1307) (off := 1274) hx hb dL_law_33 (by decide) (by decide) (by decide +kernel) (by decide) ?_
      exact law_case_36 C0 hE hA hAi hbA xa na pa ka mb mc ma hP hD hS (lv_sub hl [0, 1, 2, 3] rfl)
    rcases Nat.eq_or_lt_of_le g37 with e0 | g38
    · subst e0
      refine lv_tableIn (tgt := 1320) (off := 1287) hx hb dL_law_33 (by decide) (by decide) (by decide +kernel) (by decide) ?_
      exact law_case_37 C0 hE hA hAi hbA xa na pa ka mb mc ma hP hD hS (lv_sub hl [0, 1, 2, 3] rfl)
    rcases Nat.eq_or_lt_of_le g38 with e0 | g39
    · subst e0
      refine lv_tableIn (tgt := 1343) (off := 1310) hx hb dL_law_33 (by decide) (by decide) (by decide +kernel) (by decide) ?_
      exact law_case_38 C0 hE hA hAi hbA xa na pa ka mb mc ma hP hD hS (lv_sub hl [0, 1, 2, 3] rfl)
    rcases Nat.eq_or_lt_of_le g39 with e0 | g40
    · subst e0
      refine lv_tableIn (tgt := 1356) (off := 1323) hx hb dL_law_33 (by decide) (by decide) (by decide +kernel) (by decide) ?_
      exact law_case_39 C0 hE hA hAi hbA xa na pa ka mb mc ma hP hD hS (lv_sub hl [0, 1, 2, 3] rfl)
    rcases Nat.eq_or_lt_of_le g40 with e0 | g41
    · subst e0
      refine lv_tableIn (tgt := 1369) (off := 1336) hx hb dL_law_33 (by decide) (by decide) (by decide +kernel) (by decide) ?_
      exact law_case_40 C0 hE hA hAi hbA xa na pa ka mb mc ma hP hD hS (lv_sub hl [0, 1, 2, 3] rfl)
    rcases Nat.eq_or_lt_of_le g41 with e0 | g42
    · subst e0
      refine lv_tableIn (tgt := 1392) (off := 1359) hx hb dL_law_33 (by decide) (by decide) (by decide +kernel) (by decide) ?_
      exact law_case_41 C0 hE hA hAi hbA xa na pa ka mb mc ma hP hD hS (lv_sub hl [0, 1, 2, 3] rfl)
    rcases Nat.eq_or_lt_of_le g42 with e0 | g43
    · subst e0
      refine lv_tableIn (tgt := 1405) (off := 1372) hx hb dL_law_33 (by decide) (by decide) (by decide +kernel) (by decide) ?_
      exact law_case_42 C0 hE hA hAi hbA xa na pa ka mb mc ma hP hD hS (lv_sub hl [0, 1, 2, 3] rfl)
    rcases Nat.eq_or_lt_of_le g43 with e0 | g44
    · subst e0
      refine lv_tableIn (tgt := 1428) (off := 1395) hx hb dL_law_33 (by decide) (by decide) (by decide +kernel) (by decide) ?_
      exact law_case_43 C0 hE hA hAi hbA xa na pa ka mb mc ma hP hD hS (lv_sub hl [0, 1, 2, 3] rfl)
    rcases Nat.eq_or_lt_of_le g44 with e0 | g45
    · subst e0
      refine lv_tableIn (tgt := 1441) (off := 1408) hx hb dL_law_33 (by decide) (by decide) (by decide +kernel) (by decide) ?_
      exact law_case_44 C0 hE hA hAi hbA xa na pa ka mb mc ma hP hD hS (lv_sub hl [0, 1, 2, 3] rfl)
    rcases Nat.eq_or_lt_of_le g45 with e0 | g46
    · subst e0
      refine lv_tableIn (tgt := 1464) (off := 1431) hx hb dL_law_33 (by decide) (by decide) (by decide +kernel) (by decide) ?_
      exact law_case_45 C0 hE hA hAi hbA xa na pa ka mb mc ma hP hD hS (lv_sub hl [0, 1, 2, 3] rfl)
    rcases Nat.eq_or_lt_of_le g46 with e0 | g47
    · subst e0
      refine lv_tableIn (tgt := 1487) (off := 1454) hx hb dL_law_33 (by decide) (by decide) (by decide +kernel) (by decide) ?_
      exact law_case_46 C0 hE hA hAi hbA xa na pa ka mb mc ma hP hD hS (lv_sub hl [0, 1, 2, 3] rfl)
    rcases Nat.eq_or_lt_of_le g47 with e0 | g48
    · subst e0
      refine lv_tableIn (tgt := 1510) (off := 1477) hx hb dL_law_33 (by decide) (by decide) (by decide +kernel) (by decide) ?_
      exact law_case_47 C0 hE hA hAi hbA xa na pa ka mb mc ma hP hD hS (lv_sub hl [0, 1, 2, 3] rfl)
    rcases Nat.eq_or_lt_of_le g48 with e0 | g49
    · subst e0
      refine lv_tableIn (tgt := 1523) (off := 1490) hx hb dL_law_33 (by decide) (by decide) (by decide +kernel) (by decide) ?_
      exact law_case_48 C0 hE hA hAi hbA xa na pa ka mb mc ma hP hD hS (lv_sub hl [0, 1, 2, 3] rfl)
    rcases Nat.eq_or_lt_of_le g49 with e0 | g50
    · subst e0
      refine lv_tableIn (tgt := 1536) (off := 1503) hx hb dL_law_33 (by decide) (by decide) (by decide +kernel) (by decide) ?_
      exact law_case_49 C0 hE hA hAi hbA xa na pa ka mb mc ma hP hD hS (lv_sub hl [0, 1, 2, 3] rfl)
    rcases Nat.eq_or_lt_of_le g50 with e0 | g51
    · subst e0
      refine lv_tableIn (tgt := 1559) (off := 1526) hx hb dL_law_33 (by decide) (by decide) (by decide +kernel) (by decide) ?_
      exact law_case_50 C0 hE hA hAi hbA xa na pa ka mb mc ma hP hD hS (lv_sub hl [0, 1, 2, 3] rfl)
    rcases Nat.eq_or_lt_of_le g51 with e0 | g52
    · subst e0
      refine lv_tableIn (tgt := 1592) (off := 1559) hx hb dL_law_33 (by decide) (by decide) (by decide +kernel) (by decide) ?_
      exact law_case_51 C0 hE hA hAi hbA xa na pa ka mb mc ma hP hD hS (lv_sub hl [0, 1, 2, 3] rfl)
    rcases Nat.eq_or_lt_of_le g52 with e0 | g53
    · subst e0
      refine lv_tableIn (tgt := 1615) (off := 1582) hx hb dL_law_33 (by decide) (by decide) (by decide +kernel) (by decide) ?_
      exact law_case_52 C0 hE hA hAi hbA xa na pa ka mb mc ma hP hD hS (lv_sub hl [0, 1, 2, 3] rfl)
    rcases Nat.eq_or_lt_of_le g53 with e0 | g54
    · subst e0
      refine lv_tableIn (tgt := 1638) (off := 1605) hx hb dL_law_33 (by decide) (by decide) (by decide +kernel) (by decide) ?_
      exact law_case_53 C0 hE hA hAi hbA xa na pa ka mb mc ma hP hD hS (lv_sub hl [0, 1, 2, 3] rfl)
    rcases Nat.eq_or_lt_of_le g54 with e0 | g55
    · subst e0
      refine lv_tableIn (tgt := 1661) (off := 1628) hx hb dL_law_33 (by decide) (by decide) (by decide +kernel) (by decide) ?_
      exact law_case_54 C0 hE hA hAi hbA xa na pa ka mb mc ma hP hD hS (lv_sub hl [0, 1, 2, 3] rfl)
    rcases Nat.eq_or_lt_of_le g55 with e0 | g56
    · subst e0
      refine lv_tableIn (tgt := 1704) (off := 1671) hx hb dL_law_33 (by decide) (by decide) (by decide +kernel) (by decide) ?_
      exact law_case_55 C0 hE hA hAi hbA xa na pa ka mb mc ma hP hD hS (lv_sub hl [0, 1, 2, 3] rfl)
    rcases Nat.eq_or_lt_of_le g56 with e0 | g57
    · subst e0
      refine lv_tableIn (tgt := 1737) (off := 1704) hx hb dL_law_33 (by decide) (by decide) (by decide +kernel) (by decide) ?_
      exact law_case_56 C0 hE hA hAi hbA xa na pa ka mb mc ma hP hD hS (lv_sub hl [0, 1, 2, 3] rfl)
    rcases Nat.eq_or_lt_of_le g57 with e0 | g58
    · subst e0
      refine lv_tableIn (tgt := 1770) (off := 1737) hx hb dL_law_33 (by decide) (by decide) (by decide +kernel) (by decide) ?_
      exact law_case_57 C0 hE hA hAi hbA xa na pa ka mb mc ma hP hD hS (lv_sub hl [0, 1, 2, 3] rfl)
    rcases Nat.eq_or_lt_of_le g58 with e0 | g59
    · subst e0
      refine lv_tableIn (tgt := 1793) (off := 1760) hx hb dL_law_33 (by decide) (by decide) (by decide +kernel) (by decide) ?_
      exact law_case_58 C0 hE hA hAi hbA xa na pa ka mb mc ma hP hD hS (lv_sub hl [0, 1, 2, 3] rfl)
    rcases Nat.eq_or_lt_of_le g59 with e0 | g60
    · subst e0
      refine lv_tableIn (tgt := 1816) (off := 1783) hx hb dL_law_33 (by decide) (by decide) (by decide +kernel) (by decide) ?_
      exact law_case_59 C0 hE hA hAi hbA xa na pa ka mb mc ma hP hD hS (lv_sub hl [0, 1, 2, 3] rfl)
    rcases Nat.eq_or_lt_of_le g60 with e0 | g61
    · subst e0
      refine lv_tableIn (tgt := 1859) (off := 1826) hx hb dL_law_33 (by decide) (by decide) (by decide +kernel) (by decide) ?_
      exact law_case_60 C0 hE hA hAi hbA xa na pa ka mb mc ma hP hD hS (lv_sub hl [0, 1, 2, 3] rfl)
    rcases Nat.eq_or_lt_of_le g61 with e0 | g62
    · subst e0
      refine lv_tableIn (tgt := 1872) (off := 1839) hx hb dL_law_33 (by decide) (by decide) (by decide +kernel) (by decide) ?_
      exact law_case_61 C0 hE hA hAi hbA xa na pa ka mb mc ma hP hD hS (lv_sub hl [0, 1, 2, 3] rfl)
    rcases Nat.eq_or_lt_of_le g62 with e0 | g63
    · subst e0
      refine lv_tableOut (tgt := 1885) hx hb dL_law_33 (by decide) (by decide) ?_
      exact law_end C0 hE hA hAi hbA xa na pa ka mb mc ma hS (lv_sub hl [0, 1, 2, 3] rfl)
    rcases Nat.eq_or_lt_of_le g63 with e0 | g64
    · subst e0
      refine lv_tableOut (tgt := 1885) hx hb dL_law_33 (by decide) (by decide) ?_
      exact law_end C0 hE hA hAi hbA xa na pa ka mb mc ma hS (lv_sub hl [0, 1, 2, 3] rfl)
    exact absurd hj (Nat.not_lt.mpr g64)
  · refine lv_iload_n hx hb dL_law_18 rfl (lv_at hl 3 rfl) ?_
    refine lv_aload_n hx hb dL_law_19 rfl (lv_at hl 0 rfl) ?_
    refine va_slen hx hb hX hbl hbA hS dL_law_20 ?_
    refine lv_ci (y := 5) rfl ?_
    refine lv_bipush (v := 6) hx hb dL_law_21 (by decide) ?_
    refine lv_isub hx hb dL_law_23 ?_
    refine lv_ci (y := (-1)) (by decide) ?_
    refine lv_icmp_gt (tgt := 1891) hx hb dL_law_24 (by decide) (fun _ => ?_) (fun h => absurd (by decide) h)
    refine lv_iconst (v := 1) hx hb dL_law_1891 (by decide) ?_
    refine va_forget (fun q hq => hAi _ (hS.2.2 q hq)) ?_
    refine W.widen (k := 600000) (n := 7302250) (Nat.le_of_ble_eq_true rfl) (Nat.le_of_ble_eq_true rfl) ?_
    exact lw_ret hx hb hr hlocks dL_law_1892
  · refine lv_iload_n hx hb dL_law_18 rfl (lv_at hl 3 rfl) ?_
    refine lv_aload_n hx hb dL_law_19 rfl (lv_at hl 0 rfl) ?_
    refine va_slen hx hb hX hbl hbA hS dL_law_20 ?_
    refine lv_ci (y := 4) rfl ?_
    refine lv_bipush (v := 6) hx hb dL_law_21 (by decide) ?_
    refine lv_isub hx hb dL_law_23 ?_
    refine lv_ci (y := (-2)) (by decide) ?_
    refine lv_icmp_gt (tgt := 1891) hx hb dL_law_24 (by decide) (fun _ => ?_) (fun h => absurd (by decide) h)
    refine lv_iconst (v := 1) hx hb dL_law_1891 (by decide) ?_
    refine va_forget (fun q hq => hAi _ (hS.2.2 q hq)) ?_
    refine W.widen (k := 600000) (n := 7302250) (Nat.le_of_ble_eq_true rfl) (Nat.le_of_ble_eq_true rfl) ?_
    exact lw_ret hx hb hr hlocks dL_law_1892
  · refine lv_iload_n hx hb dL_law_18 rfl (lv_at hl 3 rfl) ?_
    refine lv_aload_n hx hb dL_law_19 rfl (lv_at hl 0 rfl) ?_
    refine va_slen hx hb hX hbl hbA hS dL_law_20 ?_
    refine lv_ci (y := 3) rfl ?_
    refine lv_bipush (v := 6) hx hb dL_law_21 (by decide) ?_
    refine lv_isub hx hb dL_law_23 ?_
    refine lv_ci (y := (-3)) (by decide) ?_
    refine lv_icmp_gt (tgt := 1891) hx hb dL_law_24 (by decide) (fun _ => ?_) (fun h => absurd (by decide) h)
    refine lv_iconst (v := 1) hx hb dL_law_1891 (by decide) ?_
    refine va_forget (fun q hq => hAi _ (hS.2.2 q hq)) ?_
    refine W.widen (k := 600000) (n := 7302250) (Nat.le_of_ble_eq_true rfl) (Nat.le_of_ble_eq_true rfl) ?_
    exact lw_ret hx hb hr hlocks dL_law_1892
  · refine lv_iload_n hx hb dL_law_18 rfl (lv_at hl 3 rfl) ?_
    refine lv_aload_n hx hb dL_law_19 rfl (lv_at hl 0 rfl) ?_
    refine va_slen hx hb hX hbl hbA hS dL_law_20 ?_
    refine lv_ci (y := 2) rfl ?_
    refine lv_bipush (v := 6) hx hb dL_law_21 (by decide) ?_
    refine lv_isub hx hb dL_law_23 ?_
    refine lv_ci (y := (-4)) (by decide) ?_
    refine lv_icmp_gt (tgt := 1891) hx hb dL_law_24 (by decide) (fun _ => ?_) (fun h => absurd (by decide) h)
    refine lv_iconst (v := 1) hx hb dL_law_1891 (by decide) ?_
    refine va_forget (fun q hq => hAi _ (hS.2.2 q hq)) ?_
    refine W.widen (k := 600000) (n := 7302250) (Nat.le_of_ble_eq_true rfl) (Nat.le_of_ble_eq_true rfl) ?_
    exact lw_ret hx hb hr hlocks dL_law_1892
  · refine lv_iload_n hx hb dL_law_18 rfl (lv_at hl 3 rfl) ?_
    refine lv_aload_n hx hb dL_law_19 rfl (lv_at hl 0 rfl) ?_
    refine va_slen hx hb hX hbl hbA hS dL_law_20 ?_
    refine lv_ci (y := 1) rfl ?_
    refine lv_bipush (v := 6) hx hb dL_law_21 (by decide) ?_
    refine lv_isub hx hb dL_law_23 ?_
    refine lv_ci (y := (-5)) (by decide) ?_
    refine lv_icmp_gt (tgt := 1891) hx hb dL_law_24 (by decide) (fun _ => ?_) (fun h => absurd (by decide) h)
    refine lv_iconst (v := 1) hx hb dL_law_1891 (by decide) ?_
    refine va_forget (fun q hq => hAi _ (hS.2.2 q hq)) ?_
    refine W.widen (k := 600000) (n := 7302250) (Nat.le_of_ble_eq_true rfl) (Nat.le_of_ble_eq_true rfl) ?_
    exact lw_ret hx hb hr hlocks dL_law_1892
  · refine lv_iload_n hx hb dL_law_18 rfl (lv_at hl 3 rfl) ?_
    refine lv_aload_n hx hb dL_law_19 rfl (lv_at hl 0 rfl) ?_
    refine va_slen hx hb hX hbl hbA hS dL_law_20 ?_
    refine lv_ci (y := 0) rfl ?_
    refine lv_bipush (v := 6) hx hb dL_law_21 (by decide) ?_
    refine lv_isub hx hb dL_law_23 ?_
    refine lv_ci (y := (-6)) (by decide) ?_
    refine lv_icmp_gt (tgt := 1891) hx hb dL_law_24 (by decide) (fun _ => ?_) (fun h => absurd (by decide) h)
    refine lv_iconst (v := 1) hx hb dL_law_1891 (by decide) ?_
    refine va_forget (fun q hq => hAi _ (hS.2.2 q hq)) ?_
    refine W.widen (k := 600000) (n := 7302250) (Nat.le_of_ble_eq_true rfl) (Nat.le_of_ble_eq_true rfl) ?_
    exact lw_ret hx hb hr hlocks dL_law_1892
set_option maxHeartbeats 4000000 in
set_option maxRecDepth 100000 in
/-- THE LAW, from its entry -/
theorem whole_start {p : Program} {e : Env} {s : State} {m : MethodId} {below : List Frame} {meth : Method} {c : Code} (l : Launch) (hflags : l.flags = flags0) {b L : Nat} {xs : Nat → Int32} (hL : L ≤ 6) (C0 : lw_At p s m meth c b L xs) : W p l e room_1 s m #[Value.ref b] below meth c s.heap [] 0 0 (lw_Z below #[Value.ref b] s) (entryFrame m ([Value.ref b] : List Value).toArray 4) := by
  obtain ⟨hx, hb, hr, hml, hown0, hts0, hX, hbl, hlocks, hgv⟩ := id C0
  have hown : s.vm.findClass RL = some m.cls := hown0
  have hts : ∀ w ∈ vlaw, w.before #[Value.ref b] s = true := fun w h => hts0 w (vlaw_in w h)
  have hA : ∀ q : Nat, s.heap.size ≤ q → (fun q : Nat => s.heap.size ≤ q) q := fun _ h => h
  have hbA : ¬ (fun q : Nat => s.heap.size ≤ q) b := Nat.not_le.mpr hbl
  obtain ⟨D, kc, hE⟩ := law_EK hts0
  have hK := hE.1
  obtain ⟨A, hAd⟩ : ∃ A : Nat → Prop, A = (fun q : Nat => s.heap.size ≤ q) := ⟨_, rfl⟩
  have hA : ∀ q : Nat, s.heap.size ≤ q → A q := fun q h => by rw [hAd]; exact h
  have hAi : ∀ q : Nat, A q → s.heap.size ≤ q := fun q h => by rw [hAd] at h; exact h
  have hbA : ¬ A b := by rw [hAd]; exact Nat.not_le.mpr hbl
  have hS : va_S A s.heap s.heap [] := va_S.rf
  have hP : va_P D vwCl [] s.heap := fun k q h => by simp at h
  have hD : va_D A [] := ⟨fun i j p q h => by simp at h, fun k q h => by simp at h⟩
  have hl := lv_entry ([.ref b]) (n := 4) (Nat.le_of_ble_eq_true rfl)
  rw [lg_entry_eq]
  generalize (lg_sl ([.ref b]) ++ List.replicate (4 - (lg_sl ([.ref b])).length) Slot.unset).toArray = ls at hl ⊢
  have hl : lv_has ls 4 [(0, .ref b)] := hl
  refine va_new (ci := 10) (fs := [.null, .null, .null, .null, .null, .null, .null, .null, .null, .null, .null, .null, .null, .int 0, .int 0, .int 0, .long 0, .long 0, .int 0, .int 0]) (C := RX11) (T := TX11) (N := 20) hx hb hts ilaw_X11 tyX11 tyX11_ok hown (hts (.classLink RL 7 RX11) (List.mem_of_getElem? (i := 57) rfl)) (hts (.instantiable RX11 20) (List.mem_of_getElem? (i := 58) rfl)) (hts (.initialized RX11) (List.mem_of_getElem? (i := 42) rfl)) hK hP hD hS hA rfl (by decide +kernel) (Nat.le_of_ble_eq_true rfl) (Nat.le_of_ble_eq_true rfl) dL_law_0 (fun q0_1 H hP hD hS => ?_)
  have hP : va_P D vwCl [(q0_1, .inr (10, [.null, .null, .null, .null, .null, .null, .null, .null, .null, .null, .null, .null, .null, .int 0, .int 0, .int 0, .long 0, .long 0, .int 0, .int 0]))] H := hP
  have hD : va_D A [(q0_1, .inr (10, [.null, .null, .null, .null, .null, .null, .null, .null, .null, .null, .null, .null, .null, .int 0, .int 0, .int 0, .long 0, .long 0, .int 0, .int 0]))] := hD
  refine W.widen (k := 1) (n := 20) (Nat.le_of_ble_eq_true rfl) (Nat.le_of_ble_eq_true rfl) ?_
  refine lv_dup hx hb dL_law_3 rfl ?_
  have hPc := hP.sub (ws' := [(q0_1, .inr (10, [.null, .null, .null, .null, .null, .null, .null, .null, .null, .null, .null, .null, .null, .int 0, .int 0, .int 0, .long 0, .long 0, .int 0, .int 0]))]) [0] rfl
  have hDc := hD.sub (ws' := [(q0_1, .inr (10, [.null, .null, .null, .null, .null, .null, .null, .null, .null, .null, .null, .null, .null, .int 0, .int 0, .int 0, .long 0, .long 0, .int 0, .int 0]))]) [0] (by decide) rfl
  have hFc := va_free (wc := [(q0_1, .inr (10, [.null, .null, .null, .null, .null, .null, .null, .null, .null, .null, .null, .null, .null, .int 0, .int 0, .int 0, .long 0, .long 0, .int 0, .int 0]))]) hD hS hA [0] rfl
  refine va_callv (va_runI (As := []) (rest := [.ref q0_1]) ⟨hx, hb, hml, hown, hts⟩ (i_Salt l D kc H.size q0_1) (cwI 0 hts glaw_9_i_Salt rfl rfl rfl (hts (.initialized RX11) (List.mem_of_getElem? (i := 42) rfl)) (hts (.methodLink RL 9 yX11_init) (List.mem_of_getElem? (i := 59) rfl)) (hts (.instanceMethod yX11_init) (List.mem_of_getElem? (i := 60) rfl)) rfl (by decide +kernel) ⟨Nat.le_of_ble_eq_true rfl, Nat.le_of_ble_eq_true rfl⟩) (preS_ok hPc hDc hE) rfl rfl hl.1 rfl (lv_room (Nat.le_of_ble_eq_true rfl)) dL_law_4 ⟨Nat.le_of_ble_eq_true rfl, Nat.le_of_ble_eq_true rfl⟩) hS (fun q _ h => hFc q h) hFc (fun u9 t9 H locs ht hvm hw hB hz1 hk1 hS => ?_)
  obtain ⟨xa, na, pa, ka, mb, mc, hu_xa, hP1, hD1⟩ := hB
  rw [ht] at hP1
  obtain ⟨hP8, hD8⟩ := va_join (wr := []) (w1 := [(xa 0, .inr (10, [.ref (xa 1), .ref (xa 2), .ref (na 0), .ref (pa 0), .ref (xa 3), .ref (na 1), .ref (na 2), .ref (xa 4), .ref (xa 5), .ref (xa 6), .ref (xa 7), .ref (xa 8), .ref (xa 9), .int 0, .int 0, .int 0, .long 0, .long 1, .int (-1), .int (-1)])), (xa 1, .inl (kc 0, 900, .inl z0)), (xa 2, .inl (kc 3, 4, .inr (.inr (.inr (.inr (tg xa)))))), (xa 3, .inl (kc 4, 3, .inr (.inr (.inr (.inr (mg (ka 0) mb mc)))))), (xa 4, .inr (3, [.ref (xa 22), .int 0, .int 0, .int 0, .int 0, .int 0, .int 0, .int 0, .int 0])), (xa 6, .inr (0, [.ref (xa 18), .ref (xa 19), .ref (xa 20), .int 0, .int 0])), (xa 7, .inr (7, [.ref (xa 1), .int 0, .int 0, .int 0, .int 0, .int 0, .long 0, .int 0, .int 0, .int (-1)])), (xa 8, .inr (6, [.ref (xa 7), .ref (pa 0), .ref (pa 1), .int 0, .int 0])), (xa 9, .inr (1, [.ref (xa 7), .ref (na 1), .ref (pa 3), .ref (xa 21), .int 0])), (xa 10, .inr (8, [.ref (xa 14), .int 0, .int 0, .int 0])), (xa 11, .inr (8, [.ref (xa 15), .int 0, .int 0, .int 0])), (xa 12, .inr (8, [.ref (xa 16), .int 0, .int 0, .int 0])), (xa 13, .inr (8, [.ref (xa 17), .int 0, .int 0, .int 0])), (xa 14, .inl (kc 1, 60, .inr (.inl z1))), (xa 15, .inl (kc 1, 60, .inr (.inl z1))), (xa 16, .inl (kc 1, 60, .inr (.inl z1))), (xa 17, .inl (kc 1, 60, .inr (.inl z1))), (na 0, .inr (9, [.ref (na 1), .ref (na 2), .ref (na 3)])), (na 1, .inr (4, [.ref (na 4), .ref (na 5), .ref (na 6), .ref (na 7), .ref (na 8), .ref (na 9), .ref (na 10), .ref (na 11), .ref (na 12), .ref (na 13), .ref (na 14), .ref (na 15), .int 0, .int 0, .int 0, .int 0, .int 0, .int 0, .int 5, .int 0])), (na 2, .inr (2, [.ref (na 16), .ref (na 17), .ref (na 18), .ref (na 19), .ref (na 20), .int 0, .int 0, .int 0, .int 0, .int 0, .int 0, .int 0, .int 0])), (na 3, .inr (5, [.ref (na 21), .ref (na 22), .ref (na 23), .ref (na 24), .ref (na 25), .ref (na 26), .int 0, .int 0, .int 0])), (na 4, .inl (kc 1, 24, .inr (.inl z1))), (na 5, .inl (kc 0, 24, .inl z0)), (na 6, .inl (kc 0, 24, .inl z0)), (na 7, .inl (kc 0, 8, .inl z0)), (na 8, .inl (kc 0, 8, .inl z0)), (na 9, .inl (kc 0, 8, .inl z0)), (na 10, .inl (kc 0, 8, .inl z0)), (na 11, .inl (kc 0, 4, .inl z0)), (na 12, .inl (kc 0, 4, .inl z0)), (na 13, .inl (kc 0, 4, .inl z0)), (na 14, .inl (kc 0, 4, .inl z0)), (na 15, .inl (kc 0, 4, .inl z0)), (na 16, .inl (kc 0, 8, .inl z0)), (na 17, .inl (kc 0, 8, .inl z0)), (na 18, .inl (kc 0, 8, .inl z0)), (na 19, .inl (kc 0, 8, .inl z0)), (na 20, .inl (kc 0, 4, .inl z0)), (na 21, .inl (kc 0, 60, .inl z0)), (na 22, .inl (kc 0, 60, .inl z0)), (na 23, .inl (kc 0, 60, .inl z0)), (na 24, .inl (kc 0, 60, .inl z0)), (na 25, .inl (kc 0, 60, .inl z0)), (na 26, .inl (kc 0, 60, .inl z0)), (pa 0, .inr (9, [.ref (pa 1), .ref (pa 2), .ref (pa 3)])), (pa 1, .inr (4, [.ref (pa 4), .ref (pa 5), .ref (pa 6), .ref (pa 7), .ref (pa 8), .ref (pa 9), .ref (pa 10), .ref (pa 11), .ref (pa 12), .ref (pa 13), .ref (pa 14), .ref (pa 15), .int 0, .int 0, .int 0, .int 0, .int 0, .int 0, .int 5, .int 0])), (pa 2, .inr (2, [.ref (pa 16), .ref (pa 17), .ref (pa 18), .ref (pa 19), .ref (pa 20), .int 0, .int 0, .int 0, .int 0, .int 0, .int 0, .int 0, .int 0])), (pa 3, .inr (5, [.ref (pa 21), .ref (pa 22), .ref (pa 23), .ref (pa 24), .ref (pa 25), .ref (pa 26), .int 0, .int 0, .int 0])), (pa 4, .inl (kc 1, 24, .inr (.inl z1))), (pa 5, .inl (kc 0, 24, .inl z0)), (pa 6, .inl (kc 0, 24, .inl z0)), (pa 7, .inl (kc 0, 8, .inl z0)), (pa 8, .inl (kc 0, 8, .inl z0)), (pa 9, .inl (kc 0, 8, .inl z0)), (pa 10, .inl (kc 0, 8, .inl z0)), (pa 11, .inl (kc 0, 4, .inl z0)), (pa 12, .inl (kc 0, 4, .inl z0)), (pa 13, .inl (kc 0, 4, .inl z0)), (pa 14, .inl (kc 0, 4, .inl z0)), (pa 15, .inl (kc 0, 4, .inl z0)), (pa 16, .inl (kc 0, 8, .inl z0)), (pa 17, .inl (kc 0, 8, .inl z0)), (pa 18, .inl (kc 0, 8, .inl z0)), (pa 19, .inl (kc 0, 8, .inl z0)), (pa 20, .inl (kc 0, 4, .inl z0)), (pa 21, .inl (kc 0, 60, .inl z0)), (pa 22, .inl (kc 0, 60, .inl z0)), (pa 23, .inl (kc 0, 60, .inl z0)), (pa 24, .inl (kc 0, 60, .inl z0)), (pa 25, .inl (kc 0, 60, .inl z0)), (pa 26, .inl (kc 0, 60, .inl z0)), (ka 0, .inr (9, [.ref (ka 1), .ref (ka 2), .ref (ka 3)])), (ka 1, .inr (4, [.ref (ka 4), .ref (ka 5), .ref (ka 6), .ref (ka 7), .ref (ka 8), .ref (ka 9), .ref (ka 10), .ref (ka 11), .ref (ka 12), .ref (ka 13), .ref (ka 14), .ref (ka 15), .int 0, .int 0, .int 0, .int 0, .int 0, .int 0, .int 5, .int 0])), (ka 2, .inr (2, [.ref (ka 16), .ref (ka 17), .ref (ka 18), .ref (ka 19), .ref (ka 20), .int 0, .int 0, .int 0, .int 0, .int 0, .int 0, .int 0, .int 0])), (ka 3, .inr (5, [.ref (ka 21), .ref (ka 22), .ref (ka 23), .ref (ka 24), .ref (ka 25), .ref (ka 26), .int 0, .int 0, .int 0])), (ka 4, .inl (kc 1, 24, .inr (.inl z1))), (ka 5, .inl (kc 0, 24, .inl z0)), (ka 6, .inl (kc 0, 24, .inl z0)), (ka 7, .inl (kc 0, 8, .inl z0)), (ka 8, .inl (kc 0, 8, .inl z0)), (ka 9, .inl (kc 0, 8, .inl z0)), (ka 10, .inl (kc 0, 8, .inl z0)), (ka 11, .inl (kc 0, 4, .inl z0)), (ka 12, .inl (kc 0, 4, .inl z0)), (ka 13, .inl (kc 0, 4, .inl z0)), (ka 14, .inl (kc 0, 4, .inl z0)), (ka 15, .inl (kc 0, 4, .inl z0)), (ka 16, .inl (kc 0, 8, .inl z0)), (ka 17, .inl (kc 0, 8, .inl z0)), (ka 18, .inl (kc 0, 8, .inl z0)), (ka 19, .inl (kc 0, 8, .inl z0)), (ka 20, .inl (kc 0, 4, .inl z0)), (ka 21, .inl (kc 0, 60, .inl z0)), (ka 22, .inl (kc 0, 60, .inl z0)), (ka 23, .inl (kc 0, 60, .inl z0)), (ka 24, .inl (kc 0, 60, .inl z0)), (ka 25, .inl (kc 0, 60, .inl z0)), (ka 26, .inl (kc 0, 60, .inl z0))]) hP hD [0] [] rfl rfl (by decide) (by decide) hk1 hFc hP1 hD1
  subst hu_xa
  refine W.widen (k := 159) (n := 4198) (Nat.le_of_ble_eq_true rfl) (Nat.le_of_ble_eq_true rfl) ?_
  have hP : va_P D vwCl [(xa 0, .inr (10, [.ref (xa 1), .ref (xa 2), .ref (na 0), .ref (pa 0), .ref (xa 3), .ref (na 1), .ref (na 2), .ref (xa 4), .ref (xa 5), .ref (xa 6), .ref (xa 7), .ref (xa 8), .ref (xa 9), .int 0, .int 0, .int 0, .long 0, .long 1, .int (-1), .int (-1)])), (xa 1, .inl (kc 0, 900, .inl z0)), (xa 2, .inl (kc 3, 4, .inr (.inr (.inr (.inr (tg xa)))))), (xa 3, .inl (kc 4, 3, .inr (.inr (.inr (.inr (mg (ka 0) mb mc)))))), (xa 4, .inr (3, [.ref (xa 22), .int 0, .int 0, .int 0, .int 0, .int 0, .int 0, .int 0, .int 0])), (xa 6, .inr (0, [.ref (xa 18), .ref (xa 19), .ref (xa 20), .int 0, .int 0])), (xa 7, .inr (7, [.ref (xa 1), .int 0, .int 0, .int 0, .int 0, .int 0, .long 0, .int 0, .int 0, .int (-1)])), (xa 8, .inr (6, [.ref (xa 7), .ref (pa 0), .ref (pa 1), .int 0, .int 0])), (xa 9, .inr (1, [.ref (xa 7), .ref (na 1), .ref (pa 3), .ref (xa 21), .int 0])), (xa 10, .inr (8, [.ref (xa 14), .int 0, .int 0, .int 0])), (xa 11, .inr (8, [.ref (xa 15), .int 0, .int 0, .int 0])), (xa 12, .inr (8, [.ref (xa 16), .int 0, .int 0, .int 0])), (xa 13, .inr (8, [.ref (xa 17), .int 0, .int 0, .int 0])), (xa 14, .inl (kc 1, 60, .inr (.inl z1))), (xa 15, .inl (kc 1, 60, .inr (.inl z1))), (xa 16, .inl (kc 1, 60, .inr (.inl z1))), (xa 17, .inl (kc 1, 60, .inr (.inl z1))), (na 0, .inr (9, [.ref (na 1), .ref (na 2), .ref (na 3)])), (na 1, .inr (4, [.ref (na 4), .ref (na 5), .ref (na 6), .ref (na 7), .ref (na 8), .ref (na 9), .ref (na 10), .ref (na 11), .ref (na 12), .ref (na 13), .ref (na 14), .ref (na 15), .int 0, .int 0, .int 0, .int 0, .int 0, .int 0, .int 5, .int 0])), (na 2, .inr (2, [.ref (na 16), .ref (na 17), .ref (na 18), .ref (na 19), .ref (na 20), .int 0, .int 0, .int 0, .int 0, .int 0, .int 0, .int 0, .int 0])), (na 3, .inr (5, [.ref (na 21), .ref (na 22), .ref (na 23), .ref (na 24), .ref (na 25), .ref (na 26), .int 0, .int 0, .int 0])), (na 4, .inl (kc 1, 24, .inr (.inl z1))), (na 5, .inl (kc 0, 24, .inl z0)), (na 6, .inl (kc 0, 24, .inl z0)), (na 7, .inl (kc 0, 8, .inl z0)), (na 8, .inl (kc 0, 8, .inl z0)), (na 9, .inl (kc 0, 8, .inl z0)), (na 10, .inl (kc 0, 8, .inl z0)), (na 11, .inl (kc 0, 4, .inl z0)), (na 12, .inl (kc 0, 4, .inl z0)), (na 13, .inl (kc 0, 4, .inl z0)), (na 14, .inl (kc 0, 4, .inl z0)), (na 15, .inl (kc 0, 4, .inl z0)), (na 16, .inl (kc 0, 8, .inl z0)), (na 17, .inl (kc 0, 8, .inl z0)), (na 18, .inl (kc 0, 8, .inl z0)), (na 19, .inl (kc 0, 8, .inl z0)), (na 20, .inl (kc 0, 4, .inl z0)), (na 21, .inl (kc 0, 60, .inl z0)), (na 22, .inl (kc 0, 60, .inl z0)), (na 23, .inl (kc 0, 60, .inl z0)), (na 24, .inl (kc 0, 60, .inl z0)), (na 25, .inl (kc 0, 60, .inl z0)), (na 26, .inl (kc 0, 60, .inl z0)), (pa 0, .inr (9, [.ref (pa 1), .ref (pa 2), .ref (pa 3)])), (pa 1, .inr (4, [.ref (pa 4), .ref (pa 5), .ref (pa 6), .ref (pa 7), .ref (pa 8), .ref (pa 9), .ref (pa 10), .ref (pa 11), .ref (pa 12), .ref (pa 13), .ref (pa 14), .ref (pa 15), .int 0, .int 0, .int 0, .int 0, .int 0, .int 0, .int 5, .int 0])), (pa 2, .inr (2, [.ref (pa 16), .ref (pa 17), .ref (pa 18), .ref (pa 19), .ref (pa 20), .int 0, .int 0, .int 0, .int 0, .int 0, .int 0, .int 0, .int 0])), (pa 3, .inr (5, [.ref (pa 21), .ref (pa 22), .ref (pa 23), .ref (pa 24), .ref (pa 25), .ref (pa 26), .int 0, .int 0, .int 0])), (pa 4, .inl (kc 1, 24, .inr (.inl z1))), (pa 5, .inl (kc 0, 24, .inl z0)), (pa 6, .inl (kc 0, 24, .inl z0)), (pa 7, .inl (kc 0, 8, .inl z0)), (pa 8, .inl (kc 0, 8, .inl z0)), (pa 9, .inl (kc 0, 8, .inl z0)), (pa 10, .inl (kc 0, 8, .inl z0)), (pa 11, .inl (kc 0, 4, .inl z0)), (pa 12, .inl (kc 0, 4, .inl z0)), (pa 13, .inl (kc 0, 4, .inl z0)), (pa 14, .inl (kc 0, 4, .inl z0)), (pa 15, .inl (kc 0, 4, .inl z0)), (pa 16, .inl (kc 0, 8, .inl z0)), (pa 17, .inl (kc 0, 8, .inl z0)), (pa 18, .inl (kc 0, 8, .inl z0)), (pa 19, .inl (kc 0, 8, .inl z0)), (pa 20, .inl (kc 0, 4, .inl z0)), (pa 21, .inl (kc 0, 60, .inl z0)), (pa 22, .inl (kc 0, 60, .inl z0)), (pa 23, .inl (kc 0, 60, .inl z0)), (pa 24, .inl (kc 0, 60, .inl z0)), (pa 25, .inl (kc 0, 60, .inl z0)), (pa 26, .inl (kc 0, 60, .inl z0)), (ka 0, .inr (9, [.ref (ka 1), .ref (ka 2), .ref (ka 3)])), (ka 1, .inr (4, [.ref (ka 4), .ref (ka 5), .ref (ka 6), .ref (ka 7), .ref (ka 8), .ref (ka 9), .ref (ka 10), .ref (ka 11), .ref (ka 12), .ref (ka 13), .ref (ka 14), .ref (ka 15), .int 0, .int 0, .int 0, .int 0, .int 0, .int 0, .int 5, .int 0])), (ka 2, .inr (2, [.ref (ka 16), .ref (ka 17), .ref (ka 18), .ref (ka 19), .ref (ka 20), .int 0, .int 0, .int 0, .int 0, .int 0, .int 0, .int 0, .int 0])), (ka 3, .inr (5, [.ref (ka 21), .ref (ka 22), .ref (ka 23), .ref (ka 24), .ref (ka 25), .ref (ka 26), .int 0, .int 0, .int 0])), (ka 4, .inl (kc 1, 24, .inr (.inl z1))), (ka 5, .inl (kc 0, 24, .inl z0)), (ka 6, .inl (kc 0, 24, .inl z0)), (ka 7, .inl (kc 0, 8, .inl z0)), (ka 8, .inl (kc 0, 8, .inl z0)), (ka 9, .inl (kc 0, 8, .inl z0)), (ka 10, .inl (kc 0, 8, .inl z0)), (ka 11, .inl (kc 0, 4, .inl z0)), (ka 12, .inl (kc 0, 4, .inl z0)), (ka 13, .inl (kc 0, 4, .inl z0)), (ka 14, .inl (kc 0, 4, .inl z0)), (ka 15, .inl (kc 0, 4, .inl z0)), (ka 16, .inl (kc 0, 8, .inl z0)), (ka 17, .inl (kc 0, 8, .inl z0)), (ka 18, .inl (kc 0, 8, .inl z0)), (ka 19, .inl (kc 0, 8, .inl z0)), (ka 20, .inl (kc 0, 4, .inl z0)), (ka 21, .inl (kc 0, 60, .inl z0)), (ka 22, .inl (kc 0, 60, .inl z0)), (ka 23, .inl (kc 0, 60, .inl z0)), (ka 24, .inl (kc 0, 60, .inl z0)), (ka 25, .inl (kc 0, 60, .inl z0)), (ka 26, .inl (kc 0, 60, .inl z0))] H := hP8
  have hD : va_D A [(xa 0, .inr (10, [.ref (xa 1), .ref (xa 2), .ref (na 0), .ref (pa 0), .ref (xa 3), .ref (na 1), .ref (na 2), .ref (xa 4), .ref (xa 5), .ref (xa 6), .ref (xa 7), .ref (xa 8), .ref (xa 9), .int 0, .int 0, .int 0, .long 0, .long 1, .int (-1), .int (-1)])), (xa 1, .inl (kc 0, 900, .inl z0)), (xa 2, .inl (kc 3, 4, .inr (.inr (.inr (.inr (tg xa)))))), (xa 3, .inl (kc 4, 3, .inr (.inr (.inr (.inr (mg (ka 0) mb mc)))))), (xa 4, .inr (3, [.ref (xa 22), .int 0, .int 0, .int 0, .int 0, .int 0, .int 0, .int 0, .int 0])), (xa 6, .inr (0, [.ref (xa 18), .ref (xa 19), .ref (xa 20), .int 0, .int 0])), (xa 7, .inr (7, [.ref (xa 1), .int 0, .int 0, .int 0, .int 0, .int 0, .long 0, .int 0, .int 0, .int (-1)])), (xa 8, .inr (6, [.ref (xa 7), .ref (pa 0), .ref (pa 1), .int 0, .int 0])), (xa 9, .inr (1, [.ref (xa 7), .ref (na 1), .ref (pa 3), .ref (xa 21), .int 0])), (xa 10, .inr (8, [.ref (xa 14), .int 0, .int 0, .int 0])), (xa 11, .inr (8, [.ref (xa 15), .int 0, .int 0, .int 0])), (xa 12, .inr (8, [.ref (xa 16), .int 0, .int 0, .int 0])), (xa 13, .inr (8, [.ref (xa 17), .int 0, .int 0, .int 0])), (xa 14, .inl (kc 1, 60, .inr (.inl z1))), (xa 15, .inl (kc 1, 60, .inr (.inl z1))), (xa 16, .inl (kc 1, 60, .inr (.inl z1))), (xa 17, .inl (kc 1, 60, .inr (.inl z1))), (na 0, .inr (9, [.ref (na 1), .ref (na 2), .ref (na 3)])), (na 1, .inr (4, [.ref (na 4), .ref (na 5), .ref (na 6), .ref (na 7), .ref (na 8), .ref (na 9), .ref (na 10), .ref (na 11), .ref (na 12), .ref (na 13), .ref (na 14), .ref (na 15), .int 0, .int 0, .int 0, .int 0, .int 0, .int 0, .int 5, .int 0])), (na 2, .inr (2, [.ref (na 16), .ref (na 17), .ref (na 18), .ref (na 19), .ref (na 20), .int 0, .int 0, .int 0, .int 0, .int 0, .int 0, .int 0, .int 0])), (na 3, .inr (5, [.ref (na 21), .ref (na 22), .ref (na 23), .ref (na 24), .ref (na 25), .ref (na 26), .int 0, .int 0, .int 0])), (na 4, .inl (kc 1, 24, .inr (.inl z1))), (na 5, .inl (kc 0, 24, .inl z0)), (na 6, .inl (kc 0, 24, .inl z0)), (na 7, .inl (kc 0, 8, .inl z0)), (na 8, .inl (kc 0, 8, .inl z0)), (na 9, .inl (kc 0, 8, .inl z0)), (na 10, .inl (kc 0, 8, .inl z0)), (na 11, .inl (kc 0, 4, .inl z0)), (na 12, .inl (kc 0, 4, .inl z0)), (na 13, .inl (kc 0, 4, .inl z0)), (na 14, .inl (kc 0, 4, .inl z0)), (na 15, .inl (kc 0, 4, .inl z0)), (na 16, .inl (kc 0, 8, .inl z0)), (na 17, .inl (kc 0, 8, .inl z0)), (na 18, .inl (kc 0, 8, .inl z0)), (na 19, .inl (kc 0, 8, .inl z0)), (na 20, .inl (kc 0, 4, .inl z0)), (na 21, .inl (kc 0, 60, .inl z0)), (na 22, .inl (kc 0, 60, .inl z0)), (na 23, .inl (kc 0, 60, .inl z0)), (na 24, .inl (kc 0, 60, .inl z0)), (na 25, .inl (kc 0, 60, .inl z0)), (na 26, .inl (kc 0, 60, .inl z0)), (pa 0, .inr (9, [.ref (pa 1), .ref (pa 2), .ref (pa 3)])), (pa 1, .inr (4, [.ref (pa 4), .ref (pa 5), .ref (pa 6), .ref (pa 7), .ref (pa 8), .ref (pa 9), .ref (pa 10), .ref (pa 11), .ref (pa 12), .ref (pa 13), .ref (pa 14), .ref (pa 15), .int 0, .int 0, .int 0, .int 0, .int 0, .int 0, .int 5, .int 0])), (pa 2, .inr (2, [.ref (pa 16), .ref (pa 17), .ref (pa 18), .ref (pa 19), .ref (pa 20), .int 0, .int 0, .int 0, .int 0, .int 0, .int 0, .int 0, .int 0])), (pa 3, .inr (5, [.ref (pa 21), .ref (pa 22), .ref (pa 23), .ref (pa 24), .ref (pa 25), .ref (pa 26), .int 0, .int 0, .int 0])), (pa 4, .inl (kc 1, 24, .inr (.inl z1))), (pa 5, .inl (kc 0, 24, .inl z0)), (pa 6, .inl (kc 0, 24, .inl z0)), (pa 7, .inl (kc 0, 8, .inl z0)), (pa 8, .inl (kc 0, 8, .inl z0)), (pa 9, .inl (kc 0, 8, .inl z0)), (pa 10, .inl (kc 0, 8, .inl z0)), (pa 11, .inl (kc 0, 4, .inl z0)), (pa 12, .inl (kc 0, 4, .inl z0)), (pa 13, .inl (kc 0, 4, .inl z0)), (pa 14, .inl (kc 0, 4, .inl z0)), (pa 15, .inl (kc 0, 4, .inl z0)), (pa 16, .inl (kc 0, 8, .inl z0)), (pa 17, .inl (kc 0, 8, .inl z0)), (pa 18, .inl (kc 0, 8, .inl z0)), (pa 19, .inl (kc 0, 8, .inl z0)), (pa 20, .inl (kc 0, 4, .inl z0)), (pa 21, .inl (kc 0, 60, .inl z0)), (pa 22, .inl (kc 0, 60, .inl z0)), (pa 23, .inl (kc 0, 60, .inl z0)), (pa 24, .inl (kc 0, 60, .inl z0)), (pa 25, .inl (kc 0, 60, .inl z0)), (pa 26, .inl (kc 0, 60, .inl z0)), (ka 0, .inr (9, [.ref (ka 1), .ref (ka 2), .ref (ka 3)])), (ka 1, .inr (4, [.ref (ka 4), .ref (ka 5), .ref (ka 6), .ref (ka 7), .ref (ka 8), .ref (ka 9), .ref (ka 10), .ref (ka 11), .ref (ka 12), .ref (ka 13), .ref (ka 14), .ref (ka 15), .int 0, .int 0, .int 0, .int 0, .int 0, .int 0, .int 5, .int 0])), (ka 2, .inr (2, [.ref (ka 16), .ref (ka 17), .ref (ka 18), .ref (ka 19), .ref (ka 20), .int 0, .int 0, .int 0, .int 0, .int 0, .int 0, .int 0, .int 0])), (ka 3, .inr (5, [.ref (ka 21), .ref (ka 22), .ref (ka 23), .ref (ka 24), .ref (ka 25), .ref (ka 26), .int 0, .int 0, .int 0])), (ka 4, .inl (kc 1, 24, .inr (.inl z1))), (ka 5, .inl (kc 0, 24, .inl z0)), (ka 6, .inl (kc 0, 24, .inl z0)), (ka 7, .inl (kc 0, 8, .inl z0)), (ka 8, .inl (kc 0, 8, .inl z0)), (ka 9, .inl (kc 0, 8, .inl z0)), (ka 10, .inl (kc 0, 8, .inl z0)), (ka 11, .inl (kc 0, 4, .inl z0)), (ka 12, .inl (kc 0, 4, .inl z0)), (ka 13, .inl (kc 0, 4, .inl z0)), (ka 14, .inl (kc 0, 4, .inl z0)), (ka 15, .inl (kc 0, 4, .inl z0)), (ka 16, .inl (kc 0, 8, .inl z0)), (ka 17, .inl (kc 0, 8, .inl z0)), (ka 18, .inl (kc 0, 8, .inl z0)), (ka 19, .inl (kc 0, 8, .inl z0)), (ka 20, .inl (kc 0, 4, .inl z0)), (ka 21, .inl (kc 0, 60, .inl z0)), (ka 22, .inl (kc 0, 60, .inl z0)), (ka 23, .inl (kc 0, 60, .inl z0)), (ka 24, .inl (kc 0, 60, .inl z0)), (ka 25, .inl (kc 0, 60, .inl z0)), (ka 26, .inl (kc 0, 60, .inl z0))] := hD8
  refine lv_astore_n (lv' := [(1, .ref (xa 0)), (0, .ref b)]) hx hb dL_law_7 rfl hl (by decide) rfl (fun ls hl => ?_)
  refine va_new (ci := 11) (fs := [.null, .null, .int 0, .long 0, .long 0, .null, .null, .null, .null, .null, .int 0, .int 0, .int 0, .int 0, .int 0, .int 0, .int 0, .int 0, .int 0, .int 0, .int 0, .null, .int 0, .int 0, .int 0, .int 0, .int 0, .int 0, .null, .int 0, .int 0, .null, .null, .null, .int 0, .int 0]) (C := RX12) (T := TX12) (N := 36) hx hb hts ilaw_X12 tyX12 tyX12_ok hown (hts (.classLink RL 10 RX12) (List.mem_of_getElem? (i := 646) rfl)) (hts (.instantiable RX12 36) (List.mem_of_getElem? (i := 647) rfl)) (hts (.initialized RX12) (List.mem_of_getElem? (i := 53) rfl)) hK hP hD hS hA rfl (by decide +kernel) (Nat.le_of_ble_eq_true rfl) (Nat.le_of_ble_eq_true rfl) dL_law_8 (fun q8_8 H hP hD hS => ?_)
  have hP : va_P D vwCl [(xa 0, .inr (10, [.ref (xa 1), .ref (xa 2), .ref (na 0), .ref (pa 0), .ref (xa 3), .ref (na 1), .ref (na 2), .ref (xa 4), .ref (xa 5), .ref (xa 6), .ref (xa 7), .ref (xa 8), .ref (xa 9), .int 0, .int 0, .int 0, .long 0, .long 1, .int (-1), .int (-1)])), (xa 1, .inl (kc 0, 900, .inl z0)), (xa 2, .inl (kc 3, 4, .inr (.inr (.inr (.inr (tg xa)))))), (xa 3, .inl (kc 4, 3, .inr (.inr (.inr (.inr (mg (ka 0) mb mc)))))), (xa 4, .inr (3, [.ref (xa 22), .int 0, .int 0, .int 0, .int 0, .int 0, .int 0, .int 0, .int 0])), (xa 6, .inr (0, [.ref (xa 18), .ref (xa 19), .ref (xa 20), .int 0, .int 0])), (xa 7, .inr (7, [.ref (xa 1), .int 0, .int 0, .int 0, .int 0, .int 0, .long 0, .int 0, .int 0, .int (-1)])), (xa 8, .inr (6, [.ref (xa 7), .ref (pa 0), .ref (pa 1), .int 0, .int 0])), (xa 9, .inr (1, [.ref (xa 7), .ref (na 1), .ref (pa 3), .ref (xa 21), .int 0])), (xa 10, .inr (8, [.ref (xa 14), .int 0, .int 0, .int 0])), (xa 11, .inr (8, [.ref (xa 15), .int 0, .int 0, .int 0])), (xa 12, .inr (8, [.ref (xa 16), .int 0, .int 0, .int 0])), (xa 13, .inr (8, [.ref (xa 17), .int 0, .int 0, .int 0])), (xa 14, .inl (kc 1, 60, .inr (.inl z1))), (xa 15, .inl (kc 1, 60, .inr (.inl z1))), (xa 16, .inl (kc 1, 60, .inr (.inl z1))), (xa 17, .inl (kc 1, 60, .inr (.inl z1))), (na 0, .inr (9, [.ref (na 1), .ref (na 2), .ref (na 3)])), (na 1, .inr (4, [.ref (na 4), .ref (na 5), .ref (na 6), .ref (na 7), .ref (na 8), .ref (na 9), .ref (na 10), .ref (na 11), .ref (na 12), .ref (na 13), .ref (na 14), .ref (na 15), .int 0, .int 0, .int 0, .int 0, .int 0, .int 0, .int 5, .int 0])), (na 2, .inr (2, [.ref (na 16), .ref (na 17), .ref (na 18), .ref (na 19), .ref (na 20), .int 0, .int 0, .int 0, .int 0, .int 0, .int 0, .int 0, .int 0])), (na 3, .inr (5, [.ref (na 21), .ref (na 22), .ref (na 23), .ref (na 24), .ref (na 25), .ref (na 26), .int 0, .int 0, .int 0])), (na 4, .inl (kc 1, 24, .inr (.inl z1))), (na 5, .inl (kc 0, 24, .inl z0)), (na 6, .inl (kc 0, 24, .inl z0)), (na 7, .inl (kc 0, 8, .inl z0)), (na 8, .inl (kc 0, 8, .inl z0)), (na 9, .inl (kc 0, 8, .inl z0)), (na 10, .inl (kc 0, 8, .inl z0)), (na 11, .inl (kc 0, 4, .inl z0)), (na 12, .inl (kc 0, 4, .inl z0)), (na 13, .inl (kc 0, 4, .inl z0)), (na 14, .inl (kc 0, 4, .inl z0)), (na 15, .inl (kc 0, 4, .inl z0)), (na 16, .inl (kc 0, 8, .inl z0)), (na 17, .inl (kc 0, 8, .inl z0)), (na 18, .inl (kc 0, 8, .inl z0)), (na 19, .inl (kc 0, 8, .inl z0)), (na 20, .inl (kc 0, 4, .inl z0)), (na 21, .inl (kc 0, 60, .inl z0)), (na 22, .inl (kc 0, 60, .inl z0)), (na 23, .inl (kc 0, 60, .inl z0)), (na 24, .inl (kc 0, 60, .inl z0)), (na 25, .inl (kc 0, 60, .inl z0)), (na 26, .inl (kc 0, 60, .inl z0)), (pa 0, .inr (9, [.ref (pa 1), .ref (pa 2), .ref (pa 3)])), (pa 1, .inr (4, [.ref (pa 4), .ref (pa 5), .ref (pa 6), .ref (pa 7), .ref (pa 8), .ref (pa 9), .ref (pa 10), .ref (pa 11), .ref (pa 12), .ref (pa 13), .ref (pa 14), .ref (pa 15), .int 0, .int 0, .int 0, .int 0, .int 0, .int 0, .int 5, .int 0])), (pa 2, .inr (2, [.ref (pa 16), .ref (pa 17), .ref (pa 18), .ref (pa 19), .ref (pa 20), .int 0, .int 0, .int 0, .int 0, .int 0, .int 0, .int 0, .int 0])), (pa 3, .inr (5, [.ref (pa 21), .ref (pa 22), .ref (pa 23), .ref (pa 24), .ref (pa 25), .ref (pa 26), .int 0, .int 0, .int 0])), (pa 4, .inl (kc 1, 24, .inr (.inl z1))), (pa 5, .inl (kc 0, 24, .inl z0)), (pa 6, .inl (kc 0, 24, .inl z0)), (pa 7, .inl (kc 0, 8, .inl z0)), (pa 8, .inl (kc 0, 8, .inl z0)), (pa 9, .inl (kc 0, 8, .inl z0)), (pa 10, .inl (kc 0, 8, .inl z0)), (pa 11, .inl (kc 0, 4, .inl z0)), (pa 12, .inl (kc 0, 4, .inl z0)), (pa 13, .inl (kc 0, 4, .inl z0)), (pa 14, .inl (kc 0, 4, .inl z0)), (pa 15, .inl (kc 0, 4, .inl z0)), (pa 16, .inl (kc 0, 8, .inl z0)), (pa 17, .inl (kc 0, 8, .inl z0)), (pa 18, .inl (kc 0, 8, .inl z0)), (pa 19, .inl (kc 0, 8, .inl z0)), (pa 20, .inl (kc 0, 4, .inl z0)), (pa 21, .inl (kc 0, 60, .inl z0)), (pa 22, .inl (kc 0, 60, .inl z0)), (pa 23, .inl (kc 0, 60, .inl z0)), (pa 24, .inl (kc 0, 60, .inl z0)), (pa 25, .inl (kc 0, 60, .inl z0)), (pa 26, .inl (kc 0, 60, .inl z0)), (ka 0, .inr (9, [.ref (ka 1), .ref (ka 2), .ref (ka 3)])), (ka 1, .inr (4, [.ref (ka 4), .ref (ka 5), .ref (ka 6), .ref (ka 7), .ref (ka 8), .ref (ka 9), .ref (ka 10), .ref (ka 11), .ref (ka 12), .ref (ka 13), .ref (ka 14), .ref (ka 15), .int 0, .int 0, .int 0, .int 0, .int 0, .int 0, .int 5, .int 0])), (ka 2, .inr (2, [.ref (ka 16), .ref (ka 17), .ref (ka 18), .ref (ka 19), .ref (ka 20), .int 0, .int 0, .int 0, .int 0, .int 0, .int 0, .int 0, .int 0])), (ka 3, .inr (5, [.ref (ka 21), .ref (ka 22), .ref (ka 23), .ref (ka 24), .ref (ka 25), .ref (ka 26), .int 0, .int 0, .int 0])), (ka 4, .inl (kc 1, 24, .inr (.inl z1))), (ka 5, .inl (kc 0, 24, .inl z0)), (ka 6, .inl (kc 0, 24, .inl z0)), (ka 7, .inl (kc 0, 8, .inl z0)), (ka 8, .inl (kc 0, 8, .inl z0)), (ka 9, .inl (kc 0, 8, .inl z0)), (ka 10, .inl (kc 0, 8, .inl z0)), (ka 11, .inl (kc 0, 4, .inl z0)), (ka 12, .inl (kc 0, 4, .inl z0)), (ka 13, .inl (kc 0, 4, .inl z0)), (ka 14, .inl (kc 0, 4, .inl z0)), (ka 15, .inl (kc 0, 4, .inl z0)), (ka 16, .inl (kc 0, 8, .inl z0)), (ka 17, .inl (kc 0, 8, .inl z0)), (ka 18, .inl (kc 0, 8, .inl z0)), (ka 19, .inl (kc 0, 8, .inl z0)), (ka 20, .inl (kc 0, 4, .inl z0)), (ka 21, .inl (kc 0, 60, .inl z0)), (ka 22, .inl (kc 0, 60, .inl z0)), (ka 23, .inl (kc 0, 60, .inl z0)), (ka 24, .inl (kc 0, 60, .inl z0)), (ka 25, .inl (kc 0, 60, .inl z0)), (ka 26, .inl (kc 0, 60, .inl z0)), (q8_8, .inr (11, [.null, .null, .int 0, .long 0, .long 0, .null, .null, .null, .null, .null, .int 0, .int 0, .int 0, .int 0, .int 0, .int 0, .int 0, .int 0, .int 0, .int 0, .int 0, .null, .int 0, .int 0, .int 0, .int 0, .int 0, .int 0, .null, .int 0, .int 0, .null, .null, .null, .int 0, .int 0]))] H := hP
  have hD : va_D A [(xa 0, .inr (10, [.ref (xa 1), .ref (xa 2), .ref (na 0), .ref (pa 0), .ref (xa 3), .ref (na 1), .ref (na 2), .ref (xa 4), .ref (xa 5), .ref (xa 6), .ref (xa 7), .ref (xa 8), .ref (xa 9), .int 0, .int 0, .int 0, .long 0, .long 1, .int (-1), .int (-1)])), (xa 1, .inl (kc 0, 900, .inl z0)), (xa 2, .inl (kc 3, 4, .inr (.inr (.inr (.inr (tg xa)))))), (xa 3, .inl (kc 4, 3, .inr (.inr (.inr (.inr (mg (ka 0) mb mc)))))), (xa 4, .inr (3, [.ref (xa 22), .int 0, .int 0, .int 0, .int 0, .int 0, .int 0, .int 0, .int 0])), (xa 6, .inr (0, [.ref (xa 18), .ref (xa 19), .ref (xa 20), .int 0, .int 0])), (xa 7, .inr (7, [.ref (xa 1), .int 0, .int 0, .int 0, .int 0, .int 0, .long 0, .int 0, .int 0, .int (-1)])), (xa 8, .inr (6, [.ref (xa 7), .ref (pa 0), .ref (pa 1), .int 0, .int 0])), (xa 9, .inr (1, [.ref (xa 7), .ref (na 1), .ref (pa 3), .ref (xa 21), .int 0])), (xa 10, .inr (8, [.ref (xa 14), .int 0, .int 0, .int 0])), (xa 11, .inr (8, [.ref (xa 15), .int 0, .int 0, .int 0])), (xa 12, .inr (8, [.ref (xa 16), .int 0, .int 0, .int 0])), (xa 13, .inr (8, [.ref (xa 17), .int 0, .int 0, .int 0])), (xa 14, .inl (kc 1, 60, .inr (.inl z1))), (xa 15, .inl (kc 1, 60, .inr (.inl z1))), (xa 16, .inl (kc 1, 60, .inr (.inl z1))), (xa 17, .inl (kc 1, 60, .inr (.inl z1))), (na 0, .inr (9, [.ref (na 1), .ref (na 2), .ref (na 3)])), (na 1, .inr (4, [.ref (na 4), .ref (na 5), .ref (na 6), .ref (na 7), .ref (na 8), .ref (na 9), .ref (na 10), .ref (na 11), .ref (na 12), .ref (na 13), .ref (na 14), .ref (na 15), .int 0, .int 0, .int 0, .int 0, .int 0, .int 0, .int 5, .int 0])), (na 2, .inr (2, [.ref (na 16), .ref (na 17), .ref (na 18), .ref (na 19), .ref (na 20), .int 0, .int 0, .int 0, .int 0, .int 0, .int 0, .int 0, .int 0])), (na 3, .inr (5, [.ref (na 21), .ref (na 22), .ref (na 23), .ref (na 24), .ref (na 25), .ref (na 26), .int 0, .int 0, .int 0])), (na 4, .inl (kc 1, 24, .inr (.inl z1))), (na 5, .inl (kc 0, 24, .inl z0)), (na 6, .inl (kc 0, 24, .inl z0)), (na 7, .inl (kc 0, 8, .inl z0)), (na 8, .inl (kc 0, 8, .inl z0)), (na 9, .inl (kc 0, 8, .inl z0)), (na 10, .inl (kc 0, 8, .inl z0)), (na 11, .inl (kc 0, 4, .inl z0)), (na 12, .inl (kc 0, 4, .inl z0)), (na 13, .inl (kc 0, 4, .inl z0)), (na 14, .inl (kc 0, 4, .inl z0)), (na 15, .inl (kc 0, 4, .inl z0)), (na 16, .inl (kc 0, 8, .inl z0)), (na 17, .inl (kc 0, 8, .inl z0)), (na 18, .inl (kc 0, 8, .inl z0)), (na 19, .inl (kc 0, 8, .inl z0)), (na 20, .inl (kc 0, 4, .inl z0)), (na 21, .inl (kc 0, 60, .inl z0)), (na 22, .inl (kc 0, 60, .inl z0)), (na 23, .inl (kc 0, 60, .inl z0)), (na 24, .inl (kc 0, 60, .inl z0)), (na 25, .inl (kc 0, 60, .inl z0)), (na 26, .inl (kc 0, 60, .inl z0)), (pa 0, .inr (9, [.ref (pa 1), .ref (pa 2), .ref (pa 3)])), (pa 1, .inr (4, [.ref (pa 4), .ref (pa 5), .ref (pa 6), .ref (pa 7), .ref (pa 8), .ref (pa 9), .ref (pa 10), .ref (pa 11), .ref (pa 12), .ref (pa 13), .ref (pa 14), .ref (pa 15), .int 0, .int 0, .int 0, .int 0, .int 0, .int 0, .int 5, .int 0])), (pa 2, .inr (2, [.ref (pa 16), .ref (pa 17), .ref (pa 18), .ref (pa 19), .ref (pa 20), .int 0, .int 0, .int 0, .int 0, .int 0, .int 0, .int 0, .int 0])), (pa 3, .inr (5, [.ref (pa 21), .ref (pa 22), .ref (pa 23), .ref (pa 24), .ref (pa 25), .ref (pa 26), .int 0, .int 0, .int 0])), (pa 4, .inl (kc 1, 24, .inr (.inl z1))), (pa 5, .inl (kc 0, 24, .inl z0)), (pa 6, .inl (kc 0, 24, .inl z0)), (pa 7, .inl (kc 0, 8, .inl z0)), (pa 8, .inl (kc 0, 8, .inl z0)), (pa 9, .inl (kc 0, 8, .inl z0)), (pa 10, .inl (kc 0, 8, .inl z0)), (pa 11, .inl (kc 0, 4, .inl z0)), (pa 12, .inl (kc 0, 4, .inl z0)), (pa 13, .inl (kc 0, 4, .inl z0)), (pa 14, .inl (kc 0, 4, .inl z0)), (pa 15, .inl (kc 0, 4, .inl z0)), (pa 16, .inl (kc 0, 8, .inl z0)), (pa 17, .inl (kc 0, 8, .inl z0)), (pa 18, .inl (kc 0, 8, .inl z0)), (pa 19, .inl (kc 0, 8, .inl z0)), (pa 20, .inl (kc 0, 4, .inl z0)), (pa 21, .inl (kc 0, 60, .inl z0)), (pa 22, .inl (kc 0, 60, .inl z0)), (pa 23, .inl (kc 0, 60, .inl z0)), (pa 24, .inl (kc 0, 60, .inl z0)), (pa 25, .inl (kc 0, 60, .inl z0)), (pa 26, .inl (kc 0, 60, .inl z0)), (ka 0, .inr (9, [.ref (ka 1), .ref (ka 2), .ref (ka 3)])), (ka 1, .inr (4, [.ref (ka 4), .ref (ka 5), .ref (ka 6), .ref (ka 7), .ref (ka 8), .ref (ka 9), .ref (ka 10), .ref (ka 11), .ref (ka 12), .ref (ka 13), .ref (ka 14), .ref (ka 15), .int 0, .int 0, .int 0, .int 0, .int 0, .int 0, .int 5, .int 0])), (ka 2, .inr (2, [.ref (ka 16), .ref (ka 17), .ref (ka 18), .ref (ka 19), .ref (ka 20), .int 0, .int 0, .int 0, .int 0, .int 0, .int 0, .int 0, .int 0])), (ka 3, .inr (5, [.ref (ka 21), .ref (ka 22), .ref (ka 23), .ref (ka 24), .ref (ka 25), .ref (ka 26), .int 0, .int 0, .int 0])), (ka 4, .inl (kc 1, 24, .inr (.inl z1))), (ka 5, .inl (kc 0, 24, .inl z0)), (ka 6, .inl (kc 0, 24, .inl z0)), (ka 7, .inl (kc 0, 8, .inl z0)), (ka 8, .inl (kc 0, 8, .inl z0)), (ka 9, .inl (kc 0, 8, .inl z0)), (ka 10, .inl (kc 0, 8, .inl z0)), (ka 11, .inl (kc 0, 4, .inl z0)), (ka 12, .inl (kc 0, 4, .inl z0)), (ka 13, .inl (kc 0, 4, .inl z0)), (ka 14, .inl (kc 0, 4, .inl z0)), (ka 15, .inl (kc 0, 4, .inl z0)), (ka 16, .inl (kc 0, 8, .inl z0)), (ka 17, .inl (kc 0, 8, .inl z0)), (ka 18, .inl (kc 0, 8, .inl z0)), (ka 19, .inl (kc 0, 8, .inl z0)), (ka 20, .inl (kc 0, 4, .inl z0)), (ka 21, .inl (kc 0, 60, .inl z0)), (ka 22, .inl (kc 0, 60, .inl z0)), (ka 23, .inl (kc 0, 60, .inl z0)), (ka 24, .inl (kc 0, 60, .inl z0)), (ka 25, .inl (kc 0, 60, .inl z0)), (ka 26, .inl (kc 0, 60, .inl z0)), (q8_8, .inr (11, [.null, .null, .int 0, .long 0, .long 0, .null, .null, .null, .null, .null, .int 0, .int 0, .int 0, .int 0, .int 0, .int 0, .int 0, .int 0, .int 0, .int 0, .int 0, .null, .int 0, .int 0, .int 0, .int 0, .int 0, .int 0, .null, .int 0, .int 0, .null, .null, .null, .int 0, .int 0]))] := hD
  refine W.widen (k := 160) (n := 4234) (Nat.le_of_ble_eq_true rfl) (Nat.le_of_ble_eq_true rfl) ?_
  refine lv_dup hx hb dL_law_11 rfl ?_
  have hPc := hP.sub (ws' := [(q8_8, .inr (11, [.null, .null, .int 0, .long 0, .long 0, .null, .null, .null, .null, .null, .int 0, .int 0, .int 0, .int 0, .int 0, .int 0, .int 0, .int 0, .int 0, .int 0, .int 0, .null, .int 0, .int 0, .int 0, .int 0, .int 0, .int 0, .null, .int 0, .int 0, .null, .null, .null, .int 0, .int 0]))]) [98] rfl
  have hDc := hD.sub (ws' := [(q8_8, .inr (11, [.null, .null, .int 0, .long 0, .long 0, .null, .null, .null, .null, .null, .int 0, .int 0, .int 0, .int 0, .int 0, .int 0, .int 0, .int 0, .int 0, .int 0, .int 0, .null, .int 0, .int 0, .int 0, .int 0, .int 0, .int 0, .null, .int 0, .int 0, .null, .null, .null, .int 0, .int 0]))]) [98] (by decide) rfl
  have hFc := va_free (wc := [(q8_8, .inr (11, [.null, .null, .int 0, .long 0, .long 0, .null, .null, .null, .null, .null, .int 0, .int 0, .int 0, .int 0, .int 0, .int 0, .int 0, .int 0, .int 0, .int 0, .int 0, .null, .int 0, .int 0, .int 0, .int 0, .int 0, .int 0, .null, .int 0, .int 0, .null, .null, .null, .int 0, .int 0]))]) hD hS hA [98] rfl
  refine va_callv (va_runI (As := []) (rest := [.ref q8_8]) ⟨hx, hb, hml, hown, hts⟩ (i_Model l D kc H.size q8_8) (cwI 0 hts glaw_12_i_Model rfl rfl rfl (hts (.initialized RX12) (List.mem_of_getElem? (i := 53) rfl)) (hts (.methodLink RL 12 yX12_init) (List.mem_of_getElem? (i := 648) rfl)) (hts (.instanceMethod yX12_init) (List.mem_of_getElem? (i := 649) rfl)) rfl (by decide +kernel) ⟨Nat.le_of_ble_eq_true rfl, Nat.le_of_ble_eq_true rfl⟩) (preS_ok hPc hDc hE) rfl rfl hl.1 rfl (lv_room (Nat.le_of_ble_eq_true rfl)) dL_law_12 ⟨Nat.le_of_ble_eq_true rfl, Nat.le_of_ble_eq_true rfl⟩) hS (fun q _ h => hFc q h) hFc (fun u9 t9 H locs ht hvm hw hB hz1 hk1 hS => ?_)
  obtain ⟨ma, hu_ma, hP1, hD1⟩ := hB
  rw [ht] at hP1
  obtain ⟨hP8, hD8⟩ := va_join (wr := [(xa 0, .inr (10, [.ref (xa 1), .ref (xa 2), .ref (na 0), .ref (pa 0), .ref (xa 3), .ref (na 1), .ref (na 2), .ref (xa 4), .ref (xa 5), .ref (xa 6), .ref (xa 7), .ref (xa 8), .ref (xa 9), .int 0, .int 0, .int 0, .long 0, .long 1, .int (-1), .int (-1)])), (xa 1, .inl (kc 0, 900, .inl z0)), (xa 2, .inl (kc 3, 4, .inr (.inr (.inr (.inr (tg xa)))))), (xa 3, .inl (kc 4, 3, .inr (.inr (.inr (.inr (mg (ka 0) mb mc)))))), (xa 4, .inr (3, [.ref (xa 22), .int 0, .int 0, .int 0, .int 0, .int 0, .int 0, .int 0, .int 0])), (xa 6, .inr (0, [.ref (xa 18), .ref (xa 19), .ref (xa 20), .int 0, .int 0])), (xa 7, .inr (7, [.ref (xa 1), .int 0, .int 0, .int 0, .int 0, .int 0, .long 0, .int 0, .int 0, .int (-1)])), (xa 8, .inr (6, [.ref (xa 7), .ref (pa 0), .ref (pa 1), .int 0, .int 0])), (xa 9, .inr (1, [.ref (xa 7), .ref (na 1), .ref (pa 3), .ref (xa 21), .int 0])), (xa 10, .inr (8, [.ref (xa 14), .int 0, .int 0, .int 0])), (xa 11, .inr (8, [.ref (xa 15), .int 0, .int 0, .int 0])), (xa 12, .inr (8, [.ref (xa 16), .int 0, .int 0, .int 0])), (xa 13, .inr (8, [.ref (xa 17), .int 0, .int 0, .int 0])), (xa 14, .inl (kc 1, 60, .inr (.inl z1))), (xa 15, .inl (kc 1, 60, .inr (.inl z1))), (xa 16, .inl (kc 1, 60, .inr (.inl z1))), (xa 17, .inl (kc 1, 60, .inr (.inl z1))), (na 0, .inr (9, [.ref (na 1), .ref (na 2), .ref (na 3)])), (na 1, .inr (4, [.ref (na 4), .ref (na 5), .ref (na 6), .ref (na 7), .ref (na 8), .ref (na 9), .ref (na 10), .ref (na 11), .ref (na 12), .ref (na 13), .ref (na 14), .ref (na 15), .int 0, .int 0, .int 0, .int 0, .int 0, .int 0, .int 5, .int 0])), (na 2, .inr (2, [.ref (na 16), .ref (na 17), .ref (na 18), .ref (na 19), .ref (na 20), .int 0, .int 0, .int 0, .int 0, .int 0, .int 0, .int 0, .int 0])), (na 3, .inr (5, [.ref (na 21), .ref (na 22), .ref (na 23), .ref (na 24), .ref (na 25), .ref (na 26), .int 0, .int 0, .int 0])), (na 4, .inl (kc 1, 24, .inr (.inl z1))), (na 5, .inl (kc 0, 24, .inl z0)), (na 6, .inl (kc 0, 24, .inl z0)), (na 7, .inl (kc 0, 8, .inl z0)), (na 8, .inl (kc 0, 8, .inl z0)), (na 9, .inl (kc 0, 8, .inl z0)), (na 10, .inl (kc 0, 8, .inl z0)), (na 11, .inl (kc 0, 4, .inl z0)), (na 12, .inl (kc 0, 4, .inl z0)), (na 13, .inl (kc 0, 4, .inl z0)), (na 14, .inl (kc 0, 4, .inl z0)), (na 15, .inl (kc 0, 4, .inl z0)), (na 16, .inl (kc 0, 8, .inl z0)), (na 17, .inl (kc 0, 8, .inl z0)), (na 18, .inl (kc 0, 8, .inl z0)), (na 19, .inl (kc 0, 8, .inl z0)), (na 20, .inl (kc 0, 4, .inl z0)), (na 21, .inl (kc 0, 60, .inl z0)), (na 22, .inl (kc 0, 60, .inl z0)), (na 23, .inl (kc 0, 60, .inl z0)), (na 24, .inl (kc 0, 60, .inl z0)), (na 25, .inl (kc 0, 60, .inl z0)), (na 26, .inl (kc 0, 60, .inl z0)), (pa 0, .inr (9, [.ref (pa 1), .ref (pa 2), .ref (pa 3)])), (pa 1, .inr (4, [.ref (pa 4), .ref (pa 5), .ref (pa 6), .ref (pa 7), .ref (pa 8), .ref (pa 9), .ref (pa 10), .ref (pa 11), .ref (pa 12), .ref (pa 13), .ref (pa 14), .ref (pa 15), .int 0, .int 0, .int 0, .int 0, .int 0, .int 0, .int 5, .int 0])), (pa 2, .inr (2, [.ref (pa 16), .ref (pa 17), .ref (pa 18), .ref (pa 19), .ref (pa 20), .int 0, .int 0, .int 0, .int 0, .int 0, .int 0, .int 0, .int 0])), (pa 3, .inr (5, [.ref (pa 21), .ref (pa 22), .ref (pa 23), .ref (pa 24), .ref (pa 25), .ref (pa 26), .int 0, .int 0, .int 0])), (pa 4, .inl (kc 1, 24, .inr (.inl z1))), (pa 5, .inl (kc 0, 24, .inl z0)), (pa 6, .inl (kc 0, 24, .inl z0)), (pa 7, .inl (kc 0, 8, .inl z0)), (pa 8, .inl (kc 0, 8, .inl z0)), (pa 9, .inl (kc 0, 8, .inl z0)), (pa 10, .inl (kc 0, 8, .inl z0)), (pa 11, .inl (kc 0, 4, .inl z0)), (pa 12, .inl (kc 0, 4, .inl z0)), (pa 13, .inl (kc 0, 4, .inl z0)), (pa 14, .inl (kc 0, 4, .inl z0)), (pa 15, .inl (kc 0, 4, .inl z0)), (pa 16, .inl (kc 0, 8, .inl z0)), (pa 17, .inl (kc 0, 8, .inl z0)), (pa 18, .inl (kc 0, 8, .inl z0)), (pa 19, .inl (kc 0, 8, .inl z0)), (pa 20, .inl (kc 0, 4, .inl z0)), (pa 21, .inl (kc 0, 60, .inl z0)), (pa 22, .inl (kc 0, 60, .inl z0)), (pa 23, .inl (kc 0, 60, .inl z0)), (pa 24, .inl (kc 0, 60, .inl z0)), (pa 25, .inl (kc 0, 60, .inl z0)), (pa 26, .inl (kc 0, 60, .inl z0)), (ka 0, .inr (9, [.ref (ka 1), .ref (ka 2), .ref (ka 3)])), (ka 1, .inr (4, [.ref (ka 4), .ref (ka 5), .ref (ka 6), .ref (ka 7), .ref (ka 8), .ref (ka 9), .ref (ka 10), .ref (ka 11), .ref (ka 12), .ref (ka 13), .ref (ka 14), .ref (ka 15), .int 0, .int 0, .int 0, .int 0, .int 0, .int 0, .int 5, .int 0])), (ka 2, .inr (2, [.ref (ka 16), .ref (ka 17), .ref (ka 18), .ref (ka 19), .ref (ka 20), .int 0, .int 0, .int 0, .int 0, .int 0, .int 0, .int 0, .int 0])), (ka 3, .inr (5, [.ref (ka 21), .ref (ka 22), .ref (ka 23), .ref (ka 24), .ref (ka 25), .ref (ka 26), .int 0, .int 0, .int 0])), (ka 4, .inl (kc 1, 24, .inr (.inl z1))), (ka 5, .inl (kc 0, 24, .inl z0)), (ka 6, .inl (kc 0, 24, .inl z0)), (ka 7, .inl (kc 0, 8, .inl z0)), (ka 8, .inl (kc 0, 8, .inl z0)), (ka 9, .inl (kc 0, 8, .inl z0)), (ka 10, .inl (kc 0, 8, .inl z0)), (ka 11, .inl (kc 0, 4, .inl z0)), (ka 12, .inl (kc 0, 4, .inl z0)), (ka 13, .inl (kc 0, 4, .inl z0)), (ka 14, .inl (kc 0, 4, .inl z0)), (ka 15, .inl (kc 0, 4, .inl z0)), (ka 16, .inl (kc 0, 8, .inl z0)), (ka 17, .inl (kc 0, 8, .inl z0)), (ka 18, .inl (kc 0, 8, .inl z0)), (ka 19, .inl (kc 0, 8, .inl z0)), (ka 20, .inl (kc 0, 4, .inl z0)), (ka 21, .inl (kc 0, 60, .inl z0)), (ka 22, .inl (kc 0, 60, .inl z0)), (ka 23, .inl (kc 0, 60, .inl z0)), (ka 24, .inl (kc 0, 60, .inl z0)), (ka 25, .inl (kc 0, 60, .inl z0)), (ka 26, .inl (kc 0, 60, .inl z0))]) (w1 := [(ma 0, .inr (11, [.ref (ma 1), .ref (ma 2), .int 0, .long 0, .long 1, .ref (ma 3), .ref (ma 4), .ref (ma 5), .ref (ma 6), .ref (ma 7), .int 0, .int 0, .int 0, .int 0, .int 0, .int 0, .int (-1), .int (-1), .int 0, .int 0, .int 0, .ref (ma 8), .int 0, .int 0, .int (-1), .int 0, .int 0, .int 0, .ref (ma 9), .int 0, .int 0, .ref (ma 10), .ref (ma 11), .ref (ma 12), .int 0, .int 0])), (ma 1, .inl (kc 0, 2880, .inl at0)), (ma 2, .inl (kc 1, 130, .inr (.inl z1))), (ma 3, .inl (kc 0, 4, .inl z0)), (ma 4, .inl (kc 0, 4, .inl tm0)), (ma 5, .inl (kc 1, 240, .inr (.inl z1))), (ma 6, .inl (kc 2, 900, .inl z0)), (ma 7, .inl (kc 2, 900, .inl z0))]) hP hD [98] [0, 1, 2, 3, 4, 5, 6, 7, 8, 9, 10, 11, 12, 13, 14, 15, 16, 17, 18, 19, 20, 21, 22, 23, 24, 25, 26, 27, 28, 29, 30, 31, 32, 33, 34, 35, 36, 37, 38, 39, 40, 41, 42, 43, 44, 45, 46, 47, 48, 49, 50, 51, 52, 53, 54, 55, 56, 57, 58, 59, 60, 61, 62, 63, 64, 65, 66, 67, 68, 69, 70, 71, 72, 73, 74, 75, 76, 77, 78, 79, 80, 81, 82, 83, 84, 85, 86, 87, 88, 89, 90, 91, 92, 93, 94, 95, 96, 97] rfl rfl (by decide) (by decide) hk1 hFc hP1 hD1
  subst hu_ma
  refine W.widen (k := 172) (n := 9393) (Nat.le_of_ble_eq_true rfl) (Nat.le_of_ble_eq_true rfl) ?_
  have hP : va_P D vwCl [(xa 0, .inr (10, [.ref (xa 1), .ref (xa 2), .ref (na 0), .ref (pa 0), .ref (xa 3), .ref (na 1), .ref (na 2), .ref (xa 4), .ref (xa 5), .ref (xa 6), .ref (xa 7), .ref (xa 8), .ref (xa 9), .int 0, .int 0, .int 0, .long 0, .long 1, .int (-1), .int (-1)])), (xa 1, .inl (kc 0, 900, .inl z0)), (xa 2, .inl (kc 3, 4, .inr (.inr (.inr (.inr (tg xa)))))), (xa 3, .inl (kc 4, 3, .inr (.inr (.inr (.inr (mg (ka 0) mb mc)))))), (xa 4, .inr (3, [.ref (xa 22), .int 0, .int 0, .int 0, .int 0, .int 0, .int 0, .int 0, .int 0])), (xa 6, .inr (0, [.ref (xa 18), .ref (xa 19), .ref (xa 20), .int 0, .int 0])), (xa 7, .inr (7, [.ref (xa 1), .int 0, .int 0, .int 0, .int 0, .int 0, .long 0, .int 0, .int 0, .int (-1)])), (xa 8, .inr (6, [.ref (xa 7), .ref (pa 0), .ref (pa 1), .int 0, .int 0])), (xa 9, .inr (1, [.ref (xa 7), .ref (na 1), .ref (pa 3), .ref (xa 21), .int 0])), (xa 10, .inr (8, [.ref (xa 14), .int 0, .int 0, .int 0])), (xa 11, .inr (8, [.ref (xa 15), .int 0, .int 0, .int 0])), (xa 12, .inr (8, [.ref (xa 16), .int 0, .int 0, .int 0])), (xa 13, .inr (8, [.ref (xa 17), .int 0, .int 0, .int 0])), (xa 14, .inl (kc 1, 60, .inr (.inl z1))), (xa 15, .inl (kc 1, 60, .inr (.inl z1))), (xa 16, .inl (kc 1, 60, .inr (.inl z1))), (xa 17, .inl (kc 1, 60, .inr (.inl z1))), (na 0, .inr (9, [.ref (na 1), .ref (na 2), .ref (na 3)])), (na 1, .inr (4, [.ref (na 4), .ref (na 5), .ref (na 6), .ref (na 7), .ref (na 8), .ref (na 9), .ref (na 10), .ref (na 11), .ref (na 12), .ref (na 13), .ref (na 14), .ref (na 15), .int 0, .int 0, .int 0, .int 0, .int 0, .int 0, .int 5, .int 0])), (na 2, .inr (2, [.ref (na 16), .ref (na 17), .ref (na 18), .ref (na 19), .ref (na 20), .int 0, .int 0, .int 0, .int 0, .int 0, .int 0, .int 0, .int 0])), (na 3, .inr (5, [.ref (na 21), .ref (na 22), .ref (na 23), .ref (na 24), .ref (na 25), .ref (na 26), .int 0, .int 0, .int 0])), (na 4, .inl (kc 1, 24, .inr (.inl z1))), (na 5, .inl (kc 0, 24, .inl z0)), (na 6, .inl (kc 0, 24, .inl z0)), (na 7, .inl (kc 0, 8, .inl z0)), (na 8, .inl (kc 0, 8, .inl z0)), (na 9, .inl (kc 0, 8, .inl z0)), (na 10, .inl (kc 0, 8, .inl z0)), (na 11, .inl (kc 0, 4, .inl z0)), (na 12, .inl (kc 0, 4, .inl z0)), (na 13, .inl (kc 0, 4, .inl z0)), (na 14, .inl (kc 0, 4, .inl z0)), (na 15, .inl (kc 0, 4, .inl z0)), (na 16, .inl (kc 0, 8, .inl z0)), (na 17, .inl (kc 0, 8, .inl z0)), (na 18, .inl (kc 0, 8, .inl z0)), (na 19, .inl (kc 0, 8, .inl z0)), (na 20, .inl (kc 0, 4, .inl z0)), (na 21, .inl (kc 0, 60, .inl z0)), (na 22, .inl (kc 0, 60, .inl z0)), (na 23, .inl (kc 0, 60, .inl z0)), (na 24, .inl (kc 0, 60, .inl z0)), (na 25, .inl (kc 0, 60, .inl z0)), (na 26, .inl (kc 0, 60, .inl z0)), (pa 0, .inr (9, [.ref (pa 1), .ref (pa 2), .ref (pa 3)])), (pa 1, .inr (4, [.ref (pa 4), .ref (pa 5), .ref (pa 6), .ref (pa 7), .ref (pa 8), .ref (pa 9), .ref (pa 10), .ref (pa 11), .ref (pa 12), .ref (pa 13), .ref (pa 14), .ref (pa 15), .int 0, .int 0, .int 0, .int 0, .int 0, .int 0, .int 5, .int 0])), (pa 2, .inr (2, [.ref (pa 16), .ref (pa 17), .ref (pa 18), .ref (pa 19), .ref (pa 20), .int 0, .int 0, .int 0, .int 0, .int 0, .int 0, .int 0, .int 0])), (pa 3, .inr (5, [.ref (pa 21), .ref (pa 22), .ref (pa 23), .ref (pa 24), .ref (pa 25), .ref (pa 26), .int 0, .int 0, .int 0])), (pa 4, .inl (kc 1, 24, .inr (.inl z1))), (pa 5, .inl (kc 0, 24, .inl z0)), (pa 6, .inl (kc 0, 24, .inl z0)), (pa 7, .inl (kc 0, 8, .inl z0)), (pa 8, .inl (kc 0, 8, .inl z0)), (pa 9, .inl (kc 0, 8, .inl z0)), (pa 10, .inl (kc 0, 8, .inl z0)), (pa 11, .inl (kc 0, 4, .inl z0)), (pa 12, .inl (kc 0, 4, .inl z0)), (pa 13, .inl (kc 0, 4, .inl z0)), (pa 14, .inl (kc 0, 4, .inl z0)), (pa 15, .inl (kc 0, 4, .inl z0)), (pa 16, .inl (kc 0, 8, .inl z0)), (pa 17, .inl (kc 0, 8, .inl z0)), (pa 18, .inl (kc 0, 8, .inl z0)), (pa 19, .inl (kc 0, 8, .inl z0)), (pa 20, .inl (kc 0, 4, .inl z0)), (pa 21, .inl (kc 0, 60, .inl z0)), (pa 22, .inl (kc 0, 60, .inl z0)), (pa 23, .inl (kc 0, 60, .inl z0)), (pa 24, .inl (kc 0, 60, .inl z0)), (pa 25, .inl (kc 0, 60, .inl z0)), (pa 26, .inl (kc 0, 60, .inl z0)), (ka 0, .inr (9, [.ref (ka 1), .ref (ka 2), .ref (ka 3)])), (ka 1, .inr (4, [.ref (ka 4), .ref (ka 5), .ref (ka 6), .ref (ka 7), .ref (ka 8), .ref (ka 9), .ref (ka 10), .ref (ka 11), .ref (ka 12), .ref (ka 13), .ref (ka 14), .ref (ka 15), .int 0, .int 0, .int 0, .int 0, .int 0, .int 0, .int 5, .int 0])), (ka 2, .inr (2, [.ref (ka 16), .ref (ka 17), .ref (ka 18), .ref (ka 19), .ref (ka 20), .int 0, .int 0, .int 0, .int 0, .int 0, .int 0, .int 0, .int 0])), (ka 3, .inr (5, [.ref (ka 21), .ref (ka 22), .ref (ka 23), .ref (ka 24), .ref (ka 25), .ref (ka 26), .int 0, .int 0, .int 0])), (ka 4, .inl (kc 1, 24, .inr (.inl z1))), (ka 5, .inl (kc 0, 24, .inl z0)), (ka 6, .inl (kc 0, 24, .inl z0)), (ka 7, .inl (kc 0, 8, .inl z0)), (ka 8, .inl (kc 0, 8, .inl z0)), (ka 9, .inl (kc 0, 8, .inl z0)), (ka 10, .inl (kc 0, 8, .inl z0)), (ka 11, .inl (kc 0, 4, .inl z0)), (ka 12, .inl (kc 0, 4, .inl z0)), (ka 13, .inl (kc 0, 4, .inl z0)), (ka 14, .inl (kc 0, 4, .inl z0)), (ka 15, .inl (kc 0, 4, .inl z0)), (ka 16, .inl (kc 0, 8, .inl z0)), (ka 17, .inl (kc 0, 8, .inl z0)), (ka 18, .inl (kc 0, 8, .inl z0)), (ka 19, .inl (kc 0, 8, .inl z0)), (ka 20, .inl (kc 0, 4, .inl z0)), (ka 21, .inl (kc 0, 60, .inl z0)), (ka 22, .inl (kc 0, 60, .inl z0)), (ka 23, .inl (kc 0, 60, .inl z0)), (ka 24, .inl (kc 0, 60, .inl z0)), (ka 25, .inl (kc 0, 60, .inl z0)), (ka 26, .inl (kc 0, 60, .inl z0)), (ma 0, .inr (11, [.ref (ma 1), .ref (ma 2), .int 0, .long 0, .long 1, .ref (ma 3), .ref (ma 4), .ref (ma 5), .ref (ma 6), .ref (ma 7), .int 0, .int 0, .int 0, .int 0, .int 0, .int 0, .int (-1), .int (-1), .int 0, .int 0, .int 0, .ref (ma 8), .int 0, .int 0, .int (-1), .int 0, .int 0, .int 0, .ref (ma 9), .int 0, .int 0, .ref (ma 10), .ref (ma 11), .ref (ma 12), .int 0, .int 0])), (ma 1, .inl (kc 0, 2880, .inl at0)), (ma 2, .inl (kc 1, 130, .inr (.inl z1))), (ma 3, .inl (kc 0, 4, .inl z0)), (ma 4, .inl (kc 0, 4, .inl tm0)), (ma 5, .inl (kc 1, 240, .inr (.inl z1))), (ma 6, .inl (kc 2, 900, .inl z0)), (ma 7, .inl (kc 2, 900, .inl z0))] H := hP8
  have hD : va_D A [(xa 0, .inr (10, [.ref (xa 1), .ref (xa 2), .ref (na 0), .ref (pa 0), .ref (xa 3), .ref (na 1), .ref (na 2), .ref (xa 4), .ref (xa 5), .ref (xa 6), .ref (xa 7), .ref (xa 8), .ref (xa 9), .int 0, .int 0, .int 0, .long 0, .long 1, .int (-1), .int (-1)])), (xa 1, .inl (kc 0, 900, .inl z0)), (xa 2, .inl (kc 3, 4, .inr (.inr (.inr (.inr (tg xa)))))), (xa 3, .inl (kc 4, 3, .inr (.inr (.inr (.inr (mg (ka 0) mb mc)))))), (xa 4, .inr (3, [.ref (xa 22), .int 0, .int 0, .int 0, .int 0, .int 0, .int 0, .int 0, .int 0])), (xa 6, .inr (0, [.ref (xa 18), .ref (xa 19), .ref (xa 20), .int 0, .int 0])), (xa 7, .inr (7, [.ref (xa 1), .int 0, .int 0, .int 0, .int 0, .int 0, .long 0, .int 0, .int 0, .int (-1)])), (xa 8, .inr (6, [.ref (xa 7), .ref (pa 0), .ref (pa 1), .int 0, .int 0])), (xa 9, .inr (1, [.ref (xa 7), .ref (na 1), .ref (pa 3), .ref (xa 21), .int 0])), (xa 10, .inr (8, [.ref (xa 14), .int 0, .int 0, .int 0])), (xa 11, .inr (8, [.ref (xa 15), .int 0, .int 0, .int 0])), (xa 12, .inr (8, [.ref (xa 16), .int 0, .int 0, .int 0])), (xa 13, .inr (8, [.ref (xa 17), .int 0, .int 0, .int 0])), (xa 14, .inl (kc 1, 60, .inr (.inl z1))), (xa 15, .inl (kc 1, 60, .inr (.inl z1))), (xa 16, .inl (kc 1, 60, .inr (.inl z1))), (xa 17, .inl (kc 1, 60, .inr (.inl z1))), (na 0, .inr (9, [.ref (na 1), .ref (na 2), .ref (na 3)])), (na 1, .inr (4, [.ref (na 4), .ref (na 5), .ref (na 6), .ref (na 7), .ref (na 8), .ref (na 9), .ref (na 10), .ref (na 11), .ref (na 12), .ref (na 13), .ref (na 14), .ref (na 15), .int 0, .int 0, .int 0, .int 0, .int 0, .int 0, .int 5, .int 0])), (na 2, .inr (2, [.ref (na 16), .ref (na 17), .ref (na 18), .ref (na 19), .ref (na 20), .int 0, .int 0, .int 0, .int 0, .int 0, .int 0, .int 0, .int 0])), (na 3, .inr (5, [.ref (na 21), .ref (na 22), .ref (na 23), .ref (na 24), .ref (na 25), .ref (na 26), .int 0, .int 0, .int 0])), (na 4, .inl (kc 1, 24, .inr (.inl z1))), (na 5, .inl (kc 0, 24, .inl z0)), (na 6, .inl (kc 0, 24, .inl z0)), (na 7, .inl (kc 0, 8, .inl z0)), (na 8, .inl (kc 0, 8, .inl z0)), (na 9, .inl (kc 0, 8, .inl z0)), (na 10, .inl (kc 0, 8, .inl z0)), (na 11, .inl (kc 0, 4, .inl z0)), (na 12, .inl (kc 0, 4, .inl z0)), (na 13, .inl (kc 0, 4, .inl z0)), (na 14, .inl (kc 0, 4, .inl z0)), (na 15, .inl (kc 0, 4, .inl z0)), (na 16, .inl (kc 0, 8, .inl z0)), (na 17, .inl (kc 0, 8, .inl z0)), (na 18, .inl (kc 0, 8, .inl z0)), (na 19, .inl (kc 0, 8, .inl z0)), (na 20, .inl (kc 0, 4, .inl z0)), (na 21, .inl (kc 0, 60, .inl z0)), (na 22, .inl (kc 0, 60, .inl z0)), (na 23, .inl (kc 0, 60, .inl z0)), (na 24, .inl (kc 0, 60, .inl z0)), (na 25, .inl (kc 0, 60, .inl z0)), (na 26, .inl (kc 0, 60, .inl z0)), (pa 0, .inr (9, [.ref (pa 1), .ref (pa 2), .ref (pa 3)])), (pa 1, .inr (4, [.ref (pa 4), .ref (pa 5), .ref (pa 6), .ref (pa 7), .ref (pa 8), .ref (pa 9), .ref (pa 10), .ref (pa 11), .ref (pa 12), .ref (pa 13), .ref (pa 14), .ref (pa 15), .int 0, .int 0, .int 0, .int 0, .int 0, .int 0, .int 5, .int 0])), (pa 2, .inr (2, [.ref (pa 16), .ref (pa 17), .ref (pa 18), .ref (pa 19), .ref (pa 20), .int 0, .int 0, .int 0, .int 0, .int 0, .int 0, .int 0, .int 0])), (pa 3, .inr (5, [.ref (pa 21), .ref (pa 22), .ref (pa 23), .ref (pa 24), .ref (pa 25), .ref (pa 26), .int 0, .int 0, .int 0])), (pa 4, .inl (kc 1, 24, .inr (.inl z1))), (pa 5, .inl (kc 0, 24, .inl z0)), (pa 6, .inl (kc 0, 24, .inl z0)), (pa 7, .inl (kc 0, 8, .inl z0)), (pa 8, .inl (kc 0, 8, .inl z0)), (pa 9, .inl (kc 0, 8, .inl z0)), (pa 10, .inl (kc 0, 8, .inl z0)), (pa 11, .inl (kc 0, 4, .inl z0)), (pa 12, .inl (kc 0, 4, .inl z0)), (pa 13, .inl (kc 0, 4, .inl z0)), (pa 14, .inl (kc 0, 4, .inl z0)), (pa 15, .inl (kc 0, 4, .inl z0)), (pa 16, .inl (kc 0, 8, .inl z0)), (pa 17, .inl (kc 0, 8, .inl z0)), (pa 18, .inl (kc 0, 8, .inl z0)), (pa 19, .inl (kc 0, 8, .inl z0)), (pa 20, .inl (kc 0, 4, .inl z0)), (pa 21, .inl (kc 0, 60, .inl z0)), (pa 22, .inl (kc 0, 60, .inl z0)), (pa 23, .inl (kc 0, 60, .inl z0)), (pa 24, .inl (kc 0, 60, .inl z0)), (pa 25, .inl (kc 0, 60, .inl z0)), (pa 26, .inl (kc 0, 60, .inl z0)), (ka 0, .inr (9, [.ref (ka 1), .ref (ka 2), .ref (ka 3)])), (ka 1, .inr (4, [.ref (ka 4), .ref (ka 5), .ref (ka 6), .ref (ka 7), .ref (ka 8), .ref (ka 9), .ref (ka 10), .ref (ka 11), .ref (ka 12), .ref (ka 13), .ref (ka 14), .ref (ka 15), .int 0, .int 0, .int 0, .int 0, .int 0, .int 0, .int 5, .int 0])), (ka 2, .inr (2, [.ref (ka 16), .ref (ka 17), .ref (ka 18), .ref (ka 19), .ref (ka 20), .int 0, .int 0, .int 0, .int 0, .int 0, .int 0, .int 0, .int 0])), (ka 3, .inr (5, [.ref (ka 21), .ref (ka 22), .ref (ka 23), .ref (ka 24), .ref (ka 25), .ref (ka 26), .int 0, .int 0, .int 0])), (ka 4, .inl (kc 1, 24, .inr (.inl z1))), (ka 5, .inl (kc 0, 24, .inl z0)), (ka 6, .inl (kc 0, 24, .inl z0)), (ka 7, .inl (kc 0, 8, .inl z0)), (ka 8, .inl (kc 0, 8, .inl z0)), (ka 9, .inl (kc 0, 8, .inl z0)), (ka 10, .inl (kc 0, 8, .inl z0)), (ka 11, .inl (kc 0, 4, .inl z0)), (ka 12, .inl (kc 0, 4, .inl z0)), (ka 13, .inl (kc 0, 4, .inl z0)), (ka 14, .inl (kc 0, 4, .inl z0)), (ka 15, .inl (kc 0, 4, .inl z0)), (ka 16, .inl (kc 0, 8, .inl z0)), (ka 17, .inl (kc 0, 8, .inl z0)), (ka 18, .inl (kc 0, 8, .inl z0)), (ka 19, .inl (kc 0, 8, .inl z0)), (ka 20, .inl (kc 0, 4, .inl z0)), (ka 21, .inl (kc 0, 60, .inl z0)), (ka 22, .inl (kc 0, 60, .inl z0)), (ka 23, .inl (kc 0, 60, .inl z0)), (ka 24, .inl (kc 0, 60, .inl z0)), (ka 25, .inl (kc 0, 60, .inl z0)), (ka 26, .inl (kc 0, 60, .inl z0)), (ma 0, .inr (11, [.ref (ma 1), .ref (ma 2), .int 0, .long 0, .long 1, .ref (ma 3), .ref (ma 4), .ref (ma 5), .ref (ma 6), .ref (ma 7), .int 0, .int 0, .int 0, .int 0, .int 0, .int 0, .int (-1), .int (-1), .int 0, .int 0, .int 0, .ref (ma 8), .int 0, .int 0, .int (-1), .int 0, .int 0, .int 0, .ref (ma 9), .int 0, .int 0, .ref (ma 10), .ref (ma 11), .ref (ma 12), .int 0, .int 0])), (ma 1, .inl (kc 0, 2880, .inl at0)), (ma 2, .inl (kc 1, 130, .inr (.inl z1))), (ma 3, .inl (kc 0, 4, .inl z0)), (ma 4, .inl (kc 0, 4, .inl tm0)), (ma 5, .inl (kc 1, 240, .inr (.inl z1))), (ma 6, .inl (kc 2, 900, .inl z0)), (ma 7, .inl (kc 2, 900, .inl z0))] := hD8
  refine lv_astore_n (lv' := [(2, .ref (ma 0)), (1, .ref (xa 0)), (0, .ref b)]) hx hb dL_law_15 rfl hl (by decide) rfl (fun ls hl => ?_)
  refine lv_iconst (v := 0) hx hb dL_law_16 (by decide) ?_
  refine lv_istore_n (lv' := [(3, .int 0), (2, .ref (ma 0)), (1, .ref (xa 0)), (0, .ref b)]) hx hb dL_law_17 rfl hl (by decide) rfl (fun ls hl => ?_)
  exact law_head hL C0 hE hA hAi hbA xa na pa ka mb mc ma hP hD hS (lv_sub hl [3, 2, 1, 0] rfl)
