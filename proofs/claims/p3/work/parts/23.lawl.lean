theorem len6 {k L : Nat} (hL : L ≤ 3072) (hk : k ≤ L) : (nI L - 6 < nI k) ↔ L < k + 6 := by
  rw [Int32.lt_iff_toInt_lt]
  have e1 : (nI k).toInt = (k : Int) := nI_toInt (by omega)
  have e2 : (nI L - 6).toInt = (L : Int) - 6 := pk_sub_toInt (a := L) (b := 6) (by omega) (by omega)
  rw [e1, e2]; omega
set_option maxHeartbeats 4000000 in
theorem law_loop {p : Program} {l : Launch} {e : Env} {s : State} {m : MethodId} {below : List Frame} {meth : Method} {c : Code} {b L : Nat} {xs : Nat → Int32} {D : va_G} {kc : Nat → ClassId} {aC aM adV : Nat → Nat} {A : Nat → Prop} {cells slots : Nat} (X : LX p s m meth c b L xs D kc aC aM adV A cells slots) : ∀ (n k : Nat) (sC sM : Sg), k ≤ L → L + 1 ≤ k + n → Rel k sC sM → LW p l e s m below meth c b cells slots D kc aC aM A 18 (nI k) [] sC sM := by
  have hx := X.1.1
  have hb := X.1.2.1
  have hL := X.2.1
  intro n
  induction n with
  | zero => intro k sC sM h1 h2; exact absurd h2 (by omega)
  | succ n ih =>
    intro k sC sM hkL hn hR ls H locs hl hPC hDC hPM hDM hS
    refine lv_iload_n hx hb dL_law_18 rfl (lv_at hl 3 rfl) ?_
    refine lv_aload_n hx hb dL_law_19 rfl (lv_at hl 0 rfl) ?_
    refine va_slen hx hb X.1.2.2.2.2.2.2.1 X.1.2.2.2.2.2.2.2.1 X.2.2.2.2.2.2.2.1 hS dL_law_20 ?_
    refine lv_bipush (v := 6) hx hb dL_law_21 (by decide) ?_
    refine lv_isub hx hb dL_law_23 ?_
    refine lv_icmp_gt (tgt := 1889) hx hb dL_law_24 (by decide) (fun c9 => ?_) (fun c9 => ?_)
    · refine lv_iconst (v := 1) hx hb dL_law_1889 (by decide) ?_
      refine va_forget (fun q hq => X.2.2.2.2.2.2.1 _ (hS.2.2 q hq)) ?_
      refine W.widen (k := 600000) (n := 7302250) X.2.2.2.2.2.2.2.2.2.1 X.2.2.2.2.2.2.2.2.2.2 ?_
      exact lw_ret hx hb X.1.2.2.1 X.1.2.2.2.2.2.2.2.2.1 dL_law_1890
    · have hk6 : k + 6 ≤ L := by
        have := mt (len6 hL hkL).mpr c9
        omega
      have nx : ∀ sC2 sM2, Rel (k + 6) sC2 sM2 → LW p l e s m below meth c b cells slots D kc aC aM A 1883 (nI k) [] sC2 sM2 := by
        intro sC2 sM2 hR2 ls H locs hl hPC hDC hPM hDM hS
        refine lv_iinc (v := nI (k + 6)) hx hb dL_law_1883 hl (k := 3) rfl (nI_add k 6) (by decide) rfl (fun ls hl => ?_)
        refine lv_goto (tgt := 18) hx hb dL_law_1886 (by decide) ?_
        exact ih (k + 6) sC2 sM2 hk6 (by omega) hR2 ls H locs (lv_sub hl [1, 2, 3, 0] rfl) hPC hDC hPM hDM hS
      refine lv_aload_n hx hb dL_law_27 rfl (lv_at hl 0 rfl) ?_
      refine lv_iload_n hx hb dL_law_28 rfl (lv_at hl 3 rfl) ?_
      refine va_sld hx hb X.1.2.2.2.2.2.2.1 X.1.2.2.2.2.2.2.2.1 X.2.2.2.2.2.2.2.1 hS (vp_in_nI (by omega : k < L) (by omega)) dL_law_29 ?_
      refine lv_bipush (v := 63) hx hb dL_law_30 (by decide) ?_
      refine lv_iand hx hb dL_law_32 ?_
      obtain ⟨j, hj, ej⟩ := pk_andE (xs (nI k).toNatClampNeg) (m := 63) 6 rfl
      refine lv_ci (y := nI j) ej ?_
      have g0 : 0 ≤ j := Nat.zero_le j
      rcases Nat.eq_or_lt_of_le g0 with e0 | g1
      · subst e0
        refine lv_tableIn (tgt := 296) (off := 263) hx hb dL_law_33 (by decide) (by decide) (by decide +kernel) (by decide) ?_
        exact law_c0 X hk6 hR nx ls H locs hl hPC hDC hPM hDM hS
      rcases Nat.eq_or_lt_of_le g1 with e0 | g2
      · subst e0
        refine lv_tableIn (tgt := 309) (off := 276) hx hb dL_law_33 (by decide) (by decide) (by decide +kernel) (by decide) ?_
        exact law_c1 X hk6 hR nx ls H locs hl hPC hDC hPM hDM hS
      rcases Nat.eq_or_lt_of_le g2 with e0 | g3
      · subst e0
        refine lv_tableIn (tgt := 323) (off := 290) hx hb dL_law_33 (by decide) (by decide) (by decide +kernel) (by decide) ?_
        exact law_c2 X hk6 hR nx ls H locs hl hPC hDC hPM hDM hS
      rcases Nat.eq_or_lt_of_le g3 with e0 | g4
      · subst e0
        refine lv_tableIn (tgt := 336) (off := 303) hx hb dL_law_33 (by decide) (by decide) (by decide +kernel) (by decide) ?_
        exact law_c3 X hk6 hR nx ls H locs hl hPC hDC hPM hDM hS
      rcases Nat.eq_or_lt_of_le g4 with e0 | g5
      · subst e0
        refine lv_tableIn (tgt := 379) (off := 346) hx hb dL_law_33 (by decide) (by decide) (by decide +kernel) (by decide) ?_
        exact law_c4 X hk6 hR nx ls H locs hl hPC hDC hPM hDM hS
      rcases Nat.eq_or_lt_of_le g5 with e0 | g6
      · subst e0
        refine lv_tableIn (tgt := 452) (off := 419) hx hb dL_law_33 (by decide) (by decide) (by decide +kernel) (by decide) ?_
        exact law_c5 X hk6 hR nx ls H locs hl hPC hDC hPM hDM hS
      rcases Nat.eq_or_lt_of_le g6 with e0 | g7
      · subst e0
        refine lv_tableIn (tgt := 485) (off := 452) hx hb dL_law_33 (by decide) (by decide) (by decide +kernel) (by decide) ?_
        exact law_c6 X hk6 hR nx ls H locs hl hPC hDC hPM hDM hS
      rcases Nat.eq_or_lt_of_le g7 with e0 | g8
      · subst e0
        refine lv_tableIn (tgt := 548) (off := 515) hx hb dL_law_33 (by decide) (by decide) (by decide +kernel) (by decide) ?_
        exact law_c7 X hk6 hR nx ls H locs hl hPC hDC hPM hDM hS
      rcases Nat.eq_or_lt_of_le g8 with e0 | g9
      · subst e0
        refine lv_tableIn (tgt := 611) (off := 578) hx hb dL_law_33 (by decide) (by decide) (by decide +kernel) (by decide) ?_
        exact law_c8 X hk6 hR nx ls H locs hl hPC hDC hPM hDM hS
      rcases Nat.eq_or_lt_of_le g9 with e0 | g10
      · subst e0
        refine lv_tableIn (tgt := 634) (off := 601) hx hb dL_law_33 (by decide) (by decide) (by decide +kernel) (by decide) ?_
        exact law_c9 X hk6 hR nx ls H locs hl hPC hDC hPM hDM hS
      rcases Nat.eq_or_lt_of_le g10 with e0 | g11
      · subst e0
        refine lv_tableIn (tgt := 657) (off := 624) hx hb dL_law_33 (by decide) (by decide) (by decide +kernel) (by decide) ?_
        exact law_c10 X hk6 hR nx ls H locs hl hPC hDC hPM hDM hS
      rcases Nat.eq_or_lt_of_le g11 with e0 | g12
      · subst e0
        refine lv_tableIn (tgt := 680) (off := 647) hx hb dL_law_33 (by decide) (by decide) (by decide +kernel) (by decide) ?_
        exact law_c11 X hk6 hR nx ls H locs hl hPC hDC hPM hDM hS
      rcases Nat.eq_or_lt_of_le g12 with e0 | g13
      · subst e0
        refine lv_tableIn (tgt := 703) (off := 670) hx hb dL_law_33 (by decide) (by decide) (by decide +kernel) (by decide) ?_
        exact law_c12 X hk6 hR nx ls H locs hl hPC hDC hPM hDM hS
      rcases Nat.eq_or_lt_of_le g13 with e0 | g14
      · subst e0
        refine lv_tableIn (tgt := 716) (off := 683) hx hb dL_law_33 (by decide) (by decide) (by decide +kernel) (by decide) ?_
        exact law_c13 X hk6 hR nx ls H locs hl hPC hDC hPM hDM hS
      rcases Nat.eq_or_lt_of_le g14 with e0 | g15
      · subst e0
        refine lv_tableIn (tgt := 749) (off := 716) hx hb dL_law_33 (by decide) (by decide) (by decide +kernel) (by decide) ?_
        exact law_c14 X hk6 hR nx ls H locs hl hPC hDC hPM hDM hS
      rcases Nat.eq_or_lt_of_le g15 with e0 | g16
      · subst e0
        refine lv_tableIn (tgt := 782) (off := 749) hx hb dL_law_33 (by decide) (by decide) (by decide +kernel) (by decide) ?_
        exact law_c15 X hk6 hR nx ls H locs hl hPC hDC hPM hDM hS
      rcases Nat.eq_or_lt_of_le g16 with e0 | g17
      · subst e0
        refine lv_tableIn (tgt := 815) (off := 782) hx hb dL_law_33 (by decide) (by decide) (by decide +kernel) (by decide) ?_
        exact law_c16 X hk6 hR nx ls H locs hl hPC hDC hPM hDM hS
      rcases Nat.eq_or_lt_of_le g17 with e0 | g18
      · subst e0
        refine lv_tableIn (tgt := 848) (off := 815) hx hb dL_law_33 (by decide) (by decide) (by decide +kernel) (by decide) ?_
        exact law_c17 X hk6 hR nx ls H locs hl hPC hDC hPM hDM hS
      rcases Nat.eq_or_lt_of_le g18 with e0 | g19
      · subst e0
        refine lv_tableIn (tgt := 881) (off := 848) hx hb dL_law_33 (by decide) (by decide) (by decide +kernel) (by decide) ?_
        exact law_c18 X hk6 hR nx ls H locs hl hPC hDC hPM hDM hS
      rcases Nat.eq_or_lt_of_le g19 with e0 | g20
      · subst e0
        refine lv_tableIn (tgt := 904) (off := 871) hx hb dL_law_33 (by decide) (by decide) (by decide +kernel) (by decide) ?_
        exact law_c19 X hk6 hR nx ls H locs hl hPC hDC hPM hDM hS
      rcases Nat.eq_or_lt_of_le g20 with e0 | g21
      · subst e0
        refine lv_tableIn (tgt := 917) (off := 884) hx hb dL_law_33 (by decide) (by decide) (by decide +kernel) (by decide) ?_
        exact law_c20 X hk6 hR nx ls H locs hl hPC hDC hPM hDM hS
      rcases Nat.eq_or_lt_of_le g21 with e0 | g22
      · subst e0
        refine lv_tableIn (tgt := 930) (off := 897) hx hb dL_law_33 (by decide) (by decide) (by decide +kernel) (by decide) ?_
        exact law_c21 X hk6 hR nx ls H locs hl hPC hDC hPM hDM hS
      rcases Nat.eq_or_lt_of_le g22 with e0 | g23
      · subst e0
        refine lv_tableIn (tgt := 943) (off := 910) hx hb dL_law_33 (by decide) (by decide) (by decide +kernel) (by decide) ?_
        exact law_c22 X hk6 hR nx ls H locs hl hPC hDC hPM hDM hS
      rcases Nat.eq_or_lt_of_le g23 with e0 | g24
      · subst e0
        refine lv_tableIn (tgt := 956) (off := 923) hx hb dL_law_33 (by decide) (by decide) (by decide +kernel) (by decide) ?_
        exact law_c23 X hk6 hR nx ls H locs hl hPC hDC hPM hDM hS
      rcases Nat.eq_or_lt_of_le g24 with e0 | g25
      · subst e0
        refine lv_tableIn (tgt := 989) (off := 956) hx hb dL_law_33 (by decide) (by decide) (by decide +kernel) (by decide) ?_
        exact law_c24 X hk6 hR nx ls H locs hl hPC hDC hPM hDM hS
      rcases Nat.eq_or_lt_of_le g25 with e0 | g26
      · subst e0
        refine lv_tableIn (tgt := 1032) (off := 999) hx hb dL_law_33 (by decide) (by decide) (by decide +kernel) (by decide) ?_
        exact law_c25 X hk6 hR nx ls H locs hl hPC hDC hPM hDM hS
      rcases Nat.eq_or_lt_of_le g26 with e0 | g27
      · subst e0
        refine lv_tableIn (tgt := 1055) (off := 1022) hx hb dL_law_33 (by decide) (by decide) (by decide +kernel) (by decide) ?_
        exact law_c26 X hk6 hR nx ls H locs hl hPC hDC hPM hDM hS
      rcases Nat.eq_or_lt_of_le g27 with e0 | g28
      · subst e0
        refine lv_tableIn (tgt := 1098) (off := 1065) hx hb dL_law_33 (by decide) (by decide) (by decide +kernel) (by decide) ?_
        exact law_c27 X hk6 hR nx ls H locs hl hPC hDC hPM hDM hS
      rcases Nat.eq_or_lt_of_le g28 with e0 | g29
      · subst e0
        refine lv_tableIn (tgt := 1111) (off := 1078) hx hb dL_law_33 (by decide) (by decide) (by decide +kernel) (by decide) ?_
        exact law_c28 X hk6 hR nx ls H locs hl hPC hDC hPM hDM hS
      rcases Nat.eq_or_lt_of_le g29 with e0 | g30
      · subst e0
        refine lv_tableIn (tgt := 1134) (off := 1101) hx hb dL_law_33 (by decide) (by decide) (by decide +kernel) (by decide) ?_
        exact law_c29 X hk6 hR nx ls H locs hl hPC hDC hPM hDM hS
      rcases Nat.eq_or_lt_of_le g30 with e0 | g31
      · subst e0
        refine lv_tableIn (tgt := 1147) (off := 1114) hx hb dL_law_33 (by decide) (by decide) (by decide +kernel) (by decide) ?_
        exact law_c30 X hk6 hR nx ls H locs hl hPC hDC hPM hDM hS
      rcases Nat.eq_or_lt_of_le g31 with e0 | g32
      · subst e0
        refine lv_tableIn (tgt := 1180) (off := 1147) hx hb dL_law_33 (by decide) (by decide) (by decide +kernel) (by decide) ?_
        exact law_c31 X hk6 hR nx ls H locs hl hPC hDC hPM hDM hS
      rcases Nat.eq_or_lt_of_le g32 with e0 | g33
      · subst e0
        refine lv_tableIn (tgt := 1203) (off := 1170) hx hb dL_law_33 (by decide) (by decide) (by decide +kernel) (by decide) ?_
        exact law_c32 X hk6 hR nx ls H locs hl hPC hDC hPM hDM hS
      rcases Nat.eq_or_lt_of_le g33 with e0 | g34
      · subst e0
        refine lv_tableIn (tgt := 1226) (off := 1193) hx hb dL_law_33 (by decide) (by decide) (by decide +kernel) (by decide) ?_
        exact law_c33 X hk6 hR nx ls H locs hl hPC hDC hPM hDM hS
      rcases Nat.eq_or_lt_of_le g34 with e0 | g35
      · subst e0
        refine lv_tableIn (tgt := 1269) (off := 1236) hx hb dL_law_33 (by decide) (by decide) (by decide +kernel) (by decide) ?_
        exact law_c34 X hk6 hR nx ls H locs hl hPC hDC hPM hDM hS
      rcases Nat.eq_or_lt_of_le g35 with e0 | g36
      · subst e0
        refine lv_tableIn (tgt := 1292) (off := 1259) hx hb dL_law_33 (by decide) (by decide) (by decide +kernel) (by decide) ?_
        exact law_c35 X hk6 hR nx ls H locs hl hPC hDC hPM hDM hS
      rcases Nat.eq_or_lt_of_le g36 with e0 | g37
      · subst e0
        refine lv_tableIn (tgt := 1305) (off := 1272) hx hb dL_law_33 (by decide) (by decide) (by decide +kernel) (by decide) ?_
        exact law_c36 X hk6 hR nx ls H locs hl hPC hDC hPM hDM hS
      rcases Nat.eq_or_lt_of_le g37 with e0 | g38
      · subst e0
        refine lv_tableIn (tgt := 1318) (off := 1285) hx hb dL_law_33 (by decide) (by decide) (by decide +kernel) (by decide) ?_
        exact law_c37 X hk6 hR nx ls H locs hl hPC hDC hPM hDM hS
      rcases Nat.eq_or_lt_of_le g38 with e0 | g39
      · subst e0
        refine lv_tableIn (tgt := 1341) (off := 1308) hx hb dL_law_33 (by decide) (by decide) (by decide +kernel) (by decide) ?_
        exact law_c38 X hk6 hR nx ls H locs hl hPC hDC hPM hDM hS
      rcases Nat.eq_or_lt_of_le g39 with e0 | g40
      · subst e0
        refine lv_tableIn (tgt := 1354) (off := 1321) hx hb dL_law_33 (by decide) (by decide) (by decide +kernel) (by decide) ?_
        exact law_c39 X hk6 hR nx ls H locs hl hPC hDC hPM hDM hS
      rcases Nat.eq_or_lt_of_le g40 with e0 | g41
      · subst e0
        refine lv_tableIn (tgt := 1367) (off := 1334) hx hb dL_law_33 (by decide) (by decide) (by decide +kernel) (by decide) ?_
        exact law_c40 X hk6 hR nx ls H locs hl hPC hDC hPM hDM hS
      rcases Nat.eq_or_lt_of_le g41 with e0 | g42
      · subst e0
        refine lv_tableIn (tgt := 1390) (off := 1357) hx hb dL_law_33 (by decide) (by decide) (by decide +kernel) (by decide) ?_
        exact law_c41 X hk6 hR nx ls H locs hl hPC hDC hPM hDM hS
      rcases Nat.eq_or_lt_of_le g42 with e0 | g43
      · subst e0
        refine lv_tableIn (tgt := 1403) (off := 1370) hx hb dL_law_33 (by decide) (by decide) (by decide +kernel) (by decide) ?_
        exact law_c42 X hk6 hR nx ls H locs hl hPC hDC hPM hDM hS
      rcases Nat.eq_or_lt_of_le g43 with e0 | g44
      · subst e0
        refine lv_tableIn (tgt := 1426) (off := 1393) hx hb dL_law_33 (by decide) (by decide) (by decide +kernel) (by decide) ?_
        exact law_c43 X hk6 hR nx ls H locs hl hPC hDC hPM hDM hS
      rcases Nat.eq_or_lt_of_le g44 with e0 | g45
      · subst e0
        refine lv_tableIn (tgt := 1439) (off := 1406) hx hb dL_law_33 (by decide) (by decide) (by decide +kernel) (by decide) ?_
        exact law_c44 X hk6 hR nx ls H locs hl hPC hDC hPM hDM hS
      rcases Nat.eq_or_lt_of_le g45 with e0 | g46
      · subst e0
        refine lv_tableIn (tgt := 1462) (off := 1429) hx hb dL_law_33 (by decide) (by decide) (by decide +kernel) (by decide) ?_
        exact law_c45 X hk6 hR nx ls H locs hl hPC hDC hPM hDM hS
      rcases Nat.eq_or_lt_of_le g46 with e0 | g47
      · subst e0
        refine lv_tableIn (tgt := 1485) (off := 1452) hx hb dL_law_33 (by decide) (by decide) (by decide +kernel) (by decide) ?_
        exact law_c46 X hk6 hR nx ls H locs hl hPC hDC hPM hDM hS
      rcases Nat.eq_or_lt_of_le g47 with e0 | g48
      · subst e0
        refine lv_tableIn (tgt := 1508) (off := 1475) hx hb dL_law_33 (by decide) (by decide) (by decide +kernel) (by decide) ?_
        exact law_c47 X hk6 hR nx ls H locs hl hPC hDC hPM hDM hS
      rcases Nat.eq_or_lt_of_le g48 with e0 | g49
      · subst e0
        refine lv_tableIn (tgt := 1521) (off := 1488) hx hb dL_law_33 (by decide) (by decide) (by decide +kernel) (by decide) ?_
        exact law_c48 X hk6 hR nx ls H locs hl hPC hDC hPM hDM hS
      rcases Nat.eq_or_lt_of_le g49 with e0 | g50
      · subst e0
        refine lv_tableIn (tgt := 1534) (off := 1501) hx hb dL_law_33 (by decide) (by decide) (by decide +kernel) (by decide) ?_
        exact law_c49 X hk6 hR nx ls H locs hl hPC hDC hPM hDM hS
      rcases Nat.eq_or_lt_of_le g50 with e0 | g51
      · subst e0
        refine lv_tableIn (tgt := 1557) (off := 1524) hx hb dL_law_33 (by decide) (by decide) (by decide +kernel) (by decide) ?_
        exact law_c50 X hk6 hR nx ls H locs hl hPC hDC hPM hDM hS
      rcases Nat.eq_or_lt_of_le g51 with e0 | g52
      · subst e0
        refine lv_tableIn (tgt := 1590) (off := 1557) hx hb dL_law_33 (by decide) (by decide) (by decide +kernel) (by decide) ?_
        exact law_c51 X hk6 hR nx ls H locs hl hPC hDC hPM hDM hS
      rcases Nat.eq_or_lt_of_le g52 with e0 | g53
      · subst e0
        refine lv_tableIn (tgt := 1613) (off := 1580) hx hb dL_law_33 (by decide) (by decide) (by decide +kernel) (by decide) ?_
        exact law_c52 X hk6 hR nx ls H locs hl hPC hDC hPM hDM hS
      rcases Nat.eq_or_lt_of_le g53 with e0 | g54
      · subst e0
        refine lv_tableIn (tgt := 1636) (off := 1603) hx hb dL_law_33 (by decide) (by decide) (by decide +kernel) (by decide) ?_
        exact law_c53 X hk6 hR nx ls H locs hl hPC hDC hPM hDM hS
      rcases Nat.eq_or_lt_of_le g54 with e0 | g55
      · subst e0
        refine lv_tableIn (tgt := 1659) (off := 1626) hx hb dL_law_33 (by decide) (by decide) (by decide +kernel) (by decide) ?_
        exact law_c54 X hk6 hR nx ls H locs hl hPC hDC hPM hDM hS
      rcases Nat.eq_or_lt_of_le g55 with e0 | g56
      · subst e0
        refine lv_tableIn (tgt := 1702) (off := 1669) hx hb dL_law_33 (by decide) (by decide) (by decide +kernel) (by decide) ?_
        exact law_c55 X hk6 hR nx ls H locs hl hPC hDC hPM hDM hS
      rcases Nat.eq_or_lt_of_le g56 with e0 | g57
      · subst e0
        refine lv_tableIn (tgt := 1735) (off := 1702) hx hb dL_law_33 (by decide) (by decide) (by decide +kernel) (by decide) ?_
        exact law_c56 X hk6 hR nx ls H locs hl hPC hDC hPM hDM hS
      rcases Nat.eq_or_lt_of_le g57 with e0 | g58
      · subst e0
        refine lv_tableIn (tgt := 1768) (off := 1735) hx hb dL_law_33 (by decide) (by decide) (by decide +kernel) (by decide) ?_
        exact law_c57 X hk6 hR nx ls H locs hl hPC hDC hPM hDM hS
      rcases Nat.eq_or_lt_of_le g58 with e0 | g59
      · subst e0
        refine lv_tableIn (tgt := 1791) (off := 1758) hx hb dL_law_33 (by decide) (by decide) (by decide +kernel) (by decide) ?_
        exact law_c58 X hk6 hR nx ls H locs hl hPC hDC hPM hDM hS
      rcases Nat.eq_or_lt_of_le g59 with e0 | g60
      · subst e0
        refine lv_tableIn (tgt := 1814) (off := 1781) hx hb dL_law_33 (by decide) (by decide) (by decide +kernel) (by decide) ?_
        exact law_c59 X hk6 hR nx ls H locs hl hPC hDC hPM hDM hS
      rcases Nat.eq_or_lt_of_le g60 with e0 | g61
      · subst e0
        refine lv_tableIn (tgt := 1857) (off := 1824) hx hb dL_law_33 (by decide) (by decide) (by decide +kernel) (by decide) ?_
        exact law_c60 X hk6 hR nx ls H locs hl hPC hDC hPM hDM hS
      rcases Nat.eq_or_lt_of_le g61 with e0 | g62
      · subst e0
        refine lv_tableIn (tgt := 1870) (off := 1837) hx hb dL_law_33 (by decide) (by decide) (by decide +kernel) (by decide) ?_
        exact law_c61 X hk6 hR nx ls H locs hl hPC hDC hPM hDM hS
      rcases Nat.eq_or_lt_of_le g62 with e0 | g63
      · subst e0
        refine lv_tableOut (tgt := 1883) hx hb dL_law_33 (by decide) (by decide) ?_
        exact nx _ _ (rel_up hR) ls H locs hl hPC hDC hPM hDM hS
      rcases Nat.eq_or_lt_of_le g63 with e0 | g64
      · subst e0
        refine lv_tableOut (tgt := 1883) hx hb dL_law_33 (by decide) (by decide) ?_
        exact nx _ _ (rel_up hR) ls H locs hl hPC hDC hPM hDM hS
      exact absurd hj (Nat.not_lt.mpr g64)
