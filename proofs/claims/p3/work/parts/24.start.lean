def tmS : Nat → Term := fun i => match i with
  | 0 => .string "SaltStreet$Tokens" 71
  | _ => .string "SaltStreetModel" 165
theorem el_ok : ∀ i, i < 2 → ∀ j, j < strN.getD i 0 → (flatC (Jvm.Cond.and given_1 narrow_1))[(if i = 0 then 37 else 208) + j]? = some (Cond.eq (.elem (.field (tmS i) "java/lang/String" "value" "[B") (.int (Int32.ofNat j))) (.int ((strB.getD i []).getD j 0))) := by decide +kernel
set_option maxRecDepth 100000 in
theorem law_str {s : State} {b : Nat} {A : Nat → Prop} (hts : ∀ w ∈ lw_tbl, w.before #[Value.ref b] s = true) (hgv : (Jvm.Cond.and given_1 narrow_1).before #[Value.ref b] s = true) (hA2 : ∀ a : Nat, a < s.heap.size → ¬ A a) : ∃ adK adV : Nat → Nat, vk_S 2 strN strB adK adV A s s.heap ∧ vk_R "SaltStreet$Tokens" 71 (strT.getD 0 "") (adK 0) s ∧ vk_R "SaltStreetModel" 165 (strT.getD 1 "") (adK 1) s ∧ va_Z "java/lang/String" "COMPACT_STRINGS" "Z" (.int 1) A s s.heap ∧ va_Zq "jdk/internal/util/Preconditions" "SIOOBE_FORMATTER" "Ljava/util/function/BiFunction;" A s s.heap := by
  have hs := flat_of_before _ hgv
  have hi : ∀ {w : Cond} (i : Nat), (flatC (Jvm.Cond.and given_1 narrow_1))[i]? = some w → w.before #[Value.ref b] s = true := fun i h => hs _ (List.mem_of_getElem? h)
  obtain ⟨adK, adV, h1, h2⟩ := vk_Sof (args := #[Value.ref b]) (s := s) (N := 2) (tm := tmS) (len := strN) (byt := strB) (A := A)
    (by decide +kernel)
    (fun i h => by
      match i, h with
      | 0, _ => exact hi 33 (by decide +kernel)
      | 1, _ => exact hi 204 (by decide +kernel))
    (fun i h => by
      match i, h with
      | 0, _ => exact hi 34 (by decide +kernel)
      | 1, _ => exact hi 205 (by decide +kernel))
    (fun i h => by
      match i, h with
      | 0, _ => exact hi 35 (by decide +kernel)
      | 1, _ => exact hi 206 (by decide +kernel))
    (fun i h => by
      match i, h with
      | 0, _ => exact hi 36 (by decide +kernel)
      | 1, _ => exact hi 207 (by decide +kernel))
    (fun i h j hj => hi _ (el_ok i h j hj))
    (fun i j h1 h2 hn => by
      match i, j, h1, h2, hn with
      | 0, 0, _, _, hn => exact absurd rfl hn
      | 0, 1, _, _, _ => exact Or.inl (hi 376 (by decide +kernel))
      | 1, 0, _, _, _ => exact Or.inr (hi 376 (by decide +kernel))
      | 1, 1, _, _, hn => exact absurd rfl hn)
    hA2
  refine ⟨adK, adV, h1, vk_R.of (hts _ (List.mem_append_right _ (List.mem_append_right _ (List.mem_append_right _ (List.mem_append_left _ (List.mem_of_getElem? (i := 147) rfl)))))) (h2 0 (by decide)), vk_R.of (hts _ (List.mem_append_right _ (List.mem_append_right _ (List.mem_append_right _ (List.mem_append_right _ (List.mem_append_right _ (List.mem_append_right _ (List.mem_append_right _ (List.mem_append_left _ (List.mem_of_getElem? (i := 141) rfl)))))))))) (h2 1 (by decide)), va_Zof (hts _ (List.mem_append_right _ (List.mem_append_right _ (List.mem_append_right _ (List.mem_append_left _ (List.mem_of_getElem? (i := 157) rfl)))))) (hts _ (List.mem_append_right _ (List.mem_append_left _ (List.mem_of_getElem? (i := 15) rfl)))) (va_eqi (hi 4 (by decide +kernel))) hA2, va_Zqof (hts _ (List.mem_append_right _ (List.mem_append_right _ (List.mem_append_right _ (List.mem_append_left _ (List.mem_of_getElem? (i := 173) rfl)))))) (hts _ (List.mem_append_right _ (List.mem_append_left _ (List.mem_of_getElem? (i := 17) rfl)))) (hi 5 (by decide +kernel)) hA2⟩
theorem SE_X {pi : List Nat} {ad adK adV : Nat → Nat} {A : Nat → Prop} {s : State} {H : Heap} (h : vk_S 2 strN strB adK adV A s H ∧ vk_R "SaltStreet$Tokens" 71 (strT.getD 0 "") (adK 0) s ∧ vk_R "SaltStreetModel" 165 (strT.getD 1 "") (adK 1) s ∧ va_Z "java/lang/String" "COMPACT_STRINGS" "Z" (.int 1) A s H ∧ va_Zq "jdk/internal/util/Preconditions" "SIOOBE_FORMATTER" "Ljava/util/function/BiFunction;" A s H) : SE (adX pi ad adK) adV A s H := by
  have e : (fun k => adX pi ad adK (1000 + k)) = adK := by
    funext k
    unfold adX
    rw [if_neg (by omega)]
    exact congrArg adK (Nat.add_sub_cancel_left 1000 k)
  unfold SE
  rw [e]
  exact ⟨h.1, h.2.1, h.2.2.1, h.2.2.2.1, h.2.2.2.2⟩
theorem cw1 {kc : Nat → ClassId} {q ci : Nat} {tys : List FieldType} : cwl kc (fun _ => q) [newO ci tys] = [(q, .inr (ci, tys.map dflt))] := by
  show [(q, Sum.inr (ci, (tys.map dflt).map (cv (fun _ => q))))] = _
  rw [dflt_cv]
theorem app_P {D : va_G} {l : va_W} {x : Nat × va_E} {H : Heap} (h : va_P D vwCl (l ++ [x]) H) : va_P D vwCl l H ∧ va_P D vwCl [x] H := by
  refine ⟨fun k q hq => ?_, fun k q hq => ?_⟩
  · exact h k q (by rw [List.getElem?_append_left ((List.getElem?_eq_some_iff.mp hq).1)]; exact hq)
  · match k, hq with
    | 0, hq =>
      cases hq
      exact h l.length x (by simp)
    | k + 1, hq => simp at hq
theorem app_D {A : Nat → Prop} {l : va_W} {x : Nat × va_E} (h : va_D A (l ++ [x])) : va_D A l ∧ va_D A [x] ∧ ∀ (k : Nat) (q : Nat × va_E), l[k]? = some q → q.1 ≠ x.1 := by
  have hl : ∀ (k : Nat) (q : Nat × va_E), l[k]? = some q → (l ++ [x])[k]? = some q := fun k q hq => by rw [List.getElem?_append_left ((List.getElem?_eq_some_iff.mp hq).1)]; exact hq
  have hx : (l ++ [x])[l.length]? = some x := by simp
  refine ⟨⟨fun i j p q hp hq e => h.1 i j p q (hl _ _ hp) (hl _ _ hq) e, fun k q hq => h.2 k q (hl _ _ hq)⟩, ⟨fun i j p q hp hq _ => ?_, fun k q hq => ?_⟩, fun k q hq e => ?_⟩
  · have h1 := (List.getElem?_eq_some_iff.mp hp).1
    have h2 := (List.getElem?_eq_some_iff.mp hq).1
    simp at h1 h2; omega
  · match k, hq with
    | 0, hq => cases hq; exact h.2 _ _ hx
    | k + 1, hq => simp at hq
  · have := h.1 k l.length q x (hl _ _ hq) hx e
    have h1 := (List.getElem?_eq_some_iff.mp hq).1
    omega
set_option maxHeartbeats 4000000 in
set_option maxRecDepth 100000 in
theorem whole_start {p : Program} {e : Env} {s : State} {m : MethodId} {below : List Frame} {meth : Method} {c : Code} (l : Launch) (hflags : l.flags = flags0) {b L : Nat} {xs : Nat → Int32} (hL : L ≤ 3072) (C0 : lw_At p s m meth c b L xs) : W p l e room_1 s m #[Value.ref b] below meth c s.heap [] 0 0 (lw_Z below #[Value.ref b] s) (entryFrame m ([Value.ref b] : List Value).toArray 4) := by
  obtain ⟨hx, hb, hr, hml, hown, hts, hX, hbl, hlocks, hgv⟩ := id C0
  obtain ⟨D, kc, hE⟩ := law_EK hts
  have hK := hE.1
  obtain ⟨A, hAd⟩ : ∃ A : Nat → Prop, A = (fun q : Nat => s.heap.size ≤ q) := ⟨_, rfl⟩
  have hA : ∀ q : Nat, s.heap.size ≤ q → A q := fun q h => by rw [hAd]; exact h
  have hAi : ∀ q : Nat, A q → s.heap.size ≤ q := fun q h => by rw [hAd] at h; exact h
  have hbA : ¬ A b := by rw [hAd]; exact Nat.not_le.mpr hbl
  obtain ⟨adK, adV, hstr⟩ := law_str (A := A) hts hgv (fun a h z => absurd (hAi a z) (by omega))
  have hS : va_S A s.heap s.heap [] := va_S.rf
  have hP : va_P D vwCl [] s.heap := fun k q h => by simp at h
  have hD : va_D A [] := ⟨fun i j p q h => by simp at h, fun k q h => by simp at h⟩
  have hl := lv_entry ([.ref b]) (n := 4) (Nat.le_of_ble_eq_true rfl)
  rw [lg_entry_eq]
  generalize (lg_sl ([.ref b]) ++ List.replicate (4 - (lg_sl ([.ref b])).length) Slot.unset).toArray = ls at hl ⊢
  have hl : lv_has ls 4 [(0, .ref b)] := hl
  refine va_new (ci := 10) (fs := (tyc 10).map dflt) (C := RX11) (T := TX11) (N := 20) hx hb hts tbX11_in tyX11 tyX11_ok hown (hts _ (List.mem_append_right _ (List.mem_append_left _ (List.mem_of_getElem? (i := 21) rfl)))) (hts _ (List.mem_append_right _ (List.mem_append_left _ (List.mem_of_getElem? (i := 22) rfl)))) (hts _ (List.mem_append_right _ (List.mem_append_left _ (List.mem_of_getElem? (i := 1) rfl)))) hK hP hD hS hA rfl (by decide +kernel) (Nat.le_of_ble_eq_true rfl) (Nat.le_of_ble_eq_true rfl) dL_law_0 (fun q1 H hP hD hS => ?_)
  refine lv_dup hx hb dL_law_3 rfl ?_
  have hP : va_P D vwCl (cwl kc (fun _ => q1) [newO 10 (tyc 10)]) H := by rw [cw1]; exact hP
  have hD : va_D A (cwl kc (fun _ => q1) [newO 10 (tyc 10)]) := by rw [cw1]; exact hD
  obtain ⟨-, m1, hm1, hM1⟩ := snd_cM (l := l) (D := D) (kc := kc) LKI_ok cls_ok tyc_ok tyc_f MTI_ok 6 10 [.ref 0] [newO 10 (tyc 10)] wC mkC
  cases hm1
  have hF := freeC hD hS hA
  refine call_C (va_runI (n := 0) (b := q1) (As := []) (rest := [.ref q1]) ⟨hx, hb, hml, hown, hts⟩ (hM1 (fun _ => q1) H.size) ⟨callB_of 0 hts (lwi_gd (List.mem_of_getElem? (i := 10) rfl)) rfl rfl rfl (hts _ (List.mem_append_right _ (List.mem_append_left _ (List.mem_of_getElem? (i := 1) rfl)))) (hts _ (List.mem_append_right _ (List.mem_append_left _ (List.mem_of_getElem? (i := 23) rfl)))) (by decide +kernel) ⟨Nat.le_of_ble_eq_true rfl, Nat.le_of_ble_eq_true rfl⟩, rfl, hts _ (List.mem_append_right _ (List.mem_append_left _ (List.mem_of_getElem? (i := 24) rfl)))⟩ ⟨wPc_blind, fun U hU hW => wPc_ok (av := [.ref q1]) hP hD hE hU hW⟩ rfl rfl hl.1 rfl (lv_room (Nat.le_of_ble_eq_true rfl)) dL_law_4 ⟨Nat.le_of_ble_eq_true (by decide +kernel), Nat.le_of_ble_eq_true (by decide +kernel)⟩) hF hS hF (fun ad2 H locs ha hP hD _ _ hS => ?_)
  have hP := fresh_P (adK := adK) shC_ok hP
  have hD := fresh_D (adK := adK) shC_ok hD
  have eC0 : adX piC ad2 adK 0 = q1 := ha 0 (by decide)
  refine lv_astore_n (lv' := [(1, .ref q1), (0, .ref b)]) hx hb dL_law_7 rfl hl (by decide) rfl (fun ls hl => ?_)
  generalize haC : adX piC ad2 adK = aC at hP hD eC0
  have hsC : SE aC adV A s s.heap := by rw [← haC]; exact SE_X hstr
  refine va_new (ci := 11) (fs := (tyc 11).map dflt) (C := RX12) (T := TX12) (N := 36) hx hb hts tbX12_in tyX12 tyX12_ok hown (hts _ (List.mem_append_right _ (List.mem_append_right _ (List.mem_append_right _ (List.mem_append_right _ (List.mem_append_right _ (List.mem_append_right _ (List.mem_append_left _ (List.mem_of_getElem? (i := 175) rfl))))))))) (hts _ (List.mem_append_right _ (List.mem_append_right _ (List.mem_append_right _ (List.mem_append_right _ (List.mem_append_right _ (List.mem_append_right _ (List.mem_append_left _ (List.mem_of_getElem? (i := 176) rfl))))))))) (hts _ (List.mem_append_right _ (List.mem_append_left _ (List.mem_of_getElem? (i := 12) rfl)))) hK hP hD hS hA rfl (by decide +kernel) (Nat.le_of_ble_eq_true (by decide +kernel)) (Nat.le_of_ble_eq_true (by decide +kernel)) dL_law_8 (fun q2 H hP hD hS => ?_)
  refine lv_dup hx hb dL_law_11 rfl ?_
  obtain ⟨hPC, hPM⟩ := app_P hP
  obtain ⟨hDC, hDM, hne⟩ := app_D hD
  have hPM : va_P D vwCl (cwl kc (fun _ => q2) [newO 11 (tyc 11)]) H := by rw [cw1]; exact hPM
  have hDM : va_D A (cwl kc (fun _ => q2) [newO 11 (tyc 11)]) := by rw [cw1]; exact hDM
  obtain ⟨-, m2, hm2, hM2⟩ := snd_cM (l := l) (D := D) (kc := kc) LKI_ok cls_ok tyc_ok tyc_f MTI_ok 6 11 [.ref 0] [newO 11 (tyc 11)] wM mkM
  cases hm2
  have hF := freeC hDM hS hA
  refine call_C (va_runI (n := 0) (b := q2) (As := []) (rest := [.ref q2]) ⟨hx, hb, hml, hown, hts⟩ (hM2 (fun _ => q2) H.size) ⟨callB_of 0 hts (lwi_gd (List.mem_of_getElem? (i := 11) rfl)) rfl rfl rfl (hts _ (List.mem_append_right _ (List.mem_append_left _ (List.mem_of_getElem? (i := 12) rfl)))) (hts _ (List.mem_append_right _ (List.mem_append_right _ (List.mem_append_right _ (List.mem_append_right _ (List.mem_append_right _ (List.mem_append_right _ (List.mem_append_left _ (List.mem_of_getElem? (i := 177) rfl))))))))) (by decide +kernel) ⟨Nat.le_of_ble_eq_true rfl, Nat.le_of_ble_eq_true rfl⟩, rfl, hts _ (List.mem_append_right _ (List.mem_append_right _ (List.mem_append_right _ (List.mem_append_right _ (List.mem_append_right _ (List.mem_append_right _ (List.mem_append_left _ (List.mem_of_getElem? (i := 178) rfl))))))))⟩ ⟨wPc_blind, fun U hU hW => wPc_ok (av := [.ref q2]) hPM hDM hE hU hW⟩ rfl rfl hl.1 rfl (lv_room (Nat.le_of_ble_eq_true rfl)) dL_law_12 ⟨Nat.le_of_ble_eq_true (by decide +kernel), Nat.le_of_ble_eq_true (by decide +kernel)⟩) hF hS hF (fun ad3 H1 locs ha3 hPM1 hDM1 hk1 hDA hS => ?_)
  have hnA : ∀ (k : Nat) (q : Nat × va_E), (wsl kc aC SHC sC0)[k]? = some q → ¬ va_A (cwl kc (fun _ => q2) [newO 11 (tyc 11)]) H.size q.1 := by
    intro k q hq z
    rcases z with ⟨k2, e2, h2⟩ | h2
    · rw [cw1] at h2
      match k2, h2 with
      | 0, h2 => cases h2; exact hne k q hq rfl
      | k2 + 1, h2 => simp at h2
    · exact absurd (hPC k q hq).lt (Nat.not_lt.mpr h2)
  have hPC1 : va_P D vwCl (wsl kc aC SHC sC0) H1 := fun k q hq => (hPC k q hq).kept (hk1 q.1 (hPC k q hq).lt (hnA k q hq))
  have hdis : ∀ i j, i < SHC.length → j < SHM.length → aC i ≠ adX piM ad3 adK j := by
    intro i j hi hj e
    have h1 := wsl_get (kc := kc) (ad := aC) (s := sC0) (List.getElem?_eq_getElem hi)
    have h2 := wsl_get (kc := kc) (ad := adX piM ad3 adK) (s := sM0) (List.getElem?_eq_getElem hj)
    have h3 := (fresh_get shM_ok h2).2
    have h4 := hDA.2 _ _ h3
    exact hnA i _ h1 (by show va_A _ _ (aC i); rw [e]; exact h4)
  have hPM2 := fresh_P (adK := adK) shM_ok hPM1
  have hDM2 := fresh_D (adK := adK) shM_ok hDM1
  have eM0 : adX piM ad3 adK 0 = q2 := ha3 0 (by decide)
  generalize haM : adX piM ad3 adK = aM at hPM2 hDM2 eM0 hdis
  have hsM : SE aM adV A s s.heap := by rw [← haM]; exact SE_X hstr
  refine lv_astore_n (lv' := [(2, .ref q2), (1, .ref q1), (0, .ref b)]) hx hb dL_law_15 rfl hl (by decide) rfl (fun ls hl => ?_)
  refine lv_iconst (v := 0) hx hb dL_law_16 (by decide) ?_
  refine lv_istore_n (lv' := [(3, .int 0), (2, .ref q2), (1, .ref q1), (0, .ref b)]) hx hb dL_law_17 rfl hl (by decide) rfl (fun ls hl => ?_)
  have hl2 : lv_has ls 4 [(0, .ref b), (1, .ref (aC 0)), (2, .ref (aM 0)), (3, .int (nI 0))] := by
    rw [eC0, eM0]
    exact lv_sub hl [3, 2, 1, 0] rfl
  exact law_loop ⟨C0, hL, hE, hsC, hsM, hA, hAi, hbA, hdis, Nat.le_of_ble_eq_true (by decide +kernel), Nat.le_of_ble_eq_true (by decide +kernel)⟩ (L + 1) 0 sC1 sM0 (Nat.zero_le _) (by omega) rel0 ls H1 locs hl2 (by rw [wsl_1]; exact hPC1) (by rw [wsl_1]; exact hDC) hPM2 hDM2 hS
