/-! links by numbers: printed by gencod.py -/
abbrev C5 : Type := Nat × Nat × Nat × Nat × Nat
def lkC {α : Type} (K : Nat) (cs : List (List α)) (p : Nat) : Option α := (cs[p / K]?).bind (fun c => c[p % K]?)
def chC {α : Type} (K : Nat) : List (List α) → Bool
  | [] => true
  | c :: r => (Nat.beq c.length K || r.isEmpty) && chC K r
theorem lkC_ok {α : Type} {K : Nat} (hK : 0 < K) {x : α} : ∀ (cs : List (List α)), chC K cs = true → ∀ p, lkC K cs p = some x → cs.flatten[p]? = some x := by
  intro cs
  induction cs with
  | nil => intro _ p h; cases h
  | cons c r ih =>
    intro hc p h
    obtain ⟨h1, h2⟩ := and_e (show ((Nat.beq c.length K || r.isEmpty) && chC K r) = true from hc)
    rw [List.flatten_cons]
    by_cases l : p < K
    · have h' : ((c :: r)[p / K]?).bind (fun c => c[p % K]?) = some x := h
      rw [Nat.div_eq_of_lt l, Nat.mod_eq_of_lt l] at h'
      have h3 : c[p]? = some x := h'
      obtain ⟨hp, _⟩ := List.getElem?_eq_some_iff.mp h3
      rw [List.getElem?_append_left hp]
      exact h3
    · have h' : ((c :: r)[p / K]?).bind (fun c => c[p % K]?) = some x := h
      have e1 : p / K = (p - K) / K + 1 := Nat.div_eq_sub_div hK (by omega)
      have e2 : p % K = (p - K) % K := Nat.mod_eq_sub_mod (by omega)
      rw [e1, e2] at h'
      have h3 : (r[(p - K) / K]?).bind (fun c => c[(p - K) % K]?) = some x := h'
      have n : r.isEmpty = false := by
        cases r with
        | nil => cases h3
        | cons _ _ => rfl
      rw [n, Bool.or_false] at h1
      have e : c.length = K := Nat.eq_of_beq_eq_true h1
      rw [List.getElem?_append_right (by omega), e]
      exact ih h2 (p - K) h3
def c5e (a : Option C5) (b : C5) : Bool := match a with
  | some x => Nat.beq x.1 b.1 && (Nat.beq x.2.1 b.2.1 && (Nat.beq x.2.2.1 b.2.2.1 && (Nat.beq x.2.2.2.1 b.2.2.2.1 && Nat.beq x.2.2.2.2 b.2.2.2.2)))
  | none => false
theorem c5_ok {a : Option C5} {b : C5} (h : c5e a b = true) : a = some b := by
  unfold c5e at h
  split at h
  · rename_i x
    obtain ⟨h1, h⟩ := and_e h
    obtain ⟨h2, h⟩ := and_e h
    obtain ⟨h3, h⟩ := and_e h
    obtain ⟨h4, h5⟩ := and_e h
    obtain ⟨x1, x2, x3, x4, x5⟩ := x
    obtain ⟨b1, b2, b3, b4, b5⟩ := b
    have e1 : x1 = b1 := Nat.eq_of_beq_eq_true h1
    have e2 : x2 = b2 := Nat.eq_of_beq_eq_true h2
    have e3 : x3 = b3 := Nat.eq_of_beq_eq_true h3
    have e4 : x4 = b4 := Nat.eq_of_beq_eq_true h4
    have e5 : x5 = b5 := Nat.eq_of_beq_eq_true h5
    rw [e1, e2, e3, e4, e5]
  · cases h
noncomputable def owL : List String := ["SaltStreet$Could", "SaltStreet$Plan", "java/lang/Integer", "SaltStreet$Ground", "SaltStreet$DaysReader", "SaltStreet$Program", "SaltStreet$Tokens", "SaltStreet$Whose", "SaltStreet$Life", "SaltStreet$StreetReader", "SaltStreet$World", "SaltStreet$Tray", "SaltStreet", "SaltStreetModel"]
noncomputable def ow (o : Nat) : String := owL.getD o ""
noncomputable def MTc : List (List ME) := [[me_X0_greatest, me_X0_isEnough, me_X0_askFor, me_X0_lackOf, me_X0_lackOnStep, me_X0_moved, me_X0_payFor, me_X0_cheapest, me_X0_takeMissing, me_X0_fewestSweepers, me_X0_isExplained, me_X1_takeText, me_X1_takeEnd, me_X1_takeStep, me_X1_beginStep, me_X1_isStepWord, me_X1_takeTest, me_X1_takeHouse, me_X1_takeGrocer, me_X1_takeNumber, me_X2_clear, me_X2_copyFrom, me_X2_row, me_X2_lying],
  [me_X2_inSight, me_X2_hasRoom, me_X2_hasSnow, me_X2_looksLike, me_X2_addSalt, me_X2_addBought, me_X2_clearStep, me_X2_carry, me_X2_letRain, me_X2_letSnow, me_X2_passNight, me_X2_sendCats, me_X2_meltSnow, me_X2_countWar, me_X3_run, me_X3_begin, me_X3_tally, me_X3_behindEnd, me_X3_behindStep, me_X3_holds, me_X3_act, me_X3_tryStrew, me_X3_tryBuy, me_X3_maybeRain],
  [me_X3_tryNight, me_X4_clear, me_X4_copyFrom, me_X4_addName, me_X4_numberOf, me_X4_allHouses, me_X4_allQuarrels, me_X4_isGone, me_X4_isAt, me_X4_joinAt, me_X4_withoutHope, me_X4_reachedFrom, me_X4_joinedTo, me_X5_clear, me_X5_copyFrom, me_X6_takeText, me_X6_takeNew, me_X6_takeHouse, me_X6_takeGrains, me_X6_takeQuarrel, me_X6_takeCat, me_X6_takeEnd, me_X6_takeGrocer, me_X6_takeWashes],
  [me_X6_takeCounts, me_X7_begin, me_X7_advance, me_X7_isLetter, me_X7_isDigit, me_X7_cutWord, me_X7_kindOfWord, me_X7_cutNumber, me_X7_cutSign, me_X7_wrong, me_X7_pass, me_X7_passNumber, me_X7_findName, me_X8_lay, me_X8_put, me_X8_cut, me_X8_reachesTo, me_X9_shareOf, me_X9_ownerOf, me_X9_leftOver, me_X9_contentAt, me_X9_atPeace, me_X9_inTruce, me_X9_calmAt],
  [me_X9_freedBy, me_X9_wantedAt, me_X9_bestFor, me_X9_broughtBy, me_X10_clear, me_X10_copyFrom, me_X11_status, me_X11_top, me_X11_bottom, me_X11_tray, me_X11_write, me_X11_read, me_X11_pour, me_X11_feed, me_X11_street, me_X11_days, me_X11_fault, me_X11_told, me_X11_purse, me_X11_step, me_X11_quarrel, me_X11_grocer, me_X11_share, me_X11_whose],
  [me_X11_nobodys, me_X11_peace, me_X11_truce, me_X11_over, me_X11_hopeless, me_X11_strew, me_X11_buy, me_X11_sweep, me_X11_shovel, me_X11_rain, me_X11_snow, me_X11_night, me_X11_cat, me_X11_reaches, me_X11_chain, me_X11_forecast, me_X11_soonest, me_X11_longest, me_X11_fullest, me_X11_best, me_X11_closest, me_X11_level, me_X11_thaw, me_X11_thawAll],
  [me_X11_wants, me_X11_cliff, me_X11_steps, me_X11_value, me_X11_beside, me_X11_ghosts, me_X11_most, me_X11_lack, me_X11_lackAt, me_X11_freed, me_X11_cost, me_X11_dearest, me_X11_quiet, me_X11_who, me_X11_found, me_X11_live, me_X11_lived, me_X11_odds, me_X11_mark, me_X11_back, me_X11_answer, me_X11_answerIfAny, me_X11_refuse, me_X11_granted],
  [me_X11_refused, me_X11_within, me_X11_has, me_X11_isTray, me_X11_isHouse, me_X11_isQuarrel, me_X11_isGrocer, me_X11_isSet, me_X11_whyNoPlace, me_X11_whyNoStep, me_X11_putOnTape, me_X11_closeText, me_X11_foresee, me_X11_nightsTillThawed, me_X11_waysToTaste, me_X11_tellFraction, me_X11_copyRow, me_X11_clearRow, me_X12_plain, me_X12_status, me_X12_top, me_X12_bottom, me_X12_is, me_X12_refuse],
  [me_X12_gives, me_X12_orNone, me_X12_tellsBy, me_X12_isTray, me_X12_cut, me_X12_tray, me_X12_wrongPlace, me_X12_write, me_X12_read, me_X12_pour, me_X12_isFrom, me_X12_feed, me_X12_four, me_X12_byteAt, me_X12_isSmall, me_X12_isDigit, me_X12_ahead, me_X12_isSign, me_X12_inWords, me_X12_fails, me_X12_begins, me_X12_wantSign, me_X12_wantWord, me_X12_number],
  [me_X12_isName, me_X12_nameHere, me_X12_findHere, me_X12_fault, me_X12_taken, me_X12_newOne, me_X12_oldOne, me_X12_isThere, me_X12_houseHere, me_X12_aHouse, me_X12_twoHouses, me_X12_aQuarrel, me_X12_aCat, me_X12_aGrocer, me_X12_once, me_X12_streetPart, me_X12_street, me_X12_stepTo, me_X12_test, me_X12_dayOrder, me_X12_dayStep, me_X12_days, me_X12_houseRow, me_X12_quarrelRow],
  [me_X12_isHouse, me_X12_isQuarrel, me_X12_isGone, me_X12_wrongStep, me_X12_grainsOn, me_X12_quarrelHouse, me_X12_isAt, me_X12_told, me_X12_purse, me_X12_step, me_X12_quarrel, me_X12_grocer, me_X12_cat, me_X12_needOf, me_X12_hasAt, me_X12_isFull, me_X12_isSome, me_X12_hasPeace, me_X12_neverCan, me_X12_setOf, me_X12_share, me_X12_whose, me_X12_nobodys, me_X12_peace],
  [me_X12_truce, me_X12_over, me_X12_hopeless, me_X12_hasRoom, me_X12_strews, me_X12_strew, me_X12_buys, me_X12_buy, me_X12_sweeps, me_X12_sweep, me_X12_brings, me_X12_shovel, me_X12_rains, me_X12_rain, me_X12_snows, me_X12_snow, me_X12_nightGoes, me_X12_night, me_X12_reaches, me_X12_chain, me_X12_keepsAll, me_X12_takesBack, me_X12_forecast, me_X12_soonest],
  [me_X12_longest, me_X12_fullest, me_X12_bits, me_X12_best, me_X12_thaw, me_X12_isSnow, me_X12_thawAll, me_X12_wants, me_X12_cliff, me_X12_steps, me_X12_value, me_X12_beside, me_X12_ghosts, me_X12_level, me_X12_needAt, me_X12_couldBe, me_X12_most, me_X12_isSetOf, me_X12_lackOn, me_X12_lack, me_X12_closest, me_X12_lackAt, me_X12_freed, me_X12_costOf],
  [me_X12_cost, me_X12_dearest, me_X12_quiet, me_X12_explains, me_X12_who, me_X12_waysOf, me_X12_found, me_X12_draw, me_X12_does, me_X12_holds, me_X12_behindEnds, me_X12_lives, me_X12_live, me_X12_lived, me_X12_odds, me_X12_copies, me_X12_mark, me_X12_back, me_J6_bitCount_0f7a4]]
set_option maxRecDepth 100000 in
theorem MTc_e : MTc.flatten = MT := rfl
theorem MTc_c : chC 24 MTc = true := by decide +kernel
theorem mt5 {j : Nat} {q : ME} (h : lkC 24 MTc j = some q) : MT[j]? = some q := MTc_e ▸ lkC_ok (by decide) MTc MTc_c j h
noncomputable def dcc (c : C5) : Option Cond := match c with
  | (1, o, i, ci, k) => (vwCl[ci]?).map (fun q => .fieldLink (ow o) i (q.2.1 k).1 (q.2.1 k).2.1 (q.2.1 k).2.2.1)
  | (2, o, i, j, _) => (lkC 24 MTc j).map (fun q => .methodLink (ow o) i q.1)
  | (3, j, _, _, _) => (lkC 24 MTc j).map (fun q => .static q.1)
  | (4, j, _, _, _) => (lkC 24 MTc j).map (fun q => .instanceMethod q.1)
  | (5, j, _, _, _) => (lkC 24 MTc j).map (fun q => .selects q.1.cls q.1 q.1)
  | (6, o, _, _, _) => some (.initialized (ow o))
  | _ => none
noncomputable def wz : List Cond → List C5 → Bool
  | _, [] => true
  | [], _ :: _ => false
  | w :: r, c :: q => (Nat.beq c.1 0 || decide (dcc c = some w)) && wz r q
theorem wz_ok {c : C5} (h0 : ¬ c.1 = 0) : ∀ (b : List C5) (a : List Cond), wz a b = true → ∀ p : Nat, b[p]? = some c → ∃ w, a[p]? = some w ∧ dcc c = some w := by
  intro b
  induction b with
  | nil => intro a _ p h; cases h
  | cons c' q ih =>
    intro a h p hp
    cases a with
    | nil => cases h
    | cons w r =>
      obtain ⟨h1, h2⟩ := and_e (show ((Nat.beq c'.1 0 || decide (dcc c' = some w)) && wz r q) = true from h)
      cases p with
      | zero =>
        have e : c' = c := Option.some.inj hp
        subst e
        refine ⟨w, rfl, ?_⟩
        cases z : Nat.beq c'.1 0 with
        | true => exact absurd (Nat.eq_of_beq_eq_true z) h0
        | false => rw [z, Bool.false_or] at h1; exact of_decide_eq_true h1
      | succ p => exact ih r h2 p hp
noncomputable def LKN : List (List C5) := [[(0, 0, 0, 0, 0), (0, 0, 0, 0, 0), (0, 0, 0, 0, 0), (0, 0, 0, 0, 0), (0, 0, 0, 0, 0), (0, 0, 0, 0, 0), (0, 0, 0, 0, 0), (0, 0, 0, 0, 0), (0, 0, 0, 0, 0), (0, 0, 0, 0, 0), (2, 0, 21, 58, 0), (4, 58, 0, 0, 0), (5, 58, 0, 0, 0), (6, 1, 0, 0, 0), (2, 0, 27, 54, 0), (4, 54, 0, 0, 0), (5, 54, 0, 0, 0), (2, 0, 30, 330, 0), (3, 330, 0, 0, 0), (6, 2, 0, 0, 0), (2, 0, 36, 1, 0), (4, 1, 0, 0, 0), (5, 1, 0, 0, 0), (6, 0, 0, 0, 0)],
  [(2, 0, 40, 2, 0), (4, 2, 0, 0, 0), (5, 2, 0, 0, 0), (2, 0, 48, 55, 0), (4, 55, 0, 0, 0), (5, 55, 0, 0, 0), (1, 0, 9, 0, 0), (2, 0, 52, 24, 0), (4, 24, 0, 0, 0), (5, 24, 0, 0, 0), (6, 3, 0, 0, 0), (0, 0, 0, 0, 0), (6, 12, 0, 0, 0), (3, 170, 0, 0, 0), (2, 0, 77, 4, 0), (4, 4, 0, 0, 0), (5, 4, 0, 0, 0), (2, 0, 81, 23, 0), (4, 23, 0, 0, 0), (5, 23, 0, 0, 0), (0, 0, 0, 0, 0), (0, 0, 0, 0, 0), (1, 0, 93, 0, 3), (1, 0, 96, 0, 4)],
  [(2, 0, 102, 7, 0), (3, 7, 0, 0, 0), (0, 0, 0, 0, 0), (1, 0, 15, 0, 1), (2, 0, 114, 10, 0), (4, 10, 0, 0, 0), (5, 10, 0, 0, 0), (1, 0, 18, 0, 2), (1, 4, 23, 1, 2), (2, 4, 27, 61, 0), (4, 61, 0, 0, 0), (5, 61, 0, 0, 0), (6, 5, 0, 0, 0), (1, 4, 36, 1, 4), (1, 4, 15, 1, 0), (2, 4, 45, 81, 0), (4, 81, 0, 0, 0), (5, 81, 0, 0, 0), (6, 6, 0, 0, 0), (2, 4, 49, 12, 0), (4, 12, 0, 0, 0), (5, 12, 0, 0, 0), (6, 4, 0, 0, 0), (2, 4, 53, 13, 0)],
  [(4, 13, 0, 0, 0), (5, 13, 0, 0, 0), (1, 4, 9, 1, 3), (2, 4, 65, 74, 0), (4, 74, 0, 0, 0), (5, 74, 0, 0, 0), (2, 4, 68, 82, 0), (4, 82, 0, 0, 0), (5, 82, 0, 0, 0), (2, 4, 71, 14, 0), (4, 14, 0, 0, 0), (5, 14, 0, 0, 0), (2, 4, 77, 17, 0), (4, 17, 0, 0, 0), (5, 17, 0, 0, 0), (2, 4, 81, 19, 0), (4, 19, 0, 0, 0), (5, 19, 0, 0, 0), (2, 4, 85, 18, 0), (4, 18, 0, 0, 0), (5, 18, 0, 0, 0), (2, 4, 91, 16, 0), (4, 16, 0, 0, 0), (5, 16, 0, 0, 0)],
  [(2, 4, 94, 15, 0), (3, 15, 0, 0, 0), (3, 169, 0, 0, 0), (1, 4, 19, 1, 1), (2, 4, 106, 84, 0), (4, 84, 0, 0, 0), (5, 84, 0, 0, 0), (2, 4, 113, 83, 0), (4, 83, 0, 0, 0), (5, 83, 0, 0, 0), (2, 4, 120, 55, 0), (1, 3, 9, 2, 0), (1, 3, 15, 2, 1), (1, 3, 18, 2, 2), (1, 3, 21, 2, 3), (1, 3, 24, 2, 4), (1, 3, 31, 2, 5), (1, 3, 35, 2, 6), (1, 3, 38, 2, 7), (1, 3, 42, 2, 8), (1, 3, 45, 2, 9), (1, 3, 48, 2, 10), (1, 3, 51, 2, 11), (1, 3, 54, 2, 12)],
  [(0, 0, 0, 0, 0), (2, 3, 61, 23, 0), (2, 3, 80, 28, 0), (4, 28, 0, 0, 0), (5, 28, 0, 0, 0), (0, 0, 0, 0, 0), (2, 3, 93, 55, 0), (2, 3, 97, 35, 0), (4, 35, 0, 0, 0), (5, 35, 0, 0, 0), (2, 3, 101, 36, 0), (4, 36, 0, 0, 0), (5, 36, 0, 0, 0), (2, 3, 104, 93, 0), (3, 93, 0, 0, 0), (6, 7, 0, 0, 0), (2, 3, 110, 37, 0), (4, 37, 0, 0, 0), (5, 37, 0, 0, 0), (2, 3, 125, 31, 0), (4, 31, 0, 0, 0), (5, 31, 0, 0, 0), (2, 8, 15, 39, 0), (4, 39, 0, 0, 0)],
  [(5, 39, 0, 0, 0), (6, 8, 0, 0, 0), (0, 0, 0, 0, 0), (2, 8, 29, 41, 0), (4, 41, 0, 0, 0), (5, 41, 0, 0, 0), (1, 8, 33, 3, 3), (1, 8, 36, 3, 8), (2, 8, 40, 44, 0), (4, 44, 0, 0, 0), (5, 44, 0, 0, 0), (2, 8, 44, 42, 0), (4, 42, 0, 0, 0), (5, 42, 0, 0, 0), (1, 8, 48, 3, 1), (1, 8, 51, 3, 2), (1, 8, 54, 3, 4), (1, 8, 57, 3, 5), (1, 8, 60, 3, 6), (1, 8, 63, 3, 7), (1, 8, 9, 3, 0), (2, 8, 69, 43, 0), (3, 43, 0, 0, 0), (2, 8, 91, 94, 0)],
  [(3, 94, 0, 0, 0), (2, 8, 97, 23, 0), (2, 8, 101, 45, 0), (4, 45, 0, 0, 0), (5, 45, 0, 0, 0), (2, 8, 108, 46, 0), (4, 46, 0, 0, 0), (5, 46, 0, 0, 0), (2, 8, 112, 30, 0), (4, 30, 0, 0, 0), (5, 30, 0, 0, 0), (2, 8, 115, 47, 0), (4, 47, 0, 0, 0), (5, 47, 0, 0, 0), (2, 8, 119, 33, 0), (4, 33, 0, 0, 0), (5, 33, 0, 0, 0), (2, 8, 123, 48, 0), (4, 48, 0, 0, 0), (5, 48, 0, 0, 0), (2, 8, 127, 25, 0), (4, 25, 0, 0, 0), (5, 25, 0, 0, 0), (2, 8, 130, 28, 0)],
  [(2, 8, 137, 29, 0), (4, 29, 0, 0, 0), (5, 29, 0, 0, 0), (0, 0, 0, 0, 0), (2, 8, 142, 32, 0), (4, 32, 0, 0, 0), (5, 32, 0, 0, 0), (2, 8, 149, 34, 0), (4, 34, 0, 0, 0), (5, 34, 0, 0, 0), (2, 8, 153, 330, 0), (1, 1, 31, 4, 6), (1, 1, 57, 4, 12), (1, 1, 60, 4, 13), (1, 1, 63, 4, 14), (1, 1, 66, 4, 15), (1, 1, 69, 4, 16), (1, 1, 72, 4, 17), (1, 1, 49, 4, 18), (1, 1, 75, 4, 19), (1, 1, 9, 4, 0), (0, 0, 0, 0, 0), (1, 1, 15, 4, 1), (1, 1, 19, 4, 2)],
  [(1, 1, 22, 4, 3), (1, 1, 25, 4, 4), (1, 1, 28, 4, 5), (1, 1, 34, 4, 7), (1, 1, 37, 4, 8), (1, 1, 40, 4, 9), (1, 1, 43, 4, 10), (1, 1, 46, 4, 11), (2, 1, 89, 55, 0), (1, 5, 30, 5, 6), (1, 5, 34, 5, 7), (1, 5, 38, 5, 8), (1, 5, 9, 5, 0), (1, 5, 15, 5, 1), (1, 5, 18, 5, 2), (1, 5, 21, 5, 3), (1, 5, 24, 5, 4), (1, 5, 27, 5, 5), (1, 9, 15, 6, 1), (2, 9, 26, 100, 0), (4, 100, 0, 0, 0), (5, 100, 0, 0, 0), (6, 10, 0, 0, 0), (1, 9, 29, 6, 3)],
  [(1, 9, 33, 6, 4), (1, 9, 9, 6, 0), (2, 9, 42, 65, 0), (4, 65, 0, 0, 0), (5, 65, 0, 0, 0), (6, 9, 0, 0, 0), (2, 9, 46, 67, 0), (4, 67, 0, 0, 0), (5, 67, 0, 0, 0), (2, 9, 49, 68, 0), (4, 68, 0, 0, 0), (5, 68, 0, 0, 0), (2, 9, 52, 70, 0), (4, 70, 0, 0, 0), (5, 70, 0, 0, 0), (2, 9, 55, 71, 0), (4, 71, 0, 0, 0), (5, 71, 0, 0, 0), (2, 9, 58, 72, 0), (4, 72, 0, 0, 0), (5, 72, 0, 0, 0), (2, 9, 61, 81, 0), (2, 9, 65, 74, 0), (1, 9, 25, 6, 2)],
  [(2, 9, 72, 51, 0), (4, 51, 0, 0, 0), (5, 51, 0, 0, 0), (2, 9, 81, 64, 0), (4, 64, 0, 0, 0), (5, 64, 0, 0, 0), (2, 9, 95, 66, 0), (4, 66, 0, 0, 0), (5, 66, 0, 0, 0), (2, 9, 105, 82, 0), (2, 9, 108, 83, 0), (2, 9, 121, 69, 0), (4, 69, 0, 0, 0), (5, 69, 0, 0, 0), (2, 9, 131, 57, 0), (4, 57, 0, 0, 0), (5, 57, 0, 0, 0), (2, 9, 147, 84, 0), (1, 6, 15, 7, 0), (0, 0, 0, 0, 0), (1, 6, 25, 7, 1), (1, 6, 28, 7, 2), (1, 6, 31, 7, 8), (1, 6, 9, 7, 9)],
  [(2, 6, 34, 74, 0), (1, 6, 37, 7, 4), (1, 6, 40, 7, 3), (2, 6, 43, 75, 0), (3, 75, 0, 0, 0), (2, 6, 47, 77, 0), (4, 77, 0, 0, 0), (5, 77, 0, 0, 0), (1, 6, 50, 7, 6), (2, 6, 54, 78, 0), (3, 78, 0, 0, 0), (2, 6, 58, 76, 0), (3, 76, 0, 0, 0), (2, 6, 61, 79, 0), (4, 79, 0, 0, 0), (5, 79, 0, 0, 0), (2, 6, 64, 80, 0), (4, 80, 0, 0, 0), (5, 80, 0, 0, 0), (0, 0, 0, 0, 0), (0, 0, 0, 0, 0), (0, 0, 0, 0, 0), (0, 0, 0, 0, 0), (1, 6, 82, 7, 5)],
  [(2, 6, 85, 81, 0), (1, 6, 92, 7, 7), (2, 6, 95, 52, 0), (4, 52, 0, 0, 0), (5, 52, 0, 0, 0), (1, 11, 15, 8, 1), (1, 11, 19, 8, 2), (1, 11, 23, 8, 3), (1, 11, 9, 8, 0), (2, 11, 26, 87, 0), (4, 87, 0, 0, 0), (5, 87, 0, 0, 0), (6, 11, 0, 0, 0), (2, 7, 9, 24, 0), (2, 7, 15, 56, 0), (4, 56, 0, 0, 0), (5, 56, 0, 0, 0), (0, 0, 0, 0, 0), (2, 7, 35, 89, 0), (3, 89, 0, 0, 0), (2, 7, 41, 23, 0), (2, 7, 44, 55, 0), (2, 7, 55, 54, 0), (2, 7, 62, 92, 0)],
  [(3, 92, 0, 0, 0), (2, 7, 66, 95, 0), (3, 95, 0, 0, 0), (2, 7, 70, 93, 0), (2, 7, 83, 99, 0), (3, 99, 0, 0, 0), (2, 7, 89, 97, 0), (3, 97, 0, 0, 0), (2, 7, 92, 330, 0), (1, 10, 10, 9, 0), (2, 10, 30, 49, 0), (4, 49, 0, 0, 0), (5, 49, 0, 0, 0), (1, 10, 19, 9, 1), (2, 10, 33, 20, 0), (4, 20, 0, 0, 0), (5, 20, 0, 0, 0), (1, 10, 26, 9, 2), (2, 10, 34, 61, 0), (2, 10, 35, 50, 0), (4, 50, 0, 0, 0), (5, 50, 0, 0, 0), (2, 10, 39, 21, 0), (4, 21, 0, 0, 0)],
  [(5, 21, 0, 0, 0), (2, 10, 42, 62, 0), (4, 62, 0, 0, 0), (5, 62, 0, 0, 0), (1, 12, 103, 10, 15), (1, 12, 106, 10, 16), (1, 12, 91, 10, 17), (2, 12, 109, 171, 0), (3, 171, 0, 0, 0), (2, 12, 113, 169, 0), (2, 12, 117, 168, 0), (4, 168, 0, 0, 0), (5, 168, 0, 0, 0), (1, 12, 15, 10, 1), (2, 12, 120, 85, 0), (4, 85, 0, 0, 0), (5, 85, 0, 0, 0), (2, 12, 124, 167, 0), (4, 167, 0, 0, 0), (5, 167, 0, 0, 0), (2, 12, 128, 176, 0), (4, 176, 0, 0, 0), (5, 176, 0, 0, 0), (2, 12, 132, 86, 0)],
  [(4, 86, 0, 0, 0), (5, 86, 0, 0, 0), (2, 12, 136, 166, 0), (4, 166, 0, 0, 0), (5, 166, 0, 0, 0), (2, 12, 151, 88, 0), (4, 88, 0, 0, 0), (5, 88, 0, 0, 0), (0, 0, 0, 0, 0), (1, 12, 161, 10, 13), (2, 12, 164, 178, 0), (4, 178, 0, 0, 0), (5, 178, 0, 0, 0), (1, 12, 65, 10, 10), (2, 12, 168, 73, 0), (4, 73, 0, 0, 0), (5, 73, 0, 0, 0), (1, 12, 74, 10, 11), (2, 12, 171, 63, 0), (4, 63, 0, 0, 0), (5, 63, 0, 0, 0), (2, 12, 174, 179, 0), (4, 179, 0, 0, 0), (5, 179, 0, 0, 0)],
  [(1, 12, 22, 10, 2), (1, 12, 26, 10, 3), (2, 12, 177, 101, 0), (4, 101, 0, 0, 0), (5, 101, 0, 0, 0), (1, 12, 37, 10, 5), (2, 12, 186, 164, 0), (4, 164, 0, 0, 0), (5, 164, 0, 0, 0), (1, 12, 87, 10, 12), (2, 12, 189, 11, 0), (4, 11, 0, 0, 0), (5, 11, 0, 0, 0), (2, 12, 190, 62, 0), (1, 12, 95, 10, 18), (1, 12, 99, 10, 19), (1, 12, 42, 10, 6), (2, 12, 233, 177, 0), (4, 177, 0, 0, 0), (5, 177, 0, 0, 0), (2, 12, 240, 22, 0), (4, 22, 0, 0, 0), (5, 22, 0, 0, 0), (2, 12, 243, 173, 0)],
  [(4, 173, 0, 0, 0), (5, 173, 0, 0, 0), (2, 12, 261, 174, 0), (4, 174, 0, 0, 0), (5, 174, 0, 0, 0), (2, 12, 273, 55, 0), (2, 12, 276, 89, 0), (2, 12, 282, 90, 0), (3, 90, 0, 0, 0), (2, 12, 285, 165, 0), (4, 165, 0, 0, 0), (5, 165, 0, 0, 0), (2, 12, 288, 91, 0), (3, 91, 0, 0, 0), (2, 12, 292, 93, 0), (2, 12, 295, 94, 0), (2, 12, 299, 58, 0), (2, 12, 303, 25, 0), (2, 12, 306, 28, 0), (2, 12, 312, 172, 0), (4, 172, 0, 0, 0), (5, 172, 0, 0, 0), (2, 12, 315, 29, 0), (2, 12, 319, 30, 0)],
  [(2, 12, 322, 23, 0), (2, 12, 325, 31, 0), (2, 12, 329, 32, 0), (2, 12, 333, 33, 0), (2, 12, 337, 34, 0), (2, 12, 350, 59, 0), (4, 59, 0, 0, 0), (5, 59, 0, 0, 0), (2, 12, 353, 60, 0), (4, 60, 0, 0, 0), (5, 60, 0, 0, 0), (2, 12, 356, 180, 0), (4, 180, 0, 0, 0), (5, 180, 0, 0, 0), (2, 12, 360, 170, 0), (2, 12, 363, 98, 0), (3, 98, 0, 0, 0), (2, 12, 366, 54, 0), (1, 12, 56, 10, 9), (2, 12, 369, 3, 0), (4, 3, 0, 0, 0), (5, 3, 0, 0, 0), (2, 12, 372, 5, 0), (4, 5, 0, 0, 0)],
  [(5, 5, 0, 0, 0), (2, 12, 375, 181, 0), (4, 181, 0, 0, 0), (5, 181, 0, 0, 0), (2, 12, 378, 53, 0), (4, 53, 0, 0, 0), (5, 53, 0, 0, 0), (2, 12, 381, 97, 0), (0, 0, 0, 0, 0), (0, 0, 0, 0, 0), (2, 12, 392, 27, 0), (4, 27, 0, 0, 0), (5, 27, 0, 0, 0), (2, 12, 395, 6, 0), (4, 6, 0, 0, 0), (5, 6, 0, 0, 0), (2, 12, 402, 0, 0), (4, 0, 0, 0, 0), (5, 0, 0, 0, 0), (2, 12, 405, 175, 0), (4, 175, 0, 0, 0), (5, 175, 0, 0, 0), (2, 12, 408, 4, 0), (2, 12, 411, 96, 0)],
  [(3, 96, 0, 0, 0), (2, 12, 423, 8, 0), (4, 8, 0, 0, 0), (5, 8, 0, 0, 0), (2, 12, 427, 9, 0), (4, 9, 0, 0, 0), (5, 9, 0, 0, 0), (2, 12, 430, 182, 0), (3, 182, 0, 0, 0), (2, 12, 434, 183, 0), (4, 183, 0, 0, 0), (5, 183, 0, 0, 0), (1, 12, 46, 10, 7), (2, 12, 439, 38, 0), (4, 38, 0, 0, 0), (5, 38, 0, 0, 0), (2, 12, 447, 40, 0), (4, 40, 0, 0, 0), (5, 40, 0, 0, 0), (1, 12, 50, 10, 8), (1, 12, 450, 10, 14), (1, 12, 29, 10, 4), (1, 12, 9, 10, 0), (2, 12, 457, 21, 0)],
  [(2, 12, 460, 26, 0), (4, 26, 0, 0, 0), (5, 26, 0, 0, 0), (0, 0, 0, 0, 0), (1, 13, 7, 11, 0), (1, 13, 66, 11, 2), (1, 13, 69, 11, 3), (1, 13, 17, 11, 4), (2, 13, 72, 191, 0), (4, 191, 0, 0, 0), (5, 191, 0, 0, 0), (6, 13, 0, 0, 0), (2, 13, 76, 192, 0), (4, 192, 0, 0, 0), (5, 192, 0, 0, 0), (2, 13, 79, 190, 0), (4, 190, 0, 0, 0), (5, 190, 0, 0, 0), (2, 13, 83, 195, 0), (3, 195, 0, 0, 0), (1, 13, 21, 11, 5), (1, 13, 24, 11, 6), (1, 13, 27, 11, 7), (2, 13, 86, 198, 0)],
  [(4, 198, 0, 0, 0), (5, 198, 0, 0, 0), (2, 13, 90, 196, 0), (3, 196, 0, 0, 0), (0, 0, 0, 0, 0), (1, 13, 96, 11, 10), (2, 13, 99, 204, 0), (4, 204, 0, 0, 0), (5, 204, 0, 0, 0), (1, 13, 30, 11, 8), (1, 13, 102, 11, 11), (1, 13, 34, 11, 9), (1, 13, 105, 11, 14), (2, 13, 108, 205, 0), (4, 205, 0, 0, 0), (5, 205, 0, 0, 0), (1, 13, 111, 11, 13), (1, 13, 114, 11, 15), (1, 13, 117, 11, 12), (2, 13, 120, 206, 0), (3, 206, 0, 0, 0), (2, 13, 123, 207, 0), (3, 207, 0, 0, 0), (0, 0, 0, 0, 0)],
  [(0, 0, 0, 0, 0), (0, 0, 0, 0, 0), (0, 0, 0, 0, 0), (1, 13, 142, 11, 18), (1, 13, 41, 11, 17), (1, 13, 145, 11, 19), (2, 13, 148, 208, 0), (4, 208, 0, 0, 0), (5, 208, 0, 0, 0), (2, 13, 151, 209, 0), (4, 209, 0, 0, 0), (5, 209, 0, 0, 0), (2, 13, 154, 211, 0), (4, 211, 0, 0, 0), (5, 211, 0, 0, 0), (2, 13, 157, 210, 0), (4, 210, 0, 0, 0), (5, 210, 0, 0, 0), (1, 13, 13, 11, 1), (2, 13, 161, 217, 0), (4, 217, 0, 0, 0), (5, 217, 0, 0, 0), (1, 13, 37, 11, 16), (2, 13, 167, 216, 0)],
  [(4, 216, 0, 0, 0), (5, 216, 0, 0, 0), (2, 13, 171, 218, 0), (4, 218, 0, 0, 0), (5, 218, 0, 0, 0), (2, 13, 174, 221, 0), (4, 221, 0, 0, 0), (5, 221, 0, 0, 0), (2, 13, 178, 223, 0), (4, 223, 0, 0, 0), (5, 223, 0, 0, 0), (2, 13, 181, 215, 0), (4, 215, 0, 0, 0), (5, 215, 0, 0, 0), (2, 13, 184, 224, 0), (4, 224, 0, 0, 0), (5, 224, 0, 0, 0), (2, 13, 187, 222, 0), (4, 222, 0, 0, 0), (5, 222, 0, 0, 0), (2, 13, 190, 214, 0), (4, 214, 0, 0, 0), (5, 214, 0, 0, 0), (2, 13, 194, 226, 0)],
  [(4, 226, 0, 0, 0), (5, 226, 0, 0, 0), (1, 13, 198, 11, 20), (2, 13, 201, 225, 0), (4, 225, 0, 0, 0), (5, 225, 0, 0, 0), (2, 13, 205, 227, 0), (4, 227, 0, 0, 0), (5, 227, 0, 0, 0), (2, 13, 208, 228, 0), (4, 228, 0, 0, 0), (5, 228, 0, 0, 0), (2, 13, 211, 229, 0), (4, 229, 0, 0, 0), (5, 229, 0, 0, 0), (2, 13, 214, 230, 0), (4, 230, 0, 0, 0), (5, 230, 0, 0, 0), (2, 13, 217, 213, 0), (4, 213, 0, 0, 0), (5, 213, 0, 0, 0), (2, 13, 220, 212, 0), (4, 212, 0, 0, 0), (5, 212, 0, 0, 0)],
  [(2, 13, 62, 186, 0), (4, 186, 0, 0, 0), (5, 186, 0, 0, 0), (2, 13, 224, 231, 0), (4, 231, 0, 0, 0), (5, 231, 0, 0, 0), (2, 13, 227, 220, 0), (4, 220, 0, 0, 0), (5, 220, 0, 0, 0), (2, 13, 230, 242, 0), (4, 242, 0, 0, 0), (5, 242, 0, 0, 0), (2, 13, 233, 233, 0), (4, 233, 0, 0, 0), (5, 233, 0, 0, 0), (2, 13, 236, 234, 0), (4, 234, 0, 0, 0), (5, 234, 0, 0, 0), (1, 13, 239, 11, 22), (1, 13, 242, 11, 23), (2, 13, 245, 235, 0), (4, 235, 0, 0, 0), (5, 235, 0, 0, 0), (1, 13, 44, 11, 21)],
  [(2, 13, 248, 236, 0), (4, 236, 0, 0, 0), (5, 236, 0, 0, 0), (2, 13, 251, 240, 0), (4, 240, 0, 0, 0), (5, 240, 0, 0, 0), (2, 13, 254, 238, 0), (3, 238, 0, 0, 0), (2, 13, 257, 239, 0), (3, 239, 0, 0, 0), (2, 13, 260, 245, 0), (3, 245, 0, 0, 0), (2, 13, 263, 243, 0), (4, 243, 0, 0, 0), (5, 243, 0, 0, 0), (2, 13, 266, 246, 0), (4, 246, 0, 0, 0), (5, 246, 0, 0, 0), (2, 13, 269, 241, 0), (4, 241, 0, 0, 0), (5, 241, 0, 0, 0), (1, 13, 47, 11, 24), (2, 13, 272, 244, 0), (4, 244, 0, 0, 0)],
  [(5, 244, 0, 0, 0), (2, 13, 275, 253, 0), (4, 253, 0, 0, 0), (5, 253, 0, 0, 0), (2, 13, 278, 254, 0), (4, 254, 0, 0, 0), (5, 254, 0, 0, 0), (2, 13, 281, 255, 0), (4, 255, 0, 0, 0), (5, 255, 0, 0, 0), (2, 13, 284, 257, 0), (4, 257, 0, 0, 0), (5, 257, 0, 0, 0), (2, 13, 287, 256, 0), (4, 256, 0, 0, 0), (5, 256, 0, 0, 0), (2, 13, 290, 258, 0), (4, 258, 0, 0, 0), (5, 258, 0, 0, 0), (2, 13, 293, 259, 0), (4, 259, 0, 0, 0), (5, 259, 0, 0, 0), (0, 0, 0, 0, 0), (2, 13, 298, 202, 0)],
  [(3, 202, 0, 0, 0), (2, 13, 302, 267, 0), (4, 267, 0, 0, 0), (5, 267, 0, 0, 0), (2, 13, 305, 268, 0), (4, 268, 0, 0, 0), (5, 268, 0, 0, 0), (2, 13, 309, 270, 0), (4, 270, 0, 0, 0), (5, 270, 0, 0, 0), (2, 13, 313, 272, 0), (4, 272, 0, 0, 0), (5, 272, 0, 0, 0), (2, 13, 316, 274, 0), (4, 274, 0, 0, 0), (5, 274, 0, 0, 0), (2, 13, 319, 276, 0), (4, 276, 0, 0, 0), (5, 276, 0, 0, 0), (0, 0, 0, 0, 0), (2, 13, 324, 278, 0), (4, 278, 0, 0, 0), (5, 278, 0, 0, 0), (1, 13, 327, 11, 25)],
  [(1, 13, 330, 11, 26), (2, 13, 333, 280, 0), (4, 280, 0, 0, 0), (5, 280, 0, 0, 0), (0, 0, 0, 0, 0), (2, 13, 338, 284, 0), (4, 284, 0, 0, 0), (5, 284, 0, 0, 0), (2, 13, 341, 285, 0), (4, 285, 0, 0, 0), (5, 285, 0, 0, 0), (2, 13, 344, 193, 0), (4, 193, 0, 0, 0), (5, 193, 0, 0, 0), (2, 13, 347, 290, 0), (3, 290, 0, 0, 0), (2, 13, 350, 293, 0), (4, 293, 0, 0, 0), (5, 293, 0, 0, 0), (0, 0, 0, 0, 0), (0, 0, 0, 0, 0), (2, 13, 359, 311, 0), (4, 311, 0, 0, 0), (5, 311, 0, 0, 0)],
  [(2, 13, 362, 302, 0), (4, 302, 0, 0, 0), (5, 302, 0, 0, 0), (2, 13, 365, 303, 0), (4, 303, 0, 0, 0), (5, 303, 0, 0, 0), (2, 13, 368, 305, 0), (4, 305, 0, 0, 0), (5, 305, 0, 0, 0), (2, 13, 371, 306, 0), (4, 306, 0, 0, 0), (5, 306, 0, 0, 0), (1, 13, 374, 11, 27), (0, 0, 0, 0, 0), (0, 0, 0, 0, 0), (1, 13, 50, 11, 28), (2, 13, 381, 315, 0), (4, 315, 0, 0, 0), (5, 315, 0, 0, 0), (0, 0, 0, 0, 0), (2, 13, 386, 317, 0), (3, 317, 0, 0, 0), (2, 13, 389, 194, 0), (4, 194, 0, 0, 0)],
  [(5, 194, 0, 0, 0), (1, 13, 393, 11, 29), (0, 0, 0, 0, 0), (2, 13, 397, 319, 0), (4, 319, 0, 0, 0), (5, 319, 0, 0, 0), (1, 13, 56, 11, 32), (1, 13, 53, 11, 31), (1, 13, 400, 11, 30), (2, 13, 403, 320, 0), (4, 320, 0, 0, 0), (5, 320, 0, 0, 0), (2, 13, 406, 321, 0), (4, 321, 0, 0, 0), (5, 321, 0, 0, 0), (2, 13, 409, 322, 0), (4, 322, 0, 0, 0), (5, 322, 0, 0, 0), (2, 13, 412, 323, 0), (4, 323, 0, 0, 0), (5, 323, 0, 0, 0), (1, 13, 59, 11, 33), (1, 13, 415, 11, 34), (0, 0, 0, 0, 0)],
  [(1, 13, 421, 11, 35), (2, 13, 424, 327, 0), (4, 327, 0, 0, 0), (5, 327, 0, 0, 0), (0, 0, 0, 0, 0), (0, 0, 0, 0, 0), (0, 0, 0, 0, 0)]]
theorem LKN_c : chC 24 LKN = true := by decide +kernel
set_option maxRecDepth 100000 in
theorem LKN_w : wz LK LKN.flatten = true := by decide +kernel
noncomputable def lkn (p : Nat) : Option C5 := lkC 24 LKN p
theorem lkn_ok {p : Nat} {c : C5} (h : lkn p = some c) (h0 : ¬ c.1 = 0) : ∃ w, LK[p]? = some w ∧ dcc c = some w := wz_ok h0 LKN.flatten LK LKN_w p (lkC_ok (by decide) LKN LKN_c p h)
theorem l1_ok {q : vw_C} {ci o i k p : Nat} (hv : vwCl[ci]? = some q) (h : c5e (lkn p) (1, o, i, ci, k) = true) : LK[p]? = some (.fieldLink (ow o) i (q.2.1 k).1 (q.2.1 k).2.1 (q.2.1 k).2.2.1) := by
  obtain ⟨w, e1, e2⟩ := lkn_ok (c5_ok h) (Nat.succ_ne_zero 0)
  have e3 : (vwCl[ci]?).map (fun q => Cond.fieldLink (ow o) i (q.2.1 k).1 (q.2.1 k).2.1 (q.2.1 k).2.2.1) = some w := e2
  rw [hv] at e3
  exact e1.trans e3.symm
theorem l2_ok {q : ME} {j o i x p : Nat} (hq : lkC 24 MTc j = some q) (h : c5e (lkn p) (2, o, i, j, x) = true) : LK[p]? = some (.methodLink (ow o) i q.1) := by
  obtain ⟨w, e1, e2⟩ := lkn_ok (c5_ok h) (Nat.succ_ne_zero 1)
  have e3 : (lkC 24 MTc j).map (fun q => Cond.methodLink (ow o) i q.1) = some w := e2
  rw [hq] at e3
  exact e1.trans e3.symm
theorem l6_ok {o x y z p : Nat} (h : c5e (lkn p) (6, o, x, y, z) = true) : LK[p]? = some (.initialized (ow o)) := by
  obtain ⟨w, e1, e2⟩ := lkn_ok (c5_ok h) (Nat.succ_ne_zero 5)
  exact e1.trans e2.symm
theorem l3_ok {q : ME} {j x y z p : Nat} (hq : lkC 24 MTc j = some q) (h : c5e (lkn p) (3, j, x, y, z) = true) : LK[p]? = some (.static q.1) := by
  obtain ⟨w, e1, e2⟩ := lkn_ok (c5_ok h) (Nat.succ_ne_zero 2)
  have e3 : (lkC 24 MTc j).map (fun q => Cond.static q.1) = some w := e2
  rw [hq] at e3
  exact e1.trans e3.symm
theorem l4_ok {q : ME} {j x y z p : Nat} (hq : lkC 24 MTc j = some q) (h : c5e (lkn p) (4, j, x, y, z) = true) : LK[p]? = some (.instanceMethod q.1) := by
  obtain ⟨w, e1, e2⟩ := lkn_ok (c5_ok h) (Nat.succ_ne_zero 3)
  have e3 : (lkC 24 MTc j).map (fun q => Cond.instanceMethod q.1) = some w := e2
  rw [hq] at e3
  exact e1.trans e3.symm
theorem l5_ok {q : ME} {j x y z p : Nat} (hq : lkC 24 MTc j = some q) (h : c5e (lkn p) (5, j, x, y, z) = true) : LK[p]? = some (.selects q.1.cls q.1 q.1) := by
  obtain ⟨w, e1, e2⟩ := lkn_ok (c5_ok h) (Nat.succ_ne_zero 4)
  have e3 : (lkC 24 MTc j).map (fun q => Cond.selects q.1.cls q.1 q.1) = some w := e2
  rw [hq] at e3
  exact e1.trans e3.symm
noncomputable def CIN : List (List Nat) := [[0, 0, 0, 0, 0, 0, 0, 0, 0, 0, 0, 4, 4, 4, 4, 4, 4, 4, 4, 4, 3, 3, 3, 3],
  [3, 3, 3, 3, 3, 3, 3, 3, 3, 3, 3, 3, 3, 3, 8, 8, 8, 8, 8, 8, 8, 8, 8, 8],
  [8, 1, 1, 1, 1, 1, 1, 1, 1, 1, 1, 1, 1, 5, 5, 9, 9, 9, 9, 9, 9, 9, 9, 9],
  [9, 6, 6, 6, 6, 6, 6, 6, 6, 6, 6, 6, 6, 11, 11, 11, 11, 7, 7, 7, 7, 7, 7, 7],
  [7, 7, 7, 7, 10, 10, 12, 12, 12, 12, 12, 12, 12, 12, 12, 12, 12, 12, 12, 12, 12, 12, 12, 12],
  [12, 12, 12, 12, 12, 12, 12, 12, 12, 12, 12, 12, 12, 12, 12, 12, 12, 12, 12, 12, 12, 12, 12, 12],
  [12, 12, 12, 12, 12, 12, 12, 12, 12, 12, 12, 12, 12, 12, 12, 12, 12, 12, 12, 12, 12, 12, 12, 12],
  [12, 12, 12, 12, 12, 12, 12, 12, 12, 12, 12, 12, 12, 12, 12, 12, 12, 12, 13, 13, 13, 13, 13, 13],
  [13, 13, 13, 13, 13, 13, 13, 13, 13, 13, 13, 13, 13, 13, 13, 13, 13, 13, 13, 13, 13, 13, 13, 13],
  [13, 13, 13, 13, 13, 13, 13, 13, 13, 13, 13, 13, 13, 13, 13, 13, 13, 13, 13, 13, 13, 13, 13, 13],
  [13, 13, 13, 13, 13, 13, 13, 13, 13, 13, 13, 13, 13, 13, 13, 13, 13, 13, 13, 13, 13, 13, 13, 13],
  [13, 13, 13, 13, 13, 13, 13, 13, 13, 13, 13, 13, 13, 13, 13, 13, 13, 13, 13, 13, 13, 13, 13, 13],
  [13, 13, 13, 13, 13, 13, 13, 13, 13, 13, 13, 13, 13, 13, 13, 13, 13, 13, 13, 13, 13, 13, 13, 13],
  [13, 13, 13, 13, 13, 13, 13, 13, 13, 13, 13, 13, 13, 13, 13, 13, 13, 13, 2]]
theorem CIN_c : chC 24 CIN = true := by decide +kernel
noncomputable def wc : List ME → List Nat → Bool
  | _, [] => true
  | [], _ :: _ => false
  | q :: r, c :: l => decide (q.1.cls = ow c) && wc r l
set_option maxRecDepth 100000 in
theorem CIN_w : wc MT CIN.flatten = true := by decide +kernel
theorem wc_ok {c : Nat} {q : ME} : ∀ (b : List Nat) (a : List ME), wc a b = true → ∀ p : Nat, b[p]? = some c → a[p]? = some q → q.1.cls = ow c := by
  intro b
  induction b with
  | nil => intro a _ p h; cases h
  | cons c' l ih =>
    intro a h p hp hq
    cases a with
    | nil => cases h
    | cons w r =>
      obtain ⟨h1, h2⟩ := and_e (show (decide (w.1.cls = ow c') && wc r l) = true from h)
      cases p with
      | zero =>
        have e : c' = c := Option.some.inj hp
        have e' : w = q := Option.some.inj hq
        subst e; subst e'
        exact of_decide_eq_true h1
      | succ p => exact ih r h2 p hp hq
theorem cin_ok {j c : Nat} {q : ME} (h : lkC 24 CIN j = some c) (hq : MT[j]? = some q) : q.1.cls = ow c := wc_ok CIN.flatten MT CIN_w j (lkC_ok (by decide) CIN CIN_c j h) hq
noncomputable def VWN : List Nat := [0, 4, 3, 8, 1, 5, 9, 6, 11, 10, 12, 13]
theorem VWN_e : vwCl.map (fun q => q.1) = VWN.map ow := by decide +kernel
theorem vwn_ok {ci c : Nat} (h : VWN[ci]? = some c) : vwCl[ci]?.map (fun q => q.1) = some (ow c) := by
  have e : (vwCl.map (fun q => q.1))[ci]? = (VWN.map ow)[ci]? := by rw [VWN_e]
  rw [List.getElem?_map, List.getElem?_map, h] at e
  exact e
noncomputable def jF (o idx ci k nest p : Nat) : Bool := match vwCl[ci]? with
  | some q => Nat.blt k q.2.2 && (Nat.beq nest 0 && c5e (lkn p) (1, o, idx, ci, k))
  | none => false
theorem jF_ok {o idx ci k nest p : Nat} (h : jF o idx ci k nest p = true) : okF LK (ow o) idx ci k nest p = true := by
  unfold jF at h
  split at h
  · rename_i q hv
    obtain ⟨h1, h⟩ := and_e h
    obtain ⟨h2, h3⟩ := and_e h
    have e : nest = 0 := Nat.eq_of_beq_eq_true h2
    subst e
    have l := l1_ok hv h3
    obtain ⟨a, T, N⟩ := q
    unfold okF
    rw [hv]
    show (decide (k < N) && decide (LK[p]? = some (.fieldLink (ow o) idx (T k).1 (T k).2.1 (T k).2.2.1))) = true
    rw [decide_eq_true l, decide_eq_true (show k < N from Nat.le_of_ble_eq_true h1)]
    rfl
  · cases h
noncomputable def jcS (o idx n j p1 p2 p3 : Nat) : Bool := match lkC 24 MTc j, lkC 24 CIN j with
  | some q, some c => Nat.beq n q.2.2.2.2.1 && (c5e (lkn p1) (2, o, idx, j, 0) && (c5e (lkn p2) (3, j, 0, 0, 0) && c5e (lkn p3) (6, c, 0, 0, 0)))
  | _, _ => false
theorem jcS_ok {o idx n j p1 p2 p3 : Nat} (h : jcS o idx n j p1 p2 p3 = true) : okCS MT LK (ow o) idx n j [0, p1, p2, p3] = true := by
  unfold jcS at h
  split at h
  · rename_i q c hq hc
    obtain ⟨h1, h⟩ := and_e h
    obtain ⟨h2, h⟩ := and_e h
    obtain ⟨h3, h4⟩ := and_e h
    have m := mt5 hq
    unfold okCS
    rw [m]
    show (Nat.beq n q.2.2.2.2.1 && (decide (LK[p1]? = some (.methodLink (ow o) idx q.1)) && decide (LK[p2]? = some (.static q.1)) && decide (LK[p3]? = some (.initialized q.1.cls)))) = true
    rw [h1, decide_eq_true (l2_ok hq h2), decide_eq_true (l3_ok hq h3), decide_eq_true (show LK[p3]? = some (.initialized q.1.cls) by rw [cin_ok hc m]; exact l6_ok h4)]
    rfl
  · cases h
noncomputable def jcV (o idx n j ci p1 p2 p3 p4 : Nat) : Bool := match lkC 24 MTc j, lkC 24 CIN j, VWN[ci]? with
  | some q, some c, some v => Nat.beq n (q.2.2.2.2.1 + 1) && (Nat.beq v c && (c5e (lkn p1) (2, o, idx, j, 0) && (c5e (lkn p2) (4, j, 0, 0, 0) && (c5e (lkn p3) (5, j, 0, 0, 0) && c5e (lkn p4) (6, c, 0, 0, 0)))))
  | _, _, _ => false
theorem jcV_ok {o idx n j ci p1 p2 p3 p4 : Nat} (h : jcV o idx n j ci p1 p2 p3 p4 = true) : okCV MT LK (ow o) idx n j ci [0, p1, p2, p3, p4] = true := by
  unfold jcV at h
  split at h
  · rename_i q c v hq hc hv
    obtain ⟨h1, h⟩ := and_e h
    obtain ⟨h0, h⟩ := and_e h
    obtain ⟨h2, h⟩ := and_e h
    obtain ⟨h3, h⟩ := and_e h
    obtain ⟨h4, h5⟩ := and_e h
    have m := mt5 hq
    have e : v = c := Nat.eq_of_beq_eq_true h0
    subst e
    have cl := cin_ok hc m
    unfold okCV
    rw [m]
    show (Nat.beq n (q.2.2.2.2.1 + 1) && decide (vwCl[ci]?.map (fun q => q.1) = some q.1.cls) && (decide (LK[p1]? = some (.methodLink (ow o) idx q.1)) && decide (LK[p2]? = some (.instanceMethod q.1)) && decide (LK[p3]? = some (.selects q.1.cls q.1 q.1)) && decide (LK[p4]? = some (.initialized q.1.cls)))) = true
    rw [h1, decide_eq_true (show vwCl[ci]?.map (fun q => q.1) = some q.1.cls by rw [cl]; exact vwn_ok hv), decide_eq_true (l2_ok hq h2), decide_eq_true (l4_ok hq h3), decide_eq_true (l5_ok hq h4), decide_eq_true (show LK[p4]? = some (.initialized q.1.cls) by rw [cl]; exact l6_ok h5)]
    rfl
  · cases h
noncomputable def okJ (o nL pc : Nat) (ins : Instr) (len : Nat) (ax : List Nat) (z : Int32) (zl : Int64) : Bool := (match ins with
  | .getfield idx => (match ax with
    | [ci, k, nest, p] => Nat.beq len 3 && jF o idx ci k nest p
    | _ => false)
  | .putfield idx => (match ax with
    | [ci, k, nest, p, kd] => Nat.beq len 3 && (jF o idx ci k nest p && okPF ci k kd)
    | _ => false)
  | .invokestatic idx => (match ax with
    | [0, n, j, 0, p1, p2, p3] => Nat.beq len 3 && jcS o idx n j p1 p2 p3
    | _ => false)
  | .invokevirtual idx => (match ax with
    | [0, n, j, ci, 0, p1, p2, p3, p4] => Nat.beq len 3 && jcV o idx n j ci p1 p2 p3 p4
    | _ => false)
  | _ => false) || okI MT LK (ow o) nL pc ins len ax z zl
theorem okJ_ok {o nL pc : Nat} {ins : Instr} {len : Nat} {ax : List Nat} {z : Int32} {zl : Int64} (h : okJ o nL pc ins len ax z zl = true) : okI MT LK (ow o) nL pc ins len ax z zl = true := by
  unfold okJ at h
  rw [Bool.or_eq_true] at h
  refine h.elim (fun g => ?_) id
  clear h
  have h := g
  clear g
  split at h
  · rename_i idx
    split at h
    · rename_i ci k nest p
      obtain ⟨h1, h2⟩ := and_e h
      show (Nat.beq len 3 && okF LK (ow o) idx ci k nest p) = true
      rw [h1, jF_ok h2]
      rfl
    · cases h
  · rename_i idx
    split at h
    · rename_i ci k nest p kd
      obtain ⟨h1, h⟩ := and_e h
      obtain ⟨h2, h3⟩ := and_e h
      show (Nat.beq len 3 && (okF LK (ow o) idx ci k nest p && okPF ci k kd)) = true
      rw [h1, jF_ok h2, h3]
      rfl
    · cases h
  · rename_i idx
    split at h
    · rename_i n j p1 p2 p3
      obtain ⟨h1, h2⟩ := and_e h
      show (Nat.beq len 3 && okCS MT LK (ow o) idx n j [0, p1, p2, p3]) = true
      rw [h1, jcS_ok h2]
      rfl
    · cases h
  · rename_i idx
    split at h
    · rename_i n j ci p1 p2 p3 p4
      obtain ⟨h1, h2⟩ := and_e h
      show (Nat.beq len 3 && okCV MT LK (ow o) idx n j ci [0, p1, p2, p3, p4]) = true
      rw [h1, jcV_ok h2]
      rfl
    · cases h
  · cases h
noncomputable def meD (o : Nat) (q : ME) : Bool := plainFor q.1 && decide (q.1.cls ≠ "java/lang/invoke/MethodHandle") && decide (q.1.cls ≠ "java/lang/invoke/VarHandle") && decide (q.1.cls = ow o) && decide (q.2.2.1 ≤ 12) && goodWord (codeW q) && chkD q.2.1 0 q.2.1.data.toList q.2.2.2.2.2 && q.2.2.2.2.2.all (fun e => okJ o q.2.2.1 e.1 e.2.1 e.2.2.1 e.2.2.2.1 e.2.2.2.2.1 e.2.2.2.2.2)
theorem meD_ok {o : Nat} {q : ME} (d : (parseMethodDescriptor q.1.desc).map (fun d => d.parameters.length) = some q.2.2.2.2.1) (h : meD o q = true) : MEok MT LK q := by
  obtain ⟨h, h8⟩ := and_e h
  obtain ⟨h, h7⟩ := and_e h
  obtain ⟨h, h6⟩ := and_e h
  obtain ⟨h, h5⟩ := and_e h
  obtain ⟨h, h4⟩ := and_e h
  obtain ⟨h, h3⟩ := and_e h
  obtain ⟨h1, h2⟩ := and_e h
  have e := of_decide_eq_true h4
  exact ⟨h1, ⟨of_decide_eq_true h2, of_decide_eq_true h3⟩, d, of_decide_eq_true h5, h6, fun e' he => ⟨chkD_ok h7 e' he, by rw [e]; exact okJ_ok (List.all_eq_true.mp h8 e' he)⟩⟩
