/-! every method of the table is met: printed by gencod.py -/
theorem dscr_0 : (parseMethodDescriptor "(LSaltStreet$Plan;LSaltStreet$Ground;)I").map (fun d => d.parameters.length) = some 2 := by decide +kernel
theorem dscr_1 : (parseMethodDescriptor "(LSaltStreet$Plan;LSaltStreet$Ground;I)Z").map (fun d => d.parameters.length) = some 3 := by decide +kernel
theorem dscr_2 : (parseMethodDescriptor "(LSaltStreet$Plan;I)V").map (fun d => d.parameters.length) = some 2 := by decide +kernel
theorem dscr_3 : (parseMethodDescriptor "(LSaltStreet$Plan;LSaltStreet$Ground;I)I").map (fun d => d.parameters.length) = some 3 := by decide +kernel
theorem dscr_4 : (parseMethodDescriptor "(LSaltStreet$Plan;LSaltStreet$Ground;II)I").map (fun d => d.parameters.length) = some 4 := by decide +kernel
theorem dscr_5 : (parseMethodDescriptor "(LSaltStreet$Plan;I)I").map (fun d => d.parameters.length) = some 2 := by decide +kernel
theorem dscr_6 : (parseMethodDescriptor "(LSaltStreet$Plan;[J)Z").map (fun d => d.parameters.length) = some 2 := by decide +kernel
theorem dscr_7 : (parseMethodDescriptor "(II)I").map (fun d => d.parameters.length) = some 2 := by decide +kernel
theorem dscr_8 : (parseMethodDescriptor "(III)Z").map (fun d => d.parameters.length) = some 3 := by decide +kernel
theorem dscr_9 : (parseMethodDescriptor "()Z").map (fun d => d.parameters.length) = some 0 := by decide +kernel
theorem dscr_10 : (parseMethodDescriptor "(I)Z").map (fun d => d.parameters.length) = some 1 := by decide +kernel
theorem dscr_11 : (parseMethodDescriptor "([II)Z").map (fun d => d.parameters.length) = some 2 := by decide +kernel
theorem dscr_12 : (parseMethodDescriptor "()V").map (fun d => d.parameters.length) = some 0 := by decide +kernel
theorem dscr_13 : (parseMethodDescriptor "(LSaltStreet$Ground;)V").map (fun d => d.parameters.length) = some 1 := by decide +kernel
theorem dscr_14 : (parseMethodDescriptor "(I)[I").map (fun d => d.parameters.length) = some 1 := by decide +kernel
theorem dscr_15 : (parseMethodDescriptor "(I)I").map (fun d => d.parameters.length) = some 1 := by decide +kernel
theorem dscr_16 : (parseMethodDescriptor "(II)Z").map (fun d => d.parameters.length) = some 2 := by decide +kernel
theorem dscr_17 : (parseMethodDescriptor "(LSaltStreet$Plan;I)Z").map (fun d => d.parameters.length) = some 2 := by decide +kernel
theorem dscr_18 : (parseMethodDescriptor "(II)V").map (fun d => d.parameters.length) = some 2 := by decide +kernel
theorem dscr_19 : (parseMethodDescriptor "(LSaltStreet$Plan;III)I").map (fun d => d.parameters.length) = some 4 := by decide +kernel
theorem dscr_20 : (parseMethodDescriptor "(III)I").map (fun d => d.parameters.length) = some 3 := by decide +kernel
theorem dscr_21 : (parseMethodDescriptor "(LSaltStreet$Plan;)I").map (fun d => d.parameters.length) = some 1 := by decide +kernel
theorem dscr_22 : (parseMethodDescriptor "(LSaltStreet$Plan;)V").map (fun d => d.parameters.length) = some 1 := by decide +kernel
theorem dscr_23 : (parseMethodDescriptor "(LSaltStreet$Plan;LSaltStreet$Ground;LSaltStreet$Program;I)V").map (fun d => d.parameters.length) = some 4 := by decide +kernel
theorem dscr_24 : (parseMethodDescriptor "(I)V").map (fun d => d.parameters.length) = some 1 := by decide +kernel
theorem dscr_25 : (parseMethodDescriptor "(LSaltStreet$Program;I)I").map (fun d => d.parameters.length) = some 2 := by decide +kernel
theorem dscr_26 : (parseMethodDescriptor "(LSaltStreet$Plan;LSaltStreet$Ground;LSaltStreet$Program;I)I").map (fun d => d.parameters.length) = some 4 := by decide +kernel
theorem dscr_27 : (parseMethodDescriptor "(LSaltStreet$Plan;LSaltStreet$Ground;LSaltStreet$Program;I)Z").map (fun d => d.parameters.length) = some 4 := by decide +kernel
theorem dscr_28 : (parseMethodDescriptor "(LSaltStreet$Ground;II)V").map (fun d => d.parameters.length) = some 3 := by decide +kernel
theorem dscr_29 : (parseMethodDescriptor "(LSaltStreet$Plan;LSaltStreet$Ground;III)V").map (fun d => d.parameters.length) = some 5 := by decide +kernel
theorem dscr_30 : (parseMethodDescriptor "(LSaltStreet$Plan;LSaltStreet$Ground;I)V").map (fun d => d.parameters.length) = some 3 := by decide +kernel
theorem dscr_31 : (parseMethodDescriptor "(LSaltStreet$Plan;LSaltStreet$Ground;)V").map (fun d => d.parameters.length) = some 2 := by decide +kernel
theorem dscr_32 : (parseMethodDescriptor "(JII)Z").map (fun d => d.parameters.length) = some 3 := by decide +kernel
theorem dscr_33 : (parseMethodDescriptor "(JI)I").map (fun d => d.parameters.length) = some 2 := by decide +kernel
theorem dscr_34 : (parseMethodDescriptor "()I").map (fun d => d.parameters.length) = some 0 := by decide +kernel
theorem dscr_35 : (parseMethodDescriptor "(LSaltStreet$Program;)V").map (fun d => d.parameters.length) = some 1 := by decide +kernel
theorem dscr_36 : (parseMethodDescriptor "(I[II)Z").map (fun d => d.parameters.length) = some 3 := by decide +kernel
theorem dscr_37 : (parseMethodDescriptor "([IIII)Z").map (fun d => d.parameters.length) = some 4 := by decide +kernel
theorem dscr_38 : (parseMethodDescriptor "(J)I").map (fun d => d.parameters.length) = some 1 := by decide +kernel
theorem dscr_39 : (parseMethodDescriptor "(IJ)V").map (fun d => d.parameters.length) = some 2 := by decide +kernel
theorem dscr_40 : (parseMethodDescriptor "(J)J").map (fun d => d.parameters.length) = some 1 := by decide +kernel
theorem dscr_41 : (parseMethodDescriptor "(LSaltStreet$Plan;II)I").map (fun d => d.parameters.length) = some 3 := by decide +kernel
theorem dscr_42 : (parseMethodDescriptor "(LSaltStreet$World;)V").map (fun d => d.parameters.length) = some 1 := by decide +kernel
theorem dscr_43 : (parseMethodDescriptor "()J").map (fun d => d.parameters.length) = some 0 := by decide +kernel
theorem dscr_44 : (parseMethodDescriptor "(IIJ)Z").map (fun d => d.parameters.length) = some 3 := by decide +kernel
theorem dscr_45 : (parseMethodDescriptor "(II)J").map (fun d => d.parameters.length) = some 2 := by decide +kernel
theorem dscr_46 : (parseMethodDescriptor "(IIIII)Z").map (fun d => d.parameters.length) = some 5 := by decide +kernel
theorem dscr_47 : (parseMethodDescriptor "(IIIII)I").map (fun d => d.parameters.length) = some 5 := by decide +kernel
theorem dscr_48 : (parseMethodDescriptor "(IZ)I").map (fun d => d.parameters.length) = some 2 := by decide +kernel
theorem dscr_49 : (parseMethodDescriptor "()LSaltStreet$Ground;").map (fun d => d.parameters.length) = some 0 := by decide +kernel
theorem dscr_50 : (parseMethodDescriptor "(JJ)V").map (fun d => d.parameters.length) = some 2 := by decide +kernel
theorem dscr_51 : (parseMethodDescriptor "([I[I)V").map (fun d => d.parameters.length) = some 2 := by decide +kernel
theorem dscr_52 : (parseMethodDescriptor "([I)V").map (fun d => d.parameters.length) = some 1 := by decide +kernel
theorem dscr_53 : (parseMethodDescriptor "(JJ)Z").map (fun d => d.parameters.length) = some 2 := by decide +kernel
theorem dscr_54 : (parseMethodDescriptor "(JI)J").map (fun d => d.parameters.length) = some 2 := by decide +kernel
theorem dscr_55 : (parseMethodDescriptor "(JJJ)Z").map (fun d => d.parameters.length) = some 3 := by decide +kernel
theorem dscr_56 : (parseMethodDescriptor "(Ljava/lang/String;)I").map (fun d => d.parameters.length) = some 1 := by decide +kernel
theorem dscr_57 : (parseMethodDescriptor "(Ljava/lang/String;I)Z").map (fun d => d.parameters.length) = some 2 := by decide +kernel
theorem dscr_58 : (parseMethodDescriptor "(Ljava/lang/String;)Z").map (fun d => d.parameters.length) = some 1 := by decide +kernel
theorem dscr_59 : (parseMethodDescriptor "(IIZ)Z").map (fun d => d.parameters.length) = some 3 := by decide +kernel
theorem ok_X0_greatest : meD 0 me_X0_greatest = true := by decide +kernel
theorem ok_X0_isEnough : meD 0 me_X0_isEnough = true := by decide +kernel
theorem ok_X0_askFor : meD 0 me_X0_askFor = true := by decide +kernel
theorem ok_X0_lackOf : meD 0 me_X0_lackOf = true := by decide +kernel
theorem ok_X0_lackOnStep : meD 0 me_X0_lackOnStep = true := by decide +kernel
theorem ok_X0_moved : meD 0 me_X0_moved = true := by decide +kernel
theorem ok_X0_payFor : meD 0 me_X0_payFor = true := by decide +kernel
theorem ok_X0_cheapest : meD 0 me_X0_cheapest = true := by decide +kernel
theorem ok_X0_takeMissing : meD 0 me_X0_takeMissing = true := by decide +kernel
theorem ok_X0_fewestSweepers : meD 0 me_X0_fewestSweepers = true := by decide +kernel
theorem ok_X0_isExplained : meD 0 me_X0_isExplained = true := by decide +kernel
theorem ok_X1_takeText : meD 4 me_X1_takeText = true := by decide +kernel
theorem ok_X1_takeEnd : meD 4 me_X1_takeEnd = true := by decide +kernel
theorem ok_X1_takeStep : meD 4 me_X1_takeStep = true := by decide +kernel
theorem ok_X1_beginStep : meD 4 me_X1_beginStep = true := by decide +kernel
theorem ok_X1_isStepWord : meD 4 me_X1_isStepWord = true := by decide +kernel
theorem ok_X1_takeTest : meD 4 me_X1_takeTest = true := by decide +kernel
theorem ok_X1_takeHouse : meD 4 me_X1_takeHouse = true := by decide +kernel
theorem ok_X1_takeGrocer : meD 4 me_X1_takeGrocer = true := by decide +kernel
theorem ok_X1_takeNumber : meD 4 me_X1_takeNumber = true := by decide +kernel
theorem ok_X2_clear : meD 3 me_X2_clear = true := by decide +kernel
theorem ok_X2_copyFrom : meD 3 me_X2_copyFrom = true := by decide +kernel
theorem ok_X2_row : meD 3 me_X2_row = true := by decide +kernel
theorem ok_X2_lying : meD 3 me_X2_lying = true := by decide +kernel
theorem ok_X2_inSight : meD 3 me_X2_inSight = true := by decide +kernel
theorem ok_X2_hasRoom : meD 3 me_X2_hasRoom = true := by decide +kernel
theorem ok_X2_hasSnow : meD 3 me_X2_hasSnow = true := by decide +kernel
theorem ok_X2_looksLike : meD 3 me_X2_looksLike = true := by decide +kernel
theorem ok_X2_addSalt : meD 3 me_X2_addSalt = true := by decide +kernel
theorem ok_X2_addBought : meD 3 me_X2_addBought = true := by decide +kernel
theorem ok_X2_clearStep : meD 3 me_X2_clearStep = true := by decide +kernel
theorem ok_X2_carry : meD 3 me_X2_carry = true := by decide +kernel
theorem ok_X2_letRain : meD 3 me_X2_letRain = true := by decide +kernel
theorem ok_X2_letSnow : meD 3 me_X2_letSnow = true := by decide +kernel
theorem ok_X2_passNight : meD 3 me_X2_passNight = true := by decide +kernel
theorem ok_X2_sendCats : meD 3 me_X2_sendCats = true := by decide +kernel
theorem ok_X2_meltSnow : meD 3 me_X2_meltSnow = true := by decide +kernel
theorem ok_X2_countWar : meD 3 me_X2_countWar = true := by decide +kernel
theorem ok_X3_run : meD 8 me_X3_run = true := by decide +kernel
theorem ok_X3_begin : meD 8 me_X3_begin = true := by decide +kernel
theorem ok_X3_tally : meD 8 me_X3_tally = true := by decide +kernel
theorem ok_X3_behindEnd : meD 8 me_X3_behindEnd = true := by decide +kernel
theorem ok_X3_behindStep : meD 8 me_X3_behindStep = true := by decide +kernel
theorem ok_X3_holds : meD 8 me_X3_holds = true := by decide +kernel
theorem ok_X3_act : meD 8 me_X3_act = true := by decide +kernel
theorem ok_X3_tryStrew : meD 8 me_X3_tryStrew = true := by decide +kernel
theorem ok_X3_tryBuy : meD 8 me_X3_tryBuy = true := by decide +kernel
theorem ok_X3_maybeRain : meD 8 me_X3_maybeRain = true := by decide +kernel
theorem ok_X3_tryNight : meD 8 me_X3_tryNight = true := by decide +kernel
theorem ok_X4_clear : meD 1 me_X4_clear = true := by decide +kernel
theorem ok_X4_copyFrom : meD 1 me_X4_copyFrom = true := by decide +kernel
theorem ok_X4_addName : meD 1 me_X4_addName = true := by decide +kernel
theorem ok_X4_numberOf : meD 1 me_X4_numberOf = true := by decide +kernel
theorem ok_X4_allHouses : meD 1 me_X4_allHouses = true := by decide +kernel
theorem ok_X4_allQuarrels : meD 1 me_X4_allQuarrels = true := by decide +kernel
theorem ok_X4_isGone : meD 1 me_X4_isGone = true := by decide +kernel
theorem ok_X4_isAt : meD 1 me_X4_isAt = true := by decide +kernel
theorem ok_X4_joinAt : meD 1 me_X4_joinAt = true := by decide +kernel
theorem ok_X4_withoutHope : meD 1 me_X4_withoutHope = true := by decide +kernel
theorem ok_X4_reachedFrom : meD 1 me_X4_reachedFrom = true := by decide +kernel
theorem ok_X4_joinedTo : meD 1 me_X4_joinedTo = true := by decide +kernel
theorem ok_X5_clear : meD 5 me_X5_clear = true := by decide +kernel
theorem ok_X5_copyFrom : meD 5 me_X5_copyFrom = true := by decide +kernel
theorem ok_X6_takeText : meD 9 me_X6_takeText = true := by decide +kernel
theorem ok_X6_takeNew : meD 9 me_X6_takeNew = true := by decide +kernel
theorem ok_X6_takeHouse : meD 9 me_X6_takeHouse = true := by decide +kernel
theorem ok_X6_takeGrains : meD 9 me_X6_takeGrains = true := by decide +kernel
theorem ok_X6_takeQuarrel : meD 9 me_X6_takeQuarrel = true := by decide +kernel
theorem ok_X6_takeCat : meD 9 me_X6_takeCat = true := by decide +kernel
theorem ok_X6_takeEnd : meD 9 me_X6_takeEnd = true := by decide +kernel
theorem ok_X6_takeGrocer : meD 9 me_X6_takeGrocer = true := by decide +kernel
theorem ok_X6_takeWashes : meD 9 me_X6_takeWashes = true := by decide +kernel
theorem ok_X6_takeCounts : meD 9 me_X6_takeCounts = true := by decide +kernel
theorem ok_X7_begin : meD 6 me_X7_begin = true := by decide +kernel
theorem ok_X7_advance : meD 6 me_X7_advance = true := by decide +kernel
theorem ok_X7_isLetter : meD 6 me_X7_isLetter = true := by decide +kernel
theorem ok_X7_isDigit : meD 6 me_X7_isDigit = true := by decide +kernel
theorem ok_X7_cutWord : meD 6 me_X7_cutWord = true := by decide +kernel
theorem ok_X7_kindOfWord : meD 6 me_X7_kindOfWord = true := by decide +kernel
theorem ok_X7_cutNumber : meD 6 me_X7_cutNumber = true := by decide +kernel
theorem ok_X7_cutSign : meD 6 me_X7_cutSign = true := by decide +kernel
theorem ok_X7_wrong : meD 6 me_X7_wrong = true := by decide +kernel
theorem ok_X7_pass : meD 6 me_X7_pass = true := by decide +kernel
theorem ok_X7_passNumber : meD 6 me_X7_passNumber = true := by decide +kernel
theorem ok_X7_findName : meD 6 me_X7_findName = true := by decide +kernel
theorem ok_X8_lay : meD 11 me_X8_lay = true := by decide +kernel
theorem ok_X8_put : meD 11 me_X8_put = true := by decide +kernel
theorem ok_X8_cut : meD 11 me_X8_cut = true := by decide +kernel
theorem ok_X8_reachesTo : meD 11 me_X8_reachesTo = true := by decide +kernel
theorem ok_X9_shareOf : meD 7 me_X9_shareOf = true := by decide +kernel
theorem ok_X9_ownerOf : meD 7 me_X9_ownerOf = true := by decide +kernel
theorem ok_X9_leftOver : meD 7 me_X9_leftOver = true := by decide +kernel
theorem ok_X9_contentAt : meD 7 me_X9_contentAt = true := by decide +kernel
theorem ok_X9_atPeace : meD 7 me_X9_atPeace = true := by decide +kernel
theorem ok_X9_inTruce : meD 7 me_X9_inTruce = true := by decide +kernel
theorem ok_X9_calmAt : meD 7 me_X9_calmAt = true := by decide +kernel
theorem ok_X9_freedBy : meD 7 me_X9_freedBy = true := by decide +kernel
theorem ok_X9_wantedAt : meD 7 me_X9_wantedAt = true := by decide +kernel
theorem ok_X9_bestFor : meD 7 me_X9_bestFor = true := by decide +kernel
theorem ok_X9_broughtBy : meD 7 me_X9_broughtBy = true := by decide +kernel
theorem ok_X10_clear : meD 10 me_X10_clear = true := by decide +kernel
theorem ok_X10_copyFrom : meD 10 me_X10_copyFrom = true := by decide +kernel
theorem ok_X11_status : meD 12 me_X11_status = true := by decide +kernel
theorem ok_X11_top : meD 12 me_X11_top = true := by decide +kernel
theorem ok_X11_bottom : meD 12 me_X11_bottom = true := by decide +kernel
theorem ok_X11_tray : meD 12 me_X11_tray = true := by decide +kernel
theorem ok_X11_write : meD 12 me_X11_write = true := by decide +kernel
theorem ok_X11_read : meD 12 me_X11_read = true := by decide +kernel
theorem ok_X11_pour : meD 12 me_X11_pour = true := by decide +kernel
theorem ok_X11_feed : meD 12 me_X11_feed = true := by decide +kernel
theorem ok_X11_street : meD 12 me_X11_street = true := by decide +kernel
theorem ok_X11_days : meD 12 me_X11_days = true := by decide +kernel
theorem ok_X11_fault : meD 12 me_X11_fault = true := by decide +kernel
theorem ok_X11_told : meD 12 me_X11_told = true := by decide +kernel
theorem ok_X11_purse : meD 12 me_X11_purse = true := by decide +kernel
theorem ok_X11_step : meD 12 me_X11_step = true := by decide +kernel
theorem ok_X11_quarrel : meD 12 me_X11_quarrel = true := by decide +kernel
theorem ok_X11_grocer : meD 12 me_X11_grocer = true := by decide +kernel
theorem ok_X11_share : meD 12 me_X11_share = true := by decide +kernel
theorem ok_X11_whose : meD 12 me_X11_whose = true := by decide +kernel
theorem ok_X11_nobodys : meD 12 me_X11_nobodys = true := by decide +kernel
theorem ok_X11_peace : meD 12 me_X11_peace = true := by decide +kernel
theorem ok_X11_truce : meD 12 me_X11_truce = true := by decide +kernel
theorem ok_X11_over : meD 12 me_X11_over = true := by decide +kernel
theorem ok_X11_hopeless : meD 12 me_X11_hopeless = true := by decide +kernel
theorem ok_X11_strew : meD 12 me_X11_strew = true := by decide +kernel
theorem ok_X11_buy : meD 12 me_X11_buy = true := by decide +kernel
theorem ok_X11_sweep : meD 12 me_X11_sweep = true := by decide +kernel
theorem ok_X11_shovel : meD 12 me_X11_shovel = true := by decide +kernel
theorem ok_X11_rain : meD 12 me_X11_rain = true := by decide +kernel
theorem ok_X11_snow : meD 12 me_X11_snow = true := by decide +kernel
theorem ok_X11_night : meD 12 me_X11_night = true := by decide +kernel
theorem ok_X11_cat : meD 12 me_X11_cat = true := by decide +kernel
theorem ok_X11_reaches : meD 12 me_X11_reaches = true := by decide +kernel
theorem ok_X11_chain : meD 12 me_X11_chain = true := by decide +kernel
theorem ok_X11_forecast : meD 12 me_X11_forecast = true := by decide +kernel
theorem ok_X11_soonest : meD 12 me_X11_soonest = true := by decide +kernel
theorem ok_X11_longest : meD 12 me_X11_longest = true := by decide +kernel
theorem ok_X11_fullest : meD 12 me_X11_fullest = true := by decide +kernel
theorem ok_X11_best : meD 12 me_X11_best = true := by decide +kernel
theorem ok_X11_closest : meD 12 me_X11_closest = true := by decide +kernel
theorem ok_X11_level : meD 12 me_X11_level = true := by decide +kernel
theorem ok_X11_thaw : meD 12 me_X11_thaw = true := by decide +kernel
theorem ok_X11_thawAll : meD 12 me_X11_thawAll = true := by decide +kernel
theorem ok_X11_wants : meD 12 me_X11_wants = true := by decide +kernel
theorem ok_X11_cliff : meD 12 me_X11_cliff = true := by decide +kernel
theorem ok_X11_steps : meD 12 me_X11_steps = true := by decide +kernel
theorem ok_X11_value : meD 12 me_X11_value = true := by decide +kernel
theorem ok_X11_beside : meD 12 me_X11_beside = true := by decide +kernel
theorem ok_X11_ghosts : meD 12 me_X11_ghosts = true := by decide +kernel
theorem ok_X11_most : meD 12 me_X11_most = true := by decide +kernel
theorem ok_X11_lack : meD 12 me_X11_lack = true := by decide +kernel
theorem ok_X11_lackAt : meD 12 me_X11_lackAt = true := by decide +kernel
theorem ok_X11_freed : meD 12 me_X11_freed = true := by decide +kernel
theorem ok_X11_cost : meD 12 me_X11_cost = true := by decide +kernel
theorem ok_X11_dearest : meD 12 me_X11_dearest = true := by decide +kernel
theorem ok_X11_quiet : meD 12 me_X11_quiet = true := by decide +kernel
theorem ok_X11_who : meD 12 me_X11_who = true := by decide +kernel
theorem ok_X11_found : meD 12 me_X11_found = true := by decide +kernel
theorem ok_X11_live : meD 12 me_X11_live = true := by decide +kernel
theorem ok_X11_lived : meD 12 me_X11_lived = true := by decide +kernel
theorem ok_X11_odds : meD 12 me_X11_odds = true := by decide +kernel
theorem ok_X11_mark : meD 12 me_X11_mark = true := by decide +kernel
theorem ok_X11_back : meD 12 me_X11_back = true := by decide +kernel
theorem ok_X11_answer : meD 12 me_X11_answer = true := by decide +kernel
theorem ok_X11_answerIfAny : meD 12 me_X11_answerIfAny = true := by decide +kernel
theorem ok_X11_refuse : meD 12 me_X11_refuse = true := by decide +kernel
theorem ok_X11_granted : meD 12 me_X11_granted = true := by decide +kernel
theorem ok_X11_refused : meD 12 me_X11_refused = true := by decide +kernel
theorem ok_X11_within : meD 12 me_X11_within = true := by decide +kernel
theorem ok_X11_has : meD 12 me_X11_has = true := by decide +kernel
theorem ok_X11_isTray : meD 12 me_X11_isTray = true := by decide +kernel
theorem ok_X11_isHouse : meD 12 me_X11_isHouse = true := by decide +kernel
theorem ok_X11_isQuarrel : meD 12 me_X11_isQuarrel = true := by decide +kernel
theorem ok_X11_isGrocer : meD 12 me_X11_isGrocer = true := by decide +kernel
theorem ok_X11_isSet : meD 12 me_X11_isSet = true := by decide +kernel
theorem ok_X11_whyNoPlace : meD 12 me_X11_whyNoPlace = true := by decide +kernel
theorem ok_X11_whyNoStep : meD 12 me_X11_whyNoStep = true := by decide +kernel
theorem ok_X11_putOnTape : meD 12 me_X11_putOnTape = true := by decide +kernel
theorem ok_X11_closeText : meD 12 me_X11_closeText = true := by decide +kernel
theorem ok_X11_foresee : meD 12 me_X11_foresee = true := by decide +kernel
theorem ok_X11_nightsTillThawed : meD 12 me_X11_nightsTillThawed = true := by decide +kernel
theorem ok_X11_waysToTaste : meD 12 me_X11_waysToTaste = true := by decide +kernel
theorem ok_X11_tellFraction : meD 12 me_X11_tellFraction = true := by decide +kernel
theorem ok_X11_copyRow : meD 12 me_X11_copyRow = true := by decide +kernel
theorem ok_X11_clearRow : meD 12 me_X11_clearRow = true := by decide +kernel
theorem ok_X12_plain : meD 13 me_X12_plain = true := by decide +kernel
theorem ok_X12_status : meD 13 me_X12_status = true := by decide +kernel
theorem ok_X12_top : meD 13 me_X12_top = true := by decide +kernel
theorem ok_X12_bottom : meD 13 me_X12_bottom = true := by decide +kernel
theorem ok_X12_is : meD 13 me_X12_is = true := by decide +kernel
theorem ok_X12_refuse : meD 13 me_X12_refuse = true := by decide +kernel
theorem ok_X12_gives : meD 13 me_X12_gives = true := by decide +kernel
theorem ok_X12_orNone : meD 13 me_X12_orNone = true := by decide +kernel
theorem ok_X12_tellsBy : meD 13 me_X12_tellsBy = true := by decide +kernel
theorem ok_X12_isTray : meD 13 me_X12_isTray = true := by decide +kernel
theorem ok_X12_cut : meD 13 me_X12_cut = true := by decide +kernel
theorem ok_X12_tray : meD 13 me_X12_tray = true := by decide +kernel
theorem ok_X12_wrongPlace : meD 13 me_X12_wrongPlace = true := by decide +kernel
theorem ok_X12_write : meD 13 me_X12_write = true := by decide +kernel
theorem ok_X12_read : meD 13 me_X12_read = true := by decide +kernel
theorem ok_X12_pour : meD 13 me_X12_pour = true := by decide +kernel
theorem ok_X12_isFrom : meD 13 me_X12_isFrom = true := by decide +kernel
theorem ok_X12_feed : meD 13 me_X12_feed = true := by decide +kernel
theorem ok_X12_four : meD 13 me_X12_four = true := by decide +kernel
theorem ok_X12_byteAt : meD 13 me_X12_byteAt = true := by decide +kernel
theorem ok_X12_isSmall : meD 13 me_X12_isSmall = true := by decide +kernel
theorem ok_X12_isDigit : meD 13 me_X12_isDigit = true := by decide +kernel
theorem ok_X12_ahead : meD 13 me_X12_ahead = true := by decide +kernel
theorem ok_X12_isSign : meD 13 me_X12_isSign = true := by decide +kernel
theorem ok_X12_inWords : meD 13 me_X12_inWords = true := by decide +kernel
theorem ok_X12_fails : meD 13 me_X12_fails = true := by decide +kernel
theorem ok_X12_begins : meD 13 me_X12_begins = true := by decide +kernel
theorem ok_X12_wantSign : meD 13 me_X12_wantSign = true := by decide +kernel
theorem ok_X12_wantWord : meD 13 me_X12_wantWord = true := by decide +kernel
theorem ok_X12_number : meD 13 me_X12_number = true := by decide +kernel
theorem ok_X12_isName : meD 13 me_X12_isName = true := by decide +kernel
theorem ok_X12_nameHere : meD 13 me_X12_nameHere = true := by decide +kernel
theorem ok_X12_findHere : meD 13 me_X12_findHere = true := by decide +kernel
theorem ok_X12_fault : meD 13 me_X12_fault = true := by decide +kernel
theorem ok_X12_taken : meD 13 me_X12_taken = true := by decide +kernel
theorem ok_X12_newOne : meD 13 me_X12_newOne = true := by decide +kernel
theorem ok_X12_oldOne : meD 13 me_X12_oldOne = true := by decide +kernel
theorem ok_X12_isThere : meD 13 me_X12_isThere = true := by decide +kernel
theorem ok_X12_houseHere : meD 13 me_X12_houseHere = true := by decide +kernel
theorem ok_X12_aHouse : meD 13 me_X12_aHouse = true := by decide +kernel
theorem ok_X12_twoHouses : meD 13 me_X12_twoHouses = true := by decide +kernel
theorem ok_X12_aQuarrel : meD 13 me_X12_aQuarrel = true := by decide +kernel
theorem ok_X12_aCat : meD 13 me_X12_aCat = true := by decide +kernel
theorem ok_X12_aGrocer : meD 13 me_X12_aGrocer = true := by decide +kernel
theorem ok_X12_once : meD 13 me_X12_once = true := by decide +kernel
theorem ok_X12_streetPart : meD 13 me_X12_streetPart = true := by decide +kernel
theorem ok_X12_street : meD 13 me_X12_street = true := by decide +kernel
theorem ok_X12_stepTo : meD 13 me_X12_stepTo = true := by decide +kernel
theorem ok_X12_test : meD 13 me_X12_test = true := by decide +kernel
theorem ok_X12_dayOrder : meD 13 me_X12_dayOrder = true := by decide +kernel
theorem ok_X12_dayStep : meD 13 me_X12_dayStep = true := by decide +kernel
theorem ok_X12_days : meD 13 me_X12_days = true := by decide +kernel
theorem ok_X12_houseRow : meD 13 me_X12_houseRow = true := by decide +kernel
theorem ok_X12_quarrelRow : meD 13 me_X12_quarrelRow = true := by decide +kernel
theorem ok_X12_isHouse : meD 13 me_X12_isHouse = true := by decide +kernel
theorem ok_X12_isQuarrel : meD 13 me_X12_isQuarrel = true := by decide +kernel
theorem ok_X12_isGone : meD 13 me_X12_isGone = true := by decide +kernel
theorem ok_X12_wrongStep : meD 13 me_X12_wrongStep = true := by decide +kernel
theorem ok_X12_grainsOn : meD 13 me_X12_grainsOn = true := by decide +kernel
theorem ok_X12_quarrelHouse : meD 13 me_X12_quarrelHouse = true := by decide +kernel
theorem ok_X12_isAt : meD 13 me_X12_isAt = true := by decide +kernel
theorem ok_X12_told : meD 13 me_X12_told = true := by decide +kernel
theorem ok_X12_purse : meD 13 me_X12_purse = true := by decide +kernel
theorem ok_X12_step : meD 13 me_X12_step = true := by decide +kernel
theorem ok_X12_quarrel : meD 13 me_X12_quarrel = true := by decide +kernel
theorem ok_X12_grocer : meD 13 me_X12_grocer = true := by decide +kernel
theorem ok_X12_cat : meD 13 me_X12_cat = true := by decide +kernel
theorem ok_X12_needOf : meD 13 me_X12_needOf = true := by decide +kernel
theorem ok_X12_hasAt : meD 13 me_X12_hasAt = true := by decide +kernel
theorem ok_X12_isFull : meD 13 me_X12_isFull = true := by decide +kernel
theorem ok_X12_isSome : meD 13 me_X12_isSome = true := by decide +kernel
theorem ok_X12_hasPeace : meD 13 me_X12_hasPeace = true := by decide +kernel
theorem ok_X12_neverCan : meD 13 me_X12_neverCan = true := by decide +kernel
theorem ok_X12_setOf : meD 13 me_X12_setOf = true := by decide +kernel
theorem ok_X12_share : meD 13 me_X12_share = true := by decide +kernel
theorem ok_X12_whose : meD 13 me_X12_whose = true := by decide +kernel
theorem ok_X12_nobodys : meD 13 me_X12_nobodys = true := by decide +kernel
theorem ok_X12_peace : meD 13 me_X12_peace = true := by decide +kernel
theorem ok_X12_truce : meD 13 me_X12_truce = true := by decide +kernel
theorem ok_X12_over : meD 13 me_X12_over = true := by decide +kernel
theorem ok_X12_hopeless : meD 13 me_X12_hopeless = true := by decide +kernel
theorem ok_X12_hasRoom : meD 13 me_X12_hasRoom = true := by decide +kernel
theorem ok_X12_strews : meD 13 me_X12_strews = true := by decide +kernel
theorem ok_X12_strew : meD 13 me_X12_strew = true := by decide +kernel
theorem ok_X12_buys : meD 13 me_X12_buys = true := by decide +kernel
theorem ok_X12_buy : meD 13 me_X12_buy = true := by decide +kernel
theorem ok_X12_sweeps : meD 13 me_X12_sweeps = true := by decide +kernel
theorem ok_X12_sweep : meD 13 me_X12_sweep = true := by decide +kernel
theorem ok_X12_brings : meD 13 me_X12_brings = true := by decide +kernel
theorem ok_X12_shovel : meD 13 me_X12_shovel = true := by decide +kernel
theorem ok_X12_rains : meD 13 me_X12_rains = true := by decide +kernel
theorem ok_X12_rain : meD 13 me_X12_rain = true := by decide +kernel
theorem ok_X12_snows : meD 13 me_X12_snows = true := by decide +kernel
theorem ok_X12_snow : meD 13 me_X12_snow = true := by decide +kernel
theorem ok_X12_nightGoes : meD 13 me_X12_nightGoes = true := by decide +kernel
theorem ok_X12_night : meD 13 me_X12_night = true := by decide +kernel
theorem ok_X12_reaches : meD 13 me_X12_reaches = true := by decide +kernel
theorem ok_X12_chain : meD 13 me_X12_chain = true := by decide +kernel
theorem ok_X12_keepsAll : meD 13 me_X12_keepsAll = true := by decide +kernel
theorem ok_X12_takesBack : meD 13 me_X12_takesBack = true := by decide +kernel
theorem ok_X12_forecast : meD 13 me_X12_forecast = true := by decide +kernel
theorem ok_X12_soonest : meD 13 me_X12_soonest = true := by decide +kernel
theorem ok_X12_longest : meD 13 me_X12_longest = true := by decide +kernel
theorem ok_X12_fullest : meD 13 me_X12_fullest = true := by decide +kernel
theorem ok_X12_bits : meD 13 me_X12_bits = true := by decide +kernel
theorem ok_X12_best : meD 13 me_X12_best = true := by decide +kernel
theorem ok_X12_thaw : meD 13 me_X12_thaw = true := by decide +kernel
theorem ok_X12_isSnow : meD 13 me_X12_isSnow = true := by decide +kernel
theorem ok_X12_thawAll : meD 13 me_X12_thawAll = true := by decide +kernel
theorem ok_X12_wants : meD 13 me_X12_wants = true := by decide +kernel
theorem ok_X12_cliff : meD 13 me_X12_cliff = true := by decide +kernel
theorem ok_X12_steps : meD 13 me_X12_steps = true := by decide +kernel
theorem ok_X12_value : meD 13 me_X12_value = true := by decide +kernel
theorem ok_X12_beside : meD 13 me_X12_beside = true := by decide +kernel
theorem ok_X12_ghosts : meD 13 me_X12_ghosts = true := by decide +kernel
theorem ok_X12_level : meD 13 me_X12_level = true := by decide +kernel
theorem ok_X12_needAt : meD 13 me_X12_needAt = true := by decide +kernel
theorem ok_X12_couldBe : meD 13 me_X12_couldBe = true := by decide +kernel
theorem ok_X12_most : meD 13 me_X12_most = true := by decide +kernel
theorem ok_X12_isSetOf : meD 13 me_X12_isSetOf = true := by decide +kernel
theorem ok_X12_lackOn : meD 13 me_X12_lackOn = true := by decide +kernel
theorem ok_X12_lack : meD 13 me_X12_lack = true := by decide +kernel
theorem ok_X12_closest : meD 13 me_X12_closest = true := by decide +kernel
theorem ok_X12_lackAt : meD 13 me_X12_lackAt = true := by decide +kernel
theorem ok_X12_freed : meD 13 me_X12_freed = true := by decide +kernel
theorem ok_X12_costOf : meD 13 me_X12_costOf = true := by decide +kernel
theorem ok_X12_cost : meD 13 me_X12_cost = true := by decide +kernel
theorem ok_X12_dearest : meD 13 me_X12_dearest = true := by decide +kernel
theorem ok_X12_quiet : meD 13 me_X12_quiet = true := by decide +kernel
theorem ok_X12_explains : meD 13 me_X12_explains = true := by decide +kernel
theorem ok_X12_who : meD 13 me_X12_who = true := by decide +kernel
theorem ok_X12_waysOf : meD 13 me_X12_waysOf = true := by decide +kernel
theorem ok_X12_found : meD 13 me_X12_found = true := by decide +kernel
theorem ok_X12_draw : meD 13 me_X12_draw = true := by decide +kernel
theorem ok_X12_does : meD 13 me_X12_does = true := by decide +kernel
theorem ok_X12_holds : meD 13 me_X12_holds = true := by decide +kernel
theorem ok_X12_behindEnds : meD 13 me_X12_behindEnds = true := by decide +kernel
theorem ok_X12_lives : meD 13 me_X12_lives = true := by decide +kernel
theorem ok_X12_live : meD 13 me_X12_live = true := by decide +kernel
theorem ok_X12_lived : meD 13 me_X12_lived = true := by decide +kernel
theorem ok_X12_odds : meD 13 me_X12_odds = true := by decide +kernel
theorem ok_X12_copies : meD 13 me_X12_copies = true := by decide +kernel
theorem ok_X12_mark : meD 13 me_X12_mark = true := by decide +kernel
theorem ok_X12_back : meD 13 me_X12_back = true := by decide +kernel
theorem ok_J6_bitCount_0f7a4 : meD 2 me_J6_bitCount_0f7a4 = true := by decide +kernel
theorem fa_c {α : Type} {p : α → Prop} {a : α} {l : List α} (h : p a) (t : ∀ q ∈ l, p q) : ∀ q ∈ a :: l, p q := fun q hq => (List.mem_cons.mp hq).elim (fun e => e ▸ h) (t q)
theorem fa_n {α : Type} {p : α → Prop} : ∀ q ∈ ([] : List α), p q := fun _ h => nomatch h
theorem MT_r0 : ∀ q ∈ [me_X0_greatest, me_X0_isEnough, me_X0_askFor, me_X0_lackOf, me_X0_lackOnStep, me_X0_moved, me_X0_payFor, me_X0_cheapest, me_X0_takeMissing, me_X0_fewestSweepers, me_X0_isExplained, me_X1_takeText, me_X1_takeEnd, me_X1_takeStep, me_X1_beginStep, me_X1_isStepWord, me_X1_takeTest, me_X1_takeHouse, me_X1_takeGrocer, me_X1_takeNumber, me_X2_clear, me_X2_copyFrom, me_X2_row, me_X2_lying, me_X2_inSight, me_X2_hasRoom, me_X2_hasSnow, me_X2_looksLike, me_X2_addSalt, me_X2_addBought, me_X2_clearStep, me_X2_carry, me_X2_letRain, me_X2_letSnow, me_X2_passNight, me_X2_sendCats, me_X2_meltSnow, me_X2_countWar, me_X3_run, me_X3_begin], MEok MT LK q := fa_c (meD_ok dscr_0 ok_X0_greatest) (fa_c (meD_ok dscr_1 ok_X0_isEnough) (fa_c (meD_ok dscr_2 ok_X0_askFor) (fa_c (meD_ok dscr_3 ok_X0_lackOf) (fa_c (meD_ok dscr_4 ok_X0_lackOnStep) (fa_c (meD_ok dscr_0 ok_X0_moved) (fa_c (meD_ok dscr_1 ok_X0_payFor) (fa_c (meD_ok dscr_5 ok_X0_cheapest) (fa_c (meD_ok dscr_6 ok_X0_takeMissing) (fa_c (meD_ok dscr_7 ok_X0_fewestSweepers) (fa_c (meD_ok dscr_8 ok_X0_isExplained) (fa_c (meD_ok dscr_9 ok_X1_takeText) (fa_c (meD_ok dscr_9 ok_X1_takeEnd) (fa_c (meD_ok dscr_9 ok_X1_takeStep) (fa_c (meD_ok dscr_9 ok_X1_beginStep) (fa_c (meD_ok dscr_10 ok_X1_isStepWord) (fa_c (meD_ok dscr_10 ok_X1_takeTest) (fa_c (meD_ok dscr_11 ok_X1_takeHouse) (fa_c (meD_ok dscr_10 ok_X1_takeGrocer) (fa_c (meD_ok dscr_8 ok_X1_takeNumber) (fa_c (meD_ok dscr_12 ok_X2_clear) (fa_c (meD_ok dscr_13 ok_X2_copyFrom) (fa_c (meD_ok dscr_14 ok_X2_row) (fa_c (meD_ok dscr_15 ok_X2_lying) (fa_c (meD_ok dscr_15 ok_X2_inSight) (fa_c (meD_ok dscr_16 ok_X2_hasRoom) (fa_c (meD_ok dscr_17 ok_X2_hasSnow) (fa_c (meD_ok dscr_16 ok_X2_looksLike) (fa_c (meD_ok dscr_18 ok_X2_addSalt) (fa_c (meD_ok dscr_19 ok_X2_addBought) (fa_c (meD_ok dscr_15 ok_X2_clearStep) (fa_c (meD_ok dscr_20 ok_X2_carry) (fa_c (meD_ok dscr_21 ok_X2_letRain) (fa_c (meD_ok dscr_2 ok_X2_letSnow) (fa_c (meD_ok dscr_22 ok_X2_passNight) (fa_c (meD_ok dscr_22 ok_X2_sendCats) (fa_c (meD_ok dscr_22 ok_X2_meltSnow) (fa_c (meD_ok dscr_22 ok_X2_countWar) (fa_c (meD_ok dscr_23 ok_X3_run) (fa_c (meD_ok dscr_24 ok_X3_begin) (fa_n))))))))))))))))))))))))))))))))))))))))
theorem MT_r1 : ∀ q ∈ [me_X3_tally, me_X3_behindEnd, me_X3_behindStep, me_X3_holds, me_X3_act, me_X3_tryStrew, me_X3_tryBuy, me_X3_maybeRain, me_X3_tryNight, me_X4_clear, me_X4_copyFrom, me_X4_addName, me_X4_numberOf, me_X4_allHouses, me_X4_allQuarrels, me_X4_isGone, me_X4_isAt, me_X4_joinAt, me_X4_withoutHope, me_X4_reachedFrom, me_X4_joinedTo, me_X5_clear, me_X5_copyFrom, me_X6_takeText, me_X6_takeNew, me_X6_takeHouse, me_X6_takeGrains, me_X6_takeQuarrel, me_X6_takeCat, me_X6_takeEnd, me_X6_takeGrocer, me_X6_takeWashes, me_X6_takeCounts, me_X7_begin, me_X7_advance, me_X7_isLetter, me_X7_isDigit, me_X7_cutWord, me_X7_kindOfWord, me_X7_cutNumber], MEok MT LK q := fa_c (meD_ok dscr_15 ok_X3_tally) (fa_c (meD_ok dscr_25 ok_X3_behindEnd) (fa_c (meD_ok dscr_26 ok_X3_behindStep) (fa_c (meD_ok dscr_27 ok_X3_holds) (fa_c (meD_ok dscr_23 ok_X3_act) (fa_c (meD_ok dscr_28 ok_X3_tryStrew) (fa_c (meD_ok dscr_29 ok_X3_tryBuy) (fa_c (meD_ok dscr_30 ok_X3_maybeRain) (fa_c (meD_ok dscr_31 ok_X3_tryNight) (fa_c (meD_ok dscr_12 ok_X4_clear) (fa_c (meD_ok dscr_22 ok_X4_copyFrom) (fa_c (meD_ok dscr_32 ok_X4_addName) (fa_c (meD_ok dscr_33 ok_X4_numberOf) (fa_c (meD_ok dscr_34 ok_X4_allHouses) (fa_c (meD_ok dscr_34 ok_X4_allQuarrels) (fa_c (meD_ok dscr_10 ok_X4_isGone) (fa_c (meD_ok dscr_16 ok_X4_isAt) (fa_c (meD_ok dscr_24 ok_X4_joinAt) (fa_c (meD_ok dscr_34 ok_X4_withoutHope) (fa_c (meD_ok dscr_15 ok_X4_reachedFrom) (fa_c (meD_ok dscr_15 ok_X4_joinedTo) (fa_c (meD_ok dscr_12 ok_X5_clear) (fa_c (meD_ok dscr_35 ok_X5_copyFrom) (fa_c (meD_ok dscr_9 ok_X6_takeText) (fa_c (meD_ok dscr_8 ok_X6_takeNew) (fa_c (meD_ok dscr_9 ok_X6_takeHouse) (fa_c (meD_ok dscr_36 ok_X6_takeGrains) (fa_c (meD_ok dscr_9 ok_X6_takeQuarrel) (fa_c (meD_ok dscr_9 ok_X6_takeCat) (fa_c (meD_ok dscr_37 ok_X6_takeEnd) (fa_c (meD_ok dscr_9 ok_X6_takeGrocer) (fa_c (meD_ok dscr_9 ok_X6_takeWashes) (fa_c (meD_ok dscr_9 ok_X6_takeCounts) (fa_c (meD_ok dscr_24 ok_X7_begin) (fa_c (meD_ok dscr_12 ok_X7_advance) (fa_c (meD_ok dscr_10 ok_X7_isLetter) (fa_c (meD_ok dscr_10 ok_X7_isDigit) (fa_c (meD_ok dscr_12 ok_X7_cutWord) (fa_c (meD_ok dscr_38 ok_X7_kindOfWord) (fa_c (meD_ok dscr_12 ok_X7_cutNumber) (fa_n))))))))))))))))))))))))))))))))))))))))
theorem MT_r2 : ∀ q ∈ [me_X7_cutSign, me_X7_wrong, me_X7_pass, me_X7_passNumber, me_X7_findName, me_X8_lay, me_X8_put, me_X8_cut, me_X8_reachesTo, me_X9_shareOf, me_X9_ownerOf, me_X9_leftOver, me_X9_contentAt, me_X9_atPeace, me_X9_inTruce, me_X9_calmAt, me_X9_freedBy, me_X9_wantedAt, me_X9_bestFor, me_X9_broughtBy, me_X10_clear, me_X10_copyFrom, me_X11_status, me_X11_top, me_X11_bottom, me_X11_tray, me_X11_write, me_X11_read, me_X11_pour, me_X11_feed, me_X11_street, me_X11_days, me_X11_fault, me_X11_told, me_X11_purse, me_X11_step, me_X11_quarrel, me_X11_grocer, me_X11_share, me_X11_whose], MEok MT LK q := fa_c (meD_ok dscr_12 ok_X7_cutSign) (fa_c (meD_ok dscr_10 ok_X7_wrong) (fa_c (meD_ok dscr_10 ok_X7_pass) (fa_c (meD_ok dscr_16 ok_X7_passNumber) (fa_c (meD_ok dscr_17 ok_X7_findName) (fa_c (meD_ok dscr_18 ok_X8_lay) (fa_c (meD_ok dscr_39 ok_X8_put) (fa_c (meD_ok dscr_40 ok_X8_cut) (fa_c (meD_ok dscr_16 ok_X8_reachesTo) (fa_c (meD_ok dscr_4 ok_X9_shareOf) (fa_c (meD_ok dscr_4 ok_X9_ownerOf) (fa_c (meD_ok dscr_3 ok_X9_leftOver) (fa_c (meD_ok dscr_19 ok_X9_contentAt) (fa_c (meD_ok dscr_3 ok_X9_atPeace) (fa_c (meD_ok dscr_0 ok_X9_inTruce) (fa_c (meD_ok dscr_41 ok_X9_calmAt) (fa_c (meD_ok dscr_3 ok_X9_freedBy) (fa_c (meD_ok dscr_3 ok_X9_wantedAt) (fa_c (meD_ok dscr_3 ok_X9_bestFor) (fa_c (meD_ok dscr_4 ok_X9_broughtBy) (fa_c (meD_ok dscr_12 ok_X10_clear) (fa_c (meD_ok dscr_42 ok_X10_copyFrom) (fa_c (meD_ok dscr_34 ok_X11_status) (fa_c (meD_ok dscr_43 ok_X11_top) (fa_c (meD_ok dscr_43 ok_X11_bottom) (fa_c (meD_ok dscr_8 ok_X11_tray) (fa_c (meD_ok dscr_44 ok_X11_write) (fa_c (meD_ok dscr_45 ok_X11_read) (fa_c (meD_ok dscr_46 ok_X11_pour) (fa_c (meD_ok dscr_47 ok_X11_feed) (fa_c (meD_ok dscr_15 ok_X11_street) (fa_c (meD_ok dscr_15 ok_X11_days) (fa_c (meD_ok dscr_15 ok_X11_fault) (fa_c (meD_ok dscr_15 ok_X11_told) (fa_c (meD_ok dscr_34 ok_X11_purse) (fa_c (meD_ok dscr_7 ok_X11_step) (fa_c (meD_ok dscr_7 ok_X11_quarrel) (fa_c (meD_ok dscr_7 ok_X11_grocer) (fa_c (meD_ok dscr_7 ok_X11_share) (fa_c (meD_ok dscr_7 ok_X11_whose) (fa_n))))))))))))))))))))))))))))))))))))))))
theorem MT_r3 : ∀ q ∈ [me_X11_nobodys, me_X11_peace, me_X11_truce, me_X11_over, me_X11_hopeless, me_X11_strew, me_X11_buy, me_X11_sweep, me_X11_shovel, me_X11_rain, me_X11_snow, me_X11_night, me_X11_cat, me_X11_reaches, me_X11_chain, me_X11_forecast, me_X11_soonest, me_X11_longest, me_X11_fullest, me_X11_best, me_X11_closest, me_X11_level, me_X11_thaw, me_X11_thawAll, me_X11_wants, me_X11_cliff, me_X11_steps, me_X11_value, me_X11_beside, me_X11_ghosts, me_X11_most, me_X11_lack, me_X11_lackAt, me_X11_freed, me_X11_cost, me_X11_dearest, me_X11_quiet, me_X11_who, me_X11_found, me_X11_live], MEok MT LK q := fa_c (meD_ok dscr_15 ok_X11_nobodys) (fa_c (meD_ok dscr_34 ok_X11_peace) (fa_c (meD_ok dscr_34 ok_X11_truce) (fa_c (meD_ok dscr_34 ok_X11_over) (fa_c (meD_ok dscr_34 ok_X11_hopeless) (fa_c (meD_ok dscr_7 ok_X11_strew) (fa_c (meD_ok dscr_20 ok_X11_buy) (fa_c (meD_ok dscr_15 ok_X11_sweep) (fa_c (meD_ok dscr_20 ok_X11_shovel) (fa_c (meD_ok dscr_34 ok_X11_rain) (fa_c (meD_ok dscr_10 ok_X11_snow) (fa_c (meD_ok dscr_34 ok_X11_night) (fa_c (meD_ok dscr_7 ok_X11_cat) (fa_c (meD_ok dscr_15 ok_X11_reaches) (fa_c (meD_ok dscr_15 ok_X11_chain) (fa_c (meD_ok dscr_20 ok_X11_forecast) (fa_c (meD_ok dscr_15 ok_X11_soonest) (fa_c (meD_ok dscr_34 ok_X11_longest) (fa_c (meD_ok dscr_34 ok_X11_fullest) (fa_c (meD_ok dscr_15 ok_X11_best) (fa_c (meD_ok dscr_34 ok_X11_closest) (fa_c (meD_ok dscr_34 ok_X11_level) (fa_c (meD_ok dscr_15 ok_X11_thaw) (fa_c (meD_ok dscr_34 ok_X11_thawAll) (fa_c (meD_ok dscr_15 ok_X11_wants) (fa_c (meD_ok dscr_34 ok_X11_cliff) (fa_c (meD_ok dscr_15 ok_X11_steps) (fa_c (meD_ok dscr_15 ok_X11_value) (fa_c (meD_ok dscr_15 ok_X11_beside) (fa_c (meD_ok dscr_34 ok_X11_ghosts) (fa_c (meD_ok dscr_34 ok_X11_most) (fa_c (meD_ok dscr_15 ok_X11_lack) (fa_c (meD_ok dscr_7 ok_X11_lackAt) (fa_c (meD_ok dscr_15 ok_X11_freed) (fa_c (meD_ok dscr_15 ok_X11_cost) (fa_c (meD_ok dscr_15 ok_X11_dearest) (fa_c (meD_ok dscr_20 ok_X11_quiet) (fa_c (meD_ok dscr_7 ok_X11_who) (fa_c (meD_ok dscr_16 ok_X11_found) (fa_c (meD_ok dscr_15 ok_X11_live) (fa_n))))))))))))))))))))))))))))))))))))))))
theorem MT_r4 : ∀ q ∈ [me_X11_lived, me_X11_odds, me_X11_mark, me_X11_back, me_X11_answer, me_X11_answerIfAny, me_X11_refuse, me_X11_granted, me_X11_refused, me_X11_within, me_X11_has, me_X11_isTray, me_X11_isHouse, me_X11_isQuarrel, me_X11_isGrocer, me_X11_isSet, me_X11_whyNoPlace, me_X11_whyNoStep, me_X11_putOnTape, me_X11_closeText, me_X11_foresee, me_X11_nightsTillThawed, me_X11_waysToTaste, me_X11_tellFraction, me_X11_copyRow, me_X11_clearRow, me_X12_plain, me_X12_status, me_X12_top, me_X12_bottom, me_X12_is, me_X12_refuse, me_X12_gives, me_X12_orNone, me_X12_tellsBy, me_X12_isTray, me_X12_cut, me_X12_tray, me_X12_wrongPlace, me_X12_write], MEok MT LK q := fa_c (meD_ok dscr_15 ok_X11_lived) (fa_c (meD_ok dscr_8 ok_X11_odds) (fa_c (meD_ok dscr_34 ok_X11_mark) (fa_c (meD_ok dscr_34 ok_X11_back) (fa_c (meD_ok dscr_15 ok_X11_answer) (fa_c (meD_ok dscr_15 ok_X11_answerIfAny) (fa_c (meD_ok dscr_15 ok_X11_refuse) (fa_c (meD_ok dscr_9 ok_X11_granted) (fa_c (meD_ok dscr_10 ok_X11_refused) (fa_c (meD_ok dscr_8 ok_X11_within) (fa_c (meD_ok dscr_16 ok_X11_has) (fa_c (meD_ok dscr_10 ok_X11_isTray) (fa_c (meD_ok dscr_10 ok_X11_isHouse) (fa_c (meD_ok dscr_10 ok_X11_isQuarrel) (fa_c (meD_ok dscr_10 ok_X11_isGrocer) (fa_c (meD_ok dscr_10 ok_X11_isSet) (fa_c (meD_ok dscr_7 ok_X11_whyNoPlace) (fa_c (meD_ok dscr_48 ok_X11_whyNoStep) (fa_c (meD_ok dscr_24 ok_X11_putOnTape) (fa_c (meD_ok dscr_12 ok_X11_closeText) (fa_c (meD_ok dscr_49 ok_X11_foresee) (fa_c (meD_ok dscr_15 ok_X11_nightsTillThawed) (fa_c (meD_ok dscr_45 ok_X11_waysToTaste) (fa_c (meD_ok dscr_50 ok_X11_tellFraction) (fa_c (meD_ok dscr_51 ok_X11_copyRow) (fa_c (meD_ok dscr_52 ok_X11_clearRow) (fa_c (meD_ok dscr_24 ok_X12_plain) (fa_c (meD_ok dscr_34 ok_X12_status) (fa_c (meD_ok dscr_43 ok_X12_top) (fa_c (meD_ok dscr_43 ok_X12_bottom) (fa_c (meD_ok dscr_10 ok_X12_is) (fa_c (meD_ok dscr_15 ok_X12_refuse) (fa_c (meD_ok dscr_15 ok_X12_gives) (fa_c (meD_ok dscr_15 ok_X12_orNone) (fa_c (meD_ok dscr_53 ok_X12_tellsBy) (fa_c (meD_ok dscr_10 ok_X12_isTray) (fa_c (meD_ok dscr_54 ok_X12_cut) (fa_c (meD_ok dscr_8 ok_X12_tray) (fa_c (meD_ok dscr_7 ok_X12_wrongPlace) (fa_c (meD_ok dscr_44 ok_X12_write) (fa_n))))))))))))))))))))))))))))))))))))))))
theorem MT_r5 : ∀ q ∈ [me_X12_read, me_X12_pour, me_X12_isFrom, me_X12_feed, me_X12_four, me_X12_byteAt, me_X12_isSmall, me_X12_isDigit, me_X12_ahead, me_X12_isSign, me_X12_inWords, me_X12_fails, me_X12_begins, me_X12_wantSign, me_X12_wantWord, me_X12_number, me_X12_isName, me_X12_nameHere, me_X12_findHere, me_X12_fault, me_X12_taken, me_X12_newOne, me_X12_oldOne, me_X12_isThere, me_X12_houseHere, me_X12_aHouse, me_X12_twoHouses, me_X12_aQuarrel, me_X12_aCat, me_X12_aGrocer, me_X12_once, me_X12_streetPart, me_X12_street, me_X12_stepTo, me_X12_test, me_X12_dayOrder, me_X12_dayStep, me_X12_days, me_X12_houseRow, me_X12_quarrelRow], MEok MT LK q := fa_c (meD_ok dscr_45 ok_X12_read) (fa_c (meD_ok dscr_46 ok_X12_pour) (fa_c (meD_ok dscr_55 ok_X12_isFrom) (fa_c (meD_ok dscr_47 ok_X12_feed) (fa_c (meD_ok dscr_24 ok_X12_four) (fa_c (meD_ok dscr_15 ok_X12_byteAt) (fa_c (meD_ok dscr_10 ok_X12_isSmall) (fa_c (meD_ok dscr_10 ok_X12_isDigit) (fa_c (meD_ok dscr_12 ok_X12_ahead) (fa_c (meD_ok dscr_10 ok_X12_isSign) (fa_c (meD_ok dscr_56 ok_X12_inWords) (fa_c (meD_ok dscr_10 ok_X12_fails) (fa_c (meD_ok dscr_16 ok_X12_begins) (fa_c (meD_ok dscr_10 ok_X12_wantSign) (fa_c (meD_ok dscr_57 ok_X12_wantWord) (fa_c (meD_ok dscr_8 ok_X12_number) (fa_c (meD_ok dscr_58 ok_X12_isName) (fa_c (meD_ok dscr_43 ok_X12_nameHere) (fa_c (meD_ok dscr_7 ok_X12_findHere) (fa_c (meD_ok dscr_15 ok_X12_fault) (fa_c (meD_ok dscr_15 ok_X12_taken) (fa_c (meD_ok dscr_8 ok_X12_newOne) (fa_c (meD_ok dscr_8 ok_X12_oldOne) (fa_c (meD_ok dscr_10 ok_X12_isThere) (fa_c (meD_ok dscr_34 ok_X12_houseHere) (fa_c (meD_ok dscr_9 ok_X12_aHouse) (fa_c (meD_ok dscr_59 ok_X12_twoHouses) (fa_c (meD_ok dscr_9 ok_X12_aQuarrel) (fa_c (meD_ok dscr_9 ok_X12_aCat) (fa_c (meD_ok dscr_9 ok_X12_aGrocer) (fa_c (meD_ok dscr_10 ok_X12_once) (fa_c (meD_ok dscr_9 ok_X12_streetPart) (fa_c (meD_ok dscr_15 ok_X12_street) (fa_c (meD_ok dscr_10 ok_X12_stepTo) (fa_c (meD_ok dscr_10 ok_X12_test) (fa_c (meD_ok dscr_16 ok_X12_dayOrder) (fa_c (meD_ok dscr_9 ok_X12_dayStep) (fa_c (meD_ok dscr_15 ok_X12_days) (fa_c (meD_ok dscr_15 ok_X12_houseRow) (fa_c (meD_ok dscr_15 ok_X12_quarrelRow) (fa_n))))))))))))))))))))))))))))))))))))))))
theorem MT_r6 : ∀ q ∈ [me_X12_isHouse, me_X12_isQuarrel, me_X12_isGone, me_X12_wrongStep, me_X12_grainsOn, me_X12_quarrelHouse, me_X12_isAt, me_X12_told, me_X12_purse, me_X12_step, me_X12_quarrel, me_X12_grocer, me_X12_cat, me_X12_needOf, me_X12_hasAt, me_X12_isFull, me_X12_isSome, me_X12_hasPeace, me_X12_neverCan, me_X12_setOf, me_X12_share, me_X12_whose, me_X12_nobodys, me_X12_peace, me_X12_truce, me_X12_over, me_X12_hopeless, me_X12_hasRoom, me_X12_strews, me_X12_strew, me_X12_buys, me_X12_buy, me_X12_sweeps, me_X12_sweep, me_X12_brings, me_X12_shovel, me_X12_rains, me_X12_rain, me_X12_snows, me_X12_snow], MEok MT LK q := fa_c (meD_ok dscr_10 ok_X12_isHouse) (fa_c (meD_ok dscr_10 ok_X12_isQuarrel) (fa_c (meD_ok dscr_10 ok_X12_isGone) (fa_c (meD_ok dscr_15 ok_X12_wrongStep) (fa_c (meD_ok dscr_15 ok_X12_grainsOn) (fa_c (meD_ok dscr_7 ok_X12_quarrelHouse) (fa_c (meD_ok dscr_16 ok_X12_isAt) (fa_c (meD_ok dscr_15 ok_X12_told) (fa_c (meD_ok dscr_34 ok_X12_purse) (fa_c (meD_ok dscr_7 ok_X12_step) (fa_c (meD_ok dscr_7 ok_X12_quarrel) (fa_c (meD_ok dscr_7 ok_X12_grocer) (fa_c (meD_ok dscr_7 ok_X12_cat) (fa_c (meD_ok dscr_15 ok_X12_needOf) (fa_c (meD_ok dscr_7 ok_X12_hasAt) (fa_c (meD_ok dscr_16 ok_X12_isFull) (fa_c (meD_ok dscr_16 ok_X12_isSome) (fa_c (meD_ok dscr_10 ok_X12_hasPeace) (fa_c (meD_ok dscr_10 ok_X12_neverCan) (fa_c (meD_ok dscr_15 ok_X12_setOf) (fa_c (meD_ok dscr_7 ok_X12_share) (fa_c (meD_ok dscr_7 ok_X12_whose) (fa_c (meD_ok dscr_15 ok_X12_nobodys) (fa_c (meD_ok dscr_34 ok_X12_peace) (fa_c (meD_ok dscr_34 ok_X12_truce) (fa_c (meD_ok dscr_34 ok_X12_over) (fa_c (meD_ok dscr_34 ok_X12_hopeless) (fa_c (meD_ok dscr_16 ok_X12_hasRoom) (fa_c (meD_ok dscr_18 ok_X12_strews) (fa_c (meD_ok dscr_7 ok_X12_strew) (fa_c (meD_ok dscr_20 ok_X12_buys) (fa_c (meD_ok dscr_20 ok_X12_buy) (fa_c (meD_ok dscr_15 ok_X12_sweeps) (fa_c (meD_ok dscr_15 ok_X12_sweep) (fa_c (meD_ok dscr_20 ok_X12_brings) (fa_c (meD_ok dscr_20 ok_X12_shovel) (fa_c (meD_ok dscr_34 ok_X12_rains) (fa_c (meD_ok dscr_34 ok_X12_rain) (fa_c (meD_ok dscr_24 ok_X12_snows) (fa_c (meD_ok dscr_10 ok_X12_snow) (fa_n))))))))))))))))))))))))))))))))))))))))
theorem MT_r7 : ∀ q ∈ [me_X12_nightGoes, me_X12_night, me_X12_reaches, me_X12_chain, me_X12_keepsAll, me_X12_takesBack, me_X12_forecast, me_X12_soonest, me_X12_longest, me_X12_fullest, me_X12_bits, me_X12_best, me_X12_thaw, me_X12_isSnow, me_X12_thawAll, me_X12_wants, me_X12_cliff, me_X12_steps, me_X12_value, me_X12_beside, me_X12_ghosts, me_X12_level, me_X12_needAt, me_X12_couldBe, me_X12_most, me_X12_isSetOf, me_X12_lackOn, me_X12_lack, me_X12_closest, me_X12_lackAt, me_X12_freed, me_X12_costOf, me_X12_cost, me_X12_dearest, me_X12_quiet, me_X12_explains, me_X12_who, me_X12_waysOf, me_X12_found, me_X12_draw], MEok MT LK q := fa_c (meD_ok dscr_12 ok_X12_nightGoes) (fa_c (meD_ok dscr_34 ok_X12_night) (fa_c (meD_ok dscr_15 ok_X12_reaches) (fa_c (meD_ok dscr_15 ok_X12_chain) (fa_c (meD_ok dscr_12 ok_X12_keepsAll) (fa_c (meD_ok dscr_12 ok_X12_takesBack) (fa_c (meD_ok dscr_20 ok_X12_forecast) (fa_c (meD_ok dscr_15 ok_X12_soonest) (fa_c (meD_ok dscr_34 ok_X12_longest) (fa_c (meD_ok dscr_34 ok_X12_fullest) (fa_c (meD_ok dscr_15 ok_X12_bits) (fa_c (meD_ok dscr_15 ok_X12_best) (fa_c (meD_ok dscr_15 ok_X12_thaw) (fa_c (meD_ok dscr_9 ok_X12_isSnow) (fa_c (meD_ok dscr_34 ok_X12_thawAll) (fa_c (meD_ok dscr_15 ok_X12_wants) (fa_c (meD_ok dscr_34 ok_X12_cliff) (fa_c (meD_ok dscr_15 ok_X12_steps) (fa_c (meD_ok dscr_15 ok_X12_value) (fa_c (meD_ok dscr_15 ok_X12_beside) (fa_c (meD_ok dscr_34 ok_X12_ghosts) (fa_c (meD_ok dscr_34 ok_X12_level) (fa_c (meD_ok dscr_7 ok_X12_needAt) (fa_c (meD_ok dscr_10 ok_X12_couldBe) (fa_c (meD_ok dscr_34 ok_X12_most) (fa_c (meD_ok dscr_10 ok_X12_isSetOf) (fa_c (meD_ok dscr_7 ok_X12_lackOn) (fa_c (meD_ok dscr_15 ok_X12_lack) (fa_c (meD_ok dscr_34 ok_X12_closest) (fa_c (meD_ok dscr_7 ok_X12_lackAt) (fa_c (meD_ok dscr_15 ok_X12_freed) (fa_c (meD_ok dscr_15 ok_X12_costOf) (fa_c (meD_ok dscr_15 ok_X12_cost) (fa_c (meD_ok dscr_15 ok_X12_dearest) (fa_c (meD_ok dscr_20 ok_X12_quiet) (fa_c (meD_ok dscr_8 ok_X12_explains) (fa_c (meD_ok dscr_7 ok_X12_who) (fa_c (meD_ok dscr_54 ok_X12_waysOf) (fa_c (meD_ok dscr_16 ok_X12_found) (fa_c (meD_ok dscr_34 ok_X12_draw) (fa_n))))))))))))))))))))))))))))))))))))))))
theorem MT_r8 : ∀ q ∈ [me_X12_does, me_X12_holds, me_X12_behindEnds, me_X12_lives, me_X12_live, me_X12_lived, me_X12_odds, me_X12_copies, me_X12_mark, me_X12_back, me_J6_bitCount_0f7a4], MEok MT LK q := fa_c (meD_ok dscr_10 ok_X12_does) (fa_c (meD_ok dscr_10 ok_X12_holds) (fa_c (meD_ok dscr_15 ok_X12_behindEnds) (fa_c (meD_ok dscr_24 ok_X12_lives) (fa_c (meD_ok dscr_15 ok_X12_live) (fa_c (meD_ok dscr_15 ok_X12_lived) (fa_c (meD_ok dscr_8 ok_X12_odds) (fa_c (meD_ok dscr_18 ok_X12_copies) (fa_c (meD_ok dscr_34 ok_X12_mark) (fa_c (meD_ok dscr_34 ok_X12_back) (fa_c (meD_ok dscr_15 ok_J6_bitCount_0f7a4) (fa_n)))))))))))
theorem MT_ap {l m : List ME} (h : ∀ q ∈ l, MEok MT LK q) (g : ∀ q ∈ m, MEok MT LK q) : ∀ q ∈ l ++ m, MEok MT LK q := fun q hq => (List.mem_append.mp hq).elim (h q) (g q)
set_option maxRecDepth 100000 in
theorem MT_ok : ∀ q ∈ MT, MEok MT LK q := (MT_ap MT_r0 (MT_ap MT_r1 (MT_ap MT_r2 (MT_ap MT_r3 (MT_ap MT_r4 (MT_ap MT_r5 (MT_ap MT_r6 (MT_ap MT_r7 MT_r8))))))))
