def NWs : List Cond := [.methodLinkNest "SaltStreet" (21 : Nat) ({ cls := "SaltStreet$World", name := "<init>", desc := "()V" } : Jvm.MethodName) "SaltStreet",
  .methodLinkNest "SaltStreet$World" (9 : Nat) ({ cls := "SaltStreet$Plan", name := "<init>", desc := "()V" } : Jvm.MethodName) "SaltStreet",
  .fieldLinkNest "SaltStreet$Could" (68 : Nat) "SaltStreet$Plan" "one" "[I" "SaltStreet",
  .fieldLinkNest "SaltStreet$StreetReader" (118 : Nat) "SaltStreet$Plan" "one" "[I" "SaltStreet",
  .fieldLinkNest "SaltStreet$Whose" (77 : Nat) "SaltStreet$Plan" "one" "[I" "SaltStreet",
  .fieldLinkNest "SaltStreet" (246 : Nat) "SaltStreet$Plan" "one" "[I" "SaltStreet",
  .fieldLinkNest "SaltStreet$Could" (74 : Nat) "SaltStreet$Plan" "other" "[I" "SaltStreet",
  .fieldLinkNest "SaltStreet$StreetReader" (125 : Nat) "SaltStreet$Plan" "other" "[I" "SaltStreet",
  .fieldLinkNest "SaltStreet$Whose" (80 : Nat) "SaltStreet$Plan" "other" "[I" "SaltStreet",
  .fieldLinkNest "SaltStreet" (249 : Nat) "SaltStreet$Plan" "other" "[I" "SaltStreet",
  .fieldLinkNest "SaltStreet$Whose" (21 : Nat) "SaltStreet$Plan" "needs" "[I" "SaltStreet",
  .fieldLinkNest "SaltStreet$Could" (71 : Nat) "SaltStreet$Plan" "needs" "[I" "SaltStreet",
  .fieldLinkNest "SaltStreet$StreetReader" (128 : Nat) "SaltStreet$Plan" "needs" "[I" "SaltStreet",
  .fieldLinkNest "SaltStreet" (252 : Nat) "SaltStreet$Plan" "needs" "[I" "SaltStreet",
  .fieldLinkNest "SaltStreet$Whose" (52 : Nat) "SaltStreet$Plan" "quarrelsAt" "[I" "SaltStreet",
  .fieldLinkNest "SaltStreet" (237 : Nat) "SaltStreet$Plan" "quarrelsAt" "[I" "SaltStreet",
  .fieldLinkNest "SaltStreet$StreetReader" (138 : Nat) "SaltStreet$Plan" "from" "[I" "SaltStreet",
  .fieldLinkNest "SaltStreet$Ground" (116 : Nat) "SaltStreet$Plan" "from" "[I" "SaltStreet",
  .fieldLinkNest "SaltStreet" (341 : Nat) "SaltStreet$Plan" "from" "[I" "SaltStreet",
  .fieldLinkNest "SaltStreet$StreetReader" (141 : Nat) "SaltStreet$Plan" "to" "[I" "SaltStreet",
  .fieldLinkNest "SaltStreet$Ground" (119 : Nat) "SaltStreet$Plan" "to" "[I" "SaltStreet",
  .fieldLinkNest "SaltStreet" (344 : Nat) "SaltStreet$Plan" "to" "[I" "SaltStreet",
  .fieldLinkNest "SaltStreet$StreetReader" (144 : Nat) "SaltStreet$Plan" "takes" "[I" "SaltStreet",
  .fieldLinkNest "SaltStreet$Ground" (122 : Nat) "SaltStreet$Plan" "takes" "[I" "SaltStreet",
  .fieldLinkNest "SaltStreet" (347 : Nat) "SaltStreet$Plan" "takes" "[I" "SaltStreet",
  .fieldLinkNest "SaltStreet$Could" (109 : Nat) "SaltStreet$Plan" "price" "[I" "SaltStreet",
  .fieldLinkNest "SaltStreet$StreetReader" (160 : Nat) "SaltStreet$Plan" "price" "[I" "SaltStreet",
  .fieldLinkNest "SaltStreet$Ground" (77 : Nat) "SaltStreet$Plan" "price" "[I" "SaltStreet",
  .fieldLinkNest "SaltStreet" (267 : Nat) "SaltStreet$Plan" "price" "[I" "SaltStreet",
  .fieldLinkNest "SaltStreet$StreetReader" (163 : Nat) "SaltStreet$Plan" "sweet" "[I" "SaltStreet",
  .fieldLinkNest "SaltStreet$Ground" (74 : Nat) "SaltStreet$Plan" "sweet" "[I" "SaltStreet",
  .fieldLinkNest "SaltStreet" (270 : Nat) "SaltStreet$Plan" "sweet" "[I" "SaltStreet",
  .fieldLinkNest "SaltStreet$Could" (44 : Nat) "SaltStreet$Plan" "houses" "I" "SaltStreet",
  .fieldLinkNest "SaltStreet$StreetReader" (78 : Nat) "SaltStreet$Plan" "houses" "I" "SaltStreet",
  .fieldLinkNest "SaltStreet$Whose" (59 : Nat) "SaltStreet$Plan" "houses" "I" "SaltStreet",
  .fieldLinkNest "SaltStreet$Ground" (65 : Nat) "SaltStreet$Plan" "houses" "I" "SaltStreet",
  .fieldLinkNest "SaltStreet" (198 : Nat) "SaltStreet$Plan" "houses" "I" "SaltStreet",
  .fieldLinkNest "SaltStreet$Whose" (31 : Nat) "SaltStreet$Plan" "quarrels" "I" "SaltStreet",
  .fieldLinkNest "SaltStreet$Could" (61 : Nat) "SaltStreet$Plan" "quarrels" "I" "SaltStreet",
  .fieldLinkNest "SaltStreet$StreetReader" (115 : Nat) "SaltStreet$Plan" "quarrels" "I" "SaltStreet",
  .fieldLinkNest "SaltStreet" (181 : Nat) "SaltStreet$Plan" "quarrels" "I" "SaltStreet",
  .fieldLinkNest "SaltStreet$Ground" (129 : Nat) "SaltStreet$Plan" "quarrels" "I" "SaltStreet",
  .fieldLinkNest "SaltStreet$StreetReader" (135 : Nat) "SaltStreet$Plan" "cats" "I" "SaltStreet",
  .fieldLinkNest "SaltStreet" (201 : Nat) "SaltStreet$Plan" "cats" "I" "SaltStreet",
  .fieldLinkNest "SaltStreet$Ground" (113 : Nat) "SaltStreet$Plan" "cats" "I" "SaltStreet",
  .fieldLinkNest "SaltStreet$Could" (99 : Nat) "SaltStreet$Plan" "grocers" "I" "SaltStreet",
  .fieldLinkNest "SaltStreet$StreetReader" (154 : Nat) "SaltStreet$Plan" "grocers" "I" "SaltStreet",
  .fieldLinkNest "SaltStreet" (204 : Nat) "SaltStreet$Plan" "grocers" "I" "SaltStreet",
  .fieldLinkNest "SaltStreet$StreetReader" (102 : Nat) "SaltStreet$Plan" "gone" "I" "SaltStreet",
  .fieldLinkNest "SaltStreet" (224 : Nat) "SaltStreet$Plan" "gone" "I" "SaltStreet",
  .fieldLinkNest "SaltStreet$StreetReader" (166 : Nat) "SaltStreet$Plan" "washes" "I" "SaltStreet",
  .fieldLinkNest "SaltStreet$Ground" (90 : Nat) "SaltStreet$Plan" "washes" "I" "SaltStreet",
  .fieldLinkNest "SaltStreet" (417 : Nat) "SaltStreet$Plan" "washes" "I" "SaltStreet",
  .fieldLinkNest "SaltStreet$Whose" (48 : Nat) "SaltStreet$Plan" "goneCounts" "Z" "SaltStreet",
  .fieldLinkNest "SaltStreet$StreetReader" (169 : Nat) "SaltStreet$Plan" "goneCounts" "Z" "SaltStreet",
  .methodLinkNest "SaltStreet$World" (18 : Nat) ({ cls := "SaltStreet$Ground", name := "<init>", desc := "()V" } : Jvm.MethodName) "SaltStreet",
  .fieldLinkNest "SaltStreet$StreetReader" (89 : Nat) "SaltStreet$Ground" "salt" "[I" "SaltStreet",
  .fieldLinkNest "SaltStreet" (309 : Nat) "SaltStreet$Ground" "salt" "[I" "SaltStreet",
  .fieldLinkNest "SaltStreet$StreetReader" (99 : Nat) "SaltStreet$Ground" "sugar" "[I" "SaltStreet",
  .fieldLinkNest "SaltStreet$Whose" (86 : Nat) "SaltStreet$Ground" "snow" "[I" "SaltStreet",
  .fieldLinkNest "SaltStreet" (258 : Nat) "SaltStreet$Ground" "war" "[I" "SaltStreet",
  .fieldLinkNest "SaltStreet$Could" (106 : Nat) "SaltStreet$Ground" "stock" "[I" "SaltStreet",
  .fieldLinkNest "SaltStreet$StreetReader" (157 : Nat) "SaltStreet$Ground" "stock" "[I" "SaltStreet",
  .fieldLinkNest "SaltStreet$Life" (134 : Nat) "SaltStreet$Ground" "stock" "[I" "SaltStreet",
  .fieldLinkNest "SaltStreet" (264 : Nat) "SaltStreet$Ground" "stock" "[I" "SaltStreet",
  .fieldLinkNest "SaltStreet$Life" (82 : Nat) "SaltStreet$Ground" "over" "I" "SaltStreet",
  .fieldLinkNest "SaltStreet" (255 : Nat) "SaltStreet$Ground" "over" "I" "SaltStreet",
  .fieldLinkNest "SaltStreet$Life" (146 : Nat) "SaltStreet$Ground" "day" "I" "SaltStreet",
  .fieldLinkNest "SaltStreet" (207 : Nat) "SaltStreet$Ground" "day" "I" "SaltStreet",
  .fieldLinkNest "SaltStreet" (227 : Nat) "SaltStreet$Ground" "rained" "Z" "SaltStreet",
  .fieldLinkNest "SaltStreet" (230 : Nat) "SaltStreet$Ground" "purse" "I" "SaltStreet",
  .fieldLinkNest "SaltStreet" (212 : Nat) "SaltStreet$Ground" "bought" "I" "SaltStreet",
  .fieldLinkNest "SaltStreet" (215 : Nat) "SaltStreet$Ground" "washed" "I" "SaltStreet",
  .fieldLinkNest "SaltStreet" (218 : Nat) "SaltStreet$Ground" "swept" "I" "SaltStreet",
  .fieldLinkNest "SaltStreet" (221 : Nat) "SaltStreet$Ground" "melted" "I" "SaltStreet",
  .methodLinkNest "SaltStreet$World" (25 : Nat) ({ cls := "SaltStreet$Program", name := "<init>", desc := "()V" } : Jvm.MethodName) "SaltStreet",
  .fieldLinkNest "SaltStreet$Life" (26 : Nat) "SaltStreet$Program" "word" "[I" "SaltStreet",
  .fieldLinkNest "SaltStreet$DaysReader" (59 : Nat) "SaltStreet$Program" "word" "[I" "SaltStreet",
  .fieldLinkNest "SaltStreet$DaysReader" (74 : Nat) "SaltStreet$Program" "thing" "[I" "SaltStreet",
  .fieldLinkNest "SaltStreet$Life" (76 : Nat) "SaltStreet$Program" "thing" "[I" "SaltStreet",
  .fieldLinkNest "SaltStreet$Life" (73 : Nat) "SaltStreet$Program" "number" "[I" "SaltStreet",
  .fieldLinkNest "SaltStreet$DaysReader" (117 : Nat) "SaltStreet$Program" "number" "[I" "SaltStreet",
  .fieldLinkNest "SaltStreet$DaysReader" (88 : Nat) "SaltStreet$Program" "house" "[I" "SaltStreet",
  .fieldLinkNest "SaltStreet$Life" (105 : Nat) "SaltStreet$Program" "house" "[I" "SaltStreet",
  .fieldLinkNest "SaltStreet$DaysReader" (103 : Nat) "SaltStreet$Program" "test" "[I" "SaltStreet",
  .fieldLinkNest "SaltStreet$Life" (79 : Nat) "SaltStreet$Program" "test" "[I" "SaltStreet",
  .fieldLinkNest "SaltStreet$DaysReader" (62 : Nat) "SaltStreet$Program" "partner" "[I" "SaltStreet",
  .fieldLinkNest "SaltStreet$Life" (66 : Nat) "SaltStreet$Program" "partner" "[I" "SaltStreet",
  .fieldLinkNest "SaltStreet$DaysReader" (32 : Nat) "SaltStreet$Program" "there" "Z" "SaltStreet",
  .fieldLinkNest "SaltStreet" (438 : Nat) "SaltStreet$Program" "there" "Z" "SaltStreet",
  .fieldLinkNest "SaltStreet$Life" (20 : Nat) "SaltStreet$Program" "rows" "I" "SaltStreet",
  .fieldLinkNest "SaltStreet$DaysReader" (56 : Nat) "SaltStreet$Program" "rows" "I" "SaltStreet",
  .fieldLinkNest "SaltStreet$DaysReader" (97 : Nat) "SaltStreet$Program" "steps" "I" "SaltStreet",
  .fieldLinkNest "SaltStreet" (195 : Nat) "SaltStreet$Program" "steps" "I" "SaltStreet",
  .fieldLinkNest "SaltStreet$StreetReader" (19 : Nat) "SaltStreet$World" "plan" "LSaltStreet$Plan;" "SaltStreet",
  .fieldLinkNest "SaltStreet" (33 : Nat) "SaltStreet$World" "plan" "LSaltStreet$Plan;" "SaltStreet",
  .fieldLinkNest "SaltStreet" (38 : Nat) "SaltStreet$World" "ground" "LSaltStreet$Ground;" "SaltStreet",
  .fieldLinkNest "SaltStreet$StreetReader" (85 : Nat) "SaltStreet$World" "ground" "LSaltStreet$Ground;" "SaltStreet",
  .fieldLinkNest "SaltStreet" (80 : Nat) "SaltStreet$World" "program" "LSaltStreet$Program;" "SaltStreet",
  .methodLinkNest "SaltStreet" (45 : Nat) ({ cls := "SaltStreet$Life", name := "<init>", desc := "()V" } : Jvm.MethodName) "SaltStreet",
  .fieldLinkNest "SaltStreet" (446 : Nat) "SaltStreet$Life" "there" "Z" "SaltStreet",
  .fieldLinkNest "SaltStreet" (443 : Nat) "SaltStreet$Life" "done" "I" "SaltStreet",
  .methodLinkNest "SaltStreet" (55 : Nat) ({ cls := "SaltStreet$Could", name := "<init>", desc := "()V" } : Jvm.MethodName) "SaltStreet",
  .fieldLinkNest "SaltStreet" (399 : Nat) "SaltStreet$Could" "paid" "I" "SaltStreet",
  .fieldLinkNest "SaltStreet" (414 : Nat) "SaltStreet$Could" "lastPrice" "I" "SaltStreet",
  .fieldLinkNest "SaltStreet$DaysReader" (40 : Nat) "SaltStreet$Tokens" "kind" "I" "SaltStreet",
  .fieldLinkNest "SaltStreet$StreetReader" (36 : Nat) "SaltStreet$Tokens" "kind" "I" "SaltStreet",
  .fieldLinkNest "SaltStreet$StreetReader" (68 : Nat) "SaltStreet$Tokens" "name" "J" "SaltStreet",
  .fieldLinkNest "SaltStreet$StreetReader" (112 : Nat) "SaltStreet$Tokens" "taken" "I" "SaltStreet",
  .fieldLinkNest "SaltStreet$DaysReader" (110 : Nat) "SaltStreet$Tokens" "taken" "I" "SaltStreet",
  .fieldLinkNest "SaltStreet" (453 : Nat) "SaltStreet$Tokens" "fault" "I" "SaltStreet",
  .fieldLinkNest "SaltStreet" (454 : Nat) "SaltStreet$Tokens" "place" "I" "SaltStreet",
  .methodLinkNest "SaltStreet" (102 : Nat) ({ cls := "SaltStreet$Tray", name := "<init>", desc := "()V" } : Jvm.MethodName) "SaltStreet",
  .fieldLinkNest "SaltStreet" (140 : Nat) "SaltStreet$Tray" "row" "[J" "SaltStreet",
  .fieldLinkNest "SaltStreet" (144 : Nat) "SaltStreet$Tray" "there" "Z" "SaltStreet",
  .fieldLinkNest "SaltStreet" (148 : Nat) "SaltStreet$Tray" "sort" "I" "SaltStreet",
  .fieldLinkNest "SaltStreet" (420 : Nat) "SaltStreet$Tray" "size" "I" "SaltStreet",
  .methodLinkNest "SaltStreet$Plan" (53 : Nat) ({ cls := "SaltStreet", name := "clearRow", desc := "([I)V" } : Jvm.MethodName) "SaltStreet",
  .methodLinkNest "SaltStreet$Ground" (27 : Nat) ({ cls := "SaltStreet", name := "clearRow", desc := "([I)V" } : Jvm.MethodName) "SaltStreet",
  .methodLinkNest "SaltStreet$Tokens" (88 : Nat) ({ cls := "SaltStreet", name := "within", desc := "(III)Z" } : Jvm.MethodName) "SaltStreet",
  .methodLinkNest "SaltStreet$StreetReader" (151 : Nat) ({ cls := "SaltStreet", name := "has", desc := "(II)Z" } : Jvm.MethodName) "SaltStreet",
  .methodLinkNest "SaltStreet$Plan" (85 : Nat) ({ cls := "SaltStreet", name := "copyRow", desc := "([I[I)V" } : Jvm.MethodName) "SaltStreet",
  .methodLinkNest "SaltStreet$Ground" (57 : Nat) ({ cls := "SaltStreet", name := "copyRow", desc := "([I[I)V" } : Jvm.MethodName) "SaltStreet",
  .methodLinkNest "SaltStreet$Program" (41 : Nat) ({ cls := "SaltStreet", name := "copyRow", desc := "([I[I)V" } : Jvm.MethodName) "SaltStreet",
  .methodLinkNest "SaltStreet$DaysReader" (100 : Nat) ({ cls := "SaltStreet", name := "within", desc := "(III)Z" } : Jvm.MethodName) "SaltStreet",
  .methodLinkNest "SaltStreet$Ground" (70 : Nat) ({ cls := "SaltStreet", name := "has", desc := "(II)Z" } : Jvm.MethodName) "SaltStreet",
  .methodLinkNest "SaltStreet$Plan" (93 : Nat) ({ cls := "SaltStreet", name := "has", desc := "(II)Z" } : Jvm.MethodName) "SaltStreet",
  .methodLinkNest "SaltStreet$Whose" (74 : Nat) ({ cls := "SaltStreet", name := "has", desc := "(II)Z" } : Jvm.MethodName) "SaltStreet",
  .methodLinkNest "SaltStreet$Could" (57 : Nat) ({ cls := "SaltStreet", name := "clearRow", desc := "([I)V" } : Jvm.MethodName) "SaltStreet",
  .methodLinkNest "SaltStreet$Could" (64 : Nat) ({ cls := "SaltStreet", name := "has", desc := "(II)Z" } : Jvm.MethodName) "SaltStreet",
  .methodLinkNest "SaltStreet$Life" (87 : Nat) ({ cls := "SaltStreet", name := "has", desc := "(II)Z" } : Jvm.MethodName) "SaltStreet"]
theorem mem_r {big : List Cond} (ws : List Cond) (ps : List Nat) (hp : ws = ps.filterMap (fun i => big[i]?)) : ∀ w ∈ ws, w ∈ big := by
  intro w hw
  rw [hp] at hw
  obtain ⟨i, -, hi⟩ := List.mem_filterMap.mp hw
  exact List.mem_of_getElem? hi
def nwk : Cond → Bool
  | .fieldLinkNest _ _ _ _ _ _ => true
  | .methodLinkNest _ _ _ _ => true
  | _ => false
theorem NWs_ok : NWs.all nwk = true := by decide +kernel
theorem nw_warm {w : Cond} (hw : nwk w = true) {s U : State} (hW : s.WarmedH U.vm) (h : va_Nw w s) : va_Nw w U := by
  cases w <;> first | exact va_Nw.warmF hW h | exact va_Nw.warmM hW h | (simp [nwk] at hw)
theorem nw_same {w : Cond} (hw : nwk w = true) {u U : State} (h : u.vm = U.vm) (hZ : va_Nw w u) : va_Nw w U := by
  cases w <;> first | exact va_Nw.same rfl h hZ | (simp [nwk] at hw)
theorem nw_use {w : Cond} (hw : nwk w = true) {A : Array Value} {U : State} (h : va_Nw w U) : w.before A U = true := by
  cases w <;> first | exact va_Nw.use rfl h | (simp [nwk] at hw)
theorem nw_of {w : Cond} (hw : nwk w = true) {A : Array Value} {U : State} (h : w.before A U = true) : va_Nw w U := by
  cases w <;> first | exact va_Nw.of rfl h | (simp [nwk] at hw)
abbrev tyl (kc : Nat → ClassId) : List (ClassId × FieldType) := [(kc 0, .int), (kc 1, .long), (kc 2, .byte), (kc 3, .object "SaltStreet$Tray"), (kc 4, .object "SaltStreet$World")]
/-- what every contract needs of the tables: the classes, the array classes, the links of nest mates -/
def EK (D : va_G) (kc : Nat → ClassId) (U : State) : Prop := va_K D vwCl (tyl kc) U ∧ (∀ w ∈ NWs, va_Nw w U) ∧ va_AO "SaltStreet$Tray" U ∧ va_AO "SaltStreet$World" U
theorem EK.warm {D : va_G} {kc : Nat → ClassId} {s U : State} (hW : s.WarmedH U.vm) (h : EK D kc s) : EK D kc U := ⟨va_K.moved hW.alike h.1, fun w hw => nw_warm (List.all_eq_true.mp NWs_ok w hw) hW (h.2.1 w hw), va_AO.moved hW.alike h.2.2.1, va_AO.moved hW.alike h.2.2.2⟩
theorem EK.call {D : va_G} {kc : Nat → ClassId} {U : State} {g : JFrame} {mk : MethodId} {a : Array Value} (h : EK D kc U) : EK D kc (U.calling g mk a) := ⟨va_K.moved (u := U) (U := U.calling g mk a) (Vm.Alike.refl U.vm) h.1, fun w hw => nw_same (u := U) (U := U.calling g mk a) (List.all_eq_true.mp NWs_ok w hw) rfl (h.2.1 w hw), va_AO.moved (u := U) (U := U.calling g mk a) (Vm.Alike.refl U.vm) h.2.2.1, va_AO.moved (u := U) (U := U.calling g mk a) (Vm.Alike.refl U.vm) h.2.2.2⟩
theorem EK.nw {D : va_G} {kc : Nat → ClassId} {U : State} (h : EK D kc U) {w : Cond} (i : Nat) (hi : NWs[i]? = some w) {A : Array Value} : w.before A U = true := nw_use (List.all_eq_true.mp NWs_ok w (List.mem_of_getElem? hi)) (h.2.1 w (List.mem_of_getElem? hi))
theorem EK.nn {D : va_G} {kc : Nat → ClassId} {U : State} (h : EK D kc U) {w : Cond} (i : Nat) (hi : NWs[i]? = some w) : va_Nw w U := h.2.1 w (List.mem_of_getElem? hi)
/-- a contract's start: the world ws, the tables -/
abbrev wPre (D : va_G) (kc : Nat → ClassId) (ws : va_W) (sz : Nat) : State → Prop := fun U => U.heap.size = sz ∧ va_P D vwCl ws U.heap ∧ EK D kc U ∧ va_D (fun _ => True) ws
abbrev wPost (D : va_G) (ws : va_W) (A : Nat → Prop) : Unit → State → Prop := fun _ t => va_P D vwCl ws t.heap ∧ va_D A ws
abbrev wAny : Unit → State → Prop := fun _ _ => True
theorem fb_blind {av : List Value} {D : va_G} {kc : Nat → ClassId} {ws : va_W} {sz : Nat} : FrameBlind (va_Pc av (wPre D kc ws sz)) := fun a U g mk q => by
  obtain ⟨q0, q1, qP, qK, qD⟩ := q
  exact ⟨q0, q1, qP, qK.call, qD⟩
theorem pre_ok {s U : State} {H : Heap} {D : va_G} {kc : Nat → ClassId} {ws : va_W} {A : Nat → Prop} {av : List Value} (hP : va_P D vwCl ws H) (hD : va_D A ws) (hE : EK D kc s) (hU : U.heap = H) (hW : s.WarmedH U.vm) : va_Pc av (wPre D kc ws H.size) av.toArray U := ⟨rfl, by rw [hU], by rw [hU]; exact hP, hE.warm hW, hD.weaken (fun _ _ _ _ => trivial)⟩
theorem preS_ok {s : State} {H : Heap} {D : va_G} {kc : Nat → ClassId} {ws : va_W} {A : Nat → Prop} {av : List Value} (hP : va_P D vwCl ws H) (hD : va_D A ws) (hE : EK D kc s) : PreS s H (va_Pc av (wPre D kc ws H.size)) av := ⟨fb_blind, fun _ hU hW => pre_ok hP hD hE hU hW⟩
theorem preV_ok {s : State} {H : Heap} {D : va_G} {kc : Nat → ClassId} {ws : va_W} {A : Nat → Prop} {As : List Value} {b ci q0 : Nat} {q : vw_C} {fs : List Value} (hP : va_P D vwCl ws H) (hD : va_D A ws) (hE : EK D kc s) (hc : vwCl[ci]? = some q) (he : ws[q0]? = some (b, .inr (ci, fs))) : PreV s H q.1 b (va_Pc (.ref b :: As) (wPre D kc ws H.size)) As := ⟨fb_blind, va_recv hE.1 hP hc he, fun _ hU hW => pre_ok hP hD hE hU hW⟩
section ENVR
variable {p : Program} {l : Launch} {e : Env} {R : Room} {s : State} {m : MethodId} {args : Array Value} {below : List Frame} {meth : Method} {c : Code} {H : Heap} {locs : List Loc} {cells slots : Nat} {Q : State → Prop} {pc : Nat} {ls : Array Slot} {rest : List Value}
theorem lv_ci {x y : Int32} (h : x = y) (k : W p l e R s m args below meth c H locs cells slots Q (F0 m pc ls (.int y :: rest))) : W p l e R s m args below meth c H locs cells slots Q (F0 m pc ls (.int x :: rest)) := h ▸ k
theorem lv_cl {x y : Int64} (h : x = y) (k : W p l e R s m args below meth c H locs cells slots Q (F0 m pc ls (.long y :: rest))) : W p l e R s m args below meth c H locs cells slots Q (F0 m pc ls (.long x :: rest)) := h ▸ k
theorem lv_cv {x y : Value} (h : x = y) (k : W p l e R s m args below meth c H locs cells slots Q (F0 m pc ls (y :: rest))) : W p l e R s m args below meth c H locs cells slots Q (F0 m pc ls (x :: rest)) := h ▸ k
end ENVR
/-- least ≤ v ≤ most, as a number -/
def bW (v a b : Int32) : Int32 := if a ≤ v ∧ v ≤ b then 1 else 0
theorem bW_01 (v a b : Int32) : bW v a b = 0 ∨ bW v a b = 1 := by
  unfold bW; split
  · exact Or.inr rfl
  · exact Or.inl rfl
theorem bW_nar (v a b : Int32) : narrow .boolean (.int (bW v a b)) = .int (bW v a b) := by
  rcases bW_01 v a b with h | h <;> rw [h] <;> rfl
theorem bW_none (v : Int32) : bW v 0 (-1) = 0 := by
  unfold bW
  rw [if_neg]
  rintro ⟨h1, h2⟩
  exact absurd (Int32.le_trans h1 h2) (by decide)
theorem bW_1 {v a b : Int32} (h1 : a ≤ v) (h2 : v ≤ b) : bW v a b = 1 := if_pos ⟨h1, h2⟩
theorem bW_0a {v a b : Int32} (h1 : ¬ a ≤ v) : bW v a b = 0 := if_neg (fun h => h1 h.1)
theorem bW_0b {v a b : Int32} (h1 : ¬ v ≤ b) : bW v a b = 0 := if_neg (fun h => h1 h.2)
theorem lt_nle {a b : Int32} (h : a < b) : ¬ b ≤ a := by
  rw [Int32.lt_iff_toInt_lt] at h; rw [Int32.le_iff_toInt_le]; omega
theorem nlt_le {a b : Int32} (h : ¬ a < b) : b ≤ a := by
  rw [Int32.lt_iff_toInt_lt] at h; rw [Int32.le_iff_toInt_le]; omega
