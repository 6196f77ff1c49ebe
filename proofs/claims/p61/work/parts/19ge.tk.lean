/-! days: the test of an IF, a row's order, a step -/
theorem do_4 (b : Int32) (t : Sg) : f_X12_dayOrder 4 b t = bd (f_X12_number (b + 1) 0 16 t) (fun r t => ck (r = 0 ∨ r = 1) (some (r, t))) := by
  unfold f_X12_dayOrder
  rw [if_pos rfl]
theorem do_19 (b : Int32) (t : Sg) : f_X12_dayOrder 19 b t = bd (f_X12_stepTo (b + 1) t) (fun r t => if r = 0 then some (0, t) else bd (f_X12_number (b + 2) 1 999 t) (fun r t => if r = 0 then some (0, t) else some (1, t))) := by
  unfold f_X12_dayOrder
  rw [if_neg (show ¬ (19 : Int32) = 4 by decide), if_neg (show ¬ (19 : Int32) = 5 by decide), if_neg (show ¬ (19 : Int32) = 6 by decide), if_neg (show ¬ (19 : Int32) = 7 by decide), if_neg (show ¬ (19 : Int32) = 8 by decide), if_neg (show ¬ (19 : Int32) = 9 by decide), if_neg (show ¬ (19 : Int32) = 10 by decide), if_neg (show ¬ (19 : Int32) = 11 by decide), if_neg (show ¬ (19 : Int32) = 12 by decide), if_neg (show ¬ (19 : Int32) = 13 by decide), if_neg (show ¬ (19 : Int32) = 14 by decide), if_neg (show ¬ (19 : Int32) = 15 by decide), if_neg (show ¬ (19 : Int32) = 16 by decide), if_neg (show ¬ (19 : Int32) = 17 by decide), if_neg (show ¬ (19 : Int32) = 18 by decide), if_pos rfl]
theorem do_20 (b : Int32) (t : Sg) : f_X12_dayOrder 20 b t = bd (f_X12_oldOne 20 (t.1 1 3) (b + 3) t) (fun r t => if r = 0 then some (0, t) else bd (f_X12_number (b + 2) 1 999 t) (fun r t => if r = 0 then some (0, t) else bd (f_X12_wantWord_1001 12 t) (fun r t => if r = 0 then some (0, t) else bd (f_X12_stepTo (b + 1) t) (fun r t => if r = 0 then some (0, t) else some (1, t))))) := by
  unfold f_X12_dayOrder
  rw [if_neg (show ¬ (20 : Int32) = 4 by decide), if_neg (show ¬ (20 : Int32) = 5 by decide), if_neg (show ¬ (20 : Int32) = 6 by decide), if_neg (show ¬ (20 : Int32) = 7 by decide), if_neg (show ¬ (20 : Int32) = 8 by decide), if_neg (show ¬ (20 : Int32) = 9 by decide), if_neg (show ¬ (20 : Int32) = 10 by decide), if_neg (show ¬ (20 : Int32) = 11 by decide), if_neg (show ¬ (20 : Int32) = 12 by decide), if_neg (show ¬ (20 : Int32) = 13 by decide), if_neg (show ¬ (20 : Int32) = 14 by decide), if_neg (show ¬ (20 : Int32) = 15 by decide), if_neg (show ¬ (20 : Int32) = 16 by decide), if_neg (show ¬ (20 : Int32) = 17 by decide), if_neg (show ¬ (20 : Int32) = 18 by decide), if_neg (show ¬ (20 : Int32) = 19 by decide), if_pos rfl]
theorem do_21 (b : Int32) (t : Sg) : f_X12_dayOrder 21 b t = bd (f_X12_stepTo (b + 1) t) (fun r t => ck (r = 0 ∨ r = 1) (some (r, t))) := by
  unfold f_X12_dayOrder
  rw [if_neg (show ¬ (21 : Int32) = 4 by decide), if_neg (show ¬ (21 : Int32) = 5 by decide), if_neg (show ¬ (21 : Int32) = 6 by decide), if_neg (show ¬ (21 : Int32) = 7 by decide), if_neg (show ¬ (21 : Int32) = 8 by decide), if_neg (show ¬ (21 : Int32) = 9 by decide), if_neg (show ¬ (21 : Int32) = 10 by decide), if_neg (show ¬ (21 : Int32) = 11 by decide), if_neg (show ¬ (21 : Int32) = 12 by decide), if_neg (show ¬ (21 : Int32) = 13 by decide), if_neg (show ¬ (21 : Int32) = 14 by decide), if_neg (show ¬ (21 : Int32) = 15 by decide), if_neg (show ¬ (21 : Int32) = 16 by decide), if_neg (show ¬ (21 : Int32) = 17 by decide), if_neg (show ¬ (21 : Int32) = 18 by decide), if_neg (show ¬ (21 : Int32) = 19 by decide), if_neg (show ¬ (21 : Int32) = 20 by decide), if_pos rfl]
theorem do_22 (b : Int32) (t : Sg) : f_X12_dayOrder 22 b t = bd (f_X12_number (b + 1) 0 99 t) (fun r t => ck (r = 0 ∨ r = 1) (some (r, t))) := by
  unfold f_X12_dayOrder
  rw [if_neg (show ¬ (22 : Int32) = 4 by decide), if_neg (show ¬ (22 : Int32) = 5 by decide), if_neg (show ¬ (22 : Int32) = 6 by decide), if_neg (show ¬ (22 : Int32) = 7 by decide), if_neg (show ¬ (22 : Int32) = 8 by decide), if_neg (show ¬ (22 : Int32) = 9 by decide), if_neg (show ¬ (22 : Int32) = 10 by decide), if_neg (show ¬ (22 : Int32) = 11 by decide), if_neg (show ¬ (22 : Int32) = 12 by decide), if_neg (show ¬ (22 : Int32) = 13 by decide), if_neg (show ¬ (22 : Int32) = 14 by decide), if_neg (show ¬ (22 : Int32) = 15 by decide), if_neg (show ¬ (22 : Int32) = 16 by decide), if_neg (show ¬ (22 : Int32) = 17 by decide), if_neg (show ¬ (22 : Int32) = 18 by decide), if_neg (show ¬ (22 : Int32) = 19 by decide), if_neg (show ¬ (22 : Int32) = 20 by decide), if_neg (show ¬ (22 : Int32) = 21 by decide), if_pos rfl]
theorem do_23 (b : Int32) (t : Sg) : f_X12_dayOrder 23 b t = some (1, t) := by
  unfold f_X12_dayOrder
  rw [if_neg (show ¬ (23 : Int32) = 4 by decide), if_neg (show ¬ (23 : Int32) = 5 by decide), if_neg (show ¬ (23 : Int32) = 6 by decide), if_neg (show ¬ (23 : Int32) = 7 by decide), if_neg (show ¬ (23 : Int32) = 8 by decide), if_neg (show ¬ (23 : Int32) = 9 by decide), if_neg (show ¬ (23 : Int32) = 10 by decide), if_neg (show ¬ (23 : Int32) = 11 by decide), if_neg (show ¬ (23 : Int32) = 12 by decide), if_neg (show ¬ (23 : Int32) = 13 by decide), if_neg (show ¬ (23 : Int32) = 14 by decide), if_neg (show ¬ (23 : Int32) = 15 by decide), if_neg (show ¬ (23 : Int32) = 16 by decide), if_neg (show ¬ (23 : Int32) = 17 by decide), if_neg (show ¬ (23 : Int32) = 18 by decide), if_neg (show ¬ (23 : Int32) = 19 by decide), if_neg (show ¬ (23 : Int32) = 20 by decide), if_neg (show ¬ (23 : Int32) = 21 by decide), if_neg (show ¬ (23 : Int32) = 22 by decide), if_pos rfl]
theorem do_24 (b : Int32) (t : Sg) : f_X12_dayOrder 24 b t = bd (f_X12_test b t) (fun r t => ck (r = 0 ∨ r = 1) (some (r, t))) := by
  unfold f_X12_dayOrder
  rw [if_neg (show ¬ (24 : Int32) = 4 by decide), if_neg (show ¬ (24 : Int32) = 5 by decide), if_neg (show ¬ (24 : Int32) = 6 by decide), if_neg (show ¬ (24 : Int32) = 7 by decide), if_neg (show ¬ (24 : Int32) = 8 by decide), if_neg (show ¬ (24 : Int32) = 9 by decide), if_neg (show ¬ (24 : Int32) = 10 by decide), if_neg (show ¬ (24 : Int32) = 11 by decide), if_neg (show ¬ (24 : Int32) = 12 by decide), if_neg (show ¬ (24 : Int32) = 13 by decide), if_neg (show ¬ (24 : Int32) = 14 by decide), if_neg (show ¬ (24 : Int32) = 15 by decide), if_neg (show ¬ (24 : Int32) = 16 by decide), if_neg (show ¬ (24 : Int32) = 17 by decide), if_neg (show ¬ (24 : Int32) = 18 by decide), if_neg (show ¬ (24 : Int32) = 19 by decide), if_neg (show ¬ (24 : Int32) = 20 by decide), if_neg (show ¬ (24 : Int32) = 21 by decide), if_neg (show ¬ (24 : Int32) = 22 by decide), if_neg (show ¬ (24 : Int32) = 23 by decide), if_pos rfl]
theorem do_25 (b : Int32) (t : Sg) : f_X12_dayOrder 25 b t = bd (f_X12_number (b + 1) 1 99 t) (fun r t => ck (r = 0 ∨ r = 1) (some (r, t))) := by
  unfold f_X12_dayOrder
  rw [if_neg (show ¬ (25 : Int32) = 4 by decide), if_neg (show ¬ (25 : Int32) = 5 by decide), if_neg (show ¬ (25 : Int32) = 6 by decide), if_neg (show ¬ (25 : Int32) = 7 by decide), if_neg (show ¬ (25 : Int32) = 8 by decide), if_neg (show ¬ (25 : Int32) = 9 by decide), if_neg (show ¬ (25 : Int32) = 10 by decide), if_neg (show ¬ (25 : Int32) = 11 by decide), if_neg (show ¬ (25 : Int32) = 12 by decide), if_neg (show ¬ (25 : Int32) = 13 by decide), if_neg (show ¬ (25 : Int32) = 14 by decide), if_neg (show ¬ (25 : Int32) = 15 by decide), if_neg (show ¬ (25 : Int32) = 16 by decide), if_neg (show ¬ (25 : Int32) = 17 by decide), if_neg (show ¬ (25 : Int32) = 18 by decide), if_neg (show ¬ (25 : Int32) = 19 by decide), if_neg (show ¬ (25 : Int32) = 20 by decide), if_neg (show ¬ (25 : Int32) = 21 by decide), if_neg (show ¬ (25 : Int32) = 22 by decide), if_neg (show ¬ (25 : Int32) = 23 by decide), if_neg (show ¬ (25 : Int32) = 24 by decide), if_pos rfl]
theorem do_26 (b : Int32) (t : Sg) : f_X12_dayOrder 26 b t = some (1, t) := by
  unfold f_X12_dayOrder
  rw [if_neg (show ¬ (26 : Int32) = 4 by decide), if_neg (show ¬ (26 : Int32) = 5 by decide), if_neg (show ¬ (26 : Int32) = 6 by decide), if_neg (show ¬ (26 : Int32) = 7 by decide), if_neg (show ¬ (26 : Int32) = 8 by decide), if_neg (show ¬ (26 : Int32) = 9 by decide), if_neg (show ¬ (26 : Int32) = 10 by decide), if_neg (show ¬ (26 : Int32) = 11 by decide), if_neg (show ¬ (26 : Int32) = 12 by decide), if_neg (show ¬ (26 : Int32) = 13 by decide), if_neg (show ¬ (26 : Int32) = 14 by decide), if_neg (show ¬ (26 : Int32) = 15 by decide), if_neg (show ¬ (26 : Int32) = 16 by decide), if_neg (show ¬ (26 : Int32) = 17 by decide), if_neg (show ¬ (26 : Int32) = 18 by decide), if_neg (show ¬ (26 : Int32) = 19 by decide), if_neg (show ¬ (26 : Int32) = 20 by decide), if_neg (show ¬ (26 : Int32) = 21 by decide), if_neg (show ¬ (26 : Int32) = 22 by decide), if_neg (show ¬ (26 : Int32) = 23 by decide), if_neg (show ¬ (26 : Int32) = 24 by decide), if_neg (show ¬ (26 : Int32) = 25 by decide)]
theorem do_27 (b : Int32) (t : Sg) : f_X12_dayOrder 27 b t = some (1, t) := by
  unfold f_X12_dayOrder
  rw [if_neg (show ¬ (27 : Int32) = 4 by decide), if_neg (show ¬ (27 : Int32) = 5 by decide), if_neg (show ¬ (27 : Int32) = 6 by decide), if_neg (show ¬ (27 : Int32) = 7 by decide), if_neg (show ¬ (27 : Int32) = 8 by decide), if_neg (show ¬ (27 : Int32) = 9 by decide), if_neg (show ¬ (27 : Int32) = 10 by decide), if_neg (show ¬ (27 : Int32) = 11 by decide), if_neg (show ¬ (27 : Int32) = 12 by decide), if_neg (show ¬ (27 : Int32) = 13 by decide), if_neg (show ¬ (27 : Int32) = 14 by decide), if_neg (show ¬ (27 : Int32) = 15 by decide), if_neg (show ¬ (27 : Int32) = 16 by decide), if_neg (show ¬ (27 : Int32) = 17 by decide), if_neg (show ¬ (27 : Int32) = 18 by decide), if_neg (show ¬ (27 : Int32) = 19 by decide), if_neg (show ¬ (27 : Int32) = 20 by decide), if_neg (show ¬ (27 : Int32) = 21 by decide), if_neg (show ¬ (27 : Int32) = 22 by decide), if_neg (show ¬ (27 : Int32) = 23 by decide), if_neg (show ¬ (27 : Int32) = 24 by decide), if_neg (show ¬ (27 : Int32) = 25 by decide)]
def OrC (w a : Int32) (s : Sg) : Option (Int32 × Sg) := if w = 116 then bd (f_X1_takeNumber a 0 16 s) (fun r s => f_X1_takeStep_b249 r s) else if w = 117 then f_X1_takeStep_b249 1 s else if w = 118 then f_X1_takeStep_b249 1 s else if w = 119 then bd (f_X1_takeGrocer a s) (fun r s => if r = 0 then f_X1_takeStep_b183 s else bd (f_X1_takeNumber a 1 999 s) (fun r s => if r = 0 then f_X1_takeStep_b183 s else bd (f_X7_pass 110 s) (fun r s => if r = 0 then f_X1_takeStep_b183 s else bd (f_X1_takeHouse_75 a s) (fun r s => if r = 0 then f_X1_takeStep_b183 s else f_X1_takeStep_b184 1 s)))) else if w = 120 then bd (f_X1_takeHouse_73 a s) (fun r s => if r = 0 then f_X1_takeStep_b127 s else bd (f_X1_takeNumber a 1 999 s) (fun r s => if r = 0 then f_X1_takeStep_b127 s else f_X1_takeStep_b128 1 s)) else if w = 121 then bd (f_X1_takeHouse_73 a s) (fun r s => f_X1_takeStep_b249 r s) else if w = 122 then bd (f_X1_takeNumber a 0 99 s) (fun r s => f_X1_takeStep_b249 r s) else if w = 123 then f_X1_takeStep_b249 1 s else if w = 124 then bd (f_X1_takeTest a s) (fun r s => f_X1_takeStep_b249 r s) else if w = 125 then f_X1_takeStep_b249 1 s else if w = 126 then f_X1_takeStep_b249 1 s else if w = 127 then f_X1_takeStep_b249 1 s else if w = 128 then bd (f_X1_takeNumber a 1 99 s) (fun r s => f_X1_takeStep_b249 r s) else f_X1_takeStep_b249 1 s
theorem ts_e (s : Sg) : f_X1_takeStep s = bd (f_X1_beginStep s) (fun r s2 => if r = 0 then some (0, s2) else ck (inr (s.1 54 7) 60) (OrC (s2.1 72 ((s.1 54 7).toNatClampNeg)) (s.1 54 7) s2)) := rfl
theorem oc_116 (a : Int32) (s : Sg) : OrC 116 a s = bd (f_X1_takeNumber a 0 16 s) (fun r s => f_X1_takeStep_b249 r s) := by
  unfold OrC
  rw [if_pos rfl]
theorem oc_119 (a : Int32) (s : Sg) : OrC 119 a s = bd (f_X1_takeGrocer a s) (fun r s => if r = 0 then f_X1_takeStep_b183 s else bd (f_X1_takeNumber a 1 999 s) (fun r s => if r = 0 then f_X1_takeStep_b183 s else bd (f_X7_pass 110 s) (fun r s => if r = 0 then f_X1_takeStep_b183 s else bd (f_X1_takeHouse_75 a s) (fun r s => if r = 0 then f_X1_takeStep_b183 s else f_X1_takeStep_b184 1 s)))) := by
  unfold OrC
  rw [if_neg (show ¬ (119 : Int32) = 116 by decide), if_neg (show ¬ (119 : Int32) = 117 by decide), if_neg (show ¬ (119 : Int32) = 118 by decide), if_pos rfl]
theorem oc_120 (a : Int32) (s : Sg) : OrC 120 a s = bd (f_X1_takeHouse_73 a s) (fun r s => if r = 0 then f_X1_takeStep_b127 s else bd (f_X1_takeNumber a 1 999 s) (fun r s => if r = 0 then f_X1_takeStep_b127 s else f_X1_takeStep_b128 1 s)) := by
  unfold OrC
  rw [if_neg (show ¬ (120 : Int32) = 116 by decide), if_neg (show ¬ (120 : Int32) = 117 by decide), if_neg (show ¬ (120 : Int32) = 118 by decide), if_neg (show ¬ (120 : Int32) = 119 by decide), if_pos rfl]
theorem oc_121 (a : Int32) (s : Sg) : OrC 121 a s = bd (f_X1_takeHouse_73 a s) (fun r s => f_X1_takeStep_b249 r s) := by
  unfold OrC
  rw [if_neg (show ¬ (121 : Int32) = 116 by decide), if_neg (show ¬ (121 : Int32) = 117 by decide), if_neg (show ¬ (121 : Int32) = 118 by decide), if_neg (show ¬ (121 : Int32) = 119 by decide), if_neg (show ¬ (121 : Int32) = 120 by decide), if_pos rfl]
theorem oc_122 (a : Int32) (s : Sg) : OrC 122 a s = bd (f_X1_takeNumber a 0 99 s) (fun r s => f_X1_takeStep_b249 r s) := by
  unfold OrC
  rw [if_neg (show ¬ (122 : Int32) = 116 by decide), if_neg (show ¬ (122 : Int32) = 117 by decide), if_neg (show ¬ (122 : Int32) = 118 by decide), if_neg (show ¬ (122 : Int32) = 119 by decide), if_neg (show ¬ (122 : Int32) = 120 by decide), if_neg (show ¬ (122 : Int32) = 121 by decide), if_pos rfl]
theorem oc_123 (a : Int32) (s : Sg) : OrC 123 a s = f_X1_takeStep_b249 1 s := by
  unfold OrC
  rw [if_neg (show ¬ (123 : Int32) = 116 by decide), if_neg (show ¬ (123 : Int32) = 117 by decide), if_neg (show ¬ (123 : Int32) = 118 by decide), if_neg (show ¬ (123 : Int32) = 119 by decide), if_neg (show ¬ (123 : Int32) = 120 by decide), if_neg (show ¬ (123 : Int32) = 121 by decide), if_neg (show ¬ (123 : Int32) = 122 by decide), if_pos rfl]
theorem oc_124 (a : Int32) (s : Sg) : OrC 124 a s = bd (f_X1_takeTest a s) (fun r s => f_X1_takeStep_b249 r s) := by
  unfold OrC
  rw [if_neg (show ¬ (124 : Int32) = 116 by decide), if_neg (show ¬ (124 : Int32) = 117 by decide), if_neg (show ¬ (124 : Int32) = 118 by decide), if_neg (show ¬ (124 : Int32) = 119 by decide), if_neg (show ¬ (124 : Int32) = 120 by decide), if_neg (show ¬ (124 : Int32) = 121 by decide), if_neg (show ¬ (124 : Int32) = 122 by decide), if_neg (show ¬ (124 : Int32) = 123 by decide), if_pos rfl]
theorem oc_128 (a : Int32) (s : Sg) : OrC 128 a s = bd (f_X1_takeNumber a 1 99 s) (fun r s => f_X1_takeStep_b249 r s) := by
  unfold OrC
  rw [if_neg (show ¬ (128 : Int32) = 116 by decide), if_neg (show ¬ (128 : Int32) = 117 by decide), if_neg (show ¬ (128 : Int32) = 118 by decide), if_neg (show ¬ (128 : Int32) = 119 by decide), if_neg (show ¬ (128 : Int32) = 120 by decide), if_neg (show ¬ (128 : Int32) = 121 by decide), if_neg (show ¬ (128 : Int32) = 122 by decide), if_neg (show ¬ (128 : Int32) = 123 by decide), if_neg (show ¬ (128 : Int32) = 124 by decide), if_neg (show ¬ (128 : Int32) = 125 by decide), if_neg (show ¬ (128 : Int32) = 126 by decide), if_neg (show ¬ (128 : Int32) = 127 by decide), if_pos rfl]
theorem oc_130 (a : Int32) (s : Sg) : OrC 130 a s = f_X1_takeStep_b249 1 s := by
  unfold OrC
  rw [if_neg (show ¬ (130 : Int32) = 116 by decide), if_neg (show ¬ (130 : Int32) = 117 by decide), if_neg (show ¬ (130 : Int32) = 118 by decide), if_neg (show ¬ (130 : Int32) = 119 by decide), if_neg (show ¬ (130 : Int32) = 120 by decide), if_neg (show ¬ (130 : Int32) = 121 by decide), if_neg (show ¬ (130 : Int32) = 122 by decide), if_neg (show ¬ (130 : Int32) = 123 by decide), if_neg (show ¬ (130 : Int32) = 124 by decide), if_neg (show ¬ (130 : Int32) = 125 by decide), if_neg (show ¬ (130 : Int32) = 126 by decide), if_neg (show ¬ (130 : Int32) = 127 by decide), if_neg (show ¬ (130 : Int32) = 128 by decide)]
theorem b183_e (s : Sg) : f_X1_takeStep_b183 s = some (0, s) := rfl
theorem b127_e (s : Sg) : f_X1_takeStep_b127 s = some (0, s) := rfl
theorem kw_t {k r : Int32} (h : KwS k r) : (k = 125 ∧ r = 28) ∨ (k = 126 ∧ r = 29) ∨ (k = 127 ∧ r = 30) ∨ ((¬ k = 125 ∧ ¬ k = 126 ∧ ¬ k = 127) ∧ ¬ 28 ≤ r) := by
  have ei : ∀ {a b : Int32}, a.toInt = b.toInt → a = b := fun e => Int32.toInt_inj.mp e
  have c5 : (125 : Int32).toInt = 125 := rfl
  have c6 : (126 : Int32).toInt = 126 := rfl
  have c7 : (127 : Int32).toInt = 127 := rfl
  have c8 : (28 : Int32).toInt = 28 := rfl
  rcases h with ⟨i, hi, hk, hr⟩ | ⟨hk, hr⟩
  · have d : ∀ i, i < 31 → (i = 25 ∧ permK.getD i 0 = 28) ∨ (i = 26 ∧ permK.getD i 0 = 29) ∨ (i = 27 ∧ permK.getD i 0 = 30) ∨ ((¬ i = 25 ∧ ¬ i = 26 ∧ ¬ i = 27) ∧ permK.getD i 0 < 28) := by decide +kernel
    rcases d i hi with ⟨z, z'⟩ | ⟨z, z'⟩ | ⟨z, z'⟩ | ⟨z, z'⟩
    · exact Or.inl ⟨ei (by rw [hk, z]; rfl), ei (by rw [hr, z']; rfl)⟩
    · exact Or.inr (Or.inl ⟨ei (by rw [hk, z]; rfl), ei (by rw [hr, z']; rfl)⟩)
    · exact Or.inr (Or.inr (Or.inl ⟨ei (by rw [hk, z]; rfl), ei (by rw [hr, z']; rfl)⟩))
    · refine Or.inr (Or.inr (Or.inr ⟨⟨fun y => ?_, fun y => ?_, fun y => ?_⟩, fun y => ?_⟩))
      · rw [y] at hk; omega
      · rw [y] at hk; omega
      · rw [y] at hk; omega
      · have := Int32.le_iff_toInt_le.mp y
        omega
  · refine Or.inr (Or.inr (Or.inr ⟨⟨fun y => ?_, fun y => ?_, fun y => ?_⟩, fun y => ?_⟩))
    · rw [y] at hk; omega
    · rw [y] at hk; omega
    · rw [y] at hk; omega
    · rw [hr] at y
      exact absurd y (by decide)
theorem vd_h {m0 m1 m2 m3 c0 c1 c3 g : Int32} (y : m0 = 21 ∨ m0 = 2430) (h : (0 ≤ m1.toInt ∧ m1.toInt < c0.toInt) ∧ ¬ bt g m1.toInt.toNat = true) : VdA m0 m1 m2 m3 c0 c1 c3 g := by
  rcases y with y | y <;> subst y <;> exact ⟨fun _ => h, fun z => absurd z (by decide), fun z => absurd z (by decide), fun z => absurd z (by decide), fun z => absurd z (by decide), fun z => absurd z (by decide), fun z => absurd z (by decide)⟩
theorem vd_q {m0 m1 m2 m3 c0 c1 c3 g : Int32} (y : m0 = 2428 ∨ m0 = 2429) (h : 0 ≤ m1.toInt ∧ m1.toInt < c1.toInt) : VdA m0 m1 m2 m3 c0 c1 c3 g := by
  rcases y with y | y <;> subst y <;> exact ⟨fun z => absurd z (by decide), fun z => absurd z (by decide), fun _ => h, fun z => absurd z (by decide), fun z => absurd z (by decide), fun z => absurd z (by decide), fun z => absurd z (by decide)⟩
theorem vd_0 {m0 m1 m2 m3 c0 c1 c3 g : Int32} (y : m0 = 23 ∨ m0 = 26 ∨ m0 = 27) : VdA m0 m1 m2 m3 c0 c1 c3 g := by
  rcases y with y | y | y <;> subst y <;> exact ⟨fun z => absurd z (by decide), fun z => absurd z (by decide), fun z => absurd z (by decide), fun z => absurd z (by decide), fun z => absurd z (by decide), fun z => absurd z (by decide), fun z => absurd z (by decide)⟩
theorem vd_25 {m1 m2 m3 c0 c1 c3 g : Int32} (h : 1 ≤ m1.toInt ∧ m1.toInt ≤ 99) : VdA 25 m1 m2 m3 c0 c1 c3 g := ⟨fun z => absurd z (by decide), fun z => absurd z (by decide), fun z => absurd z (by decide), fun _ => h, fun z => absurd z (by decide), fun z => absurd z (by decide), fun z => absurd z (by decide)⟩
theorem vd_4 {m1 m2 m3 c0 c1 c3 g : Int32} (h : 0 ≤ m1.toInt ∧ m1.toInt ≤ 16) : VdA 4 m1 m2 m3 c0 c1 c3 g := ⟨fun z => absurd z (by decide), fun z => absurd z (by decide), fun z => absurd z (by decide), fun z => absurd z (by decide), fun z => absurd z (by decide), fun _ => h, fun z => absurd z (by decide)⟩
theorem vd_22 {m1 m2 m3 c0 c1 c3 g : Int32} (h : 0 ≤ m1.toInt ∧ m1.toInt ≤ 99) : VdA 22 m1 m2 m3 c0 c1 c3 g := ⟨fun z => absurd z (by decide), fun z => absurd z (by decide), fun z => absurd z (by decide), fun z => absurd z (by decide), fun z => absurd z (by decide), fun z => absurd z (by decide), fun _ => h⟩
theorem vd_19 {m1 m2 m3 c0 c1 c3 g : Int32} (h : (0 ≤ m1.toInt ∧ m1.toInt < c0.toInt) ∧ ¬ bt g m1.toInt.toNat = true) (k : 1 ≤ m2.toInt ∧ m2.toInt ≤ 999) : VdA 19 m1 m2 m3 c0 c1 c3 g := ⟨fun _ => h, fun z => absurd z (by decide), fun z => absurd z (by decide), fun z => absurd z (by decide), fun _ => k, fun z => absurd z (by decide), fun z => absurd z (by decide)⟩
theorem vd_20 {m1 m2 m3 c0 c1 c3 g : Int32} (h : (0 ≤ m1.toInt ∧ m1.toInt < c0.toInt) ∧ ¬ bt g m1.toInt.toNat = true) (k : 1 ≤ m2.toInt ∧ m2.toInt ≤ 999) (l : 0 ≤ m3.toInt ∧ m3.toInt < c3.toInt) : VdA 20 m1 m2 m3 c0 c1 c3 g := ⟨fun _ => h, fun _ => l, fun z => absurd z (by decide), fun z => absurd z (by decide), fun _ => k, fun z => absurd z (by decide), fun z => absurd z (by decide)⟩
/-- a row's cells: the test's word, its sign -/
theorem sto_d {n : Nat} {dd e : Int} {x j : Nat} {s t : Sg} (h : DyR n dd e x s t) (hj : j < 6) (v w : Int32) : DyR n dd e x (pI s 76 x v) (pI t 1 (2030 + 6 * x + j) w) := by
  refine dy_x h ?_ (fun c hc => pI_o _ _ _ _ _ (by omega)) rfl (fun c h1 h2 k hk => ?_) rfl (pI_o _ _ _ _ _ (by decide)) ⟨q_nc rfl, q_nc rfl, q_nc rfl⟩ (fun p hp => ?_)
  · exact tk_f (L1 := 2 ^ 76) (L2 := 2 ^ 1) h.1.1.1 (fr_x 76 rfl) (fr_x 1 rfl) (m_and rfl) (m_and rfl)
  · rw [pI_1, if_neg (fun z => by have := z.2; omega)]
  · rw [pI_1, if_neg (fun z => by have := z.2; omega)]
theorem stm_d {n : Nat} {dd e : Int} {x j : Nat} {s t : Sg} (h : DyR n dd e x s t) (hj : j < 6) (w : Int32) : DyR n dd e x s (pI t 1 (2030 + 6 * x + j) w) := by
  refine dy_x h ?_ (fun c hc => rfl) rfl (fun c h1 h2 k hk => rfl) rfl (pI_o _ _ _ _ _ (by decide)) ⟨q_nc rfl, q_nc rfl, q_nc rfl⟩ (fun p hp => ?_)
  · exact tk_f (L1 := 0) (L2 := 2 ^ 1) h.1.1.1 fr_r (fr_x 1 rfl) rfl (m_and rfl)
  · rw [pI_1, if_neg (fun z => by have := z.2; omega)]
theorem stc_d {n : Nat} {dd e : Int} {x : Nat} {s t : Sg} (h : DyR n dd e x s t) (v : Int32) : DyR n dd e x (pI s 76 x v) t := by
  refine dy_x h ?_ (fun c hc => pI_o _ _ _ _ _ (by omega)) rfl (fun c h1 h2 k hk => ?_) rfl rfl ⟨rfl, rfl, rfl⟩ (fun p hp => rfl)
  · exact tk_f (L1 := 2 ^ 76) (L2 := 0) h.1.1.1 (fr_x 76 rfl) fr_r (m_and rfl) rfl
  · rw [pI_1, if_neg (fun z => by have := z.2; omega)]
theorem rq_idM {α : Type} {oC : Option (α × Sg)} {B : Option (Int32 × Sg)} {R : α → Sg → Int32 → Sg → Prop} (h : RQ oC (bd B (fun r t => some (r, t))) R) : RQ oC B R := fun r s' r' t' e1 e2 => h r s' r' t' e1 (by rw [e2]; rfl)
/-- a row's order is read: the row is there -/
def OrP (n : Nat) (dd e : Int) (x : Nat) (s s' t' : Sg) : Prop := DyR n dd e x s' t' ∧ (RwR 51 2030 s' (t'.1 1) x ∧ VdR 2030 (t'.1 1) x) ∧ (s.1 7 2).toInt ≤ (s'.1 7 4).toInt ∧ s'.1 72 x = s.1 72 x
theorem row_0 {x : Nat} {b : Int32} (hb : b.toInt = 2030 + 6 * (x : Int)) : b.toNatClampNeg = 2030 + 6 * x + 0 := cl_h (by omega)
theorem tst_n {n : Nat} {dd e : Int} {x : Nat} {s t : Sg} (h : DyR n dd e x s t) (hx : x < 60) (a b : Int32) (ha : a.toInt = (x : Int)) (hb : b.toInt = 2030 + 6 * (x : Int)) (hw : s.1 72 x = 124) (hv : (s.1 76 x = 125 ∧ t.1 1 (2030 + 6 * x) = 2428) ∨ (s.1 76 x = 126 ∧ t.1 1 (2030 + 6 * x) = 2429)) (r0 : Int32) (hr : ¬ r0 = 30) (KK : Sg → Option (Int32 × Sg)) : RQ (f_X1_takeTest_b40 a s) (bd (f_X12_ahead t) (fun _ t6 => if r0 = 30 then KK t6 else bd (f_X12_oldOne 8 (t6.1 1 1) (b + 1) t6) (fun r t => ck (r = 0 ∨ r = 1) (some (r, t))))) (Og (OrP n dd e x s)) := by
  unfold f_X1_takeTest_b40
  refine rq_b2 (adv_s h.1.1.1) (fun _ s4 _ t6 w => rq_iM (fun y => absurd y hr) (fun _ => rq_kM ?_))
  obtain ⟨D, C⟩ := dy_st w h
  refine rq_w (old_d (q := 1) (j := 1) D (by decide) (by decide) a (b + 1) 8 _ ha (row_p (j := 1) hb hx 1 rfl (by decide)) rfl rfl) (fun r s' r' t' g => ?_)
  rcases g with ⟨g1, g2, ⟨g3, g4⟩, g5, g6⟩ | g
  · have c72 : s'.1 72 x = s.1 72 x := by rw [g4.2.1 72 (by decide) (by decide) x (fun z => absurd z.1 (by decide)), C.1 72 (by decide) (by decide)]
    have c76 : s'.1 76 x = s.1 76 x := by rw [g4.2.1 76 (by decide) (by decide) x (fun z => absurd z.1 (by decide)), C.1 76 (by decide) (by decide)]
    have cm0 : t'.1 1 (2030 + 6 * x) = t.1 1 (2030 + 6 * x) := by rw [g4.2.2 _ (by omega), C.2]
    have cm1 : t'.1 1 1 = t6.1 1 1 := g4.2.2 _ (by omega)
    have hp := tk_pos D.1.1.1
    have hp2 := w.2.2.2
    refine Or.inl ⟨g1, g2, g3, ⟨?_, ?_⟩, by omega, c72⟩
    · refine Or.inr (Or.inr (Or.inr (Or.inr (Or.inr (Or.inr (Or.inr (Or.inr (Or.inr ⟨c72.trans hw, g4.1, ?_⟩))))))))
      rcases hv with z | z
      · exact Or.inl ⟨c76.trans z.1, cm0.trans z.2⟩
      · exact Or.inr (Or.inl ⟨c76.trans z.1, cm0.trans z.2⟩)
    · refine vd_q ?_ ?_
      · rcases hv with z | z
        · exact Or.inl (cm0.trans z.2)
        · exact Or.inr (cm0.trans z.2)
      · rw [cm1]
        exact g5
  · exact Or.inr g
theorem tst_s {n : Nat} {dd e : Int} {x : Nat} {s t : Sg} (h : DyR n dd e x s t) (hx : x < 60) (a b c : Int32) (ha : a.toInt = (x : Int)) (hb : b.toInt = 2030 + 6 * (x : Int)) (hw : s.1 72 x = 124) (hk : s.1 7 3 = c) (hc : c = 60 ∨ c = 62 ∨ c = 61) (c76 : s.1 76 x = c) (c73 : s.1 73 x = t.1 1 (2030 + 6 * x + 1)) (m0 : t.1 1 (2030 + 6 * x) = 2430) (hh : (0 ≤ (t.1 1 (2030 + 6 * x + 1)).toInt ∧ (t.1 1 (2030 + 6 * x + 1)).toInt < (t.1 1 0).toInt) ∧ ¬ bt (t.1 1 9) (t.1 1 (2030 + 6 * x + 1)).toInt.toNat = true) : RQ (f_X1_takeTest_b180 a s) (f_X12_test_b101 b t) (Og (OrP n dd e x s)) := by
  have k15 : t.1 0 15 = c := by
    have cc : ¬ c = 0 ∧ ¬ c = 4 ∧ ¬ c = 3 ∧ ¬ c = 2 ∧ ¬ c = 1 ∧ c.toInt < 100 := by rcases hc with z | z | z <;> subst z <;> decide
    rcases knd_of h.1.1.1 with z | z | z | z | ⟨-, z | z | ⟨i, z, z'⟩⟩
    · exact absurd (hk.symm.trans z.1) cc.1
    · exact absurd (hk.symm.trans z.1) cc.2.1
    · exact absurd (hk.symm.trans z.1) cc.2.2.1
    · exact z.2.2.trans hk
    · exact absurd (hk.symm.trans z) cc.2.2.2.1
    · exact absurd (hk.symm.trans z) cc.2.2.2.2.1
    · rw [hk] at z'
      have := cc.2.2.2.2.2
      omega
  unfold f_X1_takeTest_b180 f_X12_test_b101
  refine rq_cM (fun _ => rq_nM (fun t18 e18 => ?_))
  rw [row_p (j := 5) hb hx 5 rfl (by decide), k15] at e18
  have D18 : DyR n dd e x s t18 := by
    rw [e18]
    exact stm_d h (by decide) c
  refine rq_b2 (adv_s D18.1.1.1) (fun _ s17 _ t20 w => ?_)
  obtain ⟨D20, C20⟩ := dy_st w D18
  refine rq_kM (rq_idM (rq_b2 (num_r D20.1.1.1 D20.1.1.2 0 9999 (b + 2) _ (row_p (j := 2) hb hx 2 rfl (by decide))) (fun r s19 r' t22 g => ?_)))
  rcases g with ⟨z, z', w'⟩ | ⟨z, z', w'⟩ <;> subst z <;> subst z'
  · refine rq_cC (fun _ => rq_nC (fun s21 e21 => rq_cC (fun _ => rq_s (Or.inl ⟨rfl, rfl, ?_⟩))))
    rw [cl_h ha] at e21
    obtain ⟨⟨d1, d2⟩, d3, d4⟩ := nu_st D20 w' (by decide)
    rw [← e21] at d1 d2 d4
    have f72 : s21.1 72 x = 124 := by rw [d2.2.1 72 (by decide) (by decide) x (fun z => absurd z.1 (by decide)), C20.1 72 (by decide) (by decide), hw]
    have f73 : s21.1 73 x = t.1 1 (2030 + 6 * x + 1) := by rw [d2.2.1 73 (by decide) (by decide) x (fun z => absurd z.1 (by decide)), C20.1 73 (by decide) (by decide), c73]
    have f76 : s21.1 76 x = c := by rw [d2.2.1 76 (by decide) (by decide) x (fun z => absurd z.1 (by decide)), C20.1 76 (by decide) (by decide), c76]
    have fm : ∀ p, ¬ p = 2030 + 6 * x + 2 → ¬ p = 2030 + 6 * x + 5 → t22.1 1 p = t.1 1 p := fun p h1 h2 => by
      rw [d2.2.2 p h1, C20.2, e18, pI_1, if_neg (fun z => h2 z.2)]
    have fm5 : t22.1 1 (2030 + 6 * x + 5) = c := by rw [d2.2.2 _ (by omega), C20.2, e18, q_eq]
    have hp := tk_pos D20.1.1.1
    have hp2 := w.2.2.2
    refine ⟨d1, ⟨?_, ?_⟩, by omega, f72.trans hw.symm⟩
    · refine Or.inr (Or.inr (Or.inr (Or.inr (Or.inr (Or.inr (Or.inr (Or.inr (Or.inr ⟨f72, f73.trans (fm _ (by omega) (by omega)).symm, Or.inr (Or.inr ⟨f76.trans fm5.symm, ?_, d2.1, (fm _ (by omega) (by omega)).trans m0⟩)⟩))))))))
      show s21.1 76 x = 60 ∨ s21.1 76 x = 62 ∨ s21.1 76 x = 61
      rw [f76]
      exact hc
    · refine vd_h (Or.inr ((fm _ (by omega) (by omega)).trans m0)) ?_
      rw [fm (2030 + 6 * x + 1) (by omega) (by omega), fm 0 (by omega) (by omega), fm 9 (by omega) (by omega)]
      exact hh
  · refine rq_cC (fun _ => rq_nC (fun s21 e21 => rq_cC (fun _ => rq_s (Or.inr ⟨rfl, rfl, ?_⟩))))
    rw [e21]
    unfold FtR
    rw [q_nc rfl, q_nc rfl]
    exact w'
theorem test_d {n : Nat} {dd e : Int} {x : Nat} {s t : Sg} (h : DyR n dd e x s t) (hx : x < 60) (a b : Int32) (ha : a.toInt = (x : Int)) (hb : b.toInt = 2030 + 6 * (x : Int)) (hw : s.1 72 x = 124) : RQ (f_X1_takeTest a s) (f_X12_test b t) (Og (OrP n dd e x s)) := by
  unfold f_X1_takeTest f_X12_test
  refine rq_cC (fun _ => rq_nC (fun s2 e2 => ?_))
  rw [cl_h ha] at e2
  have D2 : DyR n dd e x s2 t := by
    rw [e2]
    exact stc_d h _
  have k2 : s2.1 7 3 = s.1 7 3 := by rw [e2, q_nc rfl]
  have l2 : s2.1 7 2 = s.1 7 2 := by rw [e2, q_nc rfl]
  have w2 : s2.1 72 x = 124 := by rw [e2, q_nc rfl, hw]
  have v2 : s2.1 76 x = s2.1 7 3 := by rw [k2, e2, q_eq]
  refine rq_bM (word_r D2.1.1.1) (fun r t2 m => ?_)
  obtain ⟨et, mk, -⟩ := m
  rw [et]
  have nm : ∀ (r : Int32) (KK : Sg → Option (Int32 × Sg)), ¬ r = 30 → (s2.1 7 3 = 125 ∧ r = 28) ∨ (s2.1 7 3 = 126 ∧ r = 29) → RQ (f_X1_takeTest_b40 a s2) (bd (f_X12_ahead (pI t 1 b.toNatClampNeg (2400 + r))) (fun _ t6 => if r = 30 then KK t6 else bd (f_X12_oldOne 8 (t6.1 1 1) (b + 1) t6) (fun r t => ck (r = 0 ∨ r = 1) (some (r, t))))) (Og (OrP n dd e x s)) := fun r KK nr hr => by
    rw [row_0 hb]
    refine rq_w (tst_n (stm_d D2 (by decide) _) hx a b ha hb w2 ?_ r nr KK) (fun r1 s' r2 t' g => ?_)
    · rcases hr with ⟨z, z'⟩ | ⟨z, z'⟩
      · exact Or.inl ⟨v2.trans z, by rw [z', show 2030 + 6 * x + 0 = 2030 + 6 * x from rfl, q_eq]; decide⟩
      · exact Or.inr ⟨v2.trans z, by rw [z', show 2030 + 6 * x + 0 = 2030 + 6 * x from rfl, q_eq]; decide⟩
    · rcases g with ⟨g1, g2, g3, g4, g5, g6⟩ | g
      · exact Or.inl ⟨g1, g2, g3, g4, by rw [← l2]; exact g5, g6.trans (w2.trans hw.symm)⟩
      · exact Or.inr g
  rcases kw_t mk with ⟨z, z'⟩ | ⟨z, z'⟩ | ⟨z, z'⟩ | ⟨⟨z1, z2, z3⟩, z'⟩
  · subst z'
    refine rq_iC (fun _ => rq_iM (fun _ => rq_cM (fun _ => rq_nM (fun t4 e4 => ?_))) (fun y => absurd (by decide) y)) (fun y => absurd z y)
    rw [e4]
    exact nm 28 _ (by decide) (Or.inl ⟨z, rfl⟩)
  · subst z'
    refine rq_iC (fun y => absurd (z.symm.trans y) (by decide)) (fun _ => rq_iC (fun _ => rq_iM (fun _ => rq_cM (fun _ => rq_nM (fun t4 e4 => ?_))) (fun y => absurd (by decide) y)) (fun y => absurd z y))
    rw [e4]
    exact nm 29 _ (by decide) (Or.inr ⟨z, rfl⟩)
  · subst z'
    refine rq_iC (fun y => absurd (z.symm.trans y) (by decide)) (fun _ => rq_iC (fun y => absurd (z.symm.trans y) (by decide)) (fun _ => rq_iM (fun _ => rq_cM (fun _ => rq_nM (fun t4 e4 => ?_))) (fun y => absurd (by decide) y)))
    rw [row_0 hb] at e4
    have D4 : DyR n dd e x s2 t4 := by
      rw [e4]
      exact stm_d D2 (by decide) _
    have m4 : t4.1 1 (2030 + 6 * x) = 2430 := by
      rw [e4, show 2030 + 6 * x + 0 = 2030 + 6 * x from rfl, q_eq]
      decide
    unfold f_X7_pass
    refine rc_i (fun _ => rc_b ?_) (fun y => absurd z y)
    refine rq_b2 (adv_s D4.1.1.1) (fun _ s4 _ t6 w => rc_s (rq_iC (fun y => absurd y i10) (fun _ => rq_iM (fun _ => ?_) (fun y => absurd rfl y))))
    obtain ⟨D6, C6⟩ := dy_st w D4
    refine rq_b2 (house_d D6 (cc := 73) (Or.inl rfl) a (b + 1) ha (row_p (j := 1) hb hx 1 rfl (by decide))) (fun r s14 r' t8 g => og_i g (fun g => ?_))
    obtain ⟨⟨D8, C8⟩, g5, g6⟩ := g
    refine rq_nC (fun s15 e15 => ?_)
    rw [cl_h ha] at e15
    have D15 : DyR n dd e x s15 t8 := by
      rw [e15]
      exact stc_d D8 _
    have k15 : s15.1 7 3 = s14.1 7 3 := by rw [e15, q_nc rfl]
    have l15 : s15.1 7 2 = s14.1 7 2 := by rw [e15, q_nc rfl]
    have v15 : s15.1 76 x = s15.1 7 3 := by rw [k15, e15, q_eq]
    have w15 : s15.1 72 x = 124 := by rw [e15, q_nc rfl, C8.2.1 72 (by decide) (by decide) x (fun y => absurd y.1 (by decide)), C6.1 72 (by decide) (by decide), w2]
    have f15 : s15.1 73 x = t8.1 1 (2030 + 6 * x + 1) := by rw [e15, q_nc rfl, C8.1]
    have m8 : t8.1 1 (2030 + 6 * x) = 2430 := by rw [C8.2.2 _ (by omega), C6.2, m4]
    have m80 : t8.1 1 0 = t6.1 1 0 := C8.2.2 _ (by omega)
    have m89 : t8.1 1 9 = t6.1 1 9 := C8.2.2 _ (by omega)
    rw [← m80, ← m89] at g5
    have hp1 := tk_pos D6.1.1.1
    have hp2 := w.2.2.2
    have hp3 := tk_pos D8.1.1.1
    have done : ∀ c : Int32, s15.1 7 3 = c → (c = 60 ∨ c = 62 ∨ c = 61) → RQ (f_X1_takeTest_b180 a s15) (f_X12_test_b101 b t8) (Og (OrP n dd e x s)) := fun c y1 y2 => by
      refine rq_w (tst_s D15 hx a b c ha hb w15 y1 y2 (v15.trans y1) f15 m8 g5) (fun r1 s' r2 t' g => ?_)
      rcases g with ⟨q1, q2, q3, q4, q5, q6⟩ | g
      · refine Or.inl ⟨q1, q2, q3, q4, ?_, q6.trans (w15.trans hw.symm)⟩
        rw [l15] at q5
        rw [l2] at hp2
        omega
      · exact Or.inr g
    refine rq_bM (sign_r D15.1.1.1 60 (Or.inr (Or.inl rfl))) (fun r9 t9 m => ?_)
    obtain ⟨e9, m⟩ := m
    rw [e9]
    rcases m with ⟨m1, m2⟩ | ⟨m1, m2⟩ <;> rw [m1]
    · exact rq_iC (fun _ => rq_iM (fun y => absurd y i10) (fun _ => done 60 m2 (Or.inl rfl))) (fun y => absurd m2 y)
    · refine rq_iC (fun y => absurd y m2) (fun _ => rq_iM (fun _ => ?_) (fun y => absurd rfl y))
      refine rq_bM (sign_r D15.1.1.1 62 (Or.inr (Or.inr (Or.inl rfl)))) (fun r9 t9 m => ?_)
      obtain ⟨e9, m⟩ := m
      rw [e9]
      rcases m with ⟨m1, m3⟩ | ⟨m1, m3⟩ <;> rw [m1]
      · exact rq_iC (fun _ => rq_iM (fun y => absurd y i10) (fun _ => done 62 m3 (Or.inr (Or.inl rfl)))) (fun y => absurd m3 y)
      · refine rq_iC (fun y => absurd y m3) (fun _ => rq_iM (fun _ => ?_) (fun y => absurd rfl y))
        refine rq_bM (sign_r D15.1.1.1 61 (Or.inr (Or.inr (Or.inr rfl)))) (fun r9 t9 m => ?_)
        obtain ⟨e9, m⟩ := m
        rw [e9]
        rcases m with ⟨m1, m4⟩ | ⟨m1, m4⟩ <;> rw [m1]
        · exact rq_iC (fun _ => rq_iM (fun y => absurd y i10) (fun _ => done 61 m4 (Or.inr (Or.inr rfl)))) (fun y => absurd m4 y)
        · refine rq_iC (fun y => absurd y m4) (fun _ => rq_iM (fun _ => ?_) (fun y => absurd rfl y))
          exact og_f D15.1.1.1 D15.1.1.2 2 (by decide)
  · refine rq_iC (fun y => absurd y z1) (fun _ => rq_iC (fun y => absurd y z2) (fun _ => rq_iM (fun y => absurd y z') (fun _ => ?_)))
    unfold f_X7_pass
    refine rc_i (fun y => absurd y z3) (fun _ => rc_b ?_)
    refine rq_b2 (fails_r D2.1.1.1 D2.1.1.2 2 (by decide)) (fun r1 s1 r2 t1 g => ?_)
    obtain ⟨g1, g2, g3⟩ := g
    rw [g1, g2]
    exact rc_c (fun _ => rc_s (rq_iC (fun _ => rq_cM (fun _ => rq_s (Or.inr ⟨rfl, rfl, g3⟩))) (fun y => absurd rfl y)))
