/-! a reader of the class that answers 1 has called no fault: printed by genW.py -/
def Wf (s : Sg) : Prop := s.1 7 8 = 0 ∧ s.1 7 9 = -1
def Wo (r : Int32) (s : Sg) : Prop := r = 0 ∨ Wf s
theorem wo_n {r : Int32} {s : Sg} (h : Wo r s) (c : ¬ r = 0) : Wf s := h.elim (fun e => absurd e c) id
theorem wo_m {r : Int32} {s s' : Sg} (f : Wf s → Wf s') (h : Wo r s) : Wo r s' := h.elim (fun e => Or.inl e) (fun w => Or.inr (f w))
theorem wf_i {s : Sg} {c k : Nat} {v : Int32} (h : Wf s) (e : ¬ 7 = c) : Wf (pI s c k v) := by
  unfold Wf
  rw [pI_o _ _ _ _ _ e]
  exact h
theorem wf_7 {s : Sg} {k : Nat} {v : Int32} (h : Wf s) (e : k < 8) : Wf (pI s 7 k v) := by
  unfold Wf
  rw [pI_1, pI_1, if_neg (fun z => by have := z.2; omega), if_neg (fun z => by have := z.2; omega)]
  exact h
theorem wf_l {s : Sg} {c k : Nat} {v : Int64} (h : Wf s) : Wf (pL s c k v) := h
theorem wf_t {L : Nat} {s s' : Sg} (h : Wf s) (g : Fr cC L s s') (e : L.testBit 188 = false) (e' : L.testBit 189 = false) : Wf s' := ⟨(fr_e g 7 8 188 rfl e).trans h.1, (fr_e g 7 9 189 rfl e').trans h.2⟩
theorem wf_X7_wrong (a : Int32) (s : Sg) : PQ (f_X7_wrong a s) (fun r s' => Wo r s') := by
  unfold f_X7_wrong
  exact pq_if (fun _ => pq_n (fun _ _ => pq_s (Or.inl rfl))) (fun _ => pq_n (fun _ _ => pq_s (Or.inl rfl)))
theorem wf_X6_takeNew (a1 : Int32) (a2 : Int32) (a3 : Int32) {s : Sg} (hJ : Wf s) : PQ (f_X6_takeNew a1 a2 a3 s) (fun r s9 => Wo r s9) := by
  unfold f_X6_takeNew
  refine pq_if (fun c1 => ?_) (fun c1 => ?_)
  · refine pq_b (ft_X7_advance  _) (fun _ s2 g2 => ?_)
    refine pq_if (fun c3 => ?_) (fun c3 => ?_)
    · refine pq_b (ft_X4_addName_52 _ _ _ _) (fun r3 s4 g4 => ?_)
      refine pq_if (fun c5 => ?_) (fun c5 => ?_)
      · refine pq_b (wf_X7_wrong _ _) (fun r5 s6 g6 => ?_)
        refine pq_c (fun _ => ?_)
        exact pq_s g6
      · refine pq_b (ft_X7_advance  _) (fun _ s8 g7 => ?_)
        exact pq_s (Or.inr (wf_t (wf_t (wf_t hJ g2 rfl rfl) g4 rfl rfl) g7 rfl rfl))
    · refine pq_b (wf_X7_wrong _ _) (fun r9 s10 g8 => ?_)
      refine pq_c (fun _ => ?_)
      exact pq_s g8
  · refine pq_b (wf_X7_wrong _ _) (fun r11 s12 g9 => ?_)
    refine pq_c (fun _ => ?_)
    exact pq_s g9
theorem wf_X7_passNumber (a1 : Int32) (a2 : Int32) {s : Sg} (hJ : Wf s) : PQ (f_X7_passNumber a1 a2 s) (fun r s9 => Wo r s9) := by
  unfold f_X7_passNumber
  refine pq_if (fun c10 => ?_) (fun c10 => ?_)
  · refine pq_b (ft_X11_within _ _ _ _) (fun r1 s2 g11 => ?_)
    refine pq_if (fun c12 => ?_) (fun c12 => ?_)
    · refine pq_b (wf_X7_wrong _ _) (fun r3 s4 g13 => ?_)
      refine pq_c (fun _ => ?_)
      exact pq_s g13
    · refine pq_b (ft_X7_advance  _) (fun _ s6 g14 => ?_)
      exact pq_s (Or.inr (wf_t (wf_7 (wf_t hJ g11 rfl rfl) (by decide)) g14 rfl rfl))
  · refine pq_b (wf_X7_wrong _ _) (fun r7 s8 g15 => ?_)
    refine pq_c (fun _ => ?_)
    exact pq_s g15
theorem wf_X6_takeGrains_67 (a1 : Int32) (a3 : Int32) {s : Sg} (hJ : Wf s) : PQ (f_X6_takeGrains_67 a1 a3 s) (fun r s9 => Wo r s9) := by
  unfold f_X6_takeGrains_67
  refine pq_if (fun c16 => ?_) (fun c16 => ?_)
  · refine pq_b (ft_X7_advance  _) (fun _ s2 g17 => ?_)
    refine pq_b (wf_X7_passNumber _ _ (wf_t hJ g17 rfl rfl)) (fun r3 s4 g18 => ?_)
    refine pq_if (fun c19 => ?_) (fun c19 => ?_)
    · exact pq_s (Or.inl rfl)
    · refine pq_c (fun _ => ?_)
      refine pq_n (fun s6 e20 => ?_)
      have js6 : Wf s6 := by rw [e20]; exact (wf_i (wo_n g18 c19) (by decide))
      exact pq_s (Or.inr js6)
  · exact pq_s (Or.inr hJ)
theorem wf_X6_takeGrains_68 (a1 : Int32) (a3 : Int32) {s : Sg} (hJ : Wf s) : PQ (f_X6_takeGrains_68 a1 a3 s) (fun r s9 => Wo r s9) := by
  unfold f_X6_takeGrains_68
  refine pq_if (fun c21 => ?_) (fun c21 => ?_)
  · refine pq_b (ft_X7_advance  _) (fun _ s2 g22 => ?_)
    refine pq_b (wf_X7_passNumber _ _ (wf_t hJ g22 rfl rfl)) (fun r3 s4 g23 => ?_)
    refine pq_if (fun c24 => ?_) (fun c24 => ?_)
    · exact pq_s (Or.inl rfl)
    · refine pq_c (fun _ => ?_)
      refine pq_n (fun s6 e25 => ?_)
      have js6 : Wf s6 := by rw [e25]; exact (wf_i (wo_n g23 c24) (by decide))
      exact pq_s (Or.inr js6)
  · exact pq_s (Or.inr hJ)
theorem wf_X7_pass (a1 : Int32) {s : Sg} (hJ : Wf s) : PQ (f_X7_pass a1 s) (fun r s9 => Wo r s9) := by
  unfold f_X7_pass
  refine pq_if (fun c26 => ?_) (fun c26 => ?_)
  · refine pq_b (ft_X7_advance  _) (fun _ s2 g27 => ?_)
    exact pq_s (Or.inr (wf_t hJ g27 rfl rfl))
  · refine pq_b (wf_X7_wrong _ _) (fun r3 s4 g28 => ?_)
    refine pq_c (fun _ => ?_)
    exact pq_s g28
theorem wf_X6_takeHouse_b64 (v1 : Int32) (t0 : Int32) (s : Sg) (hJ : Wf s) : PQ (f_X6_takeHouse_b64 v1 t0 s) (fun r s9 => Wo r s9) := by
  unfold f_X6_takeHouse_b64
  refine pq_b (wf_X6_takeGrains_67 _ _ hJ) (fun r3 s4 g29 => ?_)
  refine pq_if (fun c30 => ?_) (fun c30 => ?_)
  · exact pq_s (Or.inl rfl)
  · refine pq_b (wf_X6_takeGrains_68 _ _ (wo_n g29 c30)) (fun r5 s6 g31 => ?_)
    refine pq_if (fun c32 => ?_) (fun c32 => ?_)
    · exact pq_s (Or.inl rfl)
    · refine pq_if (fun c33 => ?_) (fun c33 => ?_)
      · refine pq_if (fun c34 => ?_) (fun c34 => ?_)
        · refine pq_n (fun s7 e35 => ?_)
          have js7 : Wf s7 := by rw [e35]; exact (wf_i (wo_n g31 c32) (by decide))
          refine pq_b (ft_X7_advance  _) (fun _ s9 g36 => ?_)
          refine pq_b (wf_X7_pass _ (wf_t js7 g36 rfl rfl)) (fun r10 s11 g37 => ?_)
          refine pq_c (fun _ => ?_)
          exact pq_s g37
        · refine pq_b (wf_X7_wrong _ _) (fun r12 s13 g38 => ?_)
          refine pq_c (fun _ => ?_)
          exact pq_s g38
      · refine pq_b (wf_X7_pass _ (wo_n g31 c32)) (fun r14 s15 g39 => ?_)
        refine pq_c (fun _ => ?_)
        exact pq_s g39
theorem wf_X6_takeHouse_b59 (v1 : Int32) (s : Sg) (hJ : Wf s) : PQ (f_X6_takeHouse_b59 v1 s) (fun r s9 => Wo r s9) := by
  unfold f_X6_takeHouse_b59
  exact wf_X6_takeHouse_b64 _ _ _ hJ
theorem wf_X6_takeHouse  {s : Sg} (hJ : Wf s) : PQ (f_X6_takeHouse  s) (fun r s9 => Wo r s9) := by
  unfold f_X6_takeHouse
  refine pq_b (wf_X6_takeNew _ _ _ hJ) (fun r1 s2 g40 => ?_)
  refine pq_if (fun c41 => ?_) (fun c41 => ?_)
  · exact pq_s (Or.inl rfl)
  · refine pq_if (fun c42 => ?_) (fun c42 => ?_)
    · exact wf_X6_takeHouse_b59 _ _ (wf_i (wo_n g40 c41) (by decide))
    · refine pq_if (fun c43 => ?_) (fun c43 => ?_)
      · exact wf_X6_takeHouse_b59 _ _ (wf_i (wo_n g40 c41) (by decide))
      · exact wf_X6_takeHouse_b64 _ _ _ (wf_i (wo_n g40 c41) (by decide))
theorem wf_X6_takeCounts_b35  (s : Sg) (hJ : Wf s) : PQ (f_X6_takeCounts_b35  s) (fun r s9 => Wo r s9) := by
  unfold f_X6_takeCounts_b35
  refine pq_b (wf_X7_pass _ (wf_i (wf_i hJ (by decide)) (by decide))) (fun r3 s4 g44 => ?_)
  refine pq_if (fun c45 => ?_) (fun c45 => ?_)
  · exact pq_s (Or.inl rfl)
  · refine pq_b (wf_X7_pass _ (wo_n g44 c45)) (fun r5 s6 g46 => ?_)
    refine pq_if (fun c47 => ?_) (fun c47 => ?_)
    · exact pq_s (Or.inl rfl)
    · exact pq_s (Or.inr (wo_n g46 c47))
theorem wf_X6_takeCounts  {s : Sg} (hJ : Wf s) : PQ (f_X6_takeCounts  s) (fun r s9 => Wo r s9) := by
  unfold f_X6_takeCounts
  refine pq_b (ft_X7_advance  _) (fun _ s2 g48 => ?_)
  refine pq_if (fun c49 => ?_) (fun c49 => ?_)
  · refine pq_if (fun c50 => ?_) (fun c50 => ?_)
    · exact wf_X6_takeCounts_b35  _ (wf_t hJ g48 rfl rfl)
    · refine pq_b (wf_X7_wrong _ _) (fun r7 s8 g51 => ?_)
      refine pq_c (fun _ => ?_)
      exact pq_s g51
  · exact wf_X6_takeCounts_b35  _ (wf_t hJ g48 rfl rfl)
theorem wf_X7_findName_52 (a2 : Int32) {s : Sg} (hJ : Wf s) : PQ (f_X7_findName_52 a2 s) (fun r s9 => Wo r s9) := by
  unfold f_X7_findName_52
  refine pq_if (fun c52 => ?_) (fun c52 => ?_)
  · refine pq_b (ft_X4_numberOf_52 _ _ _) (fun r1 s2 g53 => ?_)
    refine pq_if (fun c54 => ?_) (fun c54 => ?_)
    · refine pq_b (wf_X7_wrong _ _) (fun r3 s4 g55 => ?_)
      refine pq_if (fun c56 => ?_) (fun c56 => ?_)
      · exact pq_s (Or.inl rfl)
      · exact pq_s (Or.inr (wo_n g55 c56))
    · exact pq_s (Or.inr (wf_7 (wf_t hJ g53 rfl rfl) (by decide)))
  · refine pq_b (wf_X7_wrong _ _) (fun r5 s6 g57 => ?_)
    refine pq_c (fun _ => ?_)
    exact pq_s g57
theorem wf_X6_takeEnd_58 (a2 : Int32) (a3 : Int32) (a4 : Int32) {s : Sg} (hJ : Wf s) : PQ (f_X6_takeEnd_58 a2 a3 a4 s) (fun r s9 => Wo r s9) := by
  unfold f_X6_takeEnd_58
  refine pq_b (wf_X7_findName_52 _ hJ) (fun r1 s2 g58 => ?_)
  refine pq_if (fun c59 => ?_) (fun c59 => ?_)
  · exact pq_s (Or.inl rfl)
  · refine pq_if (fun c60 => ?_) (fun c60 => ?_)
    · refine pq_b (wf_X7_wrong _ _) (fun r3 s4 g61 => ?_)
      refine pq_c (fun _ => ?_)
      exact pq_s g61
    · refine pq_b (ft_X11_has _ _ _) (fun r5 s6 g62 => ?_)
      refine pq_if (fun c63 => ?_) (fun c63 => ?_)
      · refine pq_c (fun _ => ?_)
        refine pq_n (fun s8 e64 => ?_)
        have js8 : Wf s8 := by rw [e64]; exact (wf_i (wf_t (wo_n g58 c59) g62 rfl rfl) (by decide))
        refine pq_b (ft_X7_advance  _) (fun _ s10 g65 => ?_)
        exact pq_s (Or.inr (wf_t js8 g65 rfl rfl))
      · refine pq_b (wf_X7_wrong _ _) (fun r11 s12 g66 => ?_)
        refine pq_c (fun _ => ?_)
        exact pq_s g66
theorem wf_X6_takeEnd_59 (a2 : Int32) (a3 : Int32) (a4 : Int32) {s : Sg} (hJ : Wf s) : PQ (f_X6_takeEnd_59 a2 a3 a4 s) (fun r s9 => Wo r s9) := by
  unfold f_X6_takeEnd_59
  refine pq_b (wf_X7_findName_52 _ hJ) (fun r1 s2 g67 => ?_)
  refine pq_if (fun c68 => ?_) (fun c68 => ?_)
  · exact pq_s (Or.inl rfl)
  · refine pq_if (fun c69 => ?_) (fun c69 => ?_)
    · refine pq_b (wf_X7_wrong _ _) (fun r3 s4 g70 => ?_)
      refine pq_c (fun _ => ?_)
      exact pq_s g70
    · refine pq_b (ft_X11_has _ _ _) (fun r5 s6 g71 => ?_)
      refine pq_if (fun c72 => ?_) (fun c72 => ?_)
      · refine pq_c (fun _ => ?_)
        refine pq_n (fun s8 e73 => ?_)
        have js8 : Wf s8 := by rw [e73]; exact (wf_i (wf_t (wo_n g67 c68) g71 rfl rfl) (by decide))
        refine pq_b (ft_X7_advance  _) (fun _ s10 g74 => ?_)
        exact pq_s (Or.inr (wf_t js8 g74 rfl rfl))
      · refine pq_b (wf_X7_wrong _ _) (fun r11 s12 g75 => ?_)
        refine pq_c (fun _ => ?_)
        exact pq_s g75
theorem wf_X6_takeQuarrel  {s : Sg} (hJ : Wf s) : PQ (f_X6_takeQuarrel  s) (fun r s9 => Wo r s9) := by
  unfold f_X6_takeQuarrel
  refine pq_b (wf_X6_takeNew _ _ _ hJ) (fun r1 s2 g76 => ?_)
  refine pq_if (fun c77 => ?_) (fun c77 => ?_)
  · exact pq_s (Or.inl rfl)
  · refine pq_b (wf_X7_pass _ (wo_n g76 c77)) (fun r3 s4 g78 => ?_)
    refine pq_if (fun c79 => ?_) (fun c79 => ?_)
    · exact pq_s (Or.inl rfl)
    · refine pq_b (wf_X6_takeEnd_58 _ _ _ (wo_n g78 c79)) (fun r5 s6 g80 => ?_)
      refine pq_if (fun c81 => ?_) (fun c81 => ?_)
      · exact pq_s (Or.inl rfl)
      · refine pq_b (wf_X7_pass _ (wo_n g80 c81)) (fun r7 s8 g82 => ?_)
        refine pq_if (fun c83 => ?_) (fun c83 => ?_)
        · exact pq_s (Or.inl rfl)
        · refine pq_c (fun _ => ?_)
          refine pq_b (wf_X6_takeEnd_59 _ _ _ (wo_n g82 c83)) (fun r10 s11 g84 => ?_)
          refine pq_if (fun c85 => ?_) (fun c85 => ?_)
          · exact pq_s (Or.inl rfl)
          · refine pq_b (wf_X7_pass _ (wo_n g84 c85)) (fun r12 s13 g86 => ?_)
            refine pq_if (fun c87 => ?_) (fun c87 => ?_)
            · exact pq_s (Or.inl rfl)
            · refine pq_b (wf_X7_passNumber _ _ (wo_n g86 c87)) (fun r14 s15 g88 => ?_)
              refine pq_if (fun c89 => ?_) (fun c89 => ?_)
              · exact pq_s (Or.inl rfl)
              · refine pq_n (fun s16 e90 => ?_)
                have js16 : Wf s16 := by rw [e90]; exact (wf_i (wo_n g88 c89) (by decide))
                refine pq_b (ft_X4_joinAt_52 _ _) (fun _ s18 g91 => ?_)
                refine pq_n (fun s19 e92 => ?_)
                have js19 : Wf s19 := by rw [e92]; exact (wf_i (wf_t js16 g91 rfl rfl) (by decide))
                refine pq_b (wf_X7_pass _ js19) (fun r20 s21 g93 => ?_)
                refine pq_c (fun _ => ?_)
                exact pq_s g93
theorem wf_X6_takeEnd_62 (a2 : Int32) (a3 : Int32) (a4 : Int32) {s : Sg} (hJ : Wf s) : PQ (f_X6_takeEnd_62 a2 a3 a4 s) (fun r s9 => Wo r s9) := by
  unfold f_X6_takeEnd_62
  refine pq_b (wf_X7_findName_52 _ hJ) (fun r1 s2 g94 => ?_)
  refine pq_if (fun c95 => ?_) (fun c95 => ?_)
  · exact pq_s (Or.inl rfl)
  · refine pq_if (fun c96 => ?_) (fun c96 => ?_)
    · refine pq_b (wf_X7_wrong _ _) (fun r3 s4 g97 => ?_)
      refine pq_c (fun _ => ?_)
      exact pq_s g97
    · refine pq_b (ft_X11_has _ _ _) (fun r5 s6 g98 => ?_)
      refine pq_if (fun c99 => ?_) (fun c99 => ?_)
      · refine pq_c (fun _ => ?_)
        refine pq_n (fun s8 e100 => ?_)
        have js8 : Wf s8 := by rw [e100]; exact (wf_i (wf_t (wo_n g94 c95) g98 rfl rfl) (by decide))
        refine pq_b (ft_X7_advance  _) (fun _ s10 g101 => ?_)
        exact pq_s (Or.inr (wf_t js8 g101 rfl rfl))
      · refine pq_b (wf_X7_wrong _ _) (fun r11 s12 g102 => ?_)
        refine pq_c (fun _ => ?_)
        exact pq_s g102
theorem wf_X6_takeEnd_63 (a2 : Int32) (a3 : Int32) (a4 : Int32) {s : Sg} (hJ : Wf s) : PQ (f_X6_takeEnd_63 a2 a3 a4 s) (fun r s9 => Wo r s9) := by
  unfold f_X6_takeEnd_63
  refine pq_b (wf_X7_findName_52 _ hJ) (fun r1 s2 g103 => ?_)
  refine pq_if (fun c104 => ?_) (fun c104 => ?_)
  · exact pq_s (Or.inl rfl)
  · refine pq_if (fun c105 => ?_) (fun c105 => ?_)
    · refine pq_b (wf_X7_wrong _ _) (fun r3 s4 g106 => ?_)
      refine pq_c (fun _ => ?_)
      exact pq_s g106
    · refine pq_b (ft_X11_has _ _ _) (fun r5 s6 g107 => ?_)
      refine pq_if (fun c108 => ?_) (fun c108 => ?_)
      · refine pq_c (fun _ => ?_)
        refine pq_n (fun s8 e109 => ?_)
        have js8 : Wf s8 := by rw [e109]; exact (wf_i (wf_t (wo_n g103 c104) g107 rfl rfl) (by decide))
        refine pq_b (ft_X7_advance  _) (fun _ s10 g110 => ?_)
        exact pq_s (Or.inr (wf_t js8 g110 rfl rfl))
      · refine pq_b (wf_X7_wrong _ _) (fun r11 s12 g111 => ?_)
        refine pq_c (fun _ => ?_)
        exact pq_s g111
theorem wf_X6_takeCat  {s : Sg} (hJ : Wf s) : PQ (f_X6_takeCat  s) (fun r s9 => Wo r s9) := by
  unfold f_X6_takeCat
  refine pq_b (wf_X6_takeNew _ _ _ hJ) (fun r1 s2 g112 => ?_)
  refine pq_if (fun c113 => ?_) (fun c113 => ?_)
  · exact pq_s (Or.inl rfl)
  · refine pq_b (wf_X7_pass _ (wo_n g112 c113)) (fun r3 s4 g114 => ?_)
    refine pq_if (fun c115 => ?_) (fun c115 => ?_)
    · exact pq_s (Or.inl rfl)
    · refine pq_b (wf_X6_takeEnd_62 _ _ _ (wo_n g114 c115)) (fun r5 s6 g116 => ?_)
      refine pq_if (fun c117 => ?_) (fun c117 => ?_)
      · exact pq_s (Or.inl rfl)
      · refine pq_b (wf_X7_pass _ (wo_n g116 c117)) (fun r7 s8 g118 => ?_)
        refine pq_if (fun c119 => ?_) (fun c119 => ?_)
        · exact pq_s (Or.inl rfl)
        · refine pq_c (fun _ => ?_)
          refine pq_b (wf_X6_takeEnd_63 _ _ _ (wo_n g118 c119)) (fun r10 s11 g120 => ?_)
          refine pq_if (fun c121 => ?_) (fun c121 => ?_)
          · exact pq_s (Or.inl rfl)
          · refine pq_b (wf_X7_pass _ (wo_n g120 c121)) (fun r12 s13 g122 => ?_)
            refine pq_if (fun c123 => ?_) (fun c123 => ?_)
            · exact pq_s (Or.inl rfl)
            · refine pq_b (wf_X7_passNumber _ _ (wo_n g122 c123)) (fun r14 s15 g124 => ?_)
              refine pq_if (fun c125 => ?_) (fun c125 => ?_)
              · exact pq_s (Or.inl rfl)
              · refine pq_n (fun s16 e126 => ?_)
                have js16 : Wf s16 := by rw [e126]; exact (wf_i (wo_n g124 c125) (by decide))
                refine pq_n (fun s17 e127 => ?_)
                have js17 : Wf s17 := by rw [e127]; exact (wf_i js16 (by decide))
                refine pq_b (wf_X7_pass _ js17) (fun r18 s19 g128 => ?_)
                refine pq_c (fun _ => ?_)
                exact pq_s g128
theorem wf_X6_takeGrocer_b171  (s : Sg) (hJ : Wf s) : PQ (f_X6_takeGrocer_b171  s) (fun r s9 => Wo r s9) := by
  unfold f_X6_takeGrocer_b171
  refine pq_b (wf_X7_pass _ (wf_i hJ (by decide))) (fun r20 s21 g129 => ?_)
  refine pq_c (fun _ => ?_)
  exact pq_s g129
theorem wf_X6_takeGrocer  {s : Sg} (hJ : Wf s) : PQ (f_X6_takeGrocer  s) (fun r s9 => Wo r s9) := by
  unfold f_X6_takeGrocer
  refine pq_b (wf_X6_takeNew _ _ _ hJ) (fun r1 s2 g130 => ?_)
  refine pq_if (fun c131 => ?_) (fun c131 => ?_)
  · exact pq_s (Or.inl rfl)
  · refine pq_b (wf_X7_pass _ (wo_n g130 c131)) (fun r3 s4 g132 => ?_)
    refine pq_if (fun c133 => ?_) (fun c133 => ?_)
    · exact pq_s (Or.inl rfl)
    · refine pq_b (wf_X7_passNumber _ _ (wo_n g132 c133)) (fun r5 s6 g134 => ?_)
      refine pq_if (fun c135 => ?_) (fun c135 => ?_)
      · exact pq_s (Or.inl rfl)
      · refine pq_c (fun _ => ?_)
        refine pq_n (fun s8 e136 => ?_)
        have js8 : Wf s8 := by rw [e136]; exact (wf_i (wo_n g134 c135) (by decide))
        refine pq_b (wf_X7_pass _ js8) (fun r9 s10 g137 => ?_)
        refine pq_if (fun c138 => ?_) (fun c138 => ?_)
        · exact pq_s (Or.inl rfl)
        · refine pq_b (wf_X7_passNumber _ _ (wo_n g137 c138)) (fun r11 s12 g139 => ?_)
          refine pq_if (fun c140 => ?_) (fun c140 => ?_)
          · exact pq_s (Or.inl rfl)
          · refine pq_n (fun s13 e141 => ?_)
            have js13 : Wf s13 := by rw [e141]; exact (wf_i (wo_n g139 c140) (by decide))
            refine pq_n (fun s14 e142 => ?_)
            have js14 : Wf s14 := by rw [e142]; exact (wf_i js13 (by decide))
            refine pq_if (fun c143 => ?_) (fun c143 => ?_)
            · refine pq_b (ft_X7_advance  _) (fun _ s16 g144 => ?_)
              refine pq_b (wf_X7_passNumber _ _ (wf_t js14 g144 rfl rfl)) (fun r17 s18 g145 => ?_)
              refine pq_if (fun c146 => ?_) (fun c146 => ?_)
              · exact pq_s (Or.inl rfl)
              · refine pq_n (fun s19 e147 => ?_)
                have js19 : Wf s19 := by rw [e147]; exact (wf_i (wo_n g145 c146) (by decide))
                exact wf_X6_takeGrocer_b171  _ js19
            · exact wf_X6_takeGrocer_b171  _ js14
theorem wf_X6_takeWashes_b35  (s : Sg) (hJ : Wf s) : PQ (f_X6_takeWashes_b35  s) (fun r s9 => Wo r s9) := by
  unfold f_X6_takeWashes_b35
  refine pq_b (wf_X7_pass _ hJ) (fun r3 s4 g148 => ?_)
  refine pq_if (fun c149 => ?_) (fun c149 => ?_)
  · exact pq_s (Or.inl rfl)
  · refine pq_b (wf_X7_passNumber _ _ (wo_n g148 c149)) (fun r5 s6 g150 => ?_)
    refine pq_if (fun c151 => ?_) (fun c151 => ?_)
    · exact pq_s (Or.inl rfl)
    · refine pq_n (fun s7 e152 => ?_)
      have js7 : Wf s7 := by rw [e152]; exact (wf_i (wf_i (wo_n g150 c151) (by decide)) (by decide))
      refine pq_b (wf_X7_pass _ js7) (fun r8 s9 g153 => ?_)
      refine pq_c (fun _ => ?_)
      exact pq_s g153
theorem wf_X6_takeWashes  {s : Sg} (hJ : Wf s) : PQ (f_X6_takeWashes  s) (fun r s9 => Wo r s9) := by
  unfold f_X6_takeWashes
  refine pq_b (ft_X7_advance  _) (fun _ s2 g154 => ?_)
  refine pq_if (fun c155 => ?_) (fun c155 => ?_)
  · refine pq_if (fun c156 => ?_) (fun c156 => ?_)
    · exact wf_X6_takeWashes_b35  _ (wf_t hJ g154 rfl rfl)
    · refine pq_b (wf_X7_wrong _ _) (fun r10 s11 g157 => ?_)
      refine pq_c (fun _ => ?_)
      exact pq_s g157
  · exact wf_X6_takeWashes_b35  _ (wf_t hJ g154 rfl rfl)
theorem wf_X6_takeText_b21 (n : Nat) : ∀ (v1 : Int32) (v2 : Int32) (s : Sg) (hJ : Wo v1 s), PQ (f_X6_takeText_b21 n v1 v2 s) (fun r s9 => Wo r s9) := by
  induction n with
  | zero => intro v1 v2 s _ r s9 e; cases e
  | succ n ih =>
    intro v1 v2 s hJ
    unfold f_X6_takeText_b21
    refine pq_if (fun c158 => ?_) (fun c158 => ?_)
    · refine pq_c (fun _ => ?_)
      exact pq_s hJ
    · refine pq_if (fun c159 => ?_) (fun c159 => ?_)
      · refine pq_c (fun _ => ?_)
        exact pq_s (Or.inl c159)
      · refine pq_if (fun c160 => ?_) (fun c160 => ?_)
        · refine pq_c (fun _ => ?_)
          exact pq_s (Or.inr (wo_n hJ c159))
        · refine pq_if (fun c161 => ?_) (fun c161 => ?_)
          · refine pq_b (wf_X6_takeHouse  (wo_n hJ c159)) (fun r3 s4 g162 => ?_)
            exact ih _ _ _ g162
          · refine pq_if (fun c163 => ?_) (fun c163 => ?_)
            · refine pq_b (wf_X7_wrong _ _) (fun r5 s6 g164 => ?_)
              exact ih _ _ _ g164
            · refine pq_if (fun c165 => ?_) (fun c165 => ?_)
              · refine pq_b (wf_X7_wrong _ _) (fun r7 s8 g166 => ?_)
                exact ih _ _ _ g166
              · refine pq_if (fun c167 => ?_) (fun c167 => ?_)
                · refine pq_b (wf_X6_takeCounts  (wo_n hJ c159)) (fun r9 s10 g168 => ?_)
                  exact ih _ _ _ g168
                · refine pq_if (fun c169 => ?_) (fun c169 => ?_)
                  · refine pq_b (wf_X6_takeQuarrel  (wo_n hJ c159)) (fun r11 s12 g170 => ?_)
                    exact ih _ _ _ g170
                  · refine pq_if (fun c171 => ?_) (fun c171 => ?_)
                    · refine pq_b (wf_X7_wrong _ _) (fun r13 s14 g172 => ?_)
                      exact ih _ _ _ g172
                    · refine pq_if (fun c173 => ?_) (fun c173 => ?_)
                      · refine pq_b (wf_X7_wrong _ _) (fun r15 s16 g174 => ?_)
                        exact ih _ _ _ g174
                      · refine pq_if (fun c175 => ?_) (fun c175 => ?_)
                        · refine pq_b (wf_X7_wrong _ _) (fun r17 s18 g176 => ?_)
                          exact ih _ _ _ g176
                        · refine pq_if (fun c177 => ?_) (fun c177 => ?_)
                          · refine pq_b (wf_X6_takeCat  (wo_n hJ c159)) (fun r19 s20 g178 => ?_)
                            exact ih _ _ _ g178
                          · refine pq_if (fun c179 => ?_) (fun c179 => ?_)
                            · refine pq_b (wf_X7_wrong _ _) (fun r21 s22 g180 => ?_)
                              exact ih _ _ _ g180
                            · refine pq_if (fun c181 => ?_) (fun c181 => ?_)
                              · refine pq_b (wf_X7_wrong _ _) (fun r23 s24 g182 => ?_)
                                exact ih _ _ _ g182
                              · refine pq_if (fun c183 => ?_) (fun c183 => ?_)
                                · refine pq_b (wf_X7_wrong _ _) (fun r25 s26 g184 => ?_)
                                  exact ih _ _ _ g184
                                · refine pq_if (fun c185 => ?_) (fun c185 => ?_)
                                  · refine pq_b (wf_X6_takeGrocer  (wo_n hJ c159)) (fun r27 s28 g186 => ?_)
                                    exact ih _ _ _ g186
                                  · refine pq_if (fun c187 => ?_) (fun c187 => ?_)
                                    · refine pq_b (wf_X7_wrong _ _) (fun r29 s30 g188 => ?_)
                                      exact ih _ _ _ g188
                                    · refine pq_if (fun c189 => ?_) (fun c189 => ?_)
                                      · refine pq_b (wf_X7_wrong _ _) (fun r31 s32 g190 => ?_)
                                        exact ih _ _ _ g190
                                      · refine pq_if (fun c191 => ?_) (fun c191 => ?_)
                                        · refine pq_b (wf_X7_wrong _ _) (fun r33 s34 g192 => ?_)
                                          exact ih _ _ _ g192
                                        · refine pq_if (fun c193 => ?_) (fun c193 => ?_)
                                          · refine pq_b (wf_X6_takeWashes  (wo_n hJ c159)) (fun r35 s36 g194 => ?_)
                                            exact ih _ _ _ g194
                                          · refine pq_b (wf_X7_wrong _ _) (fun r37 s38 g195 => ?_)
                                            exact ih _ _ _ g195
theorem wf_X6_takeText  {s : Sg} (hJ : Wf s) : PQ (f_X6_takeText  s) (fun r s9 => Wo r s9) := by
  unfold f_X6_takeText
  refine pq_b (ft_X10_clear_51  _) (fun _ s2 g196 => ?_)
  exact wf_X6_takeText_b21 BIG _ _ _ (Or.inr (wf_i (wf_i (wf_t hJ g196 rfl rfl) (by decide)) (by decide)))
theorem wf_X1_takeEnd  {s : Sg} (hJ : Wf s) : PQ (f_X1_takeEnd  s) (fun r s9 => Wo r s9) := by
  unfold f_X1_takeEnd
  refine pq_if (fun c197 => ?_) (fun c197 => ?_)
  · refine pq_b (wf_X7_wrong _ _) (fun r1 s2 g198 => ?_)
    refine pq_c (fun _ => ?_)
    exact pq_s g198
  · refine pq_if (fun c199 => ?_) (fun c199 => ?_)
    · refine pq_c (fun _ => ?_)
      refine pq_n (fun x4 _ => ?_)
      refine pq_c (fun _ => ?_)
      refine pq_n (fun s6 e200 => ?_)
      have js6 : Wf s6 := by rw [e200]; exact (wf_i (wf_i hJ (by decide)) (by decide))
      refine pq_c (fun _ => ?_)
      refine pq_n (fun s8 e201 => ?_)
      have js8 : Wf s8 := by rw [e201]; exact (wf_i js6 (by decide))
      refine pq_c (fun _ => ?_)
      refine pq_n (fun s10 e202 => ?_)
      have js10 : Wf s10 := by rw [e202]; exact (wf_i js8 (by decide))
      refine pq_b (ft_X7_advance  _) (fun _ s12 g203 => ?_)
      refine pq_b (wf_X7_pass _ (wf_t (wf_i js10 (by decide)) g203 rfl rfl)) (fun r13 s14 g204 => ?_)
      refine pq_c (fun _ => ?_)
      exact pq_s g204
    · refine pq_b (wf_X7_wrong _ _) (fun r15 s16 g205 => ?_)
      refine pq_c (fun _ => ?_)
      exact pq_s g205
theorem wf_X1_beginStep_b129 (v1 : Int32) (s : Sg) (hJ : Wf s) : PQ (f_X1_beginStep_b129 v1 s) (fun r s9 => Wo r s9) := by
  unfold f_X1_beginStep_b129
  refine pq_c (fun _ => ?_)
  refine pq_n (fun s8 e206 => ?_)
  have js8 : Wf s8 := by rw [e206]; exact (wf_i hJ (by decide))
  refine pq_n (fun s9 e207 => ?_)
  have js9 : Wf s9 := by rw [e207]; exact (wf_i (wf_i js8 (by decide)) (by decide))
  refine pq_b (ft_X7_advance  _) (fun _ s11 g208 => ?_)
  exact pq_s (Or.inr (wf_t js9 g208 rfl rfl))
theorem wf_X1_beginStep_b99 (v1 : Int32) (v2 : Int32) (s : Sg) (hJ : Wf s) : PQ (f_X1_beginStep_b99 v1 v2 s) (fun r s9 => Wo r s9) := by
  unfold f_X1_beginStep_b99
  refine pq_if (fun c209 => ?_) (fun c209 => ?_)
  · exact wf_X1_beginStep_b129 _ _ hJ
  · refine pq_c (fun _ => ?_)
    refine pq_n (fun s13 e210 => ?_)
    have js13 : Wf s13 := by rw [e210]; exact (wf_i hJ (by decide))
    exact wf_X1_beginStep_b129 _ _ (wf_i js13 (by decide))
theorem wf_X1_beginStep_b26 (v1 : Int32) (t0 : Int32) (s : Sg) (hJ : Wf s) : PQ (f_X1_beginStep_b26 v1 t0 s) (fun r s9 => Wo r s9) := by
  unfold f_X1_beginStep_b26
  refine pq_b (ft_X1_isStepWord _ _) (fun r1 s2 g211 => ?_)
  refine pq_if (fun c212 => ?_) (fun c212 => ?_)
  · refine pq_b (wf_X7_wrong _ _) (fun r3 s4 g213 => ?_)
    refine pq_c (fun _ => ?_)
    exact pq_s g213
  · refine pq_if (fun c214 => ?_) (fun c214 => ?_)
    · refine pq_b (wf_X7_wrong _ _) (fun r5 s6 g215 => ?_)
      refine pq_c (fun _ => ?_)
      exact pq_s g215
    · refine pq_if (fun c216 => ?_) (fun c216 => ?_)
      · refine pq_if (fun c217 => ?_) (fun c217 => ?_)
        · exact wf_X1_beginStep_b99 _ _ _ (wf_t hJ g211 rfl rfl)
        · refine pq_if (fun c218 => ?_) (fun c218 => ?_)
          · exact wf_X1_beginStep_b99 _ _ _ (wf_t hJ g211 rfl rfl)
          · refine pq_b (wf_X7_wrong _ _) (fun r14 s15 g219 => ?_)
            refine pq_c (fun _ => ?_)
            exact pq_s g219
      · refine pq_b (wf_X7_wrong _ _) (fun r16 s17 g220 => ?_)
        refine pq_c (fun _ => ?_)
        exact pq_s g220
theorem wf_X1_beginStep_b21 (v1 : Int32) (s : Sg) (hJ : Wf s) : PQ (f_X1_beginStep_b21 v1 s) (fun r s9 => Wo r s9) := by
  unfold f_X1_beginStep_b21
  exact wf_X1_beginStep_b26 _ _ _ hJ
theorem wf_X1_beginStep  {s : Sg} (hJ : Wf s) : PQ (f_X1_beginStep  s) (fun r s9 => Wo r s9) := by
  unfold f_X1_beginStep
  refine pq_if (fun c221 => ?_) (fun c221 => ?_)
  · exact wf_X1_beginStep_b21 _ _ hJ
  · refine pq_if (fun c222 => ?_) (fun c222 => ?_)
    · exact wf_X1_beginStep_b21 _ _ hJ
    · exact wf_X1_beginStep_b26 _ _ _ hJ
theorem wf_X1_takeNumber (a1 : Int32) (a2 : Int32) (a3 : Int32) {s : Sg} (hJ : Wf s) : PQ (f_X1_takeNumber a1 a2 a3 s) (fun r s9 => Wo r s9) := by
  unfold f_X1_takeNumber
  refine pq_b (wf_X7_passNumber _ _ hJ) (fun r1 s2 g223 => ?_)
  refine pq_if (fun c224 => ?_) (fun c224 => ?_)
  · exact pq_s (Or.inl rfl)
  · refine pq_c (fun _ => ?_)
    refine pq_n (fun s4 e225 => ?_)
    have js4 : Wf s4 := by rw [e225]; exact (wf_i (wo_n g223 c224) (by decide))
    exact pq_s (Or.inr js4)
theorem wf_X7_findName_25 (a2 : Int32) {s : Sg} (hJ : Wf s) : PQ (f_X7_findName_25 a2 s) (fun r s9 => Wo r s9) := by
  unfold f_X7_findName_25
  refine pq_if (fun c226 => ?_) (fun c226 => ?_)
  · refine pq_b (ft_X4_numberOf _ _ _) (fun r1 s2 g227 => ?_)
    refine pq_if (fun c228 => ?_) (fun c228 => ?_)
    · refine pq_b (wf_X7_wrong _ _) (fun r3 s4 g229 => ?_)
      refine pq_if (fun c230 => ?_) (fun c230 => ?_)
      · exact pq_s (Or.inl rfl)
      · exact pq_s (Or.inr (wo_n g229 c230))
    · exact pq_s (Or.inr (wf_7 (wf_t hJ g227 rfl rfl) (by decide)))
  · refine pq_b (wf_X7_wrong _ _) (fun r5 s6 g231 => ?_)
    refine pq_c (fun _ => ?_)
    exact pq_s g231
theorem wf_X1_takeGrocer (a1 : Int32) {s : Sg} (hJ : Wf s) : PQ (f_X1_takeGrocer a1 s) (fun r s9 => Wo r s9) := by
  unfold f_X1_takeGrocer
  refine pq_b (wf_X7_findName_25 _ hJ) (fun r1 s2 g232 => ?_)
  refine pq_if (fun c233 => ?_) (fun c233 => ?_)
  · exact pq_s (Or.inl rfl)
  · refine pq_c (fun _ => ?_)
    refine pq_n (fun s4 e234 => ?_)
    have js4 : Wf s4 := by rw [e234]; exact (wf_i (wo_n g232 c233) (by decide))
    refine pq_b (ft_X7_advance  _) (fun _ s6 g235 => ?_)
    exact pq_s (Or.inr (wf_t js4 g235 rfl rfl))
theorem wf_X1_takeHouse_75 (a2 : Int32) {s : Sg} (hJ : Wf s) : PQ (f_X1_takeHouse_75 a2 s) (fun r s9 => Wo r s9) := by
  unfold f_X1_takeHouse_75
  refine pq_b (wf_X7_findName_25 _ hJ) (fun r1 s2 g236 => ?_)
  refine pq_if (fun c237 => ?_) (fun c237 => ?_)
  · exact pq_s (Or.inl rfl)
  · refine pq_b (ft_X4_isGone _ _) (fun r3 s4 g238 => ?_)
    refine pq_if (fun c239 => ?_) (fun c239 => ?_)
    · refine pq_c (fun _ => ?_)
      refine pq_n (fun s6 e240 => ?_)
      have js6 : Wf s6 := by rw [e240]; exact (wf_i (wf_t (wo_n g236 c237) g238 rfl rfl) (by decide))
      refine pq_b (ft_X7_advance  _) (fun _ s8 g241 => ?_)
      exact pq_s (Or.inr (wf_t js6 g241 rfl rfl))
    · refine pq_b (wf_X7_wrong _ _) (fun r9 s10 g242 => ?_)
      refine pq_c (fun _ => ?_)
      exact pq_s g242
theorem wf_X1_takeHouse_73 (a2 : Int32) {s : Sg} (hJ : Wf s) : PQ (f_X1_takeHouse_73 a2 s) (fun r s9 => Wo r s9) := by
  unfold f_X1_takeHouse_73
  refine pq_b (wf_X7_findName_25 _ hJ) (fun r1 s2 g243 => ?_)
  refine pq_if (fun c244 => ?_) (fun c244 => ?_)
  · exact pq_s (Or.inl rfl)
  · refine pq_b (ft_X4_isGone _ _) (fun r3 s4 g245 => ?_)
    refine pq_if (fun c246 => ?_) (fun c246 => ?_)
    · refine pq_c (fun _ => ?_)
      refine pq_n (fun s6 e247 => ?_)
      have js6 : Wf s6 := by rw [e247]; exact (wf_i (wf_t (wo_n g243 c244) g245 rfl rfl) (by decide))
      refine pq_b (ft_X7_advance  _) (fun _ s8 g248 => ?_)
      exact pq_s (Or.inr (wf_t js6 g248 rfl rfl))
    · refine pq_b (wf_X7_wrong _ _) (fun r9 s10 g249 => ?_)
      refine pq_c (fun _ => ?_)
      exact pq_s g249
theorem wf_X1_takeTest_b40 (v1 : Int32) (s : Sg) (hJ : Wf s) : PQ (f_X1_takeTest_b40 v1 s) (fun r s9 => Wo r s9) := by
  unfold f_X1_takeTest_b40
  refine pq_b (ft_X7_advance  _) (fun _ s4 g250 => ?_)
  refine pq_b (wf_X7_findName_25 _ (wf_t hJ g250 rfl rfl)) (fun r5 s6 g251 => ?_)
  refine pq_if (fun c252 => ?_) (fun c252 => ?_)
  · exact pq_s (Or.inl rfl)
  · refine pq_c (fun _ => ?_)
    refine pq_n (fun s8 e253 => ?_)
    have js8 : Wf s8 := by rw [e253]; exact (wf_i (wo_n g251 c252) (by decide))
    refine pq_b (ft_X7_advance  _) (fun _ s10 g254 => ?_)
    exact pq_s (Or.inr (wf_t js8 g254 rfl rfl))
theorem wf_X1_takeTest_b180 (v1 : Int32) (s : Sg) (hJ : Wf s) : PQ (f_X1_takeTest_b180 v1 s) (fun r s9 => Wo r s9) := by
  unfold f_X1_takeTest_b180
  refine pq_b (ft_X7_advance  _) (fun _ s17 g255 => ?_)
  refine pq_b (wf_X7_passNumber _ _ (wf_t hJ g255 rfl rfl)) (fun r18 s19 g256 => ?_)
  refine pq_c (fun _ => ?_)
  refine pq_n (fun s21 e257 => ?_)
  have js21 : Wo r18 s21 := by rw [e257]; exact (wo_m (fun w => (wf_i w (by decide))) g256)
  refine pq_c (fun _ => ?_)
  exact pq_s js21
theorem wf_X1_takeTest (a1 : Int32) {s : Sg} (hJ : Wf s) : PQ (f_X1_takeTest a1 s) (fun r s9 => Wo r s9) := by
  unfold f_X1_takeTest
  refine pq_c (fun _ => ?_)
  refine pq_n (fun s2 e258 => ?_)
  have js2 : Wf s2 := by rw [e258]; exact (wf_i hJ (by decide))
  refine pq_if (fun c259 => ?_) (fun c259 => ?_)
  · exact wf_X1_takeTest_b40 _ _ js2
  · refine pq_if (fun c260 => ?_) (fun c260 => ?_)
    · exact wf_X1_takeTest_b40 _ _ js2
    · refine pq_b (wf_X7_pass _ js2) (fun r11 s12 g261 => ?_)
      refine pq_if (fun c262 => ?_) (fun c262 => ?_)
      · exact pq_s (Or.inl rfl)
      · refine pq_b (wf_X1_takeHouse_73 _ (wo_n g261 c262)) (fun r13 s14 g263 => ?_)
        refine pq_if (fun c264 => ?_) (fun c264 => ?_)
        · exact pq_s (Or.inl rfl)
        · refine pq_n (fun s15 e265 => ?_)
          have js15 : Wf s15 := by rw [e265]; exact (wf_i (wo_n g263 c264) (by decide))
          refine pq_if (fun c266 => ?_) (fun c266 => ?_)
          · exact wf_X1_takeTest_b180 _ _ js15
          · refine pq_if (fun c267 => ?_) (fun c267 => ?_)
            · exact wf_X1_takeTest_b180 _ _ js15
            · refine pq_if (fun c268 => ?_) (fun c268 => ?_)
              · exact wf_X1_takeTest_b180 _ _ js15
              · refine pq_b (wf_X7_wrong _ _) (fun r22 s23 g269 => ?_)
                refine pq_c (fun _ => ?_)
                exact pq_s g269
theorem wf_X1_takeStep_b249 (v2 : Int32) (s : Sg) (hJ : Wo v2 s) : PQ (f_X1_takeStep_b249 v2 s) (fun r s9 => Wo r s9) := by
  unfold f_X1_takeStep_b249
  refine pq_if (fun c270 => ?_) (fun c270 => ?_)
  · exact pq_s (Or.inl rfl)
  · refine pq_b (wf_X7_pass _ (wo_n hJ c270)) (fun r6 s7 g271 => ?_)
    refine pq_if (fun c272 => ?_) (fun c272 => ?_)
    · exact pq_s (Or.inl rfl)
    · exact pq_s (Or.inr (wo_n g271 c272))
theorem wf_X1_takeStep_b184 (t0 : Int32) (s : Sg) (hJ : Wo t0 s) : PQ (f_X1_takeStep_b184 t0 s) (fun r s9 => Wo r s9) := by
  unfold f_X1_takeStep_b184
  exact wf_X1_takeStep_b249 _ _ hJ
theorem wf_X1_takeStep_b183  (s : Sg) : PQ (f_X1_takeStep_b183  s) (fun r s9 => Wo r s9) := by
  unfold f_X1_takeStep_b183
  exact wf_X1_takeStep_b184 _ _ (Or.inl rfl)
theorem wf_X1_takeStep_b128 (t0 : Int32) (s : Sg) (hJ : Wo t0 s) : PQ (f_X1_takeStep_b128 t0 s) (fun r s9 => Wo r s9) := by
  unfold f_X1_takeStep_b128
  exact wf_X1_takeStep_b249 _ _ hJ
theorem wf_X1_takeStep_b127  (s : Sg) : PQ (f_X1_takeStep_b127  s) (fun r s9 => Wo r s9) := by
  unfold f_X1_takeStep_b127
  exact wf_X1_takeStep_b128 _ _ (Or.inl rfl)
theorem wf_X1_takeStep  {s : Sg} (hJ : Wf s) : PQ (f_X1_takeStep  s) (fun r s9 => Wo r s9) := by
  unfold f_X1_takeStep
  refine pq_b (wf_X1_beginStep  hJ) (fun r1 s2 g273 => ?_)
  refine pq_if (fun c274 => ?_) (fun c274 => ?_)
  · exact pq_s (Or.inl rfl)
  · refine pq_c (fun _ => ?_)
    refine pq_if (fun c275 => ?_) (fun c275 => ?_)
    · refine pq_b (wf_X1_takeNumber _ _ _ (wo_n g273 c274)) (fun r4 s5 g276 => ?_)
      exact wf_X1_takeStep_b249 _ _ g276
    · refine pq_if (fun c277 => ?_) (fun c277 => ?_)
      · exact wf_X1_takeStep_b249 _ _ (Or.inr (wo_n g273 c274))
      · refine pq_if (fun c278 => ?_) (fun c278 => ?_)
        · exact wf_X1_takeStep_b249 _ _ (Or.inr (wo_n g273 c274))
        · refine pq_if (fun c279 => ?_) (fun c279 => ?_)
          · refine pq_b (wf_X1_takeGrocer _ (wo_n g273 c274)) (fun r8 s9 g280 => ?_)
            refine pq_if (fun c281 => ?_) (fun c281 => ?_)
            · exact wf_X1_takeStep_b183  _ 
            · refine pq_b (wf_X1_takeNumber _ _ _ (wo_n g280 c281)) (fun r10 s11 g282 => ?_)
              refine pq_if (fun c283 => ?_) (fun c283 => ?_)
              · exact wf_X1_takeStep_b183  _ 
              · refine pq_b (wf_X7_pass _ (wo_n g282 c283)) (fun r12 s13 g284 => ?_)
                refine pq_if (fun c285 => ?_) (fun c285 => ?_)
                · exact wf_X1_takeStep_b183  _ 
                · refine pq_b (wf_X1_takeHouse_75 _ (wo_n g284 c285)) (fun r14 s15 g286 => ?_)
                  refine pq_if (fun c287 => ?_) (fun c287 => ?_)
                  · exact wf_X1_takeStep_b183  _ 
                  · exact wf_X1_takeStep_b184 _ _ (Or.inr (wo_n g286 c287))
          · refine pq_if (fun c288 => ?_) (fun c288 => ?_)
            · refine pq_b (wf_X1_takeHouse_73 _ (wo_n g273 c274)) (fun r16 s17 g289 => ?_)
              refine pq_if (fun c290 => ?_) (fun c290 => ?_)
              · exact wf_X1_takeStep_b127  _ 
              · refine pq_b (wf_X1_takeNumber _ _ _ (wo_n g289 c290)) (fun r18 s19 g291 => ?_)
                refine pq_if (fun c292 => ?_) (fun c292 => ?_)
                · exact wf_X1_takeStep_b127  _ 
                · exact wf_X1_takeStep_b128 _ _ (Or.inr (wo_n g291 c292))
            · refine pq_if (fun c293 => ?_) (fun c293 => ?_)
              · refine pq_b (wf_X1_takeHouse_73 _ (wo_n g273 c274)) (fun r20 s21 g294 => ?_)
                exact wf_X1_takeStep_b249 _ _ g294
              · refine pq_if (fun c295 => ?_) (fun c295 => ?_)
                · refine pq_b (wf_X1_takeNumber _ _ _ (wo_n g273 c274)) (fun r22 s23 g296 => ?_)
                  exact wf_X1_takeStep_b249 _ _ g296
                · refine pq_if (fun c297 => ?_) (fun c297 => ?_)
                  · exact wf_X1_takeStep_b249 _ _ (Or.inr (wo_n g273 c274))
                  · refine pq_if (fun c298 => ?_) (fun c298 => ?_)
                    · refine pq_b (wf_X1_takeTest _ (wo_n g273 c274)) (fun r24 s25 g299 => ?_)
                      exact wf_X1_takeStep_b249 _ _ g299
                    · refine pq_if (fun c300 => ?_) (fun c300 => ?_)
                      · exact wf_X1_takeStep_b249 _ _ (Or.inr (wo_n g273 c274))
                      · refine pq_if (fun c301 => ?_) (fun c301 => ?_)
                        · exact wf_X1_takeStep_b249 _ _ (Or.inr (wo_n g273 c274))
                        · refine pq_if (fun c302 => ?_) (fun c302 => ?_)
                          · exact wf_X1_takeStep_b249 _ _ (Or.inr (wo_n g273 c274))
                          · refine pq_if (fun c303 => ?_) (fun c303 => ?_)
                            · refine pq_b (wf_X1_takeNumber _ _ _ (wo_n g273 c274)) (fun r26 s27 g304 => ?_)
                              exact wf_X1_takeStep_b249 _ _ g304
                            · exact wf_X1_takeStep_b249 _ _ (Or.inr (wo_n g273 c274))
theorem wf_X1_takeText_b22 (n : Nat) : ∀ (v1 : Int32) (s : Sg) (hJ : Wf s), PQ (f_X1_takeText_b22 n v1 s) (fun r s9 => Wo r s9) := by
  induction n with
  | zero => intro v1 s _ r s9 e; cases e
  | succ n ih =>
    intro v1 s hJ
    unfold f_X1_takeText_b22
    refine pq_if (fun c305 => ?_) (fun c305 => ?_)
    · refine pq_b (wf_X7_wrong _ _) (fun r3 s4 g306 => ?_)
      refine pq_c (fun _ => ?_)
      exact pq_s g306
    · refine pq_if (fun c307 => ?_) (fun c307 => ?_)
      · refine pq_if (fun c308 => ?_) (fun c308 => ?_)
        · exact pq_s (Or.inr hJ)
        · refine pq_b (wf_X7_wrong _ _) (fun r5 s6 g309 => ?_)
          refine pq_if (fun c310 => ?_) (fun c310 => ?_)
          · exact pq_s (Or.inl rfl)
          · exact pq_s (Or.inr (wo_n g309 c310))
      · refine pq_if (fun c311 => ?_) (fun c311 => ?_)
        · refine pq_b (wf_X1_takeEnd  hJ) (fun r7 s8 g312 => ?_)
          refine pq_if (fun c313 => ?_) (fun c313 => ?_)
          · exact pq_s (Or.inl rfl)
          · exact ih _ _ (wo_n g312 c313)
        · refine pq_b (wf_X1_takeStep  hJ) (fun r9 s10 g314 => ?_)
          refine pq_if (fun c315 => ?_) (fun c315 => ?_)
          · exact pq_s (Or.inl rfl)
          · exact ih _ _ (wo_n g314 c315)
theorem wf_X1_takeText  {s : Sg} (hJ : Wf s) : PQ (f_X1_takeText  s) (fun r s9 => Wo r s9) := by
  unfold f_X1_takeText
  refine pq_b (ft_X5_clear_54  _) (fun _ s2 g316 => ?_)
  exact wf_X1_takeText_b22 BIG _ _ (wf_i (wf_i (wf_t hJ g316 rfl rfl) (by decide)) (by decide))
