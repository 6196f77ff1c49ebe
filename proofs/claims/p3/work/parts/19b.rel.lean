/-! the relation of both sides: what both keep -/
abbrev MMI : Nat := 2037035976334486086268445688409378161051468393665936250636136646402578253855861984232210431
abbrev MM1 : Nat := 2037035976334486086268445688409378161051468393665936250636136646402580615039103419054817279
theorem m35 {s : Sg} (h : Rg rM s) : ((0 : Nat) : Int) ≤ (s.1 0 35).toInt := by
  have q : 0 ≤ (s.1 0 35).toInt ∧ (s.1 0 35).toInt ≤ 3 := h 0 35
  exact q.1
theorem invM_1 {L1 : Nat} {s s' : Sg} (hR : Rg rM s) (h : InvM s) (f : Fr cdM L1 s s') (hL : L1 &&& MM1 = L1) (e11 : s'.1 1 11 = s.1 1 11) : InvM s' := by
  intro j hj
  have e35 : s'.1 0 35 = s.1 0 35 := (f 0 35 (tb_sub hL rfl)).1
  rw [e35] at hj
  have q := h j hj
  have r35 : 0 ≤ (s.1 0 35).toInt ∧ (s.1 0 35).toInt ≤ 3 := hR 0 35
  have ei : ∀ k, 110 ≤ k → k < 480 → s'.1 1 (480 * j + k) = s.1 1 (480 * j + k) := by
    intro k k1 k2
    refine (f 1 (480 * j + k) ?_).1
    rw [cdM_x, if_neg (by omega), if_neg (by omega)]
    by_cases d : 480 * j + k < 480
    · rw [if_pos d]; exact tb_sub hL rfl
    · rw [if_neg d, if_pos (by omega)]; exact tb_sub hL rfl
  have e11' : s'.1 1 (480 * j + 11) = s.1 1 (480 * j + 11) := by
    by_cases d : j = 0
    · subst d; exact e11
    · refine (f 1 (480 * j + 11) ?_).1
      rw [cdM_x, if_neg (by omega), if_neg (by omega), if_neg (by omega), if_pos (by omega)]
      exact tb_sub hL rfl
  intro p h1 h2 h3
  rw [e11'] at h3
  have hr := rr_m hR j
  have a0 : s'.1 1 (480 * j + p) = s.1 1 (480 * j + p) := ei p h1 (by omega)
  have a1 : s'.1 1 (480 * j + p + 1) = s.1 1 (480 * j + p + 1) := ei (p + 1) (by omega) (by omega)
  have a3 : s'.1 1 (480 * j + p + 3) = s.1 1 (480 * j + p + 3) := ei (p + 3) (by omega) (by omega)
  rw [a0, a1, a3]
  exact q p h1 h2 h3
theorem invM_t {L1 : Nat} {s s' : Sg} (hR : Rg rM s) (h : InvM s) (f : Fr cdM L1 s s') (hL : L1 &&& MMI = L1) : InvM s' := by
  refine invM_1 (L1 := MMI) hR h (fun c k hb => f c k (tb_sub hL hb)) rfl (f 1 11 (tb_sub hL rfl)).1
def RelB (sC sM : Sg) : Prop := (Rg rC sC ∧ InvC sC) ∧ (Rg rM sM ∧ InvM sM)
/-! tray: the answer -/
theorem pq_tr {α : Type} {o : Option (α × Sg)} : PQ o (fun _ _ => True) := fun _ _ _ => trivial
theorem wi_p (a0 a1 a2 : Int32) (s : Sg) : PQ (f_X11_within a0 a1 a2 s) (fun r s9 => s9 = s ∧ ((r = 1 ∧ a1.toInt ≤ a0.toInt ∧ a0.toInt ≤ a2.toInt) ∨ (r = 0 ∧ ¬ (a1.toInt ≤ a0.toInt ∧ a0.toInt ≤ a2.toInt)))) := by
  unfold f_X11_within
  refine pq_if (fun c => pq_s ⟨rfl, Or.inr ⟨rfl, ?_⟩⟩) (fun c => pq_if (fun c2 => pq_s ⟨rfl, Or.inr ⟨rfl, ?_⟩⟩) (fun c2 => pq_s ⟨rfl, Or.inl ⟨rfl, ?_, ?_⟩⟩))
  · have := i_lt c
    omega
  · have := i_lt c2
    omega
  · exact i_nlt c
  · exact i_nlt c2
theorem it_p (a0 : Int32) (s : Sg) : PQ (f_X11_isTray a0 s) (fun r s9 => s9 = s ∧ ((r = 1 ∧ 0 ≤ a0.toInt ∧ a0.toInt ≤ 3) ∨ (r = 0 ∧ ¬ (0 ≤ a0.toInt ∧ a0.toInt ≤ 3)))) := by
  unfold f_X11_isTray
  exact pq_b (wi_p a0 0 3 s) (fun r s2 g => pq_c (fun _ => pq_s g))
def OKT (a1 a2 a3 : Int32) : Prop := (0 ≤ a1.toInt ∧ a1.toInt ≤ 3) ∧ (0 ≤ a2.toInt ∧ a2.toInt ≤ 3) ∧ (0 ≤ a3.toInt ∧ a3.toInt ≤ 60)
theorem rd_0 (a : Int32) (s : Sg) : PQ (f_X11_refused a s) (fun r _ => r = 0) := by
  unfold f_X11_refused
  exact pq_s rfl
theorem gr_1 (s : Sg) : PQ (f_X11_granted s) (fun r _ => r = 1) := by
  unfold f_X11_granted
  exact pq_s rfl
theorem tray_cr (a1 a2 a3 : Int32) (s : Sg) : PQ (f_X11_tray a1 a2 a3 s) (fun r _ => (r = 1 ∧ OKT a1 a2 a3) ∨ (r = 0 ∧ ¬ OKT a1 a2 a3)) := by
  have rf : ∀ s', ¬ OKT a1 a2 a3 → PQ (bd (f_X11_refused 1 s') (fun r s => ck (r = 0 ∨ r = 1) (some (r, s)))) (fun r _ => (r = 1 ∧ OKT a1 a2 a3) ∨ (r = 0 ∧ ¬ OKT a1 a2 a3)) := fun s' h => pq_b (rd_0 1 s') (fun r s g => pq_c (fun _ => pq_s (Or.inr ⟨g, h⟩)))
  have n10 : ∀ r : Int32, r = 1 → ¬ r = 0 := fun r e w => absurd (e.symm.trans w) (by decide)
  unfold f_X11_tray
  refine pq_b (it_p a1 s) (fun r1 s2 g1 => pq_if (fun c => rf _ (fun w => ?_)) (fun c => pq_b (wi_p a2 0 3 s2) (fun r5 s6 g5 => pq_if (fun c5 => rf _ (fun w => ?_)) (fun c5 => pq_b (wi_p a3 0 60 s6) (fun r9 s10 g9 => pq_if (fun c9 => rf _ (fun w => ?_)) (fun c9 => pq_c (fun _ => ?_)))))))
  · rcases g1.2 with q | q
    · exact n10 _ q.1 c
    · exact q.2 w.1
  · rcases g5.2 with q | q
    · exact n10 _ q.1 c5
    · exact q.2 w.2.1
  · rcases g9.2 with q | q
    · exact n10 _ q.1 c9
    · exact q.2 w.2.2
  · have ok : OKT a1 a2 a3 := by
      refine ⟨?_, ?_, ?_⟩
      · rcases g1.2 with q | q
        · exact q.2
        · exact absurd q.1 c
      · rcases g5.2 with q | q
        · exact q.2
        · exact absurd q.1 c5
      · rcases g9.2 with q | q
        · exact q.2
        · exact absurd q.1 c9
    refine pq_s4 ?_ ?_ ?_ ?_ <;> exact pq_b pq_tr (fun _ s' _ => pq_b (gr_1 s') (fun r s g => pq_c (fun _ => pq_s (Or.inl ⟨g, ok⟩))))
theorem is_z (s : Sg) : PQ (f_X12_is 0 s) (fun r _ => r = 1) := by
  unfold f_X12_is
  exact pq_if (fun _ => pq_s rfl) (fun c => absurd rfl c)
theorem is_n (a : Int32) (s : Sg) (h : ¬ a = 0) : PQ (f_X12_is a s) (fun r _ => r = 0) := by
  unfold f_X12_is
  exact pq_if (fun c => absurd c h) (fun _ => pq_s rfl)
theorem tb_49 (v1 v3 : Int32) (n : Nat) : ∀ (v4 : Int32) (s : Sg), PQ (f_X12_tray_b49 n v1 v3 v4 s) (fun r _ => r = 1) := by
  induction n with
  | zero => intro v4 s r s9 e; cases e
  | succ n ih =>
    intro v4 s
    unfold f_X12_tray_b49
    exact pq_if (fun _ => pq_b (is_z s) (fun r s2 g => pq_c (fun _ => pq_s g))) (fun _ => pq_c (fun _ => pq_n (fun x _ => ih _ x)))
theorem itm_p (a0 : Int32) (s : Sg) : PQ (f_X12_isTray a0 s) (fun r s9 => s9 = s ∧ ((r = 1 ∧ 0 ≤ a0.toInt ∧ a0.toInt ≤ 3) ∨ (r = 0 ∧ ¬ (0 ≤ a0.toInt ∧ a0.toInt ≤ 3)))) := by
  have e0 : (0 : Int32).toInt = 0 := rfl
  have e4 : (4 : Int32).toInt = 4 := rfl
  unfold f_X12_isTray
  refine pq_if (fun c => pq_s ⟨rfl, Or.inr ⟨rfl, ?_⟩⟩) (fun c => pq_if (fun c2 => pq_s ⟨rfl, Or.inr ⟨rfl, ?_⟩⟩) (fun c2 => pq_s ⟨rfl, Or.inl ⟨rfl, ?_, ?_⟩⟩))
  · have := i_lt c
    omega
  · have := i_le c2
    omega
  · have := i_nlt c
    omega
  · have := i_nle c2
    omega
theorem tray_mr (a1 a2 a3 : Int32) (s : Sg) : PQ (f_X12_tray a1 a2 a3 s) (fun r _ => (r = 1 ∧ OKT a1 a2 a3) ∨ (r = 0 ∧ ¬ OKT a1 a2 a3)) := by
  have rf : ∀ s', ¬ OKT a1 a2 a3 → PQ (bd (f_X12_is 1 s') (fun r s => ck (r = 0 ∨ r = 1) (some (r, s)))) (fun r _ => (r = 1 ∧ OKT a1 a2 a3) ∨ (r = 0 ∧ ¬ OKT a1 a2 a3)) := fun s' h => pq_b (is_n 1 s' (by decide)) (fun r s g => pq_c (fun _ => pq_s (Or.inr ⟨g, h⟩)))
  have n10 : ∀ r : Int32, r = 1 → ¬ r = 0 := fun r e w => absurd (e.symm.trans w) (by decide)
  have e0 : (0 : Int32).toInt = 0 := rfl
  have e3 : (3 : Int32).toInt = 3 := rfl
  have e60 : (60 : Int32).toInt = 60 := rfl
  unfold f_X12_tray
  refine pq_b (itm_p a1 s) (fun r1 s2 g1 => pq_if (fun c => rf _ (fun w => ?_)) (fun c => pq_if (fun c1 => rf _ (fun w => ?_)) (fun c1 => pq_if (fun c2 => rf _ (fun w => ?_)) (fun c2 => pq_if (fun c3 => rf _ (fun w => ?_)) (fun c3 => pq_if (fun c4 => pq_c (fun _ => pq_n (fun s12 _ => ?_))) (fun c4 => rf _ (fun w => ?_)))))))
  · rcases g1.2 with q | q
    · exact n10 _ q.1 c
    · exact q.2 w.1
  · have := i_lt c1
    have := w.2.1.1
    omega
  · have := i_lt c2
    have := w.2.1.2
    omega
  · have := i_lt c3
    have := w.2.2.1
    omega
  · have ok : OKT a1 a2 a3 := by
      refine ⟨?_, ⟨?_, ?_⟩, ?_, ?_⟩
      · rcases g1.2 with q | q
        · exact q.2
        · exact absurd q.1 c
      · have := i_nlt c1
        omega
      · have := i_nlt c2
        omega
      · have := i_nlt c3
        omega
      · have := i_le c4
        omega
    exact pq_w (tb_49 a1 a3 BIG 0 s12) (fun r _ g => Or.inl ⟨g, ok⟩)
  · have := i_nle c4
    have := w.2.2.2
    omega
theorem ok_eq {p : Prop} {r r' : Int32} (h : (r = 1 ∧ p) ∨ (r = 0 ∧ ¬ p)) (g : (r' = 1 ∧ p) ∨ (r' = 0 ∧ ¬ p)) : r = r' := by
  rcases h with h | h <;> rcases g with g | g
  · exact h.1.trans g.1.symm
  · exact absurd h.2 g.2
  · exact absurd g.2 h.2
  · exact h.1.trans g.1.symm

set_option maxRecDepth 20000 in
theorem sb_0  {sC sM : Sg} (hR : RelB sC sM) : OQ (f_X11_status  sC) (fun rC sC2 => OQ (f_X12_status  sM) (fun rM sM2 => RelB sC2 sM2)) := oq_w (h_X11_status  hR.1.1) (fun rC sC2 gC => oq_w (h_X12_status  hR.2.1) (fun rM sM2 gM => ⟨⟨gC.1.1, inv_t hR.1.2 gC.1.2 rfl⟩, gM.1.1, invM_t hR.2.1 hR.2.2 gM.1.2 rfl⟩))
set_option maxRecDepth 20000 in
theorem sb_1  {sC sM : Sg} (hR : RelB sC sM) : OQ (f_X11_top  sC) (fun rC sC2 => OQ (f_X12_top  sM) (fun rM sM2 => RelB sC2 sM2)) := oq_w (h_X11_top  hR.1.1) (fun rC sC2 gC => oq_w (h_X12_top  hR.2.1) (fun rM sM2 gM => ⟨⟨gC.1.1, inv_t hR.1.2 gC.1.2 rfl⟩, gM.1.1, invM_t hR.2.1 hR.2.2 gM.1.2 rfl⟩))
set_option maxRecDepth 20000 in
theorem sb_2  {sC sM : Sg} (hR : RelB sC sM) : OQ (f_X11_bottom  sC) (fun rC sC2 => OQ (f_X12_bottom  sM) (fun rM sM2 => RelB sC2 sM2)) := oq_w (h_X11_bottom  hR.1.1) (fun rC sC2 gC => oq_w (h_X12_bottom  hR.2.1) (fun rM sM2 gM => ⟨⟨gC.1.1, inv_t hR.1.2 gC.1.2 rfl⟩, gM.1.1, invM_t hR.2.1 hR.2.2 gM.1.2 rfl⟩))
theorem sb_3 (a0 : Int32) (a1 : Int32) (a2 : Int32) {sC sM : Sg} (hR : RelB sC sM) : OQ (f_X11_tray a0 a1 a2 sC) (fun rC sC2 => OQ (f_X12_tray a0 a1 a2 sM) (fun rM sM2 => RelB sC2 sM2)) := oq_w (h_X11_tray a0 a1 a2 hR.1.1) (fun rC sC2 gC => oq_w (h_X12_tray a0 a1 a2 hR.2.1) (fun rM sM2 gM => ⟨⟨gC.1.1, inv_t hR.1.2 gC.1.2 rfl⟩, gM.1.1, invM_t hR.2.1 hR.2.2 gM.1.2 rfl⟩))
theorem sb_4 (a0 : Int32) (a1 : Int32) (a2 : Int64) {sC sM : Sg} (hR : RelB sC sM) : OQ (f_X11_write a0 a1 a2 sC) (fun rC sC2 => OQ (f_X12_write a0 a1 a2 sM) (fun rM sM2 => RelB sC2 sM2)) := oq_w (h_X11_write a0 a1 a2 hR.1.1) (fun rC sC2 gC => oq_w (h_X12_write a0 a1 a2 hR.2.1) (fun rM sM2 gM => ⟨⟨gC.1.1, inv_t hR.1.2 gC.1.2 rfl⟩, gM.1.1, invM_t hR.2.1 hR.2.2 gM.1.2 rfl⟩))
theorem sb_5 (a0 : Int32) (a1 : Int32) {sC sM : Sg} (hR : RelB sC sM) : OQ (f_X11_read a0 a1 sC) (fun rC sC2 => OQ (f_X12_read a0 a1 sM) (fun rM sM2 => RelB sC2 sM2)) := oq_w (h_X11_read a0 a1 hR.1.1) (fun rC sC2 gC => oq_w (h_X12_read a0 a1 hR.2.1) (fun rM sM2 gM => ⟨⟨gC.1.1, inv_t hR.1.2 gC.1.2 rfl⟩, gM.1.1, invM_t hR.2.1 hR.2.2 gM.1.2 rfl⟩))
theorem sb_6 (a0 : Int32) (a1 : Int32) (a2 : Int32) (a3 : Int32) (a4 : Int32) {sC sM : Sg} (hR : RelB sC sM) : OQ (f_X11_pour a0 a1 a2 a3 a4 sC) (fun rC sC2 => OQ (f_X12_pour a0 a1 a2 a3 a4 sM) (fun rM sM2 => RelB sC2 sM2)) := oq_w (h_X11_pour a0 a1 a2 a3 a4 hR.1.1) (fun rC sC2 gC => oq_w (h_X12_pour a0 a1 a2 a3 a4 hR.2.1) (fun rM sM2 gM => ⟨⟨gC.1.1, inv_t hR.1.2 gC.1.2 rfl⟩, gM.1.1, invM_t hR.2.1 hR.2.2 gM.1.2 rfl⟩))
theorem sb_7 (a0 : Int32) (a1 : Int32) (a2 : Int32) (a3 : Int32) (a4 : Int32) {sC sM : Sg} (hR : RelB sC sM) : OQ (f_X11_feed a0 a1 a2 a3 a4 sC) (fun rC sC2 => OQ (f_X12_feed a0 a1 a2 a3 a4 sM) (fun rM sM2 => RelB sC2 sM2)) := oq_w (h_X11_feed a0 a1 a2 a3 a4 hR.1.1) (fun rC sC2 gC => oq_w (h_X12_feed a0 a1 a2 a3 a4 hR.2.1) (fun rM sM2 gM => ⟨⟨gC.1.1, inv_t hR.1.2 gC.1.2 rfl⟩, gM.1.1, invM_t hR.2.1 hR.2.2 gM.1.2 rfl⟩))
theorem sb_8 (a0 : Int32) {sC sM : Sg} (hR : RelB sC sM) : OQ (f_X11_street a0 sC) (fun rC sC2 => OQ (f_X12_street a0 sM) (fun rM sM2 => RelB sC2 sM2)) := oq_w (street_i a0 hR.1.1 hR.1.2) (fun rC sC2 gC => oq_w (street_p a0 hR.2.1 hR.2.2) (fun rM sM2 gM => ⟨gC, gM⟩))
theorem sb_9 (a0 : Int32) {sC sM : Sg} (hR : RelB sC sM) : OQ (f_X11_days a0 sC) (fun rC sC2 => OQ (f_X12_days a0 sM) (fun rM sM2 => RelB sC2 sM2)) := oq_w (days_i a0 hR.1.1 hR.1.2) (fun rC sC2 gC => oq_w (days_p a0 hR.2.1 hR.2.2) (fun rM sM2 gM => ⟨gC, gM⟩))
theorem sb_10 (a0 : Int32) {sC sM : Sg} (hR : RelB sC sM) : OQ (f_X11_fault a0 sC) (fun rC sC2 => OQ (f_X12_fault a0 sM) (fun rM sM2 => RelB sC2 sM2)) := oq_w (h_X11_fault a0 hR.1.1) (fun rC sC2 gC => oq_w (h_X12_fault a0 hR.2.1) (fun rM sM2 gM => ⟨⟨gC.1.1, inv_t hR.1.2 gC.1.2 rfl⟩, gM.1.1, invM_t hR.2.1 hR.2.2 gM.1.2 rfl⟩))
theorem sb_11 (a0 : Int32) {sC sM : Sg} (hR : RelB sC sM) : OQ (f_X11_told a0 sC) (fun rC sC2 => OQ (f_X12_told a0 sM) (fun rM sM2 => RelB sC2 sM2)) := oq_w (h_X11_told a0 hR.1.1) (fun rC sC2 gC => oq_w (h_X12_told a0 hR.2.1) (fun rM sM2 gM => ⟨⟨gC.1.1, inv_t hR.1.2 gC.1.2 rfl⟩, gM.1.1, invM_t hR.2.1 hR.2.2 gM.1.2 rfl⟩))
set_option maxRecDepth 20000 in
theorem sb_12  {sC sM : Sg} (hR : RelB sC sM) : OQ (f_X11_purse  sC) (fun rC sC2 => OQ (f_X12_purse  sM) (fun rM sM2 => RelB sC2 sM2)) := oq_w (h_X11_purse  hR.1.1) (fun rC sC2 gC => oq_w (h_X12_purse  hR.2.1) (fun rM sM2 gM => ⟨⟨gC.1.1, inv_t hR.1.2 gC.1.2 rfl⟩, gM.1.1, invM_t hR.2.1 hR.2.2 gM.1.2 rfl⟩))
theorem sb_13 (a0 : Int32) (a1 : Int32) {sC sM : Sg} (hR : RelB sC sM) : OQ (f_X11_step a0 a1 sC) (fun rC sC2 => OQ (f_X12_step a0 a1 sM) (fun rM sM2 => RelB sC2 sM2)) := oq_w (h_X11_step a0 a1 hR.1.1) (fun rC sC2 gC => oq_w (h_X12_step a0 a1 hR.2.1) (fun rM sM2 gM => ⟨⟨gC.1.1, inv_t hR.1.2 gC.1.2 rfl⟩, gM.1.1, invM_t hR.2.1 hR.2.2 gM.1.2 rfl⟩))
theorem sb_14 (a0 : Int32) (a1 : Int32) {sC sM : Sg} (hR : RelB sC sM) : OQ (f_X11_quarrel a0 a1 sC) (fun rC sC2 => OQ (f_X12_quarrel a0 a1 sM) (fun rM sM2 => RelB sC2 sM2)) := oq_w (h_X11_quarrel a0 a1 hR.1.1) (fun rC sC2 gC => oq_w (h_X12_quarrel a0 a1 hR.2.1) (fun rM sM2 gM => ⟨⟨gC.1.1, inv_t hR.1.2 gC.1.2 rfl⟩, gM.1.1, invM_t hR.2.1 hR.2.2 gM.1.2 rfl⟩))
theorem sb_15 (a0 : Int32) (a1 : Int32) {sC sM : Sg} (hR : RelB sC sM) : OQ (f_X11_grocer a0 a1 sC) (fun rC sC2 => OQ (f_X12_grocer a0 a1 sM) (fun rM sM2 => RelB sC2 sM2)) := oq_w (h_X11_grocer a0 a1 hR.1.1) (fun rC sC2 gC => oq_w (h_X12_grocer a0 a1 hR.2.1) (fun rM sM2 gM => ⟨⟨gC.1.1, inv_t hR.1.2 gC.1.2 rfl⟩, gM.1.1, invM_t hR.2.1 hR.2.2 gM.1.2 rfl⟩))
theorem sb_16 (a0 : Int32) (a1 : Int32) {sC sM : Sg} (hR : RelB sC sM) : OQ (f_X11_share a0 a1 sC) (fun rC sC2 => OQ (f_X12_share a0 a1 sM) (fun rM sM2 => RelB sC2 sM2)) := oq_w (h_X11_share a0 a1 hR.1.1) (fun rC sC2 gC => oq_w (h_X12_share a0 a1 hR.2.1) (fun rM sM2 gM => ⟨⟨gC.1.1, inv_t hR.1.2 gC.1.2 rfl⟩, gM.1.1, invM_t hR.2.1 hR.2.2 gM.1.2 rfl⟩))
theorem sb_17 (a0 : Int32) (a1 : Int32) {sC sM : Sg} (hR : RelB sC sM) : OQ (f_X11_whose a0 a1 sC) (fun rC sC2 => OQ (f_X12_whose a0 a1 sM) (fun rM sM2 => RelB sC2 sM2)) := oq_w (h_X11_whose a0 a1 hR.1.1) (fun rC sC2 gC => oq_w (h_X12_whose a0 a1 hR.2.1) (fun rM sM2 gM => ⟨⟨gC.1.1, inv_t hR.1.2 gC.1.2 rfl⟩, gM.1.1, invM_t hR.2.1 hR.2.2 gM.1.2 rfl⟩))
theorem sb_18 (a0 : Int32) {sC sM : Sg} (hR : RelB sC sM) : OQ (f_X11_nobodys a0 sC) (fun rC sC2 => OQ (f_X12_nobodys a0 sM) (fun rM sM2 => RelB sC2 sM2)) := oq_w (h_X11_nobodys a0 hR.1.1) (fun rC sC2 gC => oq_w (h_X12_nobodys a0 hR.2.1) (fun rM sM2 gM => ⟨⟨gC.1.1, inv_t hR.1.2 gC.1.2 rfl⟩, gM.1.1, invM_t hR.2.1 hR.2.2 gM.1.2 rfl⟩))
set_option maxRecDepth 20000 in
theorem sb_19  {sC sM : Sg} (hR : RelB sC sM) : OQ (f_X11_peace  sC) (fun rC sC2 => OQ (f_X12_peace  sM) (fun rM sM2 => RelB sC2 sM2)) := oq_w (h_X11_peace  hR.1.1) (fun rC sC2 gC => oq_w (h_X12_peace  hR.2.1) (fun rM sM2 gM => ⟨⟨gC.1.1, inv_t hR.1.2 gC.1.2 rfl⟩, gM.1.1, invM_t hR.2.1 hR.2.2 gM.1.2 rfl⟩))
set_option maxRecDepth 20000 in
theorem sb_20  {sC sM : Sg} (hR : RelB sC sM) : OQ (f_X11_truce  sC) (fun rC sC2 => OQ (f_X12_truce  sM) (fun rM sM2 => RelB sC2 sM2)) := oq_w (h_X11_truce  hR.1.1) (fun rC sC2 gC => oq_w (h_X12_truce  hR.2.1) (fun rM sM2 gM => ⟨⟨gC.1.1, inv_t hR.1.2 gC.1.2 rfl⟩, gM.1.1, invM_t hR.2.1 hR.2.2 gM.1.2 rfl⟩))
set_option maxRecDepth 20000 in
theorem sb_21  {sC sM : Sg} (hR : RelB sC sM) : OQ (f_X11_over  sC) (fun rC sC2 => OQ (f_X12_over  sM) (fun rM sM2 => RelB sC2 sM2)) := oq_w (h_X11_over  hR.1.1) (fun rC sC2 gC => oq_w (h_X12_over  hR.2.1) (fun rM sM2 gM => ⟨⟨gC.1.1, inv_t hR.1.2 gC.1.2 rfl⟩, gM.1.1, invM_t hR.2.1 hR.2.2 gM.1.2 rfl⟩))
set_option maxRecDepth 20000 in
theorem sb_22  {sC sM : Sg} (hR : RelB sC sM) : OQ (f_X11_hopeless  sC) (fun rC sC2 => OQ (f_X12_hopeless  sM) (fun rM sM2 => RelB sC2 sM2)) := oq_w (h_X11_hopeless  hR.1.1) (fun rC sC2 gC => oq_w (h_X12_hopeless  hR.2.1) (fun rM sM2 gM => ⟨⟨gC.1.1, inv_t hR.1.2 gC.1.2 rfl⟩, gM.1.1, invM_t hR.2.1 hR.2.2 gM.1.2 rfl⟩))
theorem sb_23 (a0 : Int32) (a1 : Int32) {sC sM : Sg} (hR : RelB sC sM) : OQ (f_X11_strew a0 a1 sC) (fun rC sC2 => OQ (f_X12_strew a0 a1 sM) (fun rM sM2 => RelB sC2 sM2)) := oq_w (h_X11_strew a0 a1 hR.1.1) (fun rC sC2 gC => oq_w (h_X12_strew a0 a1 hR.2.1) (fun rM sM2 gM => ⟨⟨gC.1.1, inv_t hR.1.2 gC.1.2 rfl⟩, gM.1.1, invM_t hR.2.1 hR.2.2 gM.1.2 rfl⟩))
theorem sb_24 (a0 : Int32) (a1 : Int32) (a2 : Int32) {sC sM : Sg} (hR : RelB sC sM) : OQ (f_X11_buy a0 a1 a2 sC) (fun rC sC2 => OQ (f_X12_buy a0 a1 a2 sM) (fun rM sM2 => RelB sC2 sM2)) := oq_w (h_X11_buy a0 a1 a2 hR.1.1) (fun rC sC2 gC => oq_w (h_X12_buy a0 a1 a2 hR.2.1) (fun rM sM2 gM => ⟨⟨gC.1.1, inv_t hR.1.2 gC.1.2 rfl⟩, gM.1.1, invM_t hR.2.1 hR.2.2 gM.1.2 rfl⟩))
theorem sb_25 (a0 : Int32) {sC sM : Sg} (hR : RelB sC sM) : OQ (f_X11_sweep a0 sC) (fun rC sC2 => OQ (f_X12_sweep a0 sM) (fun rM sM2 => RelB sC2 sM2)) := oq_w (h_X11_sweep a0 hR.1.1) (fun rC sC2 gC => oq_w (h_X12_sweep a0 hR.2.1) (fun rM sM2 gM => ⟨⟨gC.1.1, inv_t hR.1.2 gC.1.2 rfl⟩, gM.1.1, invM_t hR.2.1 hR.2.2 gM.1.2 rfl⟩))
theorem sb_26 (a0 : Int32) (a1 : Int32) (a2 : Int32) {sC sM : Sg} (hR : RelB sC sM) : OQ (f_X11_shovel a0 a1 a2 sC) (fun rC sC2 => OQ (f_X12_shovel a0 a1 a2 sM) (fun rM sM2 => RelB sC2 sM2)) := oq_w (h_X11_shovel a0 a1 a2 hR.1.1) (fun rC sC2 gC => oq_w (h_X12_shovel a0 a1 a2 hR.2.1) (fun rM sM2 gM => ⟨⟨gC.1.1, inv_t hR.1.2 gC.1.2 rfl⟩, gM.1.1, invM_t hR.2.1 hR.2.2 gM.1.2 rfl⟩))
set_option maxRecDepth 20000 in
theorem sb_27  {sC sM : Sg} (hR : RelB sC sM) : OQ (f_X11_rain  sC) (fun rC sC2 => OQ (f_X12_rain  sM) (fun rM sM2 => RelB sC2 sM2)) := oq_w (h_X11_rain  hR.1.1) (fun rC sC2 gC => oq_w (h_X12_rain  hR.2.1) (fun rM sM2 gM => ⟨⟨gC.1.1, inv_t hR.1.2 gC.1.2 rfl⟩, gM.1.1, invM_t hR.2.1 hR.2.2 gM.1.2 rfl⟩))
theorem sb_28 (a0 : Int32) {sC sM : Sg} (hR : RelB sC sM) : OQ (f_X11_snow a0 sC) (fun rC sC2 => OQ (f_X12_snow a0 sM) (fun rM sM2 => RelB sC2 sM2)) := oq_w (h_X11_snow a0 hR.1.1) (fun rC sC2 gC => oq_w (h_X12_snow a0 hR.2.1) (fun rM sM2 gM => ⟨⟨gC.1.1, inv_t hR.1.2 gC.1.2 rfl⟩, gM.1.1, invM_t hR.2.1 hR.2.2 gM.1.2 rfl⟩))
set_option maxRecDepth 20000 in
theorem sb_29  {sC sM : Sg} (hR : RelB sC sM) : OQ (f_X11_night  sC) (fun rC sC2 => OQ (f_X12_night  sM) (fun rM sM2 => RelB sC2 sM2)) := oq_w (h_X11_night  hR.1.1) (fun rC sC2 gC => oq_w (h_X12_night  hR.2.1) (fun rM sM2 gM => ⟨⟨gC.1.1, inv_t hR.1.2 gC.1.2 rfl⟩, gM.1.1, invM_t hR.2.1 hR.2.2 gM.1.2 rfl⟩))
theorem sb_30 (a0 : Int32) (a1 : Int32) {sC sM : Sg} (hR : RelB sC sM) : OQ (f_X11_cat a0 a1 sC) (fun rC sC2 => OQ (f_X12_cat a0 a1 sM) (fun rM sM2 => RelB sC2 sM2)) := oq_w (h_X11_cat a0 a1 hR.1.1) (fun rC sC2 gC => oq_w (h_X12_cat a0 a1 hR.2.1) (fun rM sM2 gM => ⟨⟨gC.1.1, inv_t hR.1.2 gC.1.2 rfl⟩, gM.1.1, invM_t hR.2.1 hR.2.2 gM.1.2 rfl⟩))
theorem sb_31 (a0 : Int32) {sC sM : Sg} (hR : RelB sC sM) : OQ (f_X11_reaches a0 sC) (fun rC sC2 => OQ (f_X12_reaches a0 sM) (fun rM sM2 => RelB sC2 sM2)) := oq_w (h_X11_reaches a0 hR.1.1) (fun rC sC2 gC => oq_w (h_X12_reaches a0 hR.2.1) (fun rM sM2 gM => ⟨⟨gC.1.1, inv_t hR.1.2 gC.1.2 rfl⟩, gM.1.1, invM_t hR.2.1 hR.2.2 gM.1.2 rfl⟩))
theorem sb_32 (a0 : Int32) {sC sM : Sg} (hR : RelB sC sM) : OQ (f_X11_chain a0 sC) (fun rC sC2 => OQ (f_X12_chain a0 sM) (fun rM sM2 => RelB sC2 sM2)) := oq_w (h_X11_chain a0 hR.1.1) (fun rC sC2 gC => oq_w (h_X12_chain a0 hR.2.1) (fun rM sM2 gM => ⟨⟨gC.1.1, inv_t hR.1.2 gC.1.2 rfl⟩, gM.1.1, invM_t hR.2.1 hR.2.2 gM.1.2 rfl⟩))
theorem sb_33 (a0 : Int32) (a1 : Int32) (a2 : Int32) {sC sM : Sg} (hR : RelB sC sM) : OQ (f_X11_forecast a0 a1 a2 sC) (fun rC sC2 => OQ (f_X12_forecast a0 a1 a2 sM) (fun rM sM2 => RelB sC2 sM2)) := oq_w (h_X11_forecast a0 a1 a2 hR.1.1) (fun rC sC2 gC => oq_w (h_X12_forecast a0 a1 a2 hR.2.1) (fun rM sM2 gM => ⟨⟨gC.1.1, inv_t hR.1.2 gC.1.2 rfl⟩, gM.1.1, invM_1 hR.2.1 hR.2.2 gM.1.2 rfl (Int32.toInt_inj.mp gM.2.1.2)⟩))
theorem sb_34 (a0 : Int32) {sC sM : Sg} (hR : RelB sC sM) : OQ (f_X11_soonest a0 sC) (fun rC sC2 => OQ (f_X12_soonest a0 sM) (fun rM sM2 => RelB sC2 sM2)) := oq_w (h_X11_soonest a0 hR.1.1) (fun rC sC2 gC => oq_w (h_X12_soonest a0 hR.2.1) (fun rM sM2 gM => ⟨⟨gC.1.1, inv_t hR.1.2 gC.1.2 rfl⟩, gM.1.1, invM_1 hR.2.1 hR.2.2 gM.1.2 rfl (Int32.toInt_inj.mp gM.2.1.2)⟩))
set_option maxRecDepth 20000 in
theorem sb_35  {sC sM : Sg} (hR : RelB sC sM) : OQ (f_X11_longest  sC) (fun rC sC2 => OQ (f_X12_longest  sM) (fun rM sM2 => RelB sC2 sM2)) := oq_w (h_X11_longest  hR.1.1) (fun rC sC2 gC => oq_w (h_X12_longest  hR.2.1) (fun rM sM2 gM => ⟨⟨gC.1.1, inv_t hR.1.2 gC.1.2 rfl⟩, gM.1.1, invM_t hR.2.1 hR.2.2 gM.1.2 rfl⟩))
set_option maxRecDepth 20000 in
theorem sb_36  {sC sM : Sg} (hR : RelB sC sM) : OQ (f_X11_fullest  sC) (fun rC sC2 => OQ (f_X12_fullest  sM) (fun rM sM2 => RelB sC2 sM2)) := oq_w (h_X11_fullest  hR.1.1) (fun rC sC2 gC => oq_w (h_X12_fullest  hR.2.1) (fun rM sM2 gM => ⟨⟨gC.1.1, inv_t hR.1.2 gC.1.2 rfl⟩, gM.1.1, invM_t hR.2.1 hR.2.2 gM.1.2 rfl⟩))
theorem sb_37 (a0 : Int32) {sC sM : Sg} (hR : RelB sC sM) : OQ (f_X11_best a0 sC) (fun rC sC2 => OQ (f_X12_best a0 sM) (fun rM sM2 => RelB sC2 sM2)) := oq_w (h_X11_best a0 hR.1.1) (fun rC sC2 gC => oq_w (h_X12_best a0 hR.2.1) (fun rM sM2 gM => ⟨⟨gC.1.1, inv_t hR.1.2 gC.1.2 rfl⟩, gM.1.1, invM_t hR.2.1 hR.2.2 gM.1.2 rfl⟩))
set_option maxRecDepth 20000 in
theorem sb_38  {sC sM : Sg} (hR : RelB sC sM) : OQ (f_X11_closest  sC) (fun rC sC2 => OQ (f_X12_closest  sM) (fun rM sM2 => RelB sC2 sM2)) := oq_w (h_X11_closest  hR.1.1) (fun rC sC2 gC => oq_w (h_X12_closest  hR.2.1) (fun rM sM2 gM => ⟨⟨gC.1.1, inv_t hR.1.2 gC.1.2 rfl⟩, gM.1.1, invM_t hR.2.1 hR.2.2 gM.1.2 rfl⟩))
set_option maxRecDepth 20000 in
theorem sb_39  {sC sM : Sg} (hR : RelB sC sM) : OQ (f_X11_level  sC) (fun rC sC2 => OQ (f_X12_level  sM) (fun rM sM2 => RelB sC2 sM2)) := oq_w (h_X11_level  hR.1.1) (fun rC sC2 gC => oq_w (h_X12_level  hR.2.1) (fun rM sM2 gM => ⟨⟨gC.1.1, inv_t hR.1.2 gC.1.2 rfl⟩, gM.1.1, invM_t hR.2.1 hR.2.2 gM.1.2 rfl⟩))
theorem sb_40 (a0 : Int32) {sC sM : Sg} (hR : RelB sC sM) : OQ (f_X11_thaw a0 sC) (fun rC sC2 => OQ (f_X12_thaw a0 sM) (fun rM sM2 => RelB sC2 sM2)) := oq_w (h_X11_thaw a0 hR.1.1) (fun rC sC2 gC => oq_w (h_X12_thaw a0 hR.2.1) (fun rM sM2 gM => ⟨⟨gC.1.1, inv_t hR.1.2 gC.1.2 rfl⟩, gM.1.1, invM_1 hR.2.1 hR.2.2 gM.1.2 rfl (Int32.toInt_inj.mp gM.2.1.2)⟩))
set_option maxRecDepth 20000 in
theorem sb_41  {sC sM : Sg} (hR : RelB sC sM) : OQ (f_X11_thawAll  sC) (fun rC sC2 => OQ (f_X12_thawAll  sM) (fun rM sM2 => RelB sC2 sM2)) := oq_w (h_X11_thawAll  hR.1.1) (fun rC sC2 gC => oq_w (h_X12_thawAll  hR.2.1) (fun rM sM2 gM => ⟨⟨gC.1.1, inv_t hR.1.2 gC.1.2 rfl⟩, gM.1.1, invM_1 hR.2.1 hR.2.2 gM.1.2 rfl (Int32.toInt_inj.mp gM.2.1.2)⟩))
theorem sb_42 (a0 : Int32) {sC sM : Sg} (hR : RelB sC sM) : OQ (f_X11_wants a0 sC) (fun rC sC2 => OQ (f_X12_wants a0 sM) (fun rM sM2 => RelB sC2 sM2)) := oq_w (h_X11_wants a0 hR.1.1) (fun rC sC2 gC => oq_w (h_X12_wants a0 hR.2.1) (fun rM sM2 gM => ⟨⟨gC.1.1, inv_t hR.1.2 gC.1.2 rfl⟩, gM.1.1, invM_t hR.2.1 hR.2.2 gM.1.2 rfl⟩))
set_option maxRecDepth 20000 in
theorem sb_43  {sC sM : Sg} (hR : RelB sC sM) : OQ (f_X11_cliff  sC) (fun rC sC2 => OQ (f_X12_cliff  sM) (fun rM sM2 => RelB sC2 sM2)) := oq_w (h_X11_cliff  hR.1.1) (fun rC sC2 gC => oq_w (h_X12_cliff  hR.2.1) (fun rM sM2 gM => ⟨⟨gC.1.1, inv_t hR.1.2 gC.1.2 rfl⟩, gM.1.1, invM_t hR.2.1 hR.2.2 gM.1.2 rfl⟩))
theorem sb_44 (a0 : Int32) {sC sM : Sg} (hR : RelB sC sM) : OQ (f_X11_steps a0 sC) (fun rC sC2 => OQ (f_X12_steps a0 sM) (fun rM sM2 => RelB sC2 sM2)) := oq_w (h_X11_steps a0 hR.1.1) (fun rC sC2 gC => oq_w (h_X12_steps a0 hR.2.1) (fun rM sM2 gM => ⟨⟨gC.1.1, inv_t hR.1.2 gC.1.2 rfl⟩, gM.1.1, invM_t hR.2.1 hR.2.2 gM.1.2 rfl⟩))
theorem sb_45 (a0 : Int32) {sC sM : Sg} (hR : RelB sC sM) : OQ (f_X11_value a0 sC) (fun rC sC2 => OQ (f_X12_value a0 sM) (fun rM sM2 => RelB sC2 sM2)) := oq_w (h_X11_value a0 hR.1.1) (fun rC sC2 gC => oq_w (h_X12_value a0 hR.2.1) (fun rM sM2 gM => ⟨⟨gC.1.1, inv_t hR.1.2 gC.1.2 rfl⟩, gM.1.1, invM_t hR.2.1 hR.2.2 gM.1.2 rfl⟩))
theorem sb_46 (a0 : Int32) {sC sM : Sg} (hR : RelB sC sM) : OQ (f_X11_beside a0 sC) (fun rC sC2 => OQ (f_X12_beside a0 sM) (fun rM sM2 => RelB sC2 sM2)) := oq_w (h_X11_beside a0 hR.1.1) (fun rC sC2 gC => oq_w (h_X12_beside a0 hR.2.1) (fun rM sM2 gM => ⟨⟨gC.1.1, inv_t hR.1.2 gC.1.2 rfl⟩, gM.1.1, invM_t hR.2.1 hR.2.2 gM.1.2 rfl⟩))
set_option maxRecDepth 20000 in
theorem sb_47  {sC sM : Sg} (hR : RelB sC sM) : OQ (f_X11_ghosts  sC) (fun rC sC2 => OQ (f_X12_ghosts  sM) (fun rM sM2 => RelB sC2 sM2)) := oq_w (h_X11_ghosts  hR.1.1) (fun rC sC2 gC => oq_w (h_X12_ghosts  hR.2.1) (fun rM sM2 gM => ⟨⟨gC.1.1, inv_t hR.1.2 gC.1.2 rfl⟩, gM.1.1, invM_t hR.2.1 hR.2.2 gM.1.2 rfl⟩))
set_option maxRecDepth 20000 in
theorem sb_48  {sC sM : Sg} (hR : RelB sC sM) : OQ (f_X11_most  sC) (fun rC sC2 => OQ (f_X12_most  sM) (fun rM sM2 => RelB sC2 sM2)) := oq_w (h_X11_most  hR.1.1) (fun rC sC2 gC => oq_w (h_X12_most  hR.2.1) (fun rM sM2 gM => ⟨⟨gC.1.1, inv_t hR.1.2 gC.1.2 rfl⟩, gM.1.1, invM_t hR.2.1 hR.2.2 gM.1.2 rfl⟩))
theorem sb_49 (a0 : Int32) {sC sM : Sg} (hR : RelB sC sM) : OQ (f_X11_lack a0 sC) (fun rC sC2 => OQ (f_X12_lack a0 sM) (fun rM sM2 => RelB sC2 sM2)) := oq_w (h_X11_lack a0 hR.1.1) (fun rC sC2 gC => oq_w (h_X12_lack a0 hR.2.1) (fun rM sM2 gM => ⟨⟨gC.1.1, inv_t hR.1.2 gC.1.2 rfl⟩, gM.1.1, invM_t hR.2.1 hR.2.2 gM.1.2 rfl⟩))
theorem sb_50 (a0 : Int32) (a1 : Int32) {sC sM : Sg} (hR : RelB sC sM) : OQ (f_X11_lackAt a0 a1 sC) (fun rC sC2 => OQ (f_X12_lackAt a0 a1 sM) (fun rM sM2 => RelB sC2 sM2)) := oq_w (h_X11_lackAt a0 a1 hR.1.1) (fun rC sC2 gC => oq_w (h_X12_lackAt a0 a1 hR.2.1) (fun rM sM2 gM => ⟨⟨gC.1.1, inv_t hR.1.2 gC.1.2 rfl⟩, gM.1.1, invM_t hR.2.1 hR.2.2 gM.1.2 rfl⟩))
theorem sb_51 (a0 : Int32) {sC sM : Sg} (hR : RelB sC sM) : OQ (f_X11_freed a0 sC) (fun rC sC2 => OQ (f_X12_freed a0 sM) (fun rM sM2 => RelB sC2 sM2)) := oq_w (h_X11_freed a0 hR.1.1) (fun rC sC2 gC => oq_w (h_X12_freed a0 hR.2.1) (fun rM sM2 gM => ⟨⟨gC.1.1, inv_t hR.1.2 gC.1.2 rfl⟩, gM.1.1, invM_t hR.2.1 hR.2.2 gM.1.2 rfl⟩))
theorem sb_52 (a0 : Int32) {sC sM : Sg} (hR : RelB sC sM) : OQ (f_X11_cost a0 sC) (fun rC sC2 => OQ (f_X12_cost a0 sM) (fun rM sM2 => RelB sC2 sM2)) := oq_w (h_X11_cost a0 hR.1.1) (fun rC sC2 gC => oq_w (h_X12_cost a0 hR.2.1) (fun rM sM2 gM => ⟨⟨gC.1.1, inv_t hR.1.2 gC.1.2 rfl⟩, gM.1.1, invM_t hR.2.1 hR.2.2 gM.1.2 rfl⟩))
theorem sb_53 (a0 : Int32) {sC sM : Sg} (hR : RelB sC sM) : OQ (f_X11_dearest a0 sC) (fun rC sC2 => OQ (f_X12_dearest a0 sM) (fun rM sM2 => RelB sC2 sM2)) := oq_w (h_X11_dearest a0 hR.1.1) (fun rC sC2 gC => oq_w (h_X12_dearest a0 hR.2.1) (fun rM sM2 gM => ⟨⟨gC.1.1, inv_t hR.1.2 gC.1.2 rfl⟩, gM.1.1, invM_t hR.2.1 hR.2.2 gM.1.2 rfl⟩))
theorem sb_54 (a0 : Int32) (a1 : Int32) (a2 : Int32) {sC sM : Sg} (hR : RelB sC sM) : OQ (f_X11_quiet a0 a1 a2 sC) (fun rC sC2 => OQ (f_X12_quiet a0 a1 a2 sM) (fun rM sM2 => RelB sC2 sM2)) := oq_w (h_X11_quiet a0 a1 a2 hR.1.1) (fun rC sC2 gC => oq_w (h_X12_quiet a0 a1 a2 hR.2.1) (fun rM sM2 gM => ⟨⟨gC.1.1, inv_t hR.1.2 gC.1.2 rfl⟩, gM.1.1, invM_t hR.2.1 hR.2.2 gM.1.2 rfl⟩))
theorem sb_55 (a0 : Int32) (a1 : Int32) {sC sM : Sg} (hR : RelB sC sM) : OQ (f_X11_who a0 a1 sC) (fun rC sC2 => OQ (f_X12_who a0 a1 sM) (fun rM sM2 => RelB sC2 sM2)) := oq_w (h_X11_who a0 a1 hR.1.1) (fun rC sC2 gC => oq_w (h_X12_who a0 a1 hR.2.1) (fun rM sM2 gM => ⟨⟨gC.1.1, inv_t hR.1.2 gC.1.2 rfl⟩, gM.1.1, invM_t hR.2.1 hR.2.2 gM.1.2 rfl⟩))
theorem sb_56 (a0 : Int32) (a1 : Int32) {sC sM : Sg} (hR : RelB sC sM) : OQ (f_X11_found a0 a1 sC) (fun rC sC2 => OQ (f_X12_found a0 a1 sM) (fun rM sM2 => RelB sC2 sM2)) := oq_w (h_X11_found a0 a1 hR.1.1) (fun rC sC2 gC => oq_w (h_X12_found a0 a1 hR.2.1) (fun rM sM2 gM => ⟨⟨gC.1.1, inv_t hR.1.2 gC.1.2 rfl⟩, gM.1.1, invM_t hR.2.1 hR.2.2 gM.1.2 rfl⟩))
theorem sb_57 (a0 : Int32) {sC sM : Sg} (hR : RelB sC sM) : OQ (f_X11_live a0 sC) (fun rC sC2 => OQ (f_X12_live a0 sM) (fun rM sM2 => RelB sC2 sM2)) := oq_w (h_X11_live a0 hR.1.1 hR.1.2.1.2) (fun rC sC2 gC => oq_w (h_X12_live a0 hR.2.1 (rowB_0 (hR.2.2 0 (m35 hR.2.1)))) (fun rM sM2 gM => ⟨⟨gC.1.1, inv_t hR.1.2 gC.1.2 rfl⟩, gM.1.1, invM_t hR.2.1 hR.2.2 gM.1.2 rfl⟩))
theorem sb_58 (a0 : Int32) {sC sM : Sg} (hR : RelB sC sM) : OQ (f_X11_lived a0 sC) (fun rC sC2 => OQ (f_X12_lived a0 sM) (fun rM sM2 => RelB sC2 sM2)) := oq_w (h_X11_lived a0 hR.1.1) (fun rC sC2 gC => oq_w (h_X12_lived a0 hR.2.1) (fun rM sM2 gM => ⟨⟨gC.1.1, inv_t hR.1.2 gC.1.2 rfl⟩, gM.1.1, invM_t hR.2.1 hR.2.2 gM.1.2 rfl⟩))
theorem sb_59 (a0 : Int32) (a1 : Int32) (a2 : Int32) {sC sM : Sg} (hR : RelB sC sM) : OQ (f_X11_odds a0 a1 a2 sC) (fun rC sC2 => OQ (f_X12_odds a0 a1 a2 sM) (fun rM sM2 => RelB sC2 sM2)) := oq_w (h_X11_odds a0 a1 a2 hR.1.1 hR.1.2.1.2) (fun rC sC2 gC => oq_w (h_X12_odds a0 a1 a2 hR.2.1 (rowB_0 (hR.2.2 0 (m35 hR.2.1)))) (fun rM sM2 gM => ⟨⟨gC.1.1, inv_t hR.1.2 gC.1.2 rfl⟩, gM.1.1, invM_1 hR.2.1 hR.2.2 gM.1.2 rfl (Int32.toInt_inj.mp gM.2.1.2)⟩))
set_option maxRecDepth 20000 in
theorem sb_60  {sC sM : Sg} (hR : RelB sC sM) : OQ (f_X11_mark  sC) (fun rC sC2 => OQ (f_X12_mark  sM) (fun rM sM2 => RelB sC2 sM2)) := oq_w (oq_p (h_X11_mark hR.1.1) (mark_c hR.1.1 hR.1.2)) (fun rC sC2 gC => oq_w (oq_p (h_X12_mark hR.2.1) (mark_p hR.2.1 hR.2.2)) (fun rM sM2 gM => ⟨⟨gC.1.1.1, gC.2⟩, gM.1.1.1, gM.2⟩))
set_option maxRecDepth 20000 in
theorem sb_61  {sC sM : Sg} (hR : RelB sC sM) : OQ (f_X11_back  sC) (fun rC sC2 => OQ (f_X12_back  sM) (fun rM sM2 => RelB sC2 sM2)) := oq_w (oq_p (h_X11_back hR.1.1) (back_c hR.1.1 hR.1.2)) (fun rC sC2 gC => oq_w (oq_p (h_X12_back hR.2.1) (back_p hR.2.1 hR.2.2)) (fun rM sM2 gM => ⟨⟨gC.1.1.1, gC.2⟩, gM.1.1.1, gM.2⟩))
