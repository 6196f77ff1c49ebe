abbrev LT67 : Nat := 442721857769029238784
abbrev LNW : Nat := 6427752177035961102167848369364650410088812227332750473953280
theorem b200 {L : Nat} (h : L < 2 ^ 190) (k : Nat) : L.testBit (190 + k) = false := Nat.testBit_lt_two_pow (Nat.lt_of_lt_of_le h (Nat.pow_le_pow_right (by decide) (Nat.le_add_right 190 k)))
/-! texts: the plan that grows, a new name -/
def bitI (q : Nat) : Int32 := (1 : Int32) <<< ((Int32.ofNat q) &&& 31)
def qat (on ot : Nat → Int32) : Nat → Nat → Int32
  | 0, _ => 0
  | q + 1, h => if (on q).toInt = (h : Int) ∨ (ot q).toInt = (h : Int) then qat on ot q h ||| bitI q else qat on ot q h
def PlanA (d : Int) (pf on ot ne qa fr to ta pr sw M : Nat → Int32) : Prop := ((pf 13).toInt = (M 0).toInt + d ∧ pf 14 = M 1 ∧ pf 15 = M 2 ∧ pf 16 = M 3) ∧ ((0 ≤ (M 0).toInt ∧ (M 0).toInt ≤ 8) ∧ (0 ≤ (M 1).toInt ∧ (M 1).toInt ≤ 8) ∧ (0 ≤ (M 2).toInt ∧ (M 2).toInt ≤ 4) ∧ (0 ≤ (M 3).toInt ∧ (M 3).toInt ≤ 4)) ∧ (pf 17 = M 9 ∧ pf 18 = M 13 ∧ pf 19 = M 14) ∧ (∀ q : Nat, (q : Int) < (M 1).toInt → (on q = M (40 + 5 * q) ∧ ot q = M (41 + 5 * q) ∧ ne q = M (42 + 5 * q)) ∧ (0 ≤ (on q).toInt ∧ (on q).toInt < (M 0).toInt) ∧ (0 ≤ (ot q).toInt ∧ (ot q).toInt < (M 0).toInt) ∧ ¬ on q = ot q) ∧ (∀ h : Nat, h < 8 → qa h = qat on ot (M 1).toInt.toNat h) ∧ (∀ c : Nat, (c : Int) < (M 2).toInt → (fr c = M (80 + 3 * c) ∧ to c = M (81 + 3 * c) ∧ ta c = M (82 + 3 * c)) ∧ (0 ≤ (fr c).toInt ∧ (fr c).toInt < (M 0).toInt) ∧ (0 ≤ (to c).toInt ∧ (to c).toInt < (M 0).toInt) ∧ ¬ fr c = to c) ∧ (∀ g : Nat, (g : Int) < (M 3).toInt → pr g = M (93 + 3 * g) ∧ sw g = M (94 + 3 * g))
def mN (sM : Sg) : Nat → Int32 := fun k => sM.1 1 (1920 + k)
def PlanS (d : Int) (sC sM : Sg) : Prop := PlanA d (sC.1 52) (sC.1 58) (sC.1 59) (sC.1 60) (sC.1 61) (sC.1 62) (sC.1 63) (sC.1 64) (sC.1 65) (sC.1 66) (mN sM)
def GrA (sa su sn wa st gf M : Nat → Int32) : Prop := (∀ h : Nat, h < 8 → sa h = M (16 + 3 * h) ∧ su h = M (17 + 3 * h) ∧ sn h = 0 ∧ M (18 + 3 * h) = 0) ∧ (∀ g : Nat, g < 4 → st g = M (92 + 3 * g)) ∧ (∀ q : Nat, q < 8 → wa q = 0 ∧ M (43 + 5 * q) = 0 ∧ M (44 + 5 * q) = 0) ∧ (∀ k : Nat, 5 ≤ k → k ≤ 12 → gf k = 0) ∧ (M 4 = 0 ∧ M 5 = 0 ∧ M 6 = 0 ∧ M 7 = 0 ∧ M 8 = 0 ∧ M 10 = 0 ∧ M 11 = -1 ∧ M 12 = 0) ∧ (∀ g : Nat, g < 4 → (M 3).toInt ≤ (g : Int) → M (94 + 3 * g) = 0)
def GrS (sC sM : Sg) : Prop := GrA (sC.1 67) (sC.1 68) (sC.1 69) (sC.1 70) (sC.1 71) (sC.1 53) (mN sM)
def cnN (sM : Sg) : Nat → Nat := fun q => if q < 4 then (sM.1 1 (1920 + q)).toInt.toNat else 0
theorem cn_e {s t : Sg} (h : ∀ k, k < 4 → t.1 1 (1920 + k) = s.1 1 (1920 + k)) : cnN t = cnN s := by
  funext q
  unfold cnN
  by_cases c : q < 4
  · rw [if_pos c, if_pos c, h q c]
  · rw [if_neg c, if_neg c]
def nmN (sM : Sg) : Nat → Int64 := fun p => sM.2 2 (96 + p)
def NmS (sC sM : Sg) : Prop := ∃ N : Nat, (sC.1 52 12).toInt = (N : Int) ∧ NmR (sC.2 55) (sC.1 56) (sC.1 57) N (nmN sM) (cnN sM)
/-- the newest name is not counted yet -/
def NmP (q : Nat) (sC sM : Sg) : Prop := ∃ (N : Nat) (b : Int64), (sC.1 52 12).toInt = (N : Int) + 1 ∧ N < 24 ∧ NmR (sC.2 55) (sC.1 56) (sC.1 57) N (nmN sM) (cnN sM) ∧ (sC.1 56 N = codN q ∧ (sC.1 57 N).toInt = (cnN sM q : Int)) ∧ (nmN sM (offN q + cnN sM q) = b ∧ NameR (sC.2 55 N) b) ∧ (∀ i, i < N → ¬ sC.2 55 i = sC.2 55 N) ∧ (cnN sM q < 8 ∧ (2 ≤ q → cnN sM q < 4))
def ToldS (sC sM : Sg) : Prop := (sM.1 0 20).toInt = (sC.1 8 3).toInt + 2 * (sC.1 8 4).toInt ∧ (sC.1 8 3 = 0 ∨ sC.1 8 3 = 1) ∧ (sC.1 8 4 = 0 ∨ sC.1 8 4 = 1)
def SB (n : Nat) (sC sM : Sg) : Prop := TkRel n sC sM ∧ sM.1 0 18 = 0 ∧ ToldS sC sM
/-- cells of the plan, names, grains, what was told: kept -/
def KpC (sC s : Sg) : Prop := (s.1 52 = sC.1 52 ∧ s.1 53 = sC.1 53 ∧ s.2 55 = sC.2 55 ∧ s.1 56 = sC.1 56 ∧ s.1 57 = sC.1 57 ∧ s.1 58 = sC.1 58 ∧ s.1 59 = sC.1 59 ∧ s.1 60 = sC.1 60 ∧ s.1 61 = sC.1 61 ∧ s.1 62 = sC.1 62 ∧ s.1 63 = sC.1 63 ∧ s.1 64 = sC.1 64) ∧ s.1 65 = sC.1 65 ∧ s.1 66 = sC.1 66 ∧ s.1 67 = sC.1 67 ∧ s.1 68 = sC.1 68 ∧ s.1 69 = sC.1 69 ∧ s.1 70 = sC.1 70 ∧ s.1 71 = sC.1 71 ∧ s.1 8 = sC.1 8
def KpS (sC sM s t : Sg) : Prop := KpC sC s ∧ t.1 1 = sM.1 1 ∧ t.2 2 = sM.2 2 ∧ t.1 0 20 = sM.1 0 20 ∧ t.1 0 18 = sM.1 0 18
theorem kc_of {sC s : Sg} (f : Fr cC LTD sC s) : KpC sC s := by
  exact ⟨⟨funext fun k => fr_e f 52 k (190 + k) rfl (b200 (by decide) k), funext fun k => fr_e f 53 k 53 rfl rfl, funext fun k => fr_e2 f 55 k 55 rfl rfl, funext fun k => fr_e f 56 k 56 rfl rfl, funext fun k => fr_e f 57 k 57 rfl rfl, funext fun k => fr_e f 58 k 58 rfl rfl, funext fun k => fr_e f 59 k 59 rfl rfl, funext fun k => fr_e f 60 k 60 rfl rfl, funext fun k => fr_e f 61 k 61 rfl rfl, funext fun k => fr_e f 62 k 62 rfl rfl, funext fun k => fr_e f 63 k 63 rfl rfl, funext fun k => fr_e f 64 k 64 rfl rfl⟩, funext fun k => fr_e f 65 k 65 rfl rfl, funext fun k => fr_e f 66 k 66 rfl rfl, funext fun k => fr_e f 67 k 67 rfl rfl, funext fun k => fr_e f 68 k 68 rfl rfl, funext fun k => fr_e f 69 k 69 rfl rfl, funext fun k => fr_e f 70 k 70 rfl rfl, funext fun k => fr_e f 71 k 71 rfl rfl, funext fun k => fr_e f 8 k 8 rfl rfl⟩
theorem kp_of {n : Nat} {sC sM s t : Sg} (w : StT n sC sM s t) : KpS sC sM s t := by
  have g := w.2.2.1
  exact ⟨kc_of (fr_up w.2.1 rfl), funext fun k => fr_e g 1 k 1 rfl rfl, funext fun k => fr_e2 g 2 k 2 rfl rfl, fr_e g 0 20 40 rfl rfl, fr_e g 0 18 38 rfl rfl⟩
theorem kp_pl {d : Int} {sC sM s t : Sg} (k : KpS sC sM s t) (h : PlanS d sC sM) : PlanS d s t := by
  obtain ⟨⟨⟨k1, k2, k3, k4, k5, k6, k7, k8, k9, k10, k11, k12⟩, k13, k14, k15, k16, k17, k18, k19, k20⟩, k21, k22, k23, k24⟩ := k
  unfold PlanS mN at h ⊢
  rw [k1, k6, k7, k8, k9, k10, k11, k12, k13, k14, k21]
  exact h
theorem kp_gr {sC sM s t : Sg} (k : KpS sC sM s t) (h : GrS sC sM) : GrS s t := by
  obtain ⟨⟨⟨k1, k2, k3, k4, k5, k6, k7, k8, k9, k10, k11, k12⟩, k13, k14, k15, k16, k17, k18, k19, k20⟩, k21, k22, k23, k24⟩ := k
  unfold GrS mN at h ⊢
  rw [k2, k15, k16, k17, k18, k19, k21]
  exact h
theorem kp_nm {sC sM s t : Sg} (k : KpS sC sM s t) (h : NmS sC sM) : NmS s t := by
  obtain ⟨⟨⟨k1, k2, k3, k4, k5, k6, k7, k8, k9, k10, k11, k12⟩, k13, k14, k15, k16, k17, k18, k19, k20⟩, k21, k22, k23, k24⟩ := k
  unfold NmS nmN cnN at h ⊢
  rw [k1, k3, k4, k5, k21, k22]
  exact h
theorem kp_np {q : Nat} {sC sM s t : Sg} (k : KpS sC sM s t) (h : NmP q sC sM) : NmP q s t := by
  obtain ⟨⟨⟨k1, k2, k3, k4, k5, k6, k7, k8, k9, k10, k11, k12⟩, k13, k14, k15, k16, k17, k18, k19, k20⟩, k21, k22, k23, k24⟩ := k
  unfold NmP nmN cnN at h ⊢
  rw [k1, k3, k4, k5, k21, k22]
  exact h
theorem kp_sb {n : Nat} {sC sM s t : Sg} (w : StT n sC sM s t) (h : SB n sC sM) : SB n s t := by
  obtain ⟨⟨⟨k1, k2, k3, k4, k5, k6, k7, k8, k9, k10, k11, k12⟩, k13, k14, k15, k16, k17, k18, k19, k20⟩, k21, k22, k23, k24⟩ := kp_of w
  refine ⟨w.1, k24.trans h.2.1, ?_⟩
  unfold ToldS
  rw [k20, k23]
  exact h.2.2
theorem fm_n {mm : Nat → Int64} {off many : Nat} {b : Int64} {r : Int32} (h : FndM mm off many b r) (e : r = -1) : ∀ k, k < many → ¬ mm (off + k) = b := by
  rcases h with ⟨k, h1, h2, h3⟩ | h
  · rw [e] at h3
    have em : (-1 : Int32).toInt = -1 := rfl
    omega
  · exact h.1
theorem fm_y {mm : Nat → Int64} {off many : Nat} {b : Int64} {r : Int32} (h : FndM mm off many b r) (e : ¬ r = -1) : ∃ k, k < many ∧ mm (off + k) = b := by
  rcases h with ⟨k, h1, h2, h3⟩ | h
  · exact ⟨k, h1, h2⟩
  · exact absurd h.2 e
/-- what stands behind a new name: pending, further on -/
def NwT (n q : Nat) (sC sM s t : Sg) : Prop := SB n s t ∧ NmP q s t ∧ PlanS 0 s t ∧ GrS s t ∧ (sC.1 7 2).toInt ≤ (s.1 7 4).toInt ∧ (t.1 1 = sM.1 1)
theorem new_r {n q : Nat} {sC sM : Sg} (hb : SB n sC sM) (hp : PlanS 0 sC sM) (hg : GrS sC sM) (hn : NmS sC sM) (hq : q < 4) (cc most many sort : Int32) (hc : cc = codN q) (hmo : most.toInt = if q < 2 then 8 else 4) (hi : (1920 + many).toNatClampNeg = 1920 + q) (hs : sort.toInt = (offN q : Int)) : RQ (f_X6_takeNew cc (sM.1 1 (1920 + q)) most sC) (f_X12_newOne many most sort sM) (Og (NwT n q sC sM)) := by
  have bd0 := hp.2.1
  have hM : ∀ k, mN sM k = sM.1 1 (1920 + k) := fun _ => rfl
  obtain ⟨N, hN, hR⟩ := hn
  have h0 := hb.2.1
  have c0 : cnN sM 0 = (sM.1 1 1920).toInt.toNat := rfl
  have c1 : cnN sM 1 = (sM.1 1 1921).toInt.toNat := rfl
  have c2 : cnN sM 2 = (sM.1 1 1922).toInt.toNat := rfl
  have c3 : cnN sM 3 = (sM.1 1 1923).toInt.toNat := rfl
  have b0 : 0 ≤ (sM.1 1 1920).toInt ∧ (sM.1 1 1920).toInt ≤ 8 := bd0.1
  have b1 : 0 ≤ (sM.1 1 1921).toInt ∧ (sM.1 1 1921).toInt ≤ 8 := bd0.2.1
  have b2 : 0 ≤ (sM.1 1 1922).toInt ∧ (sM.1 1 1922).toInt ≤ 4 := bd0.2.2.1
  have b3 : 0 ≤ (sM.1 1 1923).toInt ∧ (sM.1 1 1923).toInt ≤ 4 := bd0.2.2.2
  have hsum := hR.1
  have bq : 0 ≤ (sM.1 1 (1920 + q)).toInt ∧ (sM.1 1 (1920 + q)).toInt ≤ most.toInt ∧ cnN sM q = (sM.1 1 (1920 + q)).toInt.toNat := by
    have a : q = 0 ∨ q = 1 ∨ q = 2 ∨ q = 3 := by omega
    rcases a with a | a | a | a <;> subst a <;> rw [hmo]
    · exact ⟨b0.1, b0.2, rfl⟩
    · exact ⟨b1.1, b1.2, rfl⟩
    · exact ⟨b2.1, b2.2, rfl⟩
    · exact ⟨b3.1, b3.2, rfl⟩
  unfold f_X6_takeNew f_X12_newOne
  refine rq_cM (fun _ => ?_)
  rw [hi]
  refine rq_iC (fun c => rq_iM (fun d => ?_) (fun d => ?_)) (fun c => rq_iM (fun d => og_f hb.1 h0 6 (by decide)) (fun d => ?_))
  · have c := i_lt c
    have d := i_eq d
    omega
  · have c := i_lt c
    have hlt : cnN sM q < 8 ∧ (2 ≤ q → cnN sM q < 4) := by
      rw [bq.2.2]
      by_cases z : q < 2
      · rw [if_pos z] at hmo
        omega
      · rw [if_neg z] at hmo
        omega
    have hN24 : N < 24 := by
      have a : q = 0 ∨ q = 1 ∨ q = 2 ∨ q = 3 := by omega
      rcases a with a | a | a | a <;> subst a <;> simp at hlt hmo <;> omega
    refine rq_b2 (adv_s hb.1) (fun _ s2 _ t5 w => ?_)
    have kp := kp_of w
    have hb2 := kp_sb w hb
    have hp2 := kp_pl kp hp
    have hg2 := kp_gr kp hg
    have kk := kp
    obtain ⟨⟨⟨k1, k2, k3, k4, k5, k6, k7, k8, k9, k10, k11, k12⟩, k13, k14, k15, k16, k17, k18, k19, k20⟩, k21, k22, k23, k24⟩ := kk
    have hN2 : (s2.1 52 12).toInt = (N : Int) := by rw [k1]; exact hN
    have hR2 : NmR (s2.2 55) (s2.1 56) (s2.1 57) N (nmN t5) (cnN t5) := by
      unfold nmN cnN
      rw [k3, k4, k5, k21, k22]
      exact hR
    have eM : ∀ k, t5.1 1 k = sM.1 1 k := fun k => by rw [k21]
    have cn5 : cnN t5 = cnN sM := by unfold cnN; rw [k21]
    rw [cn5] at hR2
    refine rq_bM (name_r w.1) (fun r6 s7 g6 => ?_)
    obtain ⟨es, g6⟩ := g6
    subst es
    refine rq_iC (fun k => rq_iM (fun e => absurd k (r1_n g6 e)) (fun e => ?_)) (fun k => rq_iM (fun e => og_f w.1 hb2.2.1 2 (by decide)) (fun e => absurd (r1_y g6 e) k))
    obtain ⟨b, nab, hbn⟩ := here_r w.1 k
    have nn := none_e hR2 nab
    have f96 : ∀ k, s7.2 2 (96 + k) = nmN s7 (offN 0 + k) := fun k => by show _ = s7.2 2 (96 + (0 + k)); rw [Nat.zero_add]
    have f104 : ∀ k, s7.2 2 (104 + k) = nmN s7 (offN 1 + k) := fun k => by show _ = s7.2 2 (96 + (8 + k)); rw [← Nat.add_assoc]
    have f112 : ∀ k, s7.2 2 (112 + k) = nmN s7 (offN 2 + k) := fun k => by show _ = s7.2 2 (96 + (16 + k)); rw [← Nat.add_assoc]
    have f116 : ∀ k, s7.2 2 (116 + k) = nmN s7 (offN 3 + k) := fun k => by show _ = s7.2 2 (96 + (20 + k)); rw [← Nat.add_assoc]
    have p0 := fh_p b s7 hbn 96 (cnN sM 0) (by omega) 96 (s7.1 1 1920) rfl (by rw [eM]; omega)
    have p1 := fh_p b s7 hbn 104 (cnN sM 1) (by omega) 104 (s7.1 1 1921) rfl (by rw [eM]; omega)
    have p2 := fh_p b s7 hbn 112 (cnN sM 2) (by omega) 112 (s7.1 1 1922) rfl (by rw [eM]; omega)
    have p3 := fh_p b s7 hbn 116 (cnN sM 3) (by omega) 116 (s7.1 1 1923) rfl (by rw [eM]; omega)
    refine rq_bC (ad_p (s2.2 7 6) cc (sM.1 1 (1920 + q)) N s2 hN2 hN24) (fun r3 s4 g3 => ?_)
    rcases g3 with ⟨r0, es4, i, i1, i2⟩ | ⟨r1, ni, es4⟩
    · subst r0
      rw [if_pos rfl, es4]
      have fl : RQ (bd (f_X7_wrong 3 s2) (fun r s => ck (r = 0 ∨ r = 1) (some (r, s)))) (bd (f_X12_fails 3 s7) (fun r t => ck (r = 0 ∨ r = 1) (some (r, t)))) (Og (NwT n q sC sM)) := og_f w.1 hb2.2.1 3 (by decide)
      refine rq_bM p0 (fun x0 y0 z0 => ?_)
      obtain ⟨u0, z0⟩ := z0
      rw [u0]
      refine rq_iM (fun e0 => ?_) (fun _ => fl)
      refine rq_bM p1 (fun x1 y1 z1 => ?_)
      obtain ⟨u1, z1⟩ := z1
      rw [u1]
      refine rq_iM (fun e1 => ?_) (fun _ => fl)
      refine rq_bM p2 (fun x2 y2 z2 => ?_)
      obtain ⟨u2, z2⟩ := z2
      rw [u2]
      refine rq_iM (fun e2 => ?_) (fun _ => fl)
      refine rq_bM p3 (fun x3 y3 z3 => ?_)
      obtain ⟨u3, z3⟩ := z3
      rw [u3]
      refine rq_iM (fun e3 => ?_) (fun _ => fl)
      exfalso
      refine nn.mpr (fun x hx k hk => ?_) i i1 i2
      have a : x = 0 ∨ x = 1 ∨ x = 2 ∨ x = 3 := by omega
      rcases a with a | a | a | a <;> subst a
      · rw [← f96]; exact fm_n z0 e0 k hk
      · rw [← f104]; exact fm_n z1 e1 k hk
      · rw [← f112]; exact fm_n z2 e2 k hk
      · rw [← f116]; exact fm_n z3 e3 k hk
    · subst r1
      rw [if_neg (show ¬ (1 : Int32) = 0 by decide)]
      have al := nn.mp ni
      refine rq_bM p0 (fun x0 y0 z0 => ?_)
      obtain ⟨u0, z0⟩ := z0
      rw [u0]
      refine rq_iM (fun e0 => ?_) (fun e0 => by
        obtain ⟨k, k1, k2⟩ := fm_y z0 e0
        rw [f96] at k2
        exact absurd k2 (al 0 (by decide) k k1))
      refine rq_bM p1 (fun x1 y1 z1 => ?_)
      obtain ⟨u1, z1⟩ := z1
      rw [u1]
      refine rq_iM (fun e1 => ?_) (fun e1 => by
        obtain ⟨k, k1, k2⟩ := fm_y z1 e1
        rw [f104] at k2
        exact absurd k2 (al 1 (by decide) k k1))
      refine rq_bM p2 (fun x2 y2 z2 => ?_)
      obtain ⟨u2, z2⟩ := z2
      rw [u2]
      refine rq_iM (fun e2 => ?_) (fun e2 => by
        obtain ⟨k, k1, k2⟩ := fm_y z2 e2
        rw [f112] at k2
        exact absurd k2 (al 2 (by decide) k k1))
      refine rq_bM p3 (fun x3 y3 z3 => ?_)
      obtain ⟨u3, z3⟩ := z3
      rw [u3]
      refine rq_iM (fun e3 => ?_) (fun e3 => by
        obtain ⟨k, k1, k2⟩ := fm_y z3 e3
        rw [f116] at k2
        exact absurd k2 (al 3 (by decide) k k1))
      refine rq_bM hbn (fun r18 s19 g18 => ?_)
      obtain ⟨es19, er18⟩ := g18
      rw [es19, er18]
      refine rq_cM (fun _ => rq_nM (fun t21 e21 => ?_))
      have e96 : (96 : Int32).toInt = 96 := rfl
      have lo : offN q ≤ 20 := by
        have a : q = 0 ∨ q = 1 ∨ q = 2 ∨ q = 3 := by omega
        rcases a with a | a | a | a <;> subst a <;> decide
      have x1 : (96 + sort).toInt = 96 + sort.toInt := i_addx 96 sort (by omega)
      have x2 : ((96 + sort) + (s7.1 1 (1920 + q))).toInt = (96 + sort).toInt + (s7.1 1 (1920 + q)).toInt := by
        rw [eM]
        exact i_addx _ _ (by have := bq.2.1; omega)
      have xc := cl_nat ((96 + sort) + (s7.1 1 (1920 + q)))
      have xd : ((96 + sort) + (s7.1 1 (1920 + q))).toNatClampNeg = 96 + (offN q + cnN sM q) := by
        rw [eM] at x2 xc ⊢
        omega
      rw [xd] at e21
      have f1 : Fr cC LNW s2 s4 := by
        rw [es4]
        exact fr_i (fr_i (fr_i (fr_l fr_r 55 rfl rfl) 56 rfl rfl) 57 rfl rfl) 202 rfl rfl
      have f2 : Fr cdN (2 ^ 2) s7 t21 := by
        rw [e21]
        exact fr_l fr_r 2 rfl (by rw [Nat.testBit_two_pow_self])
      have tk4 : TkRel n s4 t21 := tk_f w.1 f1 f2 rfl (m_and rfl)
      have nx4 : s4.1 7 2 = s2.1 7 2 := fr_e f1 7 2 182 rfl rfl
      refine rq_b2 (adv_s tk4) (fun _ s8 _ t23 w8 => rq_s (Or.inl ⟨rfl, rfl, ?_⟩))
      have kp8 := kp_of w8
      have m21 : t21.1 = s7.1 := by rw [e21]; rfl
      have hb4 : SB n s4 t21 := by
        refine ⟨tk4, by rw [m21]; exact hb2.2.1, ?_⟩
        unfold ToldS
        rw [m21, fr_e f1 8 3 8 rfl rfl, fr_e f1 8 4 8 rfl rfl]
        exact hb2.2.2
      have hp4 : PlanS 0 s4 t21 := by
        have pf : ∀ k, ¬ k = 12 → s4.1 52 k = s2.1 52 k := fun k hk => by
          rw [es4, pI_1, if_neg (fun z => hk z.2), q_nc rfl, q_nc rfl]
          rfl
        unfold PlanS PlanA mN at hp2 ⊢
        rw [m21, pf 13 (by decide), pf 14 (by decide), pf 15 (by decide), pf 16 (by decide), pf 17 (by decide), pf 18 (by decide), pf 19 (by decide)]
        rw [show s4.1 58 = s2.1 58 from funext fun k => fr_e f1 58 k 58 rfl rfl, show s4.1 59 = s2.1 59 from funext fun k => fr_e f1 59 k 59 rfl rfl, show s4.1 60 = s2.1 60 from funext fun k => fr_e f1 60 k 60 rfl rfl, show s4.1 61 = s2.1 61 from funext fun k => fr_e f1 61 k 61 rfl rfl, show s4.1 62 = s2.1 62 from funext fun k => fr_e f1 62 k 62 rfl rfl, show s4.1 63 = s2.1 63 from funext fun k => fr_e f1 63 k 63 rfl rfl, show s4.1 64 = s2.1 64 from funext fun k => fr_e f1 64 k 64 rfl rfl, show s4.1 65 = s2.1 65 from funext fun k => fr_e f1 65 k 65 rfl rfl, show s4.1 66 = s2.1 66 from funext fun k => fr_e f1 66 k 66 rfl rfl]
        exact hp2
      have hg4 : GrS s4 t21 := by
        unfold GrS mN at hg2 ⊢
        rw [m21]
        rw [show s4.1 67 = s2.1 67 from funext fun k => fr_e f1 67 k 67 rfl rfl, show s4.1 68 = s2.1 68 from funext fun k => fr_e f1 68 k 68 rfl rfl, show s4.1 69 = s2.1 69 from funext fun k => fr_e f1 69 k 69 rfl rfl, show s4.1 70 = s2.1 70 from funext fun k => fr_e f1 70 k 70 rfl rfl, show s4.1 71 = s2.1 71 from funext fun k => fr_e f1 71 k 71 rfl rfl, show s4.1 53 = s2.1 53 from funext fun k => fr_e f1 53 k 53 rfl rfl]
        exact hg2
      have hn4 : NmP q s4 t21 := by
        have n55 : ∀ i, s4.2 55 i = if i = N then s2.2 7 6 else s2.2 55 i := fun i => by
          rw [es4]
          show (pL s2 55 N (s2.2 7 6)).2 55 i = _
          rw [pL_2]
          by_cases z : i = N
          · rw [if_pos ⟨rfl, z⟩, if_pos z]
          · rw [if_neg (fun y => z y.2), if_neg z]
        have n56 : ∀ i, s4.1 56 i = if i = N then cc else s2.1 56 i := fun i => by
          rw [es4, q_nc rfl, q_nc rfl, pI_1]
          by_cases z : i = N
          · rw [if_pos ⟨rfl, z⟩, if_pos z]
          · rw [if_neg (fun y => z y.2), if_neg z]
            rfl
        have n57 : ∀ i, s4.1 57 i = if i = N then sM.1 1 (1920 + q) else s2.1 57 i := fun i => by
          rw [es4, q_nc rfl, pI_1]
          by_cases z : i = N
          · rw [if_pos ⟨rfl, z⟩, if_pos z]
          · rw [if_neg (fun y => z y.2), if_neg z, q_nc rfl]
            rfl
        have cn4 : cnN t21 = cnN sM := by
          unfold cnN
          rw [m21, k21]
        have mm4 : ∀ p, nmN t21 p = if p = offN q + cnN sM q then b else nmN s7 p := fun p => by
          unfold nmN
          rw [e21, pL_2]
          by_cases z : p = offN q + cnN sM q
          · rw [if_pos ⟨rfl, by omega⟩, if_pos z]
          · rw [if_neg (fun y => z (by have := y.2; omega)), if_neg z]
        have nc12 : (s4.1 52 12).toInt = (N : Int) + 1 := by
          rw [es4, q_eq]
          have := i_addx (s2.1 52 12) 1 (show -2147483648 ≤ (s2.1 52 12).toInt + 1 ∧ (s2.1 52 12).toInt + 1 ≤ 2147483647 from by omega)
          have e1 : (1 : Int32).toInt = 1 := rfl
          omega
        refine ⟨N, b, nc12, hN24, ?_, ⟨?_, ?_⟩, ⟨?_, ?_⟩, ?_, ?_⟩
        · rw [cn4]
          refine ⟨hR2.1, fun i hi' => ?_, fun x j hx hj => ?_, fun i i' hi' hi2 e => ?_⟩
          · obtain ⟨x, j, h1, h2, h3, h4, h5⟩ := hR2.2.1 i hi'
            refine ⟨x, j, h1, h2, ?_, ?_, ?_⟩
            · rw [n56, if_neg (by omega)]; exact h3
            · rw [n57, if_neg (by omega)]; exact h4
            · rw [n55, if_neg (by omega), mm4]
              by_cases z : offN x + j = offN q + cnN sM q
              · exfalso
                have jb : j < 8 ∧ (2 ≤ x → j < 4) := by
                  have a : x = 0 ∨ x = 1 ∨ x = 2 ∨ x = 3 := by omega
                  rcases a with a | a | a | a <;> subst a <;> omega
                have od := off_d h1 hq jb hlt z
                have od1 := od.1
                subst od1
                omega
              · rw [if_neg z]; exact h5
          · obtain ⟨i, i1, i2, i3⟩ := hR2.2.2.1 x j hx hj
            exact ⟨i, i1, by rw [n56, if_neg (by omega)]; exact i2, by rw [n57, if_neg (by omega)]; exact i3⟩
          · rw [n55, n55, if_neg (by omega), if_neg (by omega)] at e
            exact hR2.2.2.2 i i' hi' hi2 e
        · rw [n56, if_pos rfl, hc]
        · rw [n57, if_pos rfl, cn4, bq.2.2]
          have := bq.1
          omega
        · rw [cn4, mm4, if_pos rfl]
        · rw [n55, if_pos rfl]; exact nab
        · intro i hi'
          rw [n55, n55, if_neg (by omega), if_pos rfl]
          exact ni i hi'
        · rw [cn4]; exact hlt
      refine ⟨kp_sb w8 hb4, kp_np kp8 hn4, kp_pl kp8 hp4, kp_gr kp8 hg4, ?_, ?_⟩
      · have a1 := w8.2.2.2
        have a2 := w.2.2.2
        have a3 := tk_pos w.1
        rw [nx4] at a1
        omega
      · rw [kp8.2.1, m21, k21]
  · have c := i_nlt c
    have d := i_ne d
    omega
