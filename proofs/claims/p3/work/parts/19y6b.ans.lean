/-! answers: share, whose, nobodys, longest, fullest, beside, steps -/
theorem e24_ {s t : Sg} (H : NowG 0 s t) : (t.1 0 24).toInt = -1 := by rw [H.2.1.2]; rfl
theorem sh_b {M : Nat → Int32} {s : Sg} (P : PlnR 24 s M) {a b : Int32} {q h : Nat} (ha : a.toInt = (q : Int)) (hq : (q : Int) < (M 1).toInt) (hb : b.toInt = (h : Int)) (hh : h < 8) (g : Int32) (m : Nat) : ∀ (i : Nat) (v4 v5 : Int32), v5.toInt = (i : Int) → i ≤ q → v4 = lf M (-1) h g i → PQ (f_X9_shareOf_26_25_b10 m a b v4 v5 s) (fun r s' => s' = s ∧ r = if M (42 + 5 * q) < lf M (-1) h g q then M (42 + 5 * q) else lf M (-1) h g q) := by
  induction m with
  | zero => intro i v4 v5 _ _ _ r s' z; cases z
  | succ m ih =>
    intro i v4 v5 h5 hi h4
    have e1 : (1 : Int32).toInt = 1 := rfl
    have q8 := (pln_q P hq).1
    unfold f_X9_shareOf_26_25_b10
    refine pq_if (fun c => pq_c (fun _ => pq_s ?_)) (fun c => pq_b (isAt_c P h5 (by omega) hb hh) (fun r4 s5 k => ?_))
    · have c := i_le c
      have z : i = q := by omega
      subst z
      rw [cl_h ha, (pln_q P hq).2.1.2.2, h4]
      exact ⟨rfl, rfl⟩
    · obtain ⟨es, k⟩ := k
      subst es
      have c := i_nle c
      have hi' : (i : Int) < (M 1).toInt := by omega
      have a5 : (v5 + 1).toInt = ((i + 1 : Nat) : Int) := by rw [i_addx _ _ (by omega)]; omega
      refine pq_if (fun d => ih (i + 1) v4 (v5 + 1) a5 (by omega) ?_) (fun d => pq_c (fun _ => pq_n (fun x7 e7 => ih (i + 1) x7 (v5 + 1) a5 (by omega) ?_)))
      · rw [lf_s, if_neg (fun z => r1_n k d ⟨hi', z⟩)]
        exact h4
      · rw [lf_s, if_pos (r1_y k d).2, e7, cl_h h5, (pln_q P hi').2.1.2.2, nd_m1, h4]
theorem share_c {M : Nat → Int32} {s : Sg} (P : PlnR 24 s M) (G : GrdT 0 s M) {a b : Int32} {q h : Nat} (ha : a.toInt = (q : Int)) (hq : (q : Int) < (M 1).toInt) (hb : b.toInt = (h : Int)) (hh : h < 8) : PQ (f_X9_shareOf_26_25 a b s) (fun r s' => s' = s ∧ r = hsM M (-1) q h) := by
  unfold f_X9_shareOf_26_25 hsM
  refine pq_b (sight_c G hb hh) (fun r1 s2 k => ?_)
  obtain ⟨es, k⟩ := k
  subst es
  rw [nd_m1, k]
  exact sh_b P ha hq hb hh (sgM M h) BIG 0 _ 0 rfl (Nat.zero_le _) rfl
theorem has_n {s t : Sg} (H : NowG 0 s t) {a b : Int32} {q h : Nat} (ha : a.toInt = (q : Int)) (hq : q < 8) (hb : b.toInt = (h : Int)) (hh : h < 8) : PQ (f_X12_hasAt a b t) (fun r t' => t' = t ∧ r = hsM (t.1 1) (-1) q h) := pq_w (has_m ha hq hb hh t) (fun r t' k => by
  rw [e24_ H] at k
  exact k)
theorem q_n {M : Nat → Int32} {a : Int32} (h : QsM M a) : a.toInt = (a.toInt.toNat : Int) ∧ (a.toInt.toNat : Int) < (M 1).toInt := by
  unfold QsM at h
  omega
theorem share_q {s t : Sg} (H : NowG 0 s t) (a b : Int32) : RQ (f_X11_share a b s) (f_X12_share a b t) AnQ := by
  have P := H.1.1
  have e0 : (0 : Int32).toInt = 0 := rfl
  have e1 : (1 : Int32).toInt = 1 := rfl
  unfold f_X11_share f_X12_share
  refine rq_f (isQ_c P a) (isQ_m a t) Iff.rfl (fun hq => ?_) (fun _ => ?_)
  · rw [if1, if1]
    have n := q_n hq
    have pq := pln_q P n.2
    have q8 := pq.1
    have x := qr_x n.1 q8
    have fin : ∀ {hh : Nat} {r7 v : Int32} {j : Nat}, v = t.1 1 j → v.toInt = (hh : Int) → hh < 8 → r7.toNatClampNeg = j → RQ (f_X11_share_b48 a v s) (ck (inr r7 2880) (bd (f_X12_isGone (t.1 1 r7.toNatClampNeg) t) (fun r10 s11 => if r10 = 0 then bd (f_X12_hasAt a (t.1 1 r7.toNatClampNeg) s11) (fun r12 s13 => bd (f_X12_gives r12 s13) (fun r14 s15 => some (r14, s15))) else bd (f_X12_refuse 7 s11) (fun r16 s17 => some (r16, s17))))) AnQ := fun {hh r7 v j} hv hn h8 hj => by
      refine rq_cM (fun _ => ?_)
      rw [hj, ← hv]
      unfold f_X11_share_b48
      refine rq_f (gone_c P hn (by omega)) (gone_m hn (by omega) t) Iff.rfl (fun _ => ?_) (fun _ => ?_)
      · rw [if1, if1]
        exact aq_rf s t 7
      · rw [if0, if0]
        exact rq_v (share_c P H.1.2.1 n.1 n.2 hn h8) (has_n H n.1 q8 hn h8) (aq_an s t rfl)
    have en := ends_h P n.2
    refine rq_f (P := (0 : Int32).toInt ≤ b.toInt ∧ b.toInt ≤ (1 : Int32).toInt) (P' := (0 : Int32).toInt ≤ b.toInt ∧ b.toInt ≤ (1 : Int32).toInt) (oM := some ((if b < 0 then 0 else if b ≤ 1 then 1 else 0 : Int32), t)) (kM := fun _ _ => if b < 0 then bd (f_X12_refuse 1 t) (fun r5 s6 => some (r5, s6)) else if b ≤ 1 then bd (f_X12_quarrelHouse a b t) (fun r7 s8 => ck (inr r7 2880) (bd (f_X12_isGone (s8.1 1 r7.toNatClampNeg) s8) (fun r10 s11 => if r10 = 0 then bd (f_X12_hasAt a (s8.1 1 r7.toNatClampNeg) s11) (fun r12 s13 => bd (f_X12_gives r12 s13) (fun r14 s15 => some (r14, s15))) else bd (f_X12_refuse 7 s11) (fun r16 s17 => some (r16, s17))))) else bd (f_X12_refuse 1 t) (fun r18 s19 => some (r18, s19))) (wi_p b 0 1 s) (pq_s ⟨rfl, ?_⟩) Iff.rfl (fun hb => ?_) (fun hb => ?_)
    · by_cases c : b < 0
      · rw [if_pos c]
        exact Or.inr ⟨rfl, fun z => absurd (i_lt c) (by omega)⟩
      · rw [if_neg c]
        by_cases d : b ≤ 1
        · rw [if_pos d]
          have := i_nlt c
          have := i_le d
          exact Or.inl ⟨rfl, by omega, by omega⟩
        · rw [if_neg d]
          exact Or.inr ⟨rfl, fun z => absurd (i_nle d) (by omega)⟩
    · rw [if1]
      refine rq_iM (fun c => absurd (i_lt c) (by omega)) (fun _ => rq_iM (fun _ => rq_bM (qh_p a b t) (fun r7 t8 l => ?_)) (fun c => absurd (i_nle c) (by omega)))
      obtain ⟨et, l⟩ := l
      rw [et]
      refine rq_iC (fun c => rq_cC (fun _ => ?_)) (fun c => rq_cC (fun _ => ?_))
      · rw [cl_h n.1]
        exact fin (j := 40 + 5 * a.toInt.toNat) pq.2.1.1 (by rw [pq.2.1.1]; exact en.1.1) en.2.1.1 (by rw [l, c]; exact x.1)
      · have b1 : b = 1 := Int32.toInt_inj.mp (by
          have := i_ne c
          omega)
        rw [cl_h n.1]
        exact fin (j := 41 + 5 * a.toInt.toNat) pq.2.1.2.1 (by rw [pq.2.1.2.1]; exact en.1.2) en.2.1.2 (by rw [l, b1]; exact x.2.1)
    · rw [if0]
      refine rq_iM (fun _ => aq_rf s t 1) (fun c => rq_iM (fun d => absurd ⟨?_, ?_⟩ hb) (fun _ => aq_rf s t 1))
      · have := i_nlt c
        omega
      · have := i_le d
        omega
  · rw [if0, if0]
    exact aq_rf s t 1
/-! nobody's grains -/
theorem nob_b {s t : Sg} (H : NowG 0 s t) {a : Int32} {h : Nat} (ha : a.toInt = (h : Int)) (hh : h < 8) (m : Nat) : ∀ (m' i : Nat) (v3 v4 : Int32), v4.toInt = (i : Int) → (i : Int) ≤ (t.1 1 1).toInt → RQ (bd (f_X9_leftOver_26_25_b9 m a v3 v4 s) (fun r3 s4 => bd (f_X11_answer r3 s4) (fun r5 s6 => some (r5, s6)))) (f_X12_nobodys_b25 m' a v3 v4 t) AnQ := by
  induction m with
  | zero => intro m' i v3 v4 _ _ r s' r' t' z; cases z
  | succ m ih =>
    intro m' i v3 v4 h4 hi
    cases m' with
    | zero => intro r s' r' t' _ z; cases z
    | succ m' =>
    have P := H.1.1
    have b1 := P.2.1.2.1
    have e1 : (1 : Int32).toInt = 1 := rfl
    have eQ : s.1 25 14 = t.1 1 1 := P.1.2.1
    unfold f_X9_leftOver_26_25_b9 f_X12_nobodys_b25
    rw [eQ]
    refine rq_iK (fun c => rq_iM (fun _ => aq_an s t rfl) (fun d => absurd c d)) (fun c => rq_iM (fun d => absurd d c) (fun _ => ?_))
    have c := i_nle c
    have hi' : (i : Int) < (t.1 1 1).toInt := by omega
    have a4 : (v4 + 1).toInt = ((i + 1 : Nat) : Int) := by rw [i_addx _ _ (by omega)]; omega
    rw [bd_bd]
    refine rq_f (isAt_c P h4 (by omega) ha hh) (isAt_m h4 (by omega) ha t) ⟨fun w => w.2, fun w => ⟨hi', w⟩⟩ (fun _ => ?_) (fun _ => ?_)
    · rw [if1, if1, bd_bd]
      exact rq_v (share_c P H.1.2.1 h4 hi' ha hh) (has_n H h4 (by omega) ha hh) (ih m' (i + 1) _ (v4 + 1) a4 (by omega))
    · rw [if0, if0, sub0]
      exact ih m' (i + 1) v3 (v4 + 1) a4 (by omega)
theorem nobodys_q {s t : Sg} (H : NowG 0 s t) (a : Int32) : RQ (f_X11_nobodys a s) (f_X12_nobodys a t) AnQ := by
  have P := H.1.1
  have b0 := P.2.1.1.2
  unfold f_X11_nobodys f_X12_nobodys
  refine rq_wn (whyNo_c P a 1 (Or.inl ⟨rfl, trivial⟩)) (wrong_m a b0) ?_ (fun hh hg => ?_) (fun hh hg => ?_)
  · rw [if_neg (by decide), if_neg (by decide)]
    exact aq_rf s t 1
  · rw [if_neg (by decide), if_neg (by decide)]
    exact aq_rf s t 7
  · have n := hs_n b0 hh
    rw [if_pos rfl, if_pos (show (0 : Int32) ≤ 0 by decide)]
    unfold f_X9_leftOver_26_25
    rw [bd_bd]
    exact rq_v (ly_c H.1.2.1 n.1 n.2) (grains_m n.1 n.2 t) (nob_b H n.1 n.2 BIG BIG 0 _ 0 rfl P.2.1.2.1.1)
/-! whose a grain is -/
theorem lf_0 {M : Nat → Int32} (B : PlB M) (h : Nat) {g : Int32} (hg : 0 ≤ g.toInt) : ∀ n : Nat, (n : Int) ≤ (M 1).toInt → 0 ≤ (lf M (-1) h g n).toInt
  | 0, _ => hg
  | n + 1, hn => by
    have ih := lf_0 B h hg n (by omega)
    have N := B.1 n (by omega)
    rw [lf_s, nd_m1]
    by_cases c : atB M n h = true
    · rw [if_pos c]
      by_cases d : M (42 + 5 * n) < lf M (-1) h g n
      · have u := Int32.toInt_lt (lf M (-1) h g n)
        rw [if_pos d, i_subx _ _ (by have := i_lt d; omega)]
        have := i_lt d
        omega
      · rw [if_neg d, i_subx _ _ (by omega)]
        omega
    · rw [if_neg c]; exact ih
theorem sg_0 {M : Nat → Int32} {K : Int} (G : GnR M K) (hK : K ≤ 1000000000) {h : Nat} (hh : h < 8) : 0 ≤ (sgM M h).toInt := by
  unfold sgM
  by_cases c : M (18 + 3 * h) ≤ 0
  · rw [if_pos c]
    exact (gn_ly G hK hh).2.1
  · rw [if_neg c]; decide
theorem hs_bd {M : Nat → Int32} {K : Int} (B : PlB M) (G : GnR M K) (hK : K ≤ 1000000000) {q h : Nat} (hq : (q : Int) < (M 1).toInt) (hh : h < 8) : 0 ≤ (hsM M (-1) q h).toInt ∧ (hsM M (-1) q h).toInt ≤ 99 := by
  have N := B.1 q hq
  have l := lf_0 B h (sg_0 G hK hh) q (by omega)
  unfold hsM
  rw [nd_m1]
  by_cases c : M (42 + 5 * q) < lf M (-1) h (sgM M h) q
  · rw [if_pos c]; omega
  · rw [if_neg c]
    have := i_nlt c
    omega
theorem who_b {s t : Sg} (H : NowG 0 s t) {K : Int} (G : GnR (t.1 1) K) (hK : K ≤ 1000000000) {a k : Int32} {h : Nat} (ha : a.toInt = (h : Int)) (hh : h < 8) (hk : 0 ≤ k.toInt) (m : Nat) : ∀ (m' i : Nat) (v4 k' v5 : Int32), v5.toInt = (i : Int) → (i : Int) ≤ (t.1 1 1).toInt → 0 ≤ v4.toInt ∧ v4.toInt ≤ 99 * (i : Int) → k'.toInt = k.toInt - v4.toInt → RQ (bd (f_X9_ownerOf_26_25_b6 m a k v4 v5 s) (fun r3 s4 => bd (f_X11_answerIfAny r3 s4) (fun r5 s6 => some (r5, s6)))) (f_X12_whose_b30 m' a k' v5 t) AnQ := by
  induction m with
  | zero => intro m' i v4 k' v5 _ _ _ _ r s' r' t' z; cases z
  | succ m ih =>
    intro m' i v4 k' v5 h5 hi h4 hk'
    cases m' with
    | zero => intro r s' r' t' _ z; cases z
    | succ m' =>
    have P := H.1.1
    have b1 := P.2.1.2.1
    have e1 : (1 : Int32).toInt = 1 := rfl
    have em : (-1 : Int32).toInt = -1 := rfl
    have eQ : s.1 25 14 = t.1 1 1 := P.1.2.1
    unfold f_X9_ownerOf_26_25_b6 f_X12_whose_b30
    rw [eQ]
    refine rq_iK (fun c => rq_iM (fun _ => ?_) (fun d => absurd c d)) (fun c => rq_iM (fun d => absurd d c) (fun _ => ?_))
    · have q : RQ (bd (f_X11_answerIfAny (-1) s) (fun r5 s6 => some (r5, s6))) (bd (f_X12_refuse 6 t) (fun r3 s4 => some (r3, s4))) AnQ := by
        unfold f_X11_answerIfAny
        rw [if_pos rfl, bd_bd]
        exact aq_rf s t 6
      exact q
    have c := i_nle c
    have hi' : (i : Int) < (t.1 1 1).toInt := by omega
    have a5 : (v5 + 1).toInt = ((i + 1 : Nat) : Int) := by rw [i_addx _ _ (by omega)]; omega
    rw [bd_bd]
    refine rq_f (isAt_c P h5 (by omega) ha hh) (isAt_m h5 (by omega) ha t) ⟨fun w => w.2, fun w => ⟨hi', w⟩⟩ (fun _ => ?_) (fun _ => ?_)
    · rw [if1, if1, bd_bd]
      have hbd := hs_bd H.2.2.1 G hK hi' hh
      refine rq_v (share_c P H.1.2.1 h5 hi' ha hh) (has_n H h5 (by omega) ha hh) ?_
      have ad : (v4 + hsM (t.1 1) (-1) i h).toInt = v4.toInt + (hsM (t.1 1) (-1) i h).toInt := i_addx _ _ (by omega)
      have kb := Int32.toInt_lt k
      refine rq_iK (fun c => rq_iM (fun _ => rq_bM (has_n H h5 (by omega) ha hh) (fun r9 t10 l => ?_)) (fun d => ?_)) (fun c => rq_iM (fun d => ?_) (fun _ => ?_))
      · obtain ⟨et, l⟩ := l
        have c := i_le c
        rw [et, l]
        refine ih m' (i + 1) _ _ (v5 + 1) a5 (by omega) (by omega) ?_
        rw [i_subx _ _ (by omega)]
        omega
      · have c := i_le c
        have d := i_nle d
        omega
      · have c := i_nle c
        have d := i_le d
        omega
      · have q : RQ (bd (f_X11_answerIfAny v5 s) (fun r5 s6 => some (r5, s6))) (bd (f_X12_gives v5 t) (fun r3 s4 => some (r3, s4))) AnQ := by
          unfold f_X11_answerIfAny
          rw [if_neg (fun z => by have := i_eq z; omega), bd_bd]
          exact aq_an s t rfl
        exact q
    · rw [if0, if0]
      exact ih m' (i + 1) v4 k' (v5 + 1) a5 (by omega) (by omega) hk'
theorem whose_q {s t : Sg} (H : NowG 0 s t) {K : Int} (G : GnR (t.1 1) K) (hK : K ≤ 1000000000) (a k : Int32) : RQ (f_X11_whose a k s) (f_X12_whose a k t) AnQ := by
  have P := H.1.1
  have b0 := P.2.1.1.2
  have e0 : (0 : Int32).toInt = 0 := rfl
  unfold f_X11_whose f_X12_whose
  refine rq_iC (fun c => rq_iM (fun d => absurd (i_le d) (by have := i_lt c; omega)) (fun _ => ?_)) (fun c => rq_iM (fun _ => ?_) (fun d => absurd (i_nle d) (by have := i_nlt c; omega)))
  · unfold f_X11_whose_b11 f_X12_whose_b13
    refine rq_bC (whyNo_c P a 0 (Q := False) (Or.inr ⟨rfl, fun z => z⟩)) (fun r s3 k => ?_)
    obtain ⟨es, k⟩ := k
    subst es
    have k1 : r = 1 := by
      rcases k with k | k | k
      · exact k.1
      · exact k.2.1.2.elim
      · exact k.2.1.2.elim
    rw [k1, if_neg (by decide), if_neg (by decide)]
    exact aq_rf s3 t 1
  · have c := i_nlt c
    unfold f_X11_whose_b11 f_X12_whose_b13
    refine rq_wn (whyNo_c P a 1 (Or.inl ⟨rfl, trivial⟩)) (wrong_m a b0) ?_ (fun hh hg => ?_) (fun hh hg => ?_)
    · rw [if_neg (by decide), if_neg (by decide)]
      exact aq_rf s t 1
    · rw [if_neg (by decide), if_neg (by decide)]
      exact aq_rf s t 7
    · have n := hs_n b0 hh
      rw [if_pos rfl, if_pos (show (0 : Int32) ≤ 0 by decide)]
      unfold f_X9_ownerOf_26_25
      exact who_b H G hK n.1 n.2 (by omega) BIG BIG 0 0 k 0 rfl P.2.1.2.1.1 (by rw [e0]; omega) (by omega)
/-! the longest war, the fullest step -/
theorem any_q (s t : Sg) (v : Int32) : RQ (bd (f_X11_answerIfAny v s) (fun r s => some (r, s))) (bd (f_X12_orNone v t) (fun r t => some (r, t))) AnQ := by
  unfold f_X11_answerIfAny f_X12_orNone
  refine rq_iK (fun c => ?_) (fun c => ?_)
  · rw [if_pos c, bd_bd, bd_bd]
    exact aq_rf s t 6
  · rw [if_neg c, bd_bd, bd_bd]
    exact aq_an s t rfl
theorem lon_b {s t : Sg} (H : NowG 0 s t) (m : Nat) : ∀ (m' i : Nat) (v1 v2 : Int32), v2.toInt = (i : Int) → (i : Int) ≤ (t.1 1 1).toInt → (v1 = -1 ∨ ∃ j : Nat, v1.toInt = (j : Int) ∧ j < 8) → RQ (f_X11_longest_b4 m v1 v2 s) (f_X12_longest_b4 m' v1 v2 t) AnQ := by
  induction m with
  | zero => intro m' i v1 v2 _ _ _ r s' r' t' z; cases z
  | succ m ih =>
    intro m' i v1 v2 h2 hi h1
    cases m' with
    | zero => intro r s' r' t' _ z; cases z
    | succ m' =>
    have P := H.1.1
    have b1 := P.2.1.2.1
    have e1 : (1 : Int32).toInt = 1 := rfl
    have eQ : s.1 25 14 = t.1 1 1 := P.1.2.1
    unfold f_X11_longest_b4 f_X12_longest_b4
    rw [eQ]
    refine rq_iC (fun c => rq_iM (fun _ => any_q s t v1) (fun d => absurd c d)) (fun c => rq_iM (fun d => absurd d c) (fun _ => ?_))
    have c := i_nle c
    have hi' : (i : Int) < (t.1 1 1).toInt := by omega
    have i8 : i < 8 := by omega
    have a2 : (v2 + 1).toInt = ((i + 1 : Nat) : Int) := by rw [i_addx _ _ (by omega)]; omega
    have x := qr_x h2 i8
    have o := ovr_b H i (by omega)
    refine rq_bC (hsf_p h2 (by omega) s) (fun r3 s4 k => rq_bM (qrow_p v2 t) (fun u3 t4 l => rq_cM (fun _ => ?_)))
    obtain ⟨es, k⟩ := k
    obtain ⟨et, l⟩ := l
    subst es
    subst et
    rw [l, x.2.2.2.1]
    refine rq_iC (fun d => rq_iM (fun _ => ?_) (fun z => ?_)) (fun d => rq_iM (fun z => ?_) (fun _ => ih m' (i + 1) v1 (v2 + 1) a2 (by omega) h1))
    · have nx : RQ (f_X11_longest_b4 m v2 (v2 + 1) s4) (f_X12_longest_b4 m' v2 (v2 + 1) t4) AnQ := ih m' (i + 1) v2 (v2 + 1) a2 (by omega) (Or.inr ⟨i, h2, i8⟩)
      refine rq_iC (fun z => rq_iM (fun _ => nx) (fun y => absurd z y)) (fun z => rq_iM (fun y => absurd y z) (fun _ => ?_))
      obtain ⟨j, hj, j8⟩ := h1.elim (fun y => absurd y z) id
      have y := qr_x hj j8
      refine rq_cC (fun _ => rq_cC (fun _ => rq_bM (qrow_p v2 t4) (fun r6 t7 l6 => rq_cM (fun _ => rq_bM (qrow_p v1 t7) (fun r9 t10 l9 => rq_cM (fun _ => ?_))))))
      obtain ⟨et, l6⟩ := l6
      obtain ⟨eu, l9⟩ := l9
      subst et
      subst eu
      have g2 : s4.1 43 i = t10.1 1 (44 + 5 * i) := H.1.2.1 43 i _ (Or.inl ⟨i8, Or.inr (Or.inr (Or.inr ⟨rfl, rfl⟩))⟩)
      have g1 : s4.1 43 j = t10.1 1 (44 + 5 * j) := H.1.2.1 43 j _ (Or.inl ⟨j8, Or.inr (Or.inr (Or.inr ⟨rfl, rfl⟩))⟩)
      rw [l6, l9, x.2.2.2.2, y.2.2.2.2, cl_h h2, cl_h hj, g2, g1]
      exact rq_iC (fun w => rq_iM (fun _ => ih m' (i + 1) v1 (v2 + 1) a2 (by omega) h1) (fun u => absurd w u)) (fun w => rq_iM (fun u => absurd u w) (fun _ => nx))
    · exfalso
      rcases H.1.2.2.1 i i8 with y | y
      · exact z y
      · exact r1_n k d (o.mpr ⟨hi', y⟩)
    · exfalso
      have w := (o.mp (r1_y k d)).2
      rw [z] at w
      exact absurd w (by decide)
theorem longest_q {s t : Sg} (H : NowG 0 s t) : RQ (f_X11_longest s) (f_X12_longest t) AnQ := lon_b H BIG BIG 0 (-1) 0 rfl H.1.1.2.1.2.1.1 (Or.inl rfl)
theorem ful_b {s t : Sg} (H : NowG 0 s t) (m : Nat) : ∀ (m' i : Nat) (v1 v2 : Int32), v2.toInt = (i : Int) → (i : Int) ≤ (t.1 1 0).toInt → (v1 = -1 ∨ ∃ j : Nat, v1.toInt = (j : Int) ∧ j < 8) → RQ (f_X11_fullest_b4 m v1 v2 s) (f_X12_fullest_b4 m' v1 v2 t) AnQ := by
  induction m with
  | zero => intro m' i v1 v2 _ _ _ r s' r' t' z; cases z
  | succ m ih =>
    intro m' i v1 v2 h2 hi h1
    cases m' with
    | zero => intro r s' r' t' _ z; cases z
    | succ m' =>
    have P := H.1.1
    have b0 := P.2.1.1
    have e1 : (1 : Int32).toInt = 1 := rfl
    unfold f_X11_fullest_b4 f_X12_fullest_b4
    rw [e13_ H]
    refine rq_iC (fun c => rq_iM (fun _ => any_q s t v1) (fun d => absurd c d)) (fun c => rq_iM (fun d => absurd d c) (fun _ => ?_))
    have c := i_nle c
    have i8 : i < 8 := by omega
    have a2 : (v2 + 1).toInt = ((i + 1 : Nat) : Int) := by rw [i_addx _ _ (by omega)]; omega
    refine rq_f (gone_c P h2 (by omega)) (gone_m h2 (by omega) t) Iff.rfl (fun _ => ?_) (fun _ => ?_)
    · rw [if1, if1]
      exact ih m' (i + 1) v1 (v2 + 1) a2 (by omega) h1
    · rw [if0, if0]
      have nx : RQ (f_X11_fullest_b4 m v2 (v2 + 1) s) (f_X12_fullest_b4 m' v2 (v2 + 1) t) AnQ := ih m' (i + 1) v2 (v2 + 1) a2 (by omega) (Or.inr ⟨i, h2, i8⟩)
      refine rq_iC (fun z => rq_iM (fun _ => nx) (fun y => absurd z y)) (fun z => rq_iM (fun y => absurd y z) (fun _ => ?_))
      obtain ⟨j, hj, j8⟩ := h1.elim (fun y => absurd y z) id
      refine rq_v (ly_c H.1.2.1 h2 i8) (grains_m h2 i8 t) (rq_v (ly_c H.1.2.1 hj j8) (grains_m hj j8 t) ?_)
      exact rq_iC (fun w => rq_iM (fun _ => ih m' (i + 1) v1 (v2 + 1) a2 (by omega) h1) (fun u => absurd w u)) (fun w => rq_iM (fun u => absurd u w) (fun _ => nx))
theorem fullest_q {s t : Sg} (H : NowG 0 s t) : RQ (f_X11_fullest s) (f_X12_fullest t) AnQ := ful_b H BIG BIG 0 (-1) 0 rfl H.1.1.2.1.1.1 (Or.inl rfl)
/-! beside, steps -/
theorem beside_q {s t : Sg} (H : NowG 0 s t) (a : Int32) : RQ (f_X11_beside a s) (f_X12_beside a t) AnQ := by
  have P := H.1.1
  have b0 := P.2.1.1
  have e0 : (0 : Int32).toInt = 0 := rfl
  have e1 : (1 : Int32).toInt = 1 := rfl
  unfold f_X11_beside f_X12_beside
  refine rq_f (isH_c P a) (isH_m a t) Iff.rfl (fun hh => ?_) (fun _ => ?_)
  · rw [if1, if1]
    have n := hs_n b0.2 hh
    have ad : (a + 1).toInt = a.toInt + (1 : Int32).toInt := i_addx _ _ (by omega)
    have hx : (a + 1).toInt = ((a.toInt.toNat + 1 : Nat) : Int) := by omega
    have fin : ∀ v : Int32, RQ (f_X11_beside_b32 a v s) (f_X12_beside_b30 a v t) AnQ := fun v => by
      unfold f_X11_beside_b32 f_X12_beside_b30
      rw [e13_ H]
      refine rq_bM (isH_m (a + 1) t) (fun r5 t6 k => ?_)
      obtain ⟨et, k⟩ := k
      subst et
      unfold HsM at k
      refine rq_iC (fun c => rq_iM (fun _ => aq_an s t6 rfl) (fun d => ?_)) (fun c => rq_iM (fun d => ?_) (fun _ => ?_))
      · exfalso
        have := i_le c
        have := r1_y k d
        omega
      · exfalso
        have := i_nle c
        have := r1_n k d
        omega
      · have c := i_nle c
        exact rq_v (ly_c H.1.2.1 hx (by omega)) (grains_m hx (by omega) t6) (aq_an s t6 rfl)
    refine rq_iC (fun c => rq_iM (fun _ => fin 0) (fun d => absurd c d)) (fun c => rq_iM (fun d => absurd d c) (fun _ => ?_))
    have c := i_nle c
    have sb : (a - 1).toInt = a.toInt - (1 : Int32).toInt := i_subx _ _ (by omega)
    have hy : (a - 1).toInt = ((a.toInt.toNat - 1 : Nat) : Int) := by omega
    exact rq_v (ly_c H.1.2.1 hy (by omega)) (grains_m hy (by omega) t) (fin _)
  · rw [if0, if0]
    exact aq_rf s t 1
theorem ste_b {s t : Sg} (H : NowG 0 s t) {K : Int} (G : GnR (t.1 1) K) (hK : K ≤ 1000000000) (w : Int32) (hw : 0 ≤ w.toInt ∧ w.toInt ≤ 2) (m : Nat) : ∀ (m' i : Nat) (v2 v3 : Int32), v3.toInt = (i : Int) → (i : Int) ≤ (t.1 1 0).toInt → RQ (f_X11_steps_b19 m w v2 v3 s) (f_X12_steps_b19 m' w v2 v3 t) AnQ := by
  induction m with
  | zero => intro m' i v2 v3 _ _ r s' r' t' z; cases z
  | succ m ih =>
    intro m' i v2 v3 h3 hi
    cases m' with
    | zero => intro r s' r' t' _ z; cases z
    | succ m' =>
    have P := H.1.1
    have b0 := P.2.1.1
    have e0 : (0 : Int32).toInt = 0 := rfl
    have e1 : (1 : Int32).toInt = 1 := rfl
    have e2 : (2 : Int32).toInt = 2 := rfl
    unfold f_X11_steps_b19 f_X12_steps_b19
    rw [e13_ H]
    refine rq_iC (fun c => rq_iM (fun _ => aq_an s t rfl) (fun d => absurd c d)) (fun c => rq_iM (fun d => absurd d c) (fun _ => ?_))
    have c := i_nle c
    have i8 : i < 8 := by omega
    have a3 : (v3 + 1).toInt = ((i + 1 : Nat) : Int) := by rw [i_addx _ _ (by omega)]; omega
    have x := hr_x h3 i8
    have gg := gS H i8
    have gb := G i i8
    have ly := gn_ly G hK i8
    refine rq_bM (hr_p v3 t) (fun r5 t6 k => rq_cM (fun _ => rq_nM (fun x8 e8 => rq_bM (hr_p v3 t6) (fun r9 t10 l => rq_cM (fun _ => rq_nM (fun x12 e12 => ?_))))))
    obtain ⟨et, k⟩ := k
    obtain ⟨eu, l⟩ := l
    rw [k, x.2.1, et] at e8
    rw [l, x.2.2, eu, et] at e12
    rw [eu, et]
    have tl : ∀ (p : Prop) (f : Int32), Fl p f → PQ (f_X2_looksLike v3 w s) (fun r s' => s' = s ∧ Fl p r) → RQ (bd (f_X4_isGone v3 s) (fun r7 s8 => if r7 = 0 then bd (f_X2_looksLike v3 w s8) (fun r9 s10 => if r9 = 0 then f_X11_steps_b19 m w v2 (v3 + 1) s10 else f_X11_steps_b19 m w (v2 + 1) (v3 + 1) s10) else f_X11_steps_b19 m w v2 (v3 + 1) s8)) (f_X12_steps_b106 (f_X12_steps_b19 m') w v2 v3 f t) AnQ := fun p f hf hc => by
      unfold f_X12_steps_b106
      refine rq_f (gone_c P h3 (by omega)) (gone_m h3 (by omega) t) Iff.rfl (fun _ => ?_) (fun _ => ?_)
      · rw [if1, if1, add0]
        exact ih m' (i + 1) v2 (v3 + 1) a3 (by omega)
      · rw [if0, if0]
        refine rq_bC hc (fun r9 s10 y => ?_)
        obtain ⟨es, y⟩ := y
        subst es
        rcases hf with ⟨f1, f2⟩ | ⟨f1, f2⟩ <;> rcases y with ⟨y1, y2⟩ | ⟨y1, y2⟩
        · rw [f1, y1, if1, if1]
          exact ih m' (i + 1) (v2 + 1) (v3 + 1) a3 (by omega)
        · exact absurd f2 y2
        · exact absurd y2 f2
        · rw [f1, y1, if0, if0, add0]
          exact ih m' (i + 1) v2 (v3 + 1) a3 (by omega)
    refine rq_iM (fun w0 => ?_) (fun w0 => rq_iM (fun w1 => ?_) (fun w1 => ?_))
    · have hc : PQ (f_X2_looksLike v3 w s) (fun r s' => s' = s ∧ Fl (¬ x8 ≤ 0) r) := by
        unfold f_X2_looksLike
        rw [if_pos w0]
        refine pq_c (fun _ => ?_)
        rw [cl_h h3, gg.2.1, ← e8]
        exact (pq_f0 ⟨fun a b => b a, fun a => Classical.byContradiction a⟩)
      exact rq_iM (fun c => tl _ 0 (Or.inr ⟨rfl, fun z => z c⟩) hc) (fun c => tl _ 1 (Or.inl ⟨rfl, c⟩) hc)
    · have hc : PQ (f_X2_looksLike v3 w s) (fun r s' => s' = s ∧ Fl (¬ x12 ≤ 0) r) := by
        unfold f_X2_looksLike
        rw [if_neg w0, if_pos w1]
        refine pq_c (fun _ => ?_)
        rw [cl_h h3, gg.2.2, ← e12]
        exact (pq_f0 ⟨fun a b => b a, fun a => Classical.byContradiction a⟩)
      exact rq_iM (fun c => tl _ 0 (Or.inr ⟨rfl, fun z => z c⟩) hc) (fun c => tl _ 1 (Or.inl ⟨rfl, c⟩) hc)
    · refine rq_bM (grains_m h3 i8 t) (fun r15 t16 y => ?_)
      obtain ⟨ev, y⟩ := y
      subst ev
      have s12 : x12.toInt = (t16.1 1 (18 + 3 * i)).toInt := by rw [e12]
      have ad : (r15 + x12).toInt = r15.toInt + x12.toInt := by
        rw [y]
        exact i_addx _ _ (by omega)
      rw [← y] at ly
      have hc : PQ (f_X2_looksLike v3 w s) (fun r s' => s' = s ∧ Fl (r15 + x12 = 0) r) := by
        unfold f_X2_looksLike
        rw [if_neg w0, if_neg w1]
        refine pq_c (fun _ => ?_)
        rw [cl_h h3, gg.2.2, ← e12]
        refine (pq_if (fun z => pq_b (ly_c H.1.2.1 h3 i8) (fun r4 s5 u => ?_)) (fun z => pq_s ⟨rfl, Or.inr ⟨rfl, fun u => ?_⟩⟩))
        · obtain ⟨es, u⟩ := u
          subst es
          rw [← y] at u
          rw [z, add0, u]
          exact pq_fl Iff.rfl
        · have u := i_eq u
          have z := i_ne z
          omega
      exact rq_iM (fun c => tl _ 1 (Or.inl ⟨rfl, c⟩) hc) (fun c => tl _ 0 (Or.inr ⟨rfl, c⟩) hc)
theorem steps_q {s t : Sg} (H : NowG 0 s t) {K : Int} (G : GnR (t.1 1) K) (hK : K ≤ 1000000000) (a : Int32) : RQ (f_X11_steps a s) (f_X12_steps a t) AnQ := by
  have e0 : (0 : Int32).toInt = 0 := rfl
  have e2 : (2 : Int32).toInt = 2 := rfl
  unfold f_X11_steps f_X12_steps
  refine rq_bC (wi_p a 0 2 s) (fun r1 s2 g => ?_)
  obtain ⟨es, g⟩ := g
  subst es
  rcases g with ⟨z, g1, g2⟩ | ⟨z, g⟩
  · rw [z, if1]
    exact rq_iM (fun c => absurd (i_lt c) (by omega)) (fun _ => rq_iM (fun _ => ste_b H G hK a (by omega) BIG BIG 0 0 0 rfl H.1.1.2.1.1.1) (fun c => absurd (i_nle c) (by omega)))
  · rw [z, if0]
    refine rq_iM (fun _ => aq_rf s2 t 1) (fun c => rq_iM (fun d => absurd ⟨?_, ?_⟩ g) (fun _ => aq_rf s2 t 1))
    · have := i_nlt c
      omega
    · have := i_le d
      omega
