/-! texts: steps of both readers -/
abbrev LTC : Nat := 190029447067370218436435031366638338768723651150766669824
abbrev LTD : Nat := 386188876298203992306303450841877914271922258790267748352
abbrev LTM : Nat := 64424509440
abbrev LTN : Nat := 64424509442
abbrev MTC : Nat := 2037035976334486086268445688409377967957030244563940097484415028415424163802207311049523197
abbrev MTM : Nat := 2037035976334486086268445688409378161051468393665936250636140449354381299763336639611404159
theorem fr_tr {cd : Nat → Nat → Nat} {L : Nat} {a b c : Sg} (h : Fr cd L a b) (g : Fr cd L b c) : Fr cd L a c := fun x k e => ⟨(g x k e).1.trans (h x k e).1, (g x k e).2.trans (h x k e).2⟩
theorem fr_up {cd : Nat → Nat → Nat} {L M : Nat} {s0 s : Sg} (h : Fr cd L s0 s) (hL : L &&& M = L) : Fr cd M s0 s := fun c k hb => h c k (tb_sub hL hb)
theorem tk_f {n : Nat} {sC sM sC' sM' : Sg} {L1 L2 : Nat} (h : TkRel n sC sM) (f : Fr cC L1 sC sC') (g : Fr cdN L2 sM sM') (h1 : L1 &&& MTC = L1) (h2 : L2 &&& MTM = L2) : TkRel n sC' sM' := by
  have f' := fr_up f h1
  have g' := fr_up g h2
  have a1 : sC'.1 1 = sC.1 1 := funext fun k => fr_e f' 1 k 1 rfl rfl
  have c1 := fr_e f' 7 1 181 rfl rfl
  have c2 := fr_e f' 7 2 182 rfl rfl
  have c3 := fr_e f' 7 3 183 rfl rfl
  have c4 := fr_e f' 7 4 184 rfl rfl
  have c5 := fr_e f' 7 5 185 rfl rfl
  have c6 := fr_e2 f' 7 6 186 rfl rfl
  have m7 : sM'.1 7 = sM.1 7 := funext fun k => fr_e g' 7 k 7 rfl rfl
  have m1 := fr_e g' 0 11 31 rfl rfl
  have m2 := fr_e g' 0 12 32 rfl rfl
  have m3 := fr_e g' 0 13 33 rfl rfl
  have m4 := fr_e g' 0 14 34 rfl rfl
  have m5 := fr_e g' 0 15 35 rfl rfl
  have by7 : byM sM' = byM sM := by unfold byM; rw [m7]
  unfold TkRel TkA TkM KindC KindM at h ⊢
  rw [a1, c1, c2, c3, c4, c5, c6, m1, m2, m3, m4, m5, by7]
  exact h
/-- one step further on both sides: the token's cells alone have changed -/
def StT (n : Nat) (sC sM s t : Sg) : Prop := TkRel n s t ∧ Fr cC LTC sC s ∧ Fr cdN LTM sM t ∧ (sC.1 7 2).toInt ≤ (s.1 7 4).toInt
theorem tk_pos {n : Nat} {s t : Sg} (h : TkRel n s t) : (s.1 7 4).toInt ≤ (s.1 7 2).toInt ∧ 0 ≤ (s.1 7 4).toInt ∧ (s.1 7 2).toInt ≤ (n : Int) ∧ n ≤ 900 := by
  obtain ⟨st, en, ⟨ha, hm, hb⟩, ⟨l1, l2, l3⟩, ⟨p1, p2, p3, p4⟩, -, -, -⟩ := h
  have := ha.2.2
  omega
theorem tk_lt {n : Nat} {s t : Sg} (h : TkRel n s t) (hk : ¬ s.1 7 3 = 0) : (s.1 7 4).toInt < (s.1 7 2).toInt := by
  obtain ⟨st, en, ⟨ha, hm, hb⟩, ⟨l1, l2, l3⟩, ⟨p1, p2, p3, p4⟩, te, kc, -⟩ := h
  rcases te with e | ⟨e, q | q | q⟩
  · rcases kc with c | c | c | c
    · exact absurd c.2 hk
    · omega
    · omega
    · omega
  · have := q.2.1
    omega
  · have := q.2.1
    omega
  · omega
theorem adv_s {n : Nat} {sC sM : Sg} (h : TkRel n sC sM) : RQ (f_X7_advance sC) (f_X12_ahead sM) (fun _ s _ t => StT n sC sM s t) := by
  have h0 := h
  obtain ⟨st, en, ⟨ha, hm, hb⟩, ⟨l1, l2, l3⟩, ⟨p1, p2, p3, p4⟩, -, -, -⟩ := h
  have key : RQ (f_X7_advance sC) (f_X12_ahead sM) (fun _ s _ t => TkRel n s t) := adv_r h0
  intro a s b t e1 e2
  have c := adv_c (sC.1 1) n en ha p2 l3 a s e1
  obtain ⟨-, st1, en1, c1, c2, c3, c4, c5⟩ := c
  refine ⟨key a s b t e1 e2, fr_up (ft_X7_advance sC a s e1) rfl, fr_up (ft_X12_ahead sM b t e2) rfl, ?_⟩
  have := c1.1
  omega
/-- what both give: 1 and a relation, or 0 and the same fault -/
def Og (G : Sg → Sg → Prop) (r : Int32) (s : Sg) (r' : Int32) (t : Sg) : Prop := (r = 1 ∧ r' = 1 ∧ G s t) ∨ (r = 0 ∧ r' = 0 ∧ FtR s t)
theorem og_i {G H : Sg → Sg → Prop} {r : Int32} {s : Sg} {r' : Int32} {t : Sg} {A B : Option (Int32 × Sg)} (g : Og G r s r' t) (h : G s t → RQ A B (Og H)) : RQ (if r = 0 then some (0, s) else A) (if r' = 0 then some (0, t) else B) (Og H) := by
  rcases g with ⟨e, e', g⟩ | ⟨e, e', g⟩ <;> subst e <;> subst e'
  · rw [if_neg (by decide), if_neg (by decide)]
    exact h g
  · rw [if_pos rfl, if_pos rfl]
    exact rq_s (Or.inr ⟨rfl, rfl, g⟩)
theorem og_c {G H : Sg → Sg → Prop} {r : Int32} {s : Sg} {r' : Int32} {t : Sg} (g : Og G r s r' t) (h : G s t → H s t) : RQ (ck (r = 0 ∨ r = 1) (some (r, s))) (ck (r' = 0 ∨ r' = 1) (some (r', t))) (Og H) := by
  refine rq_cC (fun _ => rq_cM (fun _ => rq_s ?_))
  rcases g with ⟨e, e', g⟩ | g
  · exact Or.inl ⟨e, e', h g⟩
  · exact Or.inr g
theorem og_f {n : Nat} {sC sM : Sg} {H : Sg → Sg → Prop} (h : TkRel n sC sM) (h0 : sM.1 0 18 = 0) (a : Int32) (ha : 0 < a.toInt) : RQ (bd (f_X7_wrong a sC) (fun r s => ck (r = 0 ∨ r = 1) (some (r, s)))) (bd (f_X12_fails a sM) (fun r t => ck (r = 0 ∨ r = 1) (some (r, t)))) (Og H) :=
  rq_b2 (fails_r h h0 a ha) (fun r s r' t g => rq_cC (fun _ => rq_cM (fun _ => rq_s (Or.inr g))))
theorem pass_s {n : Nat} {sC sM : Sg} (h : TkRel n sC sM) (h0 : sM.1 0 18 = 0) (c : Int32) (hc : isS c) : RQ (f_X7_pass c sC) (f_X12_wantSign c sM) (Og (StT n sC sM)) := by
  unfold f_X7_pass f_X12_wantSign
  refine rq_bM (sign_r h c hc) (fun r1 s2 g => ?_)
  obtain ⟨es, g⟩ := g
  subst es
  exact rq_iC (fun d => rq_iM (fun e => absurd d (r1_n g e)) (fun e => rq_b2 (adv_s h) (fun _ s _ t w => rq_s (Or.inl ⟨rfl, rfl, w⟩)))) (fun d => rq_iM (fun e => og_f h h0 2 (by decide)) (fun e => absurd (r1_y g e) d))
set_option maxRecDepth 100000 in
theorem perm_i : ∀ i, i < 31 → ∀ j, j < 31 → permK.getD i 0 = permK.getD j 0 → i = j := by decide +kernel
theorem kws_eq {k r : Int32} (h : KwS k r) {i : Nat} (hi : i < 31) {c p : Int32} (hc : c.toInt = 100 + (i : Int)) (hp : p.toInt = ((permK.getD i 0 : Nat) : Int)) : k = c ↔ r = p := by
  have em : (-1 : Int32).toInt = -1 := rfl
  rcases h with ⟨j, j1, j2, j3⟩ | ⟨j1, j2⟩
  · constructor
    · intro e
      subst e
      have q : i = j := by omega
      subst q
      exact Int32.toInt_inj.mp (j3.trans hp.symm)
    · intro e
      subst e
      have q := perm_i i hi j j1 (by omega)
      subst q
      exact Int32.toInt_inj.mp (j2.trans hc.symm)
  · constructor
    · intro e
      subst e
      omega
    · intro e
      subst e
      rw [j2] at hp
      omega
theorem pass_w {n : Nat} {sC sM : Sg} (h : TkRel n sC sM) (h0 : sM.1 0 18 = 0) (c p : Int32) (i : Nat) (hi : i < 31) (hc : c.toInt = 100 + (i : Int)) (hp : p.toInt = ((permK.getD i 0 : Nat) : Int)) : RQ (f_X7_pass c sC) (f_X12_wantWord_1001 p sM) (Og (StT n sC sM)) := by
  unfold f_X7_pass f_X12_wantWord_1001
  refine rq_bM (word_r h) (fun r1 s2 g => ?_)
  obtain ⟨es, g, -⟩ := g
  subst es
  have e := kws_eq g hi hc hp
  exact rq_iC (fun d => rq_iM (fun f => rq_b2 (adv_s h) (fun _ s _ t w => rq_s (Or.inl ⟨rfl, rfl, w⟩))) (fun f => absurd (e.mp d) f)) (fun d => rq_iM (fun f => absurd (e.mpr f) d) (fun f => og_f h h0 2 (by decide)))
/-- a number has been read: into the class's 'taken', into a place of the reference -/
def NuT (n : Nat) (lo hi : Int) (p : Nat) (sC sM s t : Sg) : Prop := TkRel n s t ∧ Fr cC LTD sC s ∧ Fr cdN LTN sM t ∧ (sC.1 7 2).toInt ≤ (s.1 7 4).toInt ∧ (lo ≤ (s.1 7 7).toInt ∧ (s.1 7 7).toInt ≤ hi) ∧ ∀ k, t.1 1 k = if k = p then s.1 7 7 else sM.1 1 k
theorem num_r {n : Nat} {sC sM : Sg} (h : TkRel n sC sM) (h0 : sM.1 0 18 = 0) (lo hi a : Int32) (p : Nat) (hp : a.toNatClampNeg = p) : RQ (f_X7_passNumber lo hi sC) (f_X12_number a lo hi sM) (Og (NuT n lo.toInt hi.toInt p sC sM)) := by
  have k := knd_of h
  have k3 : sC.1 7 3 = 3 ↔ sM.1 0 12 = 3 := by
    rcases k with k | k | k | k | k
    · rw [k.1, k.2]
    · rw [k.1, k.2]; decide
    · rw [k.1, k.2.1]
    · rw [k.2.1]
      refine ⟨fun w => ?_, fun w => absurd w (by decide)⟩
      have t := isS_t k.1
      have e3 : (3 : Int32).toInt = 3 := rfl
      rw [w] at t
      omega
    · rw [k.1]
      refine ⟨fun w => ?_, fun w => absurd w (by decide)⟩
      have e3 : (3 : Int32).toInt = 3 := rfl
      rcases k.2 with q | q | ⟨i, q1, q2⟩
      · exact absurd (w.symm.trans q) (by decide)
      · exact absurd (w.symm.trans q) (by decide)
      · rw [w] at q2
        omega
  have nv : sC.1 7 3 = 3 → sC.1 7 5 = sM.1 0 15 := by
    intro w
    unfold KndR at k
    rw [w] at k
    rcases k with k | k | k | k | k
    · exact absurd k.1 (by decide)
    · exact absurd k.1 (by decide)
    · exact k.2.2.1
    · exact absurd (isS_t k.1).1 (by decide)
    · rcases k.2 with q | q | ⟨i, q1, q2⟩
      · exact absurd q (by decide)
      · exact absurd q (by decide)
      · have e3 : (3 : Int32).toInt = 3 := rfl
        omega
  unfold f_X7_passNumber f_X12_number
  refine rq_iC (fun c => rq_iM (fun d => ?_) (fun d => absurd (k3.mp c) d)) (fun c => rq_iM (fun d => absurd (k3.mpr d) c) (fun d => og_f h h0 2 (by decide)))
  have e5 := nv c
  refine rq_bC (wi_p (sC.1 7 5) lo hi sC) (fun r1 s2 g => ?_)
  obtain ⟨es, g⟩ := g
  subst es
  refine rq_iC (fun c1 => ?_) (fun c1 => ?_)
  · have ng := r1_n g c1
    refine rq_iM (fun d1 => og_f h h0 4 (by decide)) (fun d1 => rq_iM (fun d2 => absurd ?_ ng) (fun d2 => og_f h h0 4 (by decide)))
    have := i_nlt d1
    have := i_le d2
    rw [e5]
    omega
  · have yg := r1_y g c1
    refine rq_iM (fun d1 => ?_) (fun d1 => rq_iM (fun d2 => rq_cM (fun _ => rq_nM (fun t4 e4 => ?_))) (fun d2 => ?_))
    · have := i_lt d1
      rw [e5] at yg
      omega
    · have f1 : Fr cC (2 ^ 187) s2 (pI s2 7 7 (s2.1 7 5)) := fr_x 187 rfl
      have f2 : Fr cdN (2 ^ 1) sM (pI sM 1 p (sM.1 0 15)) := fr_x 1 rfl
      rw [hp] at e4
      rw [← e4] at f2
      have h' : TkRel n (pI s2 7 7 (s2.1 7 5)) t4 := tk_f h f1 f2 (m_and rfl) (m_and rfl)
      have e7 : ∀ s t, StT n (pI s2 7 7 (s2.1 7 5)) t4 s t → s.1 7 7 = s2.1 7 5 := fun s t w => (fr_e w.2.1 7 7 187 rfl rfl).trans q_eq
      refine rq_b2 (adv_s h') (fun _ s _ t w => rq_s (Or.inl ⟨rfl, rfl, w.1, fr_tr (fr_up f1 (m_and rfl)) (fr_up w.2.1 rfl), fr_tr (fr_up f2 (m_and rfl)) (fr_up w.2.2.1 rfl), ?_, ?_, fun k => ?_⟩))
      · have q := w.2.2.2
        rw [q_ne rfl] at q
        exact q
      · rw [e7 s t w]
        exact yg
      · rw [e7 s t w, e5, fr_e w.2.2.1 1 k 1 rfl rfl, e4, pI_1]
        by_cases q : k = p
        · rw [if_pos ⟨rfl, q⟩, if_pos q]
        · rw [if_neg (fun z => q z.2), if_neg q]
    · have := i_nle d2
      rw [e5] at yg
      omega
