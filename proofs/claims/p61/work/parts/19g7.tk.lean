/-! both programs side by side -/
def RQ {α β : Type} (oC : Option (α × Sg)) (oM : Option (β × Sg)) (R : α → Sg → β → Sg → Prop) : Prop := ∀ a s b t, oC = some (a, s) → oM = some (b, t) → R a s b t
theorem rq_pp {α β : Type} {oC : Option (α × Sg)} {oM : Option (β × Sg)} {P : α → Sg → Prop} {Q : β → Sg → Prop} {R : α → Sg → β → Sg → Prop} (h : PQ oC P) (g : PQ oM Q) (f : ∀ a s b t, P a s → Q b t → R a s b t) : RQ oC oM R := fun a s b t e e2 => f a s b t (h a s e) (g b t e2)
theorem rq_w {α β : Type} {oC : Option (α × Sg)} {oM : Option (β × Sg)} {S R : α → Sg → β → Sg → Prop} (h : RQ oC oM S) (f : ∀ a s b t, S a s b t → R a s b t) : RQ oC oM R := fun a s b t e e2 => f a s b t (h a s b t e e2)
theorem rq_iC {α β : Type} {c : Prop} [Decidable c] {a b : Option (α × Sg)} {oM : Option (β × Sg)} {R : α → Sg → β → Sg → Prop} (h : c → RQ a oM R) (g : ¬ c → RQ b oM R) : RQ (if c then a else b) oM R := by
  by_cases q : c
  · rw [if_pos q]; exact h q
  · rw [if_neg q]; exact g q
theorem rq_iM {α β : Type} {c : Prop} [Decidable c] {a b : Option (β × Sg)} {oC : Option (α × Sg)} {R : α → Sg → β → Sg → Prop} (h : c → RQ oC a R) (g : ¬ c → RQ oC b R) : RQ oC (if c then a else b) R := by
  by_cases q : c
  · rw [if_pos q]; exact h q
  · rw [if_neg q]; exact g q
theorem rq_cC {α β : Type} {c : Prop} [Decidable c] {k : Option (α × Sg)} {oM : Option (β × Sg)} {R : α → Sg → β → Sg → Prop} (h : c → RQ k oM R) : RQ (ck c k) oM R := by
  unfold ck
  by_cases q : c
  · rw [if_pos q]; exact h q
  · rw [if_neg q]; intro a s b t e; cases e
theorem rq_cM {α β : Type} {c : Prop} [Decidable c] {k : Option (β × Sg)} {oC : Option (α × Sg)} {R : α → Sg → β → Sg → Prop} (h : c → RQ oC k R) : RQ oC (ck c k) R := by
  unfold ck
  by_cases q : c
  · rw [if_pos q]; exact h q
  · rw [if_neg q]; intro a s b t _ e; cases e
theorem rq_bC {α α' β : Type} {o : Option (α' × Sg)} {k : α' → Sg → Option (α × Sg)} {oM : Option (β × Sg)} {P : α' → Sg → Prop} {R : α → Sg → β → Sg → Prop} (h : PQ o P) (g : ∀ r s, P r s → RQ (k r s) oM R) : RQ (bd o k) oM R := by
  cases o with
  | none => intro a s b t e; cases e
  | some q => exact g q.1 q.2 (h q.1 q.2 rfl)
theorem rq_bM {α β β' : Type} {o : Option (β' × Sg)} {k : β' → Sg → Option (β × Sg)} {oC : Option (α × Sg)} {P : β' → Sg → Prop} {R : α → Sg → β → Sg → Prop} (h : PQ o P) (g : ∀ r s, P r s → RQ oC (k r s) R) : RQ oC (bd o k) R := by
  cases o with
  | none => intro a s b t _ e; cases e
  | some q => exact g q.1 q.2 (h q.1 q.2 rfl)
theorem rq_b2 {α α' β β' : Type} {oC : Option (α' × Sg)} {kC : α' → Sg → Option (α × Sg)} {oM : Option (β' × Sg)} {kM : β' → Sg → Option (β × Sg)} {S : α' → Sg → β' → Sg → Prop} {R : α → Sg → β → Sg → Prop} (h : RQ oC oM S) (g : ∀ a s b t, S a s b t → RQ (kC a s) (kM b t) R) : RQ (bd oC kC) (bd oM kM) R := by
  cases oC with
  | none => intro a s b t e; cases e
  | some p =>
    cases oM with
    | none => intro a s b t _ e; cases e
    | some q => exact g p.1 p.2 q.1 q.2 (h _ _ _ _ rfl rfl)
theorem rq_nC {α β γ : Type} {e : γ} {k : γ → Option (α × Sg)} {oM : Option (β × Sg)} {R : α → Sg → β → Sg → Prop} (h : ∀ x, x = e → RQ (k x) oM R) : RQ (nmx e k) oM R := h e rfl
theorem rq_nM {α β γ : Type} {e : γ} {k : γ → Option (β × Sg)} {oC : Option (α × Sg)} {R : α → Sg → β → Sg → Prop} (h : ∀ x, x = e → RQ oC (k x) R) : RQ oC (nmx e k) R := h e rfl
theorem rq_s {α β : Type} {a : α} {s : Sg} {b : β} {t : Sg} {R : α → Sg → β → Sg → Prop} (h : R a s b t) : RQ (some (a, s)) (some (b, t)) R := by
  intro a' s' b' t' e e2
  cases e
  cases e2
  exact h
/-! the token on both sides -/
def TkRel (n : Nat) (sC sM : Sg) : Prop := ∃ st en : Nat, (TkA (sC.1 1) n sC ∧ TkM n sM ∧ (∀ i, i < n → sC.1 1 i = byM sM i)) ∧ (st ≤ n ∧ st ≤ en ∧ en ≤ n) ∧ ((sC.1 7 4).toInt = (st : Int) ∧ (sC.1 7 2).toInt = (en : Int) ∧ (sM.1 0 13).toInt = (st : Int) ∧ (sM.1 0 14).toInt = (en : Int)) ∧ TokE (sC.1 1) n st en ∧ KindC (sC.1 1) n st en sC ∧ KindM (sC.1 1) n st en sM
theorem toke_le {B : Nat → Int32} {n st en : Nat} (h : TokE B n st en) : st ≤ en ∧ en ≤ n := by
  rcases h with h | ⟨h1, h | h | h⟩
  · omega
  · have := h.2.1
    have := h.2.2.1
    omega
  · have := h.2.1
    have := h.2.2.1
    omega
  · omega
theorem dv_c {B B' : Nat → Int32} {st : Nat} : ∀ k, (∀ i, i < k → B (st + i) = B' (st + i)) → dv B st k = dv B' st k
  | 0, _ => rfl
  | k + 1, h => by
    unfold dv
    rw [dv_c k (fun i hi => h i (by omega)), h k (by omega)]
theorem kindm_c {B B' : Nat → Int32} {n st en : Nat} {s : Sg} (e : ∀ i, i < n → B i = B' i) (hen : en ≤ n) (h : KindM B n st en s) : KindM B' n st en s := by
  rcases h with h | h | h | h
  · exact Or.inl h
  · refine Or.inr (Or.inl ?_)
    rw [← e st h.1]
    exact h
  · refine Or.inr (Or.inr (Or.inl ?_))
    rw [← e st h.1, ← dv_c (en - st) (fun i hi => e (st + i) (by omega))]
    exact h
  · refine Or.inr (Or.inr (Or.inr ?_))
    rw [← e st h.1]
    exact h
theorem adv_r {n : Nat} {sC sM : Sg} (h : TkRel n sC sM) : RQ (f_X7_advance sC) (f_X12_ahead sM) (fun _ s _ t => TkRel n s t) := by
  obtain ⟨st, en, ⟨ha, hm, hb⟩, ⟨l1, l2, l3⟩, ⟨p1, p2, p3, p4⟩, -, -, -⟩ := h
  refine rq_pp (adv_c (sC.1 1) n en ha p2 l3) (ahd_m n en hm p4 l3) (fun _ s _ t c m => ?_)
  obtain ⟨ca, st1, en1, c1, c2, c3, c4, c5⟩ := c
  obtain ⟨mk, st2, en2, m1, m2, m3, m4, m5⟩ := m
  have hb' : ∀ i, i < n → byM sM i = sC.1 1 i := fun i hi => (hb i hi).symm
  have m1 := toks_c hb' m1
  have e1 := toks_u c1 m1
  subst e1
  have m2' := toke_c hb' m2
  have e2 := toke_u c2 m2'
  subst e2
  have le := toke_le c2
  have ea := ca.1
  refine ⟨st1, en1, ⟨⟨rfl, ca.2.1, ca.2.2⟩, km0_t mk hm, fun i hi => ?_⟩, ⟨c1.2.1, le.1, le.2⟩, ⟨c3, c4, m3, m4⟩, ?_, ?_, ?_⟩
  · rw [ea, km0_b mk]
    exact hb i hi
  · rw [ea]; exact c2
  · rw [ea]; exact c5
  · rw [ea]; exact kindm_c hb' le.2 m5
theorem kwf_k {B : Nat → Int32} {st k : Nat} (hk : k ≤ 8) (hl : Lets B st k) : (∃ i : Nat, i < 31 ∧ (kwf (p27 B st k) (flatK KWC) 100 0).toInt = 100 + (i : Int)) ∨ kwf (p27 B st k) (flatK KWC) 100 0 = 1 := by
  have hC : KWC.length = 31 := by decide
  rcases kwf_x hk hl KWC 100 okCL with ⟨i, g1, g2, g3⟩ | ⟨g1, g2⟩
  · rw [hC] at g1
    refine Or.inl ⟨i, g1, ?_⟩
    rw [g3]
    have a := i_add 100 (Int32.ofNat i)
    have b : (Int32.ofNat i).toInt = (i : Int) := Int32.toInt_ofNat_of_lt (by omega)
    have e : (100 : Int32).toInt = 100 := rfl
    omega
  · exact Or.inr g2
theorem run_l {B : Nat → Int32} {n st en : Nat} (h : RunE isL B n st en) : Lets B st (en - st) := fun i h1 h2 => h.2.2.1 i h1 (by have := h.1; omega)
theorem toke_l {B : Nat → Int32} {n st en : Nat} (h : TokE B n st en) (hs : st < n) (hl : isL (B st)) : RunE isL B n st en := by
  rcases h with h | ⟨h1, h | h | h⟩
  · omega
  · exact h.2
  · exact absurd h.1 (isL_nD hl)
  · exact absurd hl h.1
/-- a token's kinds on both sides, without its place -/
def KndR (sC sM : Sg) : Prop := (sC.1 7 3 = 0 ∧ sM.1 0 12 = 0) ∨ (sC.1 7 3 = 4 ∧ sM.1 0 12 = 1) ∨ (sC.1 7 3 = 3 ∧ sM.1 0 12 = 3 ∧ sC.1 7 5 = sM.1 0 15 ∧ (0 ≤ (sC.1 7 5).toInt ∧ (sC.1 7 5).toInt ≤ 9999)) ∨ (isS (sC.1 7 3) ∧ sM.1 0 12 = 4 ∧ sM.1 0 15 = sC.1 7 3) ∨ (sM.1 0 12 = 2 ∧ (sC.1 7 3 = 2 ∨ sC.1 7 3 = 1 ∨ ∃ i : Nat, i < 31 ∧ (sC.1 7 3).toInt = 100 + (i : Int)))
theorem knd_of {n : Nat} {sC sM : Sg} (h : TkRel n sC sM) : KndR sC sM := by
  obtain ⟨st, en, -, -, -, te, c, m⟩ := h
  rcases c with c | c | c | c <;> rcases m with m | m | m | m
  · exact Or.inl ⟨c.2, m.2⟩
  · omega
  · omega
  · omega
  · omega
  · refine Or.inr (Or.inr (Or.inr (Or.inr ⟨m.2.2, ?_⟩)))
    rcases c.2.2 with q | q
    · exact Or.inl q.2
    · have l := run_l (toke_l te c.1 c.2.1)
      rcases kwf_k q.1 l with w | w
      · exact Or.inr (Or.inr (by rw [q.2.2]; exact w))
      · exact Or.inr (Or.inl (by rw [q.2.2]; exact w))
  · exact absurd m.2.1 (isL_nD c.2.1)
  · exact absurd c.2.1 m.2.1
  · omega
  · exact absurd c.2.1 (isL_nD m.2.1)
  · rcases c.2.2 with q | q <;> rcases m.2.2 with p | p
    · refine Or.inr (Or.inr (Or.inl ⟨q.2.1, p.2.1, Int32.toInt_inj.mp (q.2.2.trans p.2.2.symm), ?_⟩))
      have hd : Digs (sC.1 1) st (en - st) := by
        rcases te with h | ⟨h1, h | h | h⟩
        · omega
        · exact absurd c.2.1 (isL_nD h.1)
        · intro i i1 i2
          exact h.2.2.2.1 i i1 (by have := h.2.1; omega)
        · exact absurd c.2.1 h.2.1
      have b := dv_b _ hd
      have b2 := pw10 q.1
      rw [q.2.2]
      omega
    · omega
    · omega
    · exact Or.inr (Or.inl ⟨q.2, p.2⟩)
  · exact absurd c.2.1 m.2.2.1
  · omega
  · exact absurd m.2.1 c.2.1
  · exact absurd m.2.1 c.2.2.1
  · rcases c.2.2.2 with q | q <;> rcases m.2.2.2 with p | p
    · refine Or.inr (Or.inr (Or.inr (Or.inl ⟨by rw [q.2]; exact q.1, p.2.1, by rw [q.2]; exact p.2.2⟩)))
    · exact absurd q.1 p.1
    · exact absurd p.1 q.1
    · exact Or.inr (Or.inl ⟨q.2, p.2⟩)
theorem isS_t {c : Int32} (h : isS c) : 59 ≤ c.toInt ∧ c.toInt ≤ 62 := by
  rcases h with h | h | h | h <;> subst h <;> decide
theorem sign_r {n : Nat} {sC sM : Sg} (h : TkRel n sC sM) (c : Int32) (hc : isS c) : PQ (f_X12_isSign c sM) (fun r t => t = sM ∧ ((r = 1 ∧ sC.1 7 3 = c) ∨ (r = 0 ∧ ¬ sC.1 7 3 = c))) := by
  have k := knd_of h
  have t := isS_t hc
  unfold f_X12_isSign
  refine pq_if (fun d => pq_if (fun e => pq_s ⟨rfl, Or.inl ⟨rfl, ?_⟩⟩) (fun e => pq_s ⟨rfl, Or.inr ⟨rfl, ?_⟩⟩)) (fun d => pq_s ⟨rfl, Or.inr ⟨rfl, ?_⟩⟩)
  · rcases k with k | k | k | k | k
    · exact absurd (d.symm.trans k.2) (by decide)
    · exact absurd (d.symm.trans k.2) (by decide)
    · exact absurd (d.symm.trans k.2.1) (by decide)
    · exact k.2.2.symm.trans e
    · exact absurd (d.symm.trans k.1) (by decide)
  · intro w
    rcases k with k | k | k | k | k
    · exact absurd (d.symm.trans k.2) (by decide)
    · exact absurd (d.symm.trans k.2) (by decide)
    · exact absurd (d.symm.trans k.2.1) (by decide)
    · exact e (k.2.2.trans w)
    · exact absurd (d.symm.trans k.1) (by decide)
  · intro w
    unfold KndR at k
    rw [w] at k
    rcases k with k | k | k | k | k
    · have e0 : (0 : Int32).toInt = 0 := rfl
      rw [k.1] at t
      omega
    · have e0 : (4 : Int32).toInt = 4 := rfl
      rw [k.1] at t
      omega
    · have e0 : (3 : Int32).toInt = 3 := rfl
      rw [k.1] at t
      omega
    · exact d k.2.1
    · rcases k.2 with q | q | ⟨i, q1, q2⟩
      · have e0 : (2 : Int32).toInt = 2 := rfl
        rw [q] at t
        omega
      · have e0 : (1 : Int32).toInt = 1 := rfl
        rw [q] at t
        omega
      · omega
/-- the word's kind and what the reference finds -/
def KwS (k r : Int32) : Prop := (∃ i : Nat, i < 31 ∧ k.toInt = 100 + (i : Int) ∧ r.toInt = ((permK.getD i 0 : Nat) : Int)) ∨ ((k.toInt < 100 ∨ 130 < k.toInt) ∧ r = -1)
theorem word_r {n : Nat} {sC sM : Sg} (h : TkRel n sC sM) : PQ (f_X12_inWords_1001 sM) (fun r t => t = sM ∧ KwS (sC.1 7 3) r ∧ (sC.1 7 3 = 1 → r = -1)) := by
  have k := knd_of h
  obtain ⟨st, en, ⟨ha, hm, hb⟩, ⟨l1, l2, l3⟩, ⟨p1, p2, p3, p4⟩, te, c, m⟩ := h
  have e0 : (0 : Int32).toInt = 0 := rfl
  have e1 : (1 : Int32).toInt = 1 := rfl
  have e2 : (2 : Int32).toInt = 2 := rfl
  have e3 : (3 : Int32).toInt = 3 := rfl
  have e4 : (4 : Int32).toInt = 4 := rfl
  refine pq_w (iw_p (byM sM) n st en ⟨hm, rfl, p3, p4, l2, l3⟩) (fun r t g => ⟨g.1, ?_⟩)
  rcases g.2 with ⟨g2, g⟩ | ⟨g2, g⟩
  · have hs : st < n ∧ isL (sC.1 1 st) := by
      rcases m with m | m | m | m
      · exact absurd (g2.symm.trans m.2) (by decide)
      · exact ⟨m.1, m.2.1⟩
      · rcases m.2.2 with q | q
        · exact absurd (g2.symm.trans q.2.1) (by decide)
        · exact absurd (g2.symm.trans q.2) (by decide)
      · rcases m.2.2.2 with q | q
        · exact absurd (g2.symm.trans q.2.1) (by decide)
        · exact absurd (g2.symm.trans q.2) (by decide)
    have run := toke_l te hs.1 hs.2
    have lt := run_l run
    have ca : (8 < en - st ∧ sC.1 7 3 = 2) ∨ (en - st ≤ 8 ∧ sC.2 7 6 = p27 (sC.1 1) st (en - st) ∧ sC.1 7 3 = kwf (p27 (sC.1 1) st (en - st)) (flatK KWC) 100 0) := by
      rcases c with c | c | c | c
      · omega
      · exact c.2.2
      · exact absurd c.2.1 (isL_nD hs.2)
      · exact absurd hs.2 c.2.1
    have g' : (∃ j : Nat, j < 31 ∧ IsW (sC.1 1) st (en - st) (KWM.getD j []) ∧ r.toInt = (j : Int)) ∨ ((∀ j, j < 31 → ¬ IsW (sC.1 1) st (en - st) (KWM.getD j [])) ∧ r = -1) := by
      have eb : ∀ i, i < en - st → byM sM (st + i) = sC.1 1 (st + i) := fun i hi => (hb (st + i) (by omega)).symm
      have eb' : ∀ i, i < en - st → sC.1 1 (st + i) = byM sM (st + i) := fun i hi => hb (st + i) (by omega)
      rcases g with ⟨j, g1, g3, g4⟩ | ⟨g1, g3⟩
      · exact Or.inl ⟨j, g1, isW_c eb g3, g4⟩
      · exact Or.inr ⟨fun j hj w => g1 j hj (isW_c eb' w), g3⟩
    rcases ca with q | q
    · have hr : r = -1 := by
        rcases g' with ⟨j, g1, g3, g4⟩ | ⟨g1, g3⟩
        · exfalso
          have ok := (okK_x (List.all_eq_true.mp okML _ (show KWM.getD j [] ∈ KWM from by
            rw [List.getD_eq_getElem?_getD, List.getElem?_eq_getElem (show j < KWM.length from g1)]
            exact List.getElem_mem _))).1
          have := g3.1
          omega
        · exact g3
      exact ⟨Or.inr ⟨Or.inl (by rw [q.2, e2]; omega), hr⟩, fun _ => hr⟩
    · have w := kwr_of q.1 lt g'
      rw [← q.2.2] at w
      rcases w with ⟨i, w1, w2, w3⟩ | ⟨w1, w2⟩
      · exact ⟨Or.inl ⟨i, w1, w2, w3⟩, fun z => by rw [z, e1] at w2; omega⟩
      · exact ⟨Or.inr ⟨Or.inl (by rw [w1, e1]; omega), w2⟩, fun _ => w2⟩
  · refine ⟨Or.inr ⟨?_, g⟩, fun _ => g⟩
    rcases k with k | k | k | k | k
    · rw [k.1, e0]; omega
    · rw [k.1, e4]; omega
    · rw [k.1, e3]; omega
    · have := isS_t k.1
      omega
    · exact absurd k.1 g2
theorem name_r {n : Nat} {sC sM : Sg} (h : TkRel n sC sM) : PQ (f_X12_isName_1001 sM) (fun r t => t = sM ∧ ((r = 1 ∧ sC.1 7 3 = 1) ∨ (r = 0 ∧ ¬ sC.1 7 3 = 1))) := by
  have k := knd_of h
  have wr := word_r h
  obtain ⟨st, en, ⟨ha, hm, hb⟩, ⟨l1, l2, l3⟩, ⟨p1, p2, p3, p4⟩, te, c, m⟩ := h
  have e0 : (0 : Int32).toInt = 0 := rfl
  have e1 : (1 : Int32).toInt = 1 := rfl
  have e2 : (2 : Int32).toInt = 2 := rfl
  have e8 : (8 : Int32).toInt = 8 := rfl
  have hn := hm.1
  have h9 := hm.2
  have sb := i_sub (sM.1 0 14) (sM.1 0 13)
  unfold f_X12_isName_1001
  refine pq_if (fun d => pq_if (fun d8 => pq_s ⟨rfl, Or.inr ⟨rfl, fun w => ?_⟩⟩) (fun d8 => pq_b wr (fun r1 s2 g => ?_))) (fun d => pq_s ⟨rfl, Or.inr ⟨rfl, fun w => ?_⟩⟩)
  · have d8 := i_lt d8
    rcases c with c | c | c | c
    · exact absurd (w.symm.trans c.2) (by decide)
    · rcases c.2.2 with q | q
      · exact absurd (w.symm.trans q.2) (by decide)
      · omega
    · rcases c.2.2 with q | q
      · exact absurd (w.symm.trans q.2.1) (by decide)
      · exact absurd (w.symm.trans q.2) (by decide)
    · rcases c.2.2.2 with q | q
      · have t := isS_t q.1
        rw [← q.2, w, e1] at t
        omega
      · exact absurd (w.symm.trans q.2) (by decide)
  · have d8 := i_nlt d8
    obtain ⟨es, g, g1⟩ := g
    subst es
    refine pq_if (fun c1 => pq_s ⟨rfl, Or.inl ⟨rfl, ?_⟩⟩) (fun c1 => pq_s ⟨rfl, Or.inr ⟨rfl, fun w => c1 (g1 w)⟩⟩)
    rcases k with k | k | k | k | k
    · exact absurd (d.symm.trans k.2) (by decide)
    · exact absurd (d.symm.trans k.2) (by decide)
    · exact absurd (d.symm.trans k.2.1) (by decide)
    · exact absurd (d.symm.trans k.2.1) (by decide)
    · rcases k.2 with q | q | ⟨i, q1, q2⟩
      · exfalso
        rcases c with c | c | c | c
        · exact absurd (q.symm.trans c.2) (by decide)
        · rcases c.2.2 with z | z
          · omega
          · rcases kwf_k z.1 (run_l (toke_l te c.1 c.2.1)) with ⟨i, w1, w2⟩ | w
            · rw [← z.2.2, q, e2] at w2
              omega
            · exact absurd (q.symm.trans (z.2.2.trans w)) (by decide)
        · rcases c.2.2 with z | z
          · exact absurd (q.symm.trans z.2.1) (by decide)
          · exact absurd (q.symm.trans z.2) (by decide)
        · rcases c.2.2.2 with z | z
          · have t := isS_t z.1
            rw [← z.2, q, e2] at t
            omega
          · exact absurd (q.symm.trans z.2) (by decide)
      · exact q
      · exfalso
        rcases g with ⟨i', w1, w2, w3⟩ | ⟨w1, w2⟩
        · rw [c1] at w3
          have em : (-1 : Int32).toInt = -1 := rfl
          omega
        · omega
  · unfold KndR at k
    rw [w] at k
    rcases k with k | k | k | k | k
    · exact absurd k.1 (by decide)
    · exact absurd k.1 (by decide)
    · exact absurd k.1 (by decide)
    · have t := isS_t k.1
      omega
    · exact d k.1
theorem nh_b (B : Nat → Int32) (n st en : Nat) (s : Sg) (hs : Wd B n st en s) (m : Nat) : ∀ (i : Nat) (v1 : Int64) (v3 : Int32), v3.toInt = (st : Int) + (i : Int) → st + i ≤ en → v1 = p256 B st i → PQ (f_X12_nameHere_b7 m v1 v3 s) (fun r t => t = s ∧ r = p256 B st (en - st)) := by
  obtain ⟨hm, hb, h13, h14, hse, hen⟩ := hs
  have hn := hm.1
  have h9 := hm.2
  induction m with
  | zero => intro i v1 v3 _ _ _ r s9 e; cases e
  | succ m ih =>
    intro i v1 v3 h3 hi h1
    have e1 : (1 : Int32).toInt = 1 := rfl
    have cl := cl_nat v3
    have d : v3.toNatClampNeg = st + i := by omega
    have a3 : (v3 + 1).toInt = v3.toInt + 1 := i_addx v3 1 (show -2147483648 ≤ v3.toInt + 1 ∧ v3.toInt + 1 ≤ 2147483647 from by omega)
    unfold f_X12_nameHere_b7
    refine pq_if (fun c => pq_s ⟨rfl, ?_⟩) (fun c => pq_b (by_p _ n hm (by omega)) (fun r1 s2 g => ?_))
    · have c := i_le c
      have q : i = en - st := by omega
      rw [h1, q]
    · have c := i_nle c
      obtain ⟨es, g⟩ := g
      subst es
      rw [hb, d] at g
      have gr : r1 = B (st + i) := by
        rcases g with w | w
        · omega
        · exact w.2
      refine pq_n (fun x3 ex => ih (i + 1) x3 (v3 + 1) (by omega) (by omega) ?_)
      rw [ex, h1, gr]
      rfl
theorem here_r {n : Nat} {sC sM : Sg} (h : TkRel n sC sM) (hk : sC.1 7 3 = 1) : ∃ b, NameR (sC.2 7 6) b ∧ PQ (f_X12_nameHere sM) (fun r t => t = sM ∧ r = b) := by
  obtain ⟨st, en, ⟨ha, hm, hb⟩, ⟨l1, l2, l3⟩, ⟨p1, p2, p3, p4⟩, te, c, m⟩ := h
  have e0 : (0 : Int32).toInt = 0 := rfl
  have e1 : (1 : Int32).toInt = 1 := rfl
  have w : (st < n ∧ isL (sC.1 1 st)) ∧ en - st ≤ 8 ∧ sC.2 7 6 = p27 (sC.1 1) st (en - st) := by
    rcases c with c | c | c | c
    · exact absurd (hk.symm.trans c.2) (by decide)
    · rcases c.2.2 with q | q
      · exact absurd (hk.symm.trans q.2) (by decide)
      · exact ⟨⟨c.1, c.2.1⟩, q.1, q.2.1⟩
    · rcases c.2.2 with q | q
      · exact absurd (hk.symm.trans q.2.1) (by decide)
      · exact absurd (hk.symm.trans q.2) (by decide)
    · rcases c.2.2.2 with q | q
      · have t := isS_t q.1
        rw [← q.2, hk, e1] at t
        omega
      · exact absurd (hk.symm.trans q.2) (by decide)
  have lt := run_l (toke_l te w.1.1 w.1.2)
  refine ⟨p256 (byM sM) st (en - st), ⟨sC.1 1, st, en - st, w.2.1, lt, w.2.2, p256_c _ (fun i hi => (hb (st + i) (by omega)).symm)⟩, ?_⟩
  unfold f_X12_nameHere
  exact nh_b (byM sM) n st en sM ⟨hm, rfl, p3, p4, l2, l3⟩ BIG 0 0 (sM.1 0 13) (by omega) (by omega) rfl
/-! faults -/
def FtR (sC sM : Sg) : Prop := sC.1 7 8 = sM.1 0 18 ∧ sC.1 7 9 = sM.1 0 17 ∧ 0 < (sM.1 0 18).toInt
theorem fails_r {n : Nat} {sC sM : Sg} (h : TkRel n sC sM) (h0 : sM.1 0 18 = 0) (a : Int32) (ha : 0 < a.toInt) : RQ (f_X7_wrong a sC) (f_X12_fails a sM) (fun r s r2 t => r = 0 ∧ r2 = 0 ∧ FtR s t) := by
  have k := knd_of h
  have b4 : sC.1 7 3 = 4 ↔ sM.1 0 12 = 1 := by
    rcases k with k | k | k | k | k
    · rw [k.1, k.2]; decide
    · rw [k.1, k.2]; decide
    · rw [k.1, k.2.1]; decide
    · rw [k.2.1]
      refine ⟨fun w => ?_, fun w => absurd w (by decide)⟩
      have t := isS_t k.1
      have e4 : (4 : Int32).toInt = 4 := rfl
      rw [w] at t
      omega
    · rw [k.1]
      refine ⟨fun w => ?_, fun w => absurd w (by decide)⟩
      have e4 : (4 : Int32).toInt = 4 := rfl
      rcases k.2 with q | q | ⟨i, q1, q2⟩
      · exact absurd (w.symm.trans q) (by decide)
      · exact absurd (w.symm.trans q) (by decide)
      · rw [w] at q2
        omega
  obtain ⟨st, en, -, -, ⟨p1, p2, p3, p4⟩, -, -, -⟩ := h
  have pe : sC.1 7 4 = sM.1 0 13 := Int32.toInt_inj.mp (p1.trans p3.symm)
  unfold f_X7_wrong f_X12_fails
  refine rq_iM (fun _ => ?_) (fun w => absurd h0 w)
  refine rq_iC (fun c => rq_iM (fun d => rq_nC (fun s1 e1 => rq_nM (fun t1 f1 => rq_s ⟨rfl, rfl, ?_⟩))) (fun d => absurd (b4.mp c) d)) (fun c => rq_iM (fun d => absurd (b4.mpr d) c) (fun d => rq_nC (fun s1 e1 => rq_nM (fun t1 f1 => rq_s ⟨rfl, rfl, ?_⟩))))
  · subst e1; subst f1
    refine ⟨by rw [q_ne rfl, q_eq, q_ne rfl, q_eq], by rw [q_eq, q_eq, q_ne rfl, q_ne rfl, pe], by rw [q_ne rfl, q_eq]; decide⟩
  · subst e1; subst f1
    refine ⟨by rw [q_ne rfl, q_eq, q_ne rfl, q_eq], by rw [q_eq, q_eq, q_ne rfl, q_ne rfl, pe], by rw [q_ne rfl, q_eq]; exact ha⟩
