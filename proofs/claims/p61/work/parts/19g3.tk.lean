/-! words of the language -/
def KWC : List (List Int32) := [[104, 111, 117, 115, 101], [115, 97, 108, 116], [115, 117, 103, 97, 114], [103, 111, 110, 101], [113, 117, 97, 114, 114, 101, 108], [111, 102], [97, 110, 100], [110, 101, 101, 100, 115], [99, 97, 116], [102, 114, 111, 109], [116, 111], [116, 97, 107, 101, 115], [103, 114, 111, 99, 101, 114], [115, 116, 111, 99, 107], [112, 114, 105, 99, 101], [115, 119, 101, 101, 116], [114, 97, 105, 110], [119, 97, 115, 104, 101, 115], [99, 111, 117, 110, 116, 115], [98, 117, 121], [115, 116, 114, 101, 119], [115, 119, 101, 101, 112], [115, 110, 111, 119], [110, 105, 103, 104, 116], [119, 104, 101, 110], [111, 118, 101, 114], [116, 114, 117, 99, 101], [108, 105, 101, 115], [108, 111, 111, 112], [101, 110, 100], [115, 116, 111, 112]]
def KWM : List (List Int32) := [[104, 111, 117, 115, 101], [113, 117, 97, 114, 114, 101, 108], [99, 97, 116], [103, 114, 111, 99, 101, 114], [114, 97, 105, 110], [103, 111, 110, 101], [115, 97, 108, 116], [115, 117, 103, 97, 114], [111, 102], [97, 110, 100], [110, 101, 101, 100, 115], [102, 114, 111, 109], [116, 111], [116, 97, 107, 101, 115], [115, 116, 111, 99, 107], [112, 114, 105, 99, 101], [115, 119, 101, 101, 116], [119, 97, 115, 104, 101, 115], [99, 111, 117, 110, 116, 115], [115, 116, 114, 101, 119], [98, 117, 121], [115, 119, 101, 101, 112], [115, 110, 111, 119], [110, 105, 103, 104, 116], [119, 104, 101, 110], [108, 111, 111, 112], [101, 110, 100], [115, 116, 111, 112], [111, 118, 101, 114], [116, 114, 117, 99, 101], [108, 105, 101, 115]]
def permK : List Nat := [0, 6, 7, 5, 1, 8, 9, 10, 2, 11, 12, 13, 3, 14, 15, 16, 4, 17, 18, 20, 19, 21, 22, 23, 24, 28, 29, 30, 25, 26, 27]
def flatK : List (List Int32) → List Int32
  | [] => []
  | K :: r => K ++ (32 :: flatK r)
set_option maxRecDepth 100000 in
theorem flat_c : strB.getD 0 [] = flatK KWC := by decide +kernel
set_option maxRecDepth 100000 in
theorem flat_m : strB.getD 1 [] = 32 :: flatK KWM := by decide +kernel
def okK (K : List Int32) : Bool := decide (0 < K.length) && decide (K.length ≤ 8) && K.all (fun c => decide (97 ≤ c.toInt) && decide (c.toInt ≤ 122))
set_option maxRecDepth 100000 in
theorem okCL : KWC.all okK = true := by decide +kernel
set_option maxRecDepth 100000 in
theorem okML : KWM.all okK = true := by decide +kernel
theorem okK_x {K : List Int32} (h : okK K = true) : (0 < K.length ∧ K.length ≤ 8) ∧ ∀ c, c ∈ K → isL c := by
  unfold okK at h
  rw [Bool.and_eq_true, Bool.and_eq_true] at h
  refine ⟨⟨of_decide_eq_true h.1.1, of_decide_eq_true h.1.2⟩, fun c hc => ?_⟩
  have g := List.all_eq_true.mp h.2 c hc
  rw [Bool.and_eq_true] at g
  exact ⟨of_decide_eq_true g.1, of_decide_eq_true g.2⟩
def IsW (B : Nat → Int32) (st k : Nat) (K : List Int32) : Prop := k = K.length ∧ ∀ i, i < k → B (st + i) = K.getD i 0
theorem isW_u {B : Nat → Int32} {st k : Nat} {K K' : List Int32} (h : IsW B st k K) (g : IsW B st k K') : K = K' := by
  apply List.ext_getElem?
  intro i
  by_cases hi : i < k
  · have a := h.2 i hi
    have b := g.2 i hi
    rw [a] at b
    rw [List.getD_eq_getElem?_getD, List.getD_eq_getElem?_getD] at b
    have h1 : i < K.length := by rw [← h.1]; exact hi
    have h2 : i < K'.length := by rw [← g.1]; exact hi
    rw [List.getElem?_eq_getElem h1, List.getElem?_eq_getElem h2] at b ⊢
    exact congrArg some b
  · rw [List.getElem?_eq_none_iff.mpr (by rw [← h.1]; omega), List.getElem?_eq_none_iff.mpr (by rw [← g.1]; omega)]
theorem isW_c {B B' : Nat → Int32} {st k : Nat} {K : List Int32} (e : ∀ i, i < k → B (st + i) = B' (st + i)) (h : IsW B st k K) : IsW B' st k K := ⟨h.1, fun i hi => by rw [← e i hi]; exact h.2 i hi⟩
def pk : List Int32 → Int64 → Int64
  | [], a => a
  | c :: r, a => pk r (((a * 27 + c.toInt64) - 97) + 1)
theorem pk_p (K : List Int32) : ∀ (r : List Int32) (k : Nat), K.drop k = r → pk r (p27 (fun i => K.getD i 0) 0 k) = p27 (fun i => K.getD i 0) 0 (k + r.length) := by
  intro r
  induction r with
  | nil => intro k _; rfl
  | cons c r ih =>
    intro k h
    have hk : k < K.length := by
      rcases Nat.lt_or_ge k K.length with q | q
      · exact q
      · rw [List.drop_eq_nil_of_le q] at h
        cases h
    have e : K.getD k 0 = c := by
      rw [List.getD_eq_getElem?_getD, List.getElem?_eq_getElem hk]
      rw [List.drop_eq_getElem_cons hk] at h
      injection h
    have d : K.drop (k + 1) = r := by
      rw [List.drop_eq_getElem_cons hk] at h
      injection h
    have s : p27 (fun i => K.getD i 0) 0 (k + 1) = ((p27 (fun i => K.getD i 0) 0 k * 27 + c.toInt64) - 97) + 1 := by
      show ((p27 (fun i => K.getD i 0) 0 k * 27 + (K.getD (0 + k) 0).toInt64) - 97) + 1 = _
      rw [Nat.zero_add, e]
    show pk r (((p27 (fun i => K.getD i 0) 0 k * 27 + c.toInt64) - 97) + 1) = _
    rw [← s, ih (k + 1) d]
    congr 1
    rw [List.length_cons]
    omega
theorem pk_0 (K : List Int32) : pk K 0 = p27 (fun i => K.getD i 0) 0 K.length := by
  have q := pk_p K K 0 rfl
  rw [Nat.zero_add] at q
  exact q
theorem lets_K {K : List Int32} (h : okK K = true) : Lets (fun i => K.getD i 0) 0 K.length := by
  intro i _ hi
  have g := (okK_x h).2
  have hk : i < K.length := by omega
  show isL (K.getD i 0)
  rw [List.getD_eq_getElem?_getD, List.getElem?_eq_getElem hk]
  exact g _ (List.getElem_mem hk)
theorem pk_iff {B : Nat → Int32} {st k : Nat} {K : List Int32} (hk : k ≤ 8) (hl : Lets B st k) (hK : okK K = true) : pk K 0 = p27 B st k ↔ IsW B st k K := by
  have o := okK_x hK
  have l := lets_K hK
  constructor
  · intro w
    rw [pk_0] at w
    have h1 := p27_q K.length o.1.2 l
    have h2 := p27_q k hk hl
    rw [w] at h1
    have ⟨g1, g2⟩ := q27_i K.length k l hl (by omega)
    refine ⟨g1.symm, fun i hi => ?_⟩
    have z := g2 i (by omega)
    rw [← z, Nat.zero_add]
  · intro w
    rw [pk_0, ← w.1]
    exact p27_c k (fun i hi => by rw [Nat.zero_add]; exact (w.2 i hi).symm)
def kwf (a : Int64) : List Int32 → Int32 → Int64 → Int32
  | [], _, _ => 1
  | c :: r, w, p => if c = 32 then (if lg_cmp p a = 0 then w else kwf a r (w + 1) 0) else kwf a r w (((p * 27 + c.toInt64) - 97) + 1)
theorem kwf_c (a : Int64) (c : Int32) (r : List Int32) (w : Int32) (p : Int64) : kwf a (c :: r) w p = if c = 32 then (if lg_cmp p a = 0 then w else kwf a r (w + 1) 0) else kwf a r w (((p * 27 + c.toInt64) - 97) + 1) := rfl
set_option maxRecDepth 100000 in
theorem len_c : (strB.getD 0 []).length = 167 := by decide +kernel
theorem kk_b (a : Int64) (n : Nat) : ∀ (v2 : Int32) (v3 : Int64) (v5 : Int32) (s : Sg), 0 ≤ v5.toInt → v5.toInt ≤ 167 → PQ (f_X7_kindOfWord_b8 n a v2 v3 v5 s) (fun r s9 => s9 = s ∧ r = kwf a ((strB.getD 0 []).drop v5.toNatClampNeg) v2 v3) := by
  induction n with
  | zero => intro v2 v3 v5 s _ _ r s9 e; cases e
  | succ n ih =>
    intro v2 v3 v5 s h0 h1
    have e1 : (1 : Int32).toInt = 1 := rfl
    have e167 : (167 : Int32).toInt = 167 := rfl
    have hl := len_c
    have cl := cl_nat v5
    unfold f_X7_kindOfWord_b8
    refine pq_if (fun c => pq_s ⟨rfl, ?_⟩) (fun c => pq_c (fun _ => pq_n (fun x1 ex1 => ?_)))
    · have c := i_le c
      rw [List.drop_eq_nil_of_le (by omega)]
      rfl
    · have c := i_nle c
      have a1 : (v5 + 1).toInt = v5.toInt + 1 := i_addx v5 1 (show -2147483648 ≤ v5.toInt + 1 ∧ v5.toInt + 1 ≤ 2147483647 from by omega)
      have cl1 := cl_nat (v5 + 1)
      have k1 : (v5 + 1).toNatClampNeg = v5.toNatClampNeg + 1 := by omega
      have hk : v5.toNatClampNeg < (strB.getD 0 []).length := by omega
      have ex : x1 = (strB.getD 0 [])[v5.toNatClampNeg] := by
        rw [ex1, List.getD_eq_getElem?_getD, List.getElem?_eq_getElem hk]
        rfl
      have dr := List.drop_eq_getElem_cons hk
      rw [← ex] at dr
      rw [dr]
      refine pq_if (fun c2 => pq_if (fun c3 => pq_s ⟨rfl, ?_⟩) (fun c3 => ?_)) (fun c2 => pq_n (fun x2 ex2 => ?_))
      · rw [kwf_c, if_pos c2, if_pos c3]
      · have g := ih (v2 + 1) 0 (v5 + 1) s (by omega) (by omega)
        rw [k1] at g
        rw [kwf_c, if_pos c2, if_neg c3]
        exact g
      · have g := ih v2 x2 (v5 + 1) s (by omega) (by omega)
        rw [k1] at g
        rw [kwf_c, if_neg c2, ← ex2]
        exact g
theorem kk_p (a : Int64) (s : Sg) : PQ (f_X7_kindOfWord a s) (fun r s9 => s9 = s ∧ r = kwf a (flatK KWC) 100 0) := by
  unfold f_X7_kindOfWord
  refine pq_w (kk_b a BIG 100 0 0 s (by decide) (by decide)) (fun r s9 g => ⟨g.1, ?_⟩)
  rw [g.2, ← flat_c]
  rfl
theorem kwf_w (a : Int64) (w : Int32) (t : List Int32) : ∀ (K : List Int32) (p : Int64), (∀ c, c ∈ K → isL c) → kwf a (K ++ (32 :: t)) w p = if lg_cmp (pk K p) a = 0 then w else kwf a t (w + 1) 0
  | [], p, _ => by
    show kwf a (32 :: t) w p = _
    rw [kwf_c, if_pos rfl]
    rfl
  | c :: r, p, h => by
    show kwf a (c :: (r ++ (32 :: t))) w p = _
    have n : ¬ c = 32 := fun e => by
      have g := (h c List.mem_cons_self).1
      rw [e] at g
      exact absurd g (by decide)
    have q := kwf_w a w t r (((p * 27 + c.toInt64) - 97) + 1) (fun x hx => h x (List.mem_cons_of_mem _ hx))
    rw [kwf_c, if_neg n]
    exact q
theorem lgc_0 {x y : Int64} : lg_cmp x y = 0 ↔ x = y := by
  unfold lg_cmp
  by_cases c : x > y
  · rw [if_pos c]
    refine ⟨fun h => absurd h (by decide), fun h => ?_⟩
    subst h
    have := Int64.lt_iff_toInt_lt.mp c
    omega
  · rw [if_neg c]
    by_cases d : x = y
    · rw [if_pos d]
      exact ⟨fun _ => d, fun _ => rfl⟩
    · rw [if_neg d]
      exact ⟨fun h => absurd h (by decide), fun h => absurd h d⟩
theorem kwf_x {B : Nat → Int32} {st k : Nat} (hk : k ≤ 8) (hl : Lets B st k) : ∀ (KL : List (List Int32)) (w : Int32), KL.all okK = true → (∃ i, i < KL.length ∧ IsW B st k (KL.getD i []) ∧ kwf (p27 B st k) (flatK KL) w 0 = w + Int32.ofNat i) ∨ ((∀ i, i < KL.length → ¬ IsW B st k (KL.getD i [])) ∧ kwf (p27 B st k) (flatK KL) w 0 = 1)
  | [], w, _ => Or.inr ⟨fun i hi => absurd hi (Nat.not_lt_zero i), rfl⟩
  | K :: r, w, h => by
    have h1 : okK K = true := List.all_eq_true.mp h K List.mem_cons_self
    have h2 : r.all okK = true := List.all_eq_true.mpr (fun x hx => List.all_eq_true.mp h x (List.mem_cons_of_mem _ hx))
    have e : kwf (p27 B st k) (flatK (K :: r)) w 0 = _ := kwf_w (p27 B st k) w (flatK r) K 0 (okK_x h1).2
    have f := pk_iff hk hl h1
    by_cases q : IsW B st k K
    · refine Or.inl ⟨0, Nat.zero_lt_succ _, q, ?_⟩
      rw [e, if_pos (lgc_0.mpr (f.mpr q))]
      apply Int32.toInt_inj.mp
      have := i_add w (Int32.ofNat 0)
      have e0 : (Int32.ofNat 0).toInt = 0 := rfl
      have := i_rg w
      omega
    · have nq : ¬ lg_cmp (pk K 0) (p27 B st k) = 0 := fun z => q (f.mp (lgc_0.mp z))
      rw [if_neg nq] at e
      rcases kwf_x hk hl r (w + 1) h2 with ⟨i, g1, g2, g3⟩ | ⟨g1, g2⟩
      · refine Or.inl ⟨i + 1, Nat.succ_lt_succ g1, g2, ?_⟩
        rw [e, g3]
        apply Int32.toInt_inj.mp
        have a1 := i_add w 1
        have a2 := i_add (w + 1) (Int32.ofNat i)
        have a3 := i_add w (Int32.ofNat (i + 1))
        have a4 := i_add 1 (Int32.ofNat i)
        have e1 : (1 : Int32).toInt = 1 := rfl
        have a5 : Int32.ofNat (i + 1) = 1 + Int32.ofNat i := by
          rw [Int32.ofNat_add, Int32.add_comm]
          rfl
        rw [a5] at a3 ⊢
        omega
      · refine Or.inr ⟨fun i hi => ?_, by rw [e, g2]⟩
        cases i with
        | zero => exact q
        | succ i => exact g1 i (Nat.lt_of_succ_lt_succ hi)
