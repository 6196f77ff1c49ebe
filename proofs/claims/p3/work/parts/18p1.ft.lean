theorem pq_s4 {α : Type} {i : Int32} {a b c d : Option (α × Sg)} {Q : α → Sg → Prop} (ha : PQ a Q) (hb : PQ b Q) (hc : PQ c Q) (hd : PQ d Q) : PQ (sel4 i a b c d) Q := by
  unfold sel4
  exact pq_if (fun _ => ha) (fun _ => pq_if (fun _ => hb) (fun _ => pq_if (fun _ => hc) (fun _ => hd)))
theorem pq_s3 {α : Type} {i : Int32} {a b c : Option (α × Sg)} {Q : α → Sg → Prop} (ha : PQ a Q) (hb : PQ b Q) (hc : PQ c Q) : PQ (sel3 i a b c) Q := by
  unfold sel3
  exact pq_if (fun _ => ha) (fun _ => pq_if (fun _ => hb) (fun _ => hc))
theorem fr_r {cd : Nat → Nat → Nat} {L : Nat} {s : Sg} : Fr cd L s s := fun _ _ _ => ⟨rfl, rfl⟩
theorem fr_i {cd : Nat → Nat → Nat} {L : Nat} {s0 s : Sg} {c k : Nat} {v : Int32} (h : Fr cd L s0 s) (m : Nat) (hm : cd c k = m) (hL : L.testBit m = true) : Fr cd L s0 (pI s c k v) := by
  intro c' k' hb
  rw [pI_1, pI_2]
  split
  · next e => rw [e.1, e.2, hm, hL] at hb; cases hb
  · exact h c' k' hb
theorem fr_l {cd : Nat → Nat → Nat} {L : Nat} {s0 s : Sg} {c k : Nat} {v : Int64} (h : Fr cd L s0 s) (m : Nat) (hm : cd c k = m) (hL : L.testBit m = true) : Fr cd L s0 (pL s c k v) := by
  intro c' k' hb
  rw [pL_2, pL_1]
  split
  · next e => rw [e.1, e.2, hm, hL] at hb; cases hb
  · exact h c' k' hb
theorem fr_a {cd : Nat → Nat → Nat} {L : Nat} {s0 s : Sg} {d : Nat} {f : Nat → Int32} (h : Fr cd L s0 s) (m : Nat) (hm : ∀ k, cd d k = m) (hL : L.testBit m = true) : Fr cd L s0 (pA s d f) := by
  intro c' k' hb
  rw [pA_1]
  split
  · next e => subst e; rw [hm k', hL] at hb; cases hb
  · exact h c' k' hb
theorem fr_b {cd : Nat → Nat → Nat} {L : Nat} {s0 s : Sg} {d : Nat} {f : Nat → Int64} (h : Fr cd L s0 s) (m : Nat) (hm : ∀ k, cd d k = m) (hL : L.testBit m = true) : Fr cd L s0 (pB s d f) := by
  intro c' k' hb
  rw [pB_2]
  split
  · next e => subst e; rw [hm k', hL] at hb; cases hb
  · exact h c' k' hb
theorem fr_t {cd : Nat → Nat → Nat} {L L1 : Nat} {s0 s s' : Sg} (h : Fr cd L s0 s) (h1 : Fr cd L1 s s') (hL : L1 &&& L = L1) : Fr cd L s0 s' :=
  fun c k hb => ⟨(h1 c k (tb_sub hL hb)).1.trans (h c k hb).1, (h1 c k (tb_sub hL hb)).2.trans (h c k hb).2⟩

theorem pq_and {α : Type} {o : Option (α × Sg)} {P Q : α → Sg → Prop} (h : PQ o P) (g : PQ o Q) : PQ o (fun r s => P r s ∧ Q r s) := fun r s e => ⟨h r s e, g r s e⟩
theorem q_nc {s : Sg} {c k c' k' : Nat} {v : Int32} (h : Nat.beq c' c = false) : (pI s c k v).1 c' k' = s.1 c' k' := by
  rw [pI_1, if_neg]
  rintro ⟨e, f⟩
  subst e
  simp at h
theorem q_ne {s : Sg} {c k c' k' : Nat} {v : Int32} (h : (Nat.beq c' c && Nat.beq k' k) = false) : (pI s c k v).1 c' k' = s.1 c' k' := by
  rw [pI_1, if_neg]
  rintro ⟨e, f⟩
  subst e; subst f
  simp at h
theorem q_eq {s : Sg} {c k : Nat} {v : Int32} : (pI s c k v).1 c k = v := by
  rw [pI_1, if_pos ⟨rfl, rfl⟩]
theorem cp_at {s s' : Sg} {x y n k : Nat} (h : s' = pA s x (va_cpy (s.1 y) (s.1 x) 0 0 n)) (hk : k < n) : s'.1 x k = s.1 y k := by
  rw [h, pA_1, if_pos rfl]
  unfold va_cpy
  rw [if_pos ⟨Nat.zero_le _, by omega⟩]
  simp
theorem cp_ne {s s' : Sg} {x c k : Nat} {f : Nat → Int32} (h : s' = pA s x f) (hc : Nat.beq c x = false) : s'.1 c k = s.1 c k := by
  rw [h, pA_1, if_neg]
  rintro e
  subst e
  simp at hc
theorem fr_e {cd : Nat → Nat → Nat} {L : Nat} {s0 s : Sg} (h : Fr cd L s0 s) (c k m : Nat) (hm : cd c k = m) (hb : L.testBit m = false) : s.1 c k = s0.1 c k := (h c k (by rw [hm]; exact hb)).1

theorem ft_X11_within (a0 : Int32) (a1 : Int32) (a2 : Int32) (s : Sg) : PQ (f_X11_within a0 a1 a2 s) (fun _ s9 => Fr cC 0 s s9) := by
  have hJ : Fr cC 0 s s := fr_r
  unfold f_X11_within
  refine pq_if (fun _ => ?_) (fun _ => ?_)
  · exact pq_s hJ
  · refine pq_if (fun _ => ?_) (fun _ => ?_)
    · exact pq_s hJ
    · exact pq_s hJ

theorem ft_X11_refuse (a1 : Int32) (s : Sg) : PQ (f_X11_refuse a1 s) (fun _ s9 => Fr cC 47890485652059026823698344598447161988085597568237568 s s9) := by
  have hJ : Fr cC 47890485652059026823698344598447161988085597568237568 s s := fr_r
  unfold f_X11_refuse
  exact pq_s (fr_i hJ 175 rfl rfl)

theorem ft_X7_isLetter (a0 : Int32) (s : Sg) : PQ (f_X7_isLetter a0 s) (fun _ s9 => Fr cC 0 s s9) := by
  have hJ : Fr cC 0 s s := fr_r
  unfold f_X7_isLetter
  refine pq_if (fun _ => ?_) (fun _ => ?_)
  · exact pq_s hJ
  · refine pq_if (fun _ => ?_) (fun _ => ?_)
    · exact pq_s hJ
    · exact pq_s hJ

theorem ft_X7_isDigit (a0 : Int32) (s : Sg) : PQ (f_X7_isDigit a0 s) (fun _ s9 => Fr cC 0 s s9) := by
  have hJ : Fr cC 0 s s := fr_r
  unfold f_X7_isDigit
  refine pq_if (fun _ => ?_) (fun _ => ?_)
  · exact pq_s hJ
  · refine pq_if (fun _ => ?_) (fun _ => ?_)
    · exact pq_s hJ
    · exact pq_s hJ

theorem ft_X7_cutSign_b35 {s0 : Sg} (v1 : Int32) (s : Sg) (hJ : Fr cC 18389946490390666300300164325803710203424869466203226112 s0 s) : PQ (f_X7_cutSign_b35 v1 s) (fun _ s9 => Fr cC 18389946490390666300300164325803710203424869466203226112 s0 s9) := by
  unfold f_X7_cutSign_b35
  refine pq_n (fun s3 es3 => ?_)
  have js3 : Fr cC 18389946490390666300300164325803710203424869466203226112 s0 s3 := by rw [es3]; exact (fr_i (fr_i hJ 183 rfl rfl) 182 rfl rfl)
  exact pq_s js3
theorem ft_X7_cutSign  (s : Sg) : PQ (f_X7_cutSign  s) (fun _ s9 => Fr cC 18389946490390666300300164325803710203424869466203226112 s s9) := by
  have hJ : Fr cC 18389946490390666300300164325803710203424869466203226112 s s := fr_r
  unfold f_X7_cutSign
  refine pq_c (fun _ => ?_)
  refine pq_n (fun x2 _ => ?_)
  refine pq_if (fun _ => ?_) (fun _ => ?_)
  · exact ft_X7_cutSign_b35 _ _ hJ
  · refine pq_if (fun _ => ?_) (fun _ => ?_)
    · exact ft_X7_cutSign_b35 _ _ hJ
    · refine pq_if (fun _ => ?_) (fun _ => ?_)
      · exact ft_X7_cutSign_b35 _ _ hJ
      · refine pq_if (fun _ => ?_) (fun _ => ?_)
        · exact ft_X7_cutSign_b35 _ _ hJ
        · refine pq_n (fun s4 es4 => ?_)
          have js4 : Fr cC 18389946490390666300300164325803710203424869466203226112 s s4 := by rw [es4]; exact (fr_i (fr_i hJ 183 rfl rfl) 182 rfl rfl)
          exact pq_s js4

theorem ft_X7_cutNumber_b81 {s0 : Sg}  (s : Sg) (hJ : Fr cC 67429803798099109767767269194613604079224521376078495744 s0 s) : PQ (f_X7_cutNumber_b81  s) (fun _ s9 => Fr cC 67429803798099109767767269194613604079224521376078495744 s0 s9) := by
  unfold f_X7_cutNumber_b81
  refine pq_if (fun _ => ?_) (fun _ => ?_)
  · exact pq_s (fr_i hJ 183 rfl rfl)
  · exact pq_s (fr_i hJ 183 rfl rfl)
theorem ft_X7_cutNumber_b5 {s0 : Sg} (n : Nat) : ∀  (s : Sg), Fr cC 67429803798099109767767269194613604079224521376078495744 s0 s → PQ (f_X7_cutNumber_b5 n  s) (fun _ s9 => Fr cC 67429803798099109767767269194613604079224521376078495744 s0 s9) := by
  induction n with
  | zero => intro  s _ r s9 e; cases e
  | succ n ih =>
    intro  s hJ
    unfold f_X7_cutNumber_b5
    refine pq_if (fun _ => ?_) (fun _ => ?_)
    · exact ft_X7_cutNumber_b81  _ hJ
    · refine pq_c (fun _ => ?_)
      refine pq_b (ft_X7_isDigit _ _) (fun _ s3 gs3 => ?_)
      have js3 := fr_t hJ gs3 rfl
      refine pq_if (fun _ => ?_) (fun _ => ?_)
      · exact ft_X7_cutNumber_b81  _ js3
      · refine pq_if (fun _ => ?_) (fun _ => ?_)
        · exact ih  _ (fr_i js3 182 rfl rfl)
        · refine pq_c (fun _ => ?_)
          refine pq_n (fun s5 es5 => ?_)
          have js5 : Fr cC 67429803798099109767767269194613604079224521376078495744 s0 s5 := by rw [es5]; exact (fr_i js3 185 rfl rfl)
          exact ih  _ (fr_i js5 182 rfl rfl)
theorem ft_X7_cutNumber  (s : Sg) : PQ (f_X7_cutNumber  s) (fun _ s9 => Fr cC 67429803798099109767767269194613604079224521376078495744 s s9) := by
  have hJ : Fr cC 67429803798099109767767269194613604079224521376078495744 s s := fr_r
  unfold f_X7_cutNumber
  exact ft_X7_cutNumber_b5 BIG  _ (fr_i hJ 185 rfl rfl)

theorem ft_X7_cutWord_b5 {s0 : Sg} (n : Nat) : ∀  (s : Sg), Fr cC 104209696778880442368367597846221024486074260308484947968 s0 s → PQ (f_X7_cutWord_b5 n  s) (fun _ s9 => Fr cC 104209696778880442368367597846221024486074260308484947968 s0 s9) := by
  induction n with
  | zero => intro  s _ r s9 e; cases e
  | succ n ih =>
    intro  s hJ
    unfold f_X7_cutWord_b5
    refine pq_if (fun _ => ?_) (fun _ => ?_)
    · exact pq_s hJ
    · refine pq_c (fun _ => ?_)
      refine pq_b (ft_X7_isLetter _ _) (fun _ s3 gs3 => ?_)
      have js3 := fr_t hJ gs3 rfl
      refine pq_if (fun _ => ?_) (fun _ => ?_)
      · exact pq_s js3
      · refine pq_if (fun _ => ?_) (fun _ => ?_)
        · exact ih  _ (fr_i js3 182 rfl rfl)
        · refine pq_c (fun _ => ?_)
          refine pq_n (fun s5 es5 => ?_)
          have js5 : Fr cC 104209696778880442368367597846221024486074260308484947968 s0 s5 := by rw [es5]; exact (fr_l js3 186 rfl rfl)
          exact ih  _ (fr_i js5 182 rfl rfl)
theorem ft_X7_cutWord  (s : Sg) : PQ (f_X7_cutWord  s) (fun _ s9 => Fr cC 104209696778880442368367597846221024486074260308484947968 s s9) := by
  have hJ : Fr cC 104209696778880442368367597846221024486074260308484947968 s s := fr_r
  unfold f_X7_cutWord
  exact ft_X7_cutWord_b5 BIG  _ (fr_l hJ 186 rfl rfl)

theorem ft_X7_kindOfWord_b8 {s0 : Sg} (n : Nat) : ∀ (v0 : Int64) (v2 : Int32) (v3 : Int64) (v5 : Int32) (s : Sg), Fr cC 0 s0 s → PQ (f_X7_kindOfWord_b8 n v0 v2 v3 v5 s) (fun _ s9 => Fr cC 0 s0 s9) := by
  induction n with
  | zero => intro v0 v2 v3 v5 s _ r s9 e; cases e
  | succ n ih =>
    intro v0 v2 v3 v5 s hJ
    unfold f_X7_kindOfWord_b8
    refine pq_if (fun _ => ?_) (fun _ => ?_)
    · exact pq_s hJ
    · refine pq_c (fun _ => ?_)
      refine pq_n (fun x1 _ => ?_)
      refine pq_if (fun _ => ?_) (fun _ => ?_)
      · refine pq_if (fun _ => ?_) (fun _ => ?_)
        · exact pq_s hJ
        · exact ih _ _ _ _ _ hJ
      · refine pq_n (fun x2 _ => ?_)
        exact ih _ _ _ _ _ hJ
theorem ft_X7_kindOfWord (a0 : Int64) (s : Sg) : PQ (f_X7_kindOfWord a0 s) (fun _ s9 => Fr cC 0 s s9) := by
  have hJ : Fr cC 0 s s := fr_r
  unfold f_X7_kindOfWord
  exact ft_X7_kindOfWord_b8 BIG _ _ _ _ _ hJ

theorem ft_X7_advance_b52 {s0 : Sg}  (s : Sg) (hJ : Fr cC 190029447067370218436435031366638338768723651150766669824 s0 s) : PQ (f_X7_advance_b52  s) (fun _ s9 => Fr cC 190029447067370218436435031366638338768723651150766669824 s0 s9) := by
  unfold f_X7_advance_b52
  refine pq_if (fun _ => ?_) (fun _ => ?_)
  · refine pq_c (fun _ => ?_)
    refine pq_b (ft_X7_isLetter _ _) (fun _ s3 gs3 => ?_)
    have js3 := fr_t (fr_i hJ 184 rfl rfl) gs3 rfl
    refine pq_if (fun _ => ?_) (fun _ => ?_)
    · refine pq_c (fun _ => ?_)
      refine pq_b (ft_X7_isDigit _ _) (fun _ s6 gs6 => ?_)
      have js6 := fr_t js3 gs6 rfl
      refine pq_if (fun _ => ?_) (fun _ => ?_)
      · refine pq_b (ft_X7_cutSign  _) (fun _ s8 gs8 => ?_)
        have js8 := fr_t js6 gs8 rfl
        exact pq_s js8
      · refine pq_b (ft_X7_cutNumber  _) (fun _ s10 gs10 => ?_)
        have js10 := fr_t js6 gs10 rfl
        exact pq_s js10
    · refine pq_b (ft_X7_cutWord  _) (fun _ s12 gs12 => ?_)
      have js12 := fr_t js3 gs12 rfl
      refine pq_if (fun _ => ?_) (fun _ => ?_)
      · refine pq_b (ft_X7_kindOfWord _ _) (fun _ s14 gs14 => ?_)
        have js14 := fr_t js12 gs14 rfl
        exact pq_s (fr_i js14 183 rfl rfl)
      · exact pq_s (fr_i js12 183 rfl rfl)
  · exact pq_s (fr_i (fr_i hJ 184 rfl rfl) 183 rfl rfl)
theorem ft_X7_advance_b0 {s0 : Sg} (n : Nat) : ∀  (s : Sg), Fr cC 190029447067370218436435031366638338768723651150766669824 s0 s → PQ (f_X7_advance_b0 n  s) (fun _ s9 => Fr cC 190029447067370218436435031366638338768723651150766669824 s0 s9) := by
  induction n with
  | zero => intro  s _ r s9 e; cases e
  | succ n ih =>
    intro  s hJ
    unfold f_X7_advance_b0
    refine pq_if (fun _ => ?_) (fun _ => ?_)
    · exact ft_X7_advance_b52  _ hJ
    · refine pq_c (fun _ => ?_)
      refine pq_if (fun _ => ?_) (fun _ => ?_)
      · exact ih  _ (fr_i hJ 182 rfl rfl)
      · refine pq_if (fun _ => ?_) (fun _ => ?_)
        · exact ih  _ (fr_i hJ 182 rfl rfl)
        · exact ft_X7_advance_b52  _ hJ
theorem ft_X7_advance  (s : Sg) : PQ (f_X7_advance  s) (fun _ s9 => Fr cC 190029447067370218436435031366638338768723651150766669824 s s9) := by
  have hJ : Fr cC 190029447067370218436435031366638338768723651150766669824 s s := fr_r
  unfold f_X7_advance
  exact ft_X7_advance_b0 BIG  _ hJ

theorem ft_X7_begin (a1 : Int32) (s : Sg) : PQ (f_X7_begin a1 s) (fun _ s9 => Fr cC 1370051013534104639372362242272376410155152775232140345344 s s9) := by
  have hJ : Fr cC 1370051013534104639372362242272376410155152775232140345344 s s := fr_r
  unfold f_X7_begin
  refine pq_n (fun s1 es1 => ?_)
  have js1 : Fr cC 1370051013534104639372362242272376410155152775232140345344 s s1 := by rw [es1]; exact (fr_i hJ 181 rfl rfl)
  refine pq_n (fun s2 es2 => ?_)
  have js2 : Fr cC 1370051013534104639372362242272376410155152775232140345344 s s2 := by rw [es2]; exact (fr_i (fr_i (fr_i js1 182 rfl rfl) 188 rfl rfl) 189 rfl rfl)
  refine pq_b (ft_X7_advance  _) (fun _ s4 gs4 => ?_)
  have js4 := fr_t js2 gs4 rfl
  exact pq_s js4

theorem ft_X11_clearRow_61_b2 {s0 : Sg} (n : Nat) : ∀ (v1 : Int32) (s : Sg), Fr cC 2305843009213693952 s0 s → PQ (f_X11_clearRow_61_b2 n v1 s) (fun _ s9 => Fr cC 2305843009213693952 s0 s9) := by
  induction n with
  | zero => intro v1 s _ r s9 e; cases e
  | succ n ih =>
    intro v1 s hJ
    unfold f_X11_clearRow_61_b2
    refine pq_if (fun _ => ?_) (fun _ => ?_)
    · exact pq_s hJ
    · refine pq_c (fun _ => ?_)
      exact ih _ _ (fr_i hJ 61 rfl rfl)
theorem ft_X11_clearRow_61  (s : Sg) : PQ (f_X11_clearRow_61  s) (fun _ s9 => Fr cC 2305843009213693952 s s9) := by
  have hJ : Fr cC 2305843009213693952 s s := fr_r
  unfold f_X11_clearRow_61
  exact ft_X11_clearRow_61_b2 BIG _ _ hJ

theorem ft_X4_clear_52  (s : Sg) : PQ (f_X4_clear_52  s) (fun _ s9 => Fr cC 1639076805144170081052801334187985854572647055964291701221097472 s s9) := by
  have hJ : Fr cC 1639076805144170081052801334187985854572647055964291701221097472 s s := fr_r
  unfold f_X4_clear_52
  refine pq_b (ft_X11_clearRow_61  _) (fun _ s2 gs2 => ?_)
  have js2 := fr_t hJ gs2 rfl
  refine pq_n (fun s3 es3 => ?_)
  have js3 : Fr cC 1639076805144170081052801334187985854572647055964291701221097472 s s3 := by rw [es3]; exact (fr_i (fr_i (fr_i js2 202 rfl rfl) 203 rfl rfl) 204 rfl rfl)
  refine pq_n (fun s4 es4 => ?_)
  have js4 : Fr cC 1639076805144170081052801334187985854572647055964291701221097472 s s4 := by rw [es4]; exact (fr_i (fr_i (fr_i js3 205 rfl rfl) 206 rfl rfl) 207 rfl rfl)
  exact pq_s (fr_i (fr_i js4 208 rfl rfl) 209 rfl rfl)

theorem ft_X11_clearRow_67_b2 {s0 : Sg} (n : Nat) : ∀ (v1 : Int32) (s : Sg), Fr cC 147573952589676412928 s0 s → PQ (f_X11_clearRow_67_b2 n v1 s) (fun _ s9 => Fr cC 147573952589676412928 s0 s9) := by
  induction n with
  | zero => intro v1 s _ r s9 e; cases e
  | succ n ih =>
    intro v1 s hJ
    unfold f_X11_clearRow_67_b2
    refine pq_if (fun _ => ?_) (fun _ => ?_)
    · exact pq_s hJ
    · refine pq_c (fun _ => ?_)
      exact ih _ _ (fr_i hJ 67 rfl rfl)
theorem ft_X11_clearRow_67  (s : Sg) : PQ (f_X11_clearRow_67  s) (fun _ s9 => Fr cC 147573952589676412928 s s9) := by
  have hJ : Fr cC 147573952589676412928 s s := fr_r
  unfold f_X11_clearRow_67
  exact ft_X11_clearRow_67_b2 BIG _ _ hJ

theorem ft_X11_clearRow_68_b2 {s0 : Sg} (n : Nat) : ∀ (v1 : Int32) (s : Sg), Fr cC 295147905179352825856 s0 s → PQ (f_X11_clearRow_68_b2 n v1 s) (fun _ s9 => Fr cC 295147905179352825856 s0 s9) := by
  induction n with
  | zero => intro v1 s _ r s9 e; cases e
  | succ n ih =>
    intro v1 s hJ
    unfold f_X11_clearRow_68_b2
    refine pq_if (fun _ => ?_) (fun _ => ?_)
    · exact pq_s hJ
    · refine pq_c (fun _ => ?_)
      exact ih _ _ (fr_i hJ 68 rfl rfl)
theorem ft_X11_clearRow_68  (s : Sg) : PQ (f_X11_clearRow_68  s) (fun _ s9 => Fr cC 295147905179352825856 s s9) := by
  have hJ : Fr cC 295147905179352825856 s s := fr_r
  unfold f_X11_clearRow_68
  exact ft_X11_clearRow_68_b2 BIG _ _ hJ

theorem ft_X11_clearRow_69_b2 {s0 : Sg} (n : Nat) : ∀ (v1 : Int32) (s : Sg), Fr cC 590295810358705651712 s0 s → PQ (f_X11_clearRow_69_b2 n v1 s) (fun _ s9 => Fr cC 590295810358705651712 s0 s9) := by
  induction n with
  | zero => intro v1 s _ r s9 e; cases e
  | succ n ih =>
    intro v1 s hJ
    unfold f_X11_clearRow_69_b2
    refine pq_if (fun _ => ?_) (fun _ => ?_)
    · exact pq_s hJ
    · refine pq_c (fun _ => ?_)
      exact ih _ _ (fr_i hJ 69 rfl rfl)
theorem ft_X11_clearRow_69  (s : Sg) : PQ (f_X11_clearRow_69  s) (fun _ s9 => Fr cC 590295810358705651712 s s9) := by
  have hJ : Fr cC 590295810358705651712 s s := fr_r
  unfold f_X11_clearRow_69
  exact ft_X11_clearRow_69_b2 BIG _ _ hJ

theorem ft_X11_clearRow_70_b2 {s0 : Sg} (n : Nat) : ∀ (v1 : Int32) (s : Sg), Fr cC 1180591620717411303424 s0 s → PQ (f_X11_clearRow_70_b2 n v1 s) (fun _ s9 => Fr cC 1180591620717411303424 s0 s9) := by
  induction n with
  | zero => intro v1 s _ r s9 e; cases e
  | succ n ih =>
    intro v1 s hJ
    unfold f_X11_clearRow_70_b2
    refine pq_if (fun _ => ?_) (fun _ => ?_)
    · exact pq_s hJ
    · refine pq_c (fun _ => ?_)
      exact ih _ _ (fr_i hJ 70 rfl rfl)
theorem ft_X11_clearRow_70  (s : Sg) : PQ (f_X11_clearRow_70  s) (fun _ s9 => Fr cC 1180591620717411303424 s s9) := by
  have hJ : Fr cC 1180591620717411303424 s s := fr_r
  unfold f_X11_clearRow_70
  exact ft_X11_clearRow_70_b2 BIG _ _ hJ

theorem ft_X11_clearRow_71_b2 {s0 : Sg} (n : Nat) : ∀ (v1 : Int32) (s : Sg), Fr cC 2361183241434822606848 s0 s → PQ (f_X11_clearRow_71_b2 n v1 s) (fun _ s9 => Fr cC 2361183241434822606848 s0 s9) := by
  induction n with
  | zero => intro v1 s _ r s9 e; cases e
  | succ n ih =>
    intro v1 s hJ
    unfold f_X11_clearRow_71_b2
    refine pq_if (fun _ => ?_) (fun _ => ?_)
    · exact pq_s hJ
    · refine pq_c (fun _ => ?_)
      exact ih _ _ (fr_i hJ 71 rfl rfl)
theorem ft_X11_clearRow_71  (s : Sg) : PQ (f_X11_clearRow_71  s) (fun _ s9 => Fr cC 2361183241434822606848 s s9) := by
  have hJ : Fr cC 2361183241434822606848 s s := fr_r
  unfold f_X11_clearRow_71
  exact ft_X11_clearRow_71_b2 BIG _ _ hJ

theorem ft_X2_clear_53  (s : Sg) : PQ (f_X2_clear_53  s) (fun _ s9 => Fr cC 4574801537479223541760 s s9) := by
  have hJ : Fr cC 4574801537479223541760 s s := fr_r
  unfold f_X2_clear_53
  refine pq_b (ft_X11_clearRow_67  _) (fun _ s2 gs2 => ?_)
  have js2 := fr_t hJ gs2 rfl
  refine pq_b (ft_X11_clearRow_68  _) (fun _ s4 gs4 => ?_)
  have js4 := fr_t js2 gs4 rfl
  refine pq_b (ft_X11_clearRow_69  _) (fun _ s6 gs6 => ?_)
  have js6 := fr_t js4 gs6 rfl
  refine pq_b (ft_X11_clearRow_70  _) (fun _ s8 gs8 => ?_)
  have js8 := fr_t js6 gs8 rfl
  refine pq_b (ft_X11_clearRow_71  _) (fun _ s10 gs10 => ?_)
  have js10 := fr_t js8 gs10 rfl
  refine pq_n (fun s11 es11 => ?_)
  have js11 : Fr cC 4574801537479223541760 s s11 := by rw [es11]; exact (fr_i (fr_i (fr_i (fr_i js10 53 rfl rfl) 53 rfl rfl) 53 rfl rfl) 53 rfl rfl)
  refine pq_n (fun s12 es12 => ?_)
  have js12 : Fr cC 4574801537479223541760 s s12 := by rw [es12]; exact (fr_i (fr_i (fr_i js11 53 rfl rfl) 53 rfl rfl) 53 rfl rfl)
  exact pq_s (fr_i js12 53 rfl rfl)

theorem ft_X5_clear_54  (s : Sg) : PQ (f_X5_clear_54  s) (fun _ s9 => Fr cC 2948744166719601227541704775142772104929062671215375115120707371008 s s9) := by
  have hJ : Fr cC 2948744166719601227541704775142772104929062671215375115120707371008 s s := fr_r
  unfold f_X5_clear_54
  refine pq_n (fun s1 es1 => ?_)
  have js1 : Fr cC 2948744166719601227541704775142772104929062671215375115120707371008 s s1 := by rw [es1]; exact (fr_i (fr_i (fr_i hJ 218 rfl rfl) 219 rfl rfl) 220 rfl rfl)
  exact pq_s js1

theorem ft_X10_clear_51  (s : Sg) : PQ (f_X10_clear_51  s) (fun _ s9 => Fr cC 2950383243524745397622757576476960090783635322846140944301152010240 s s9) := by
  have hJ : Fr cC 2950383243524745397622757576476960090783635322846140944301152010240 s s := fr_r
  unfold f_X10_clear_51
  refine pq_b (ft_X4_clear_52  _) (fun _ s2 gs2 => ?_)
  have js2 := fr_t hJ gs2 rfl
  refine pq_b (ft_X2_clear_53  _) (fun _ s4 gs4 => ?_)
  have js4 := fr_t js2 gs4 rfl
  refine pq_b (ft_X5_clear_54  _) (fun _ s6 gs6 => ?_)
  have js6 := fr_t js4 gs6 rfl
  exact pq_s js6

theorem ft_X4_addName_52_b14 {s0 : Sg} (n : Nat) : ∀ (v1 : Int64) (v3 : Int32) (v4 : Int32) (v5 : Int32) (s : Sg), Fr cC 6427752177035961102167848369364650410088812227332750473953280 s0 s → PQ (f_X4_addName_52_b14 n v1 v3 v4 v5 s) (fun _ s9 => Fr cC 6427752177035961102167848369364650410088812227332750473953280 s0 s9) := by
  induction n with
  | zero => intro v1 v3 v4 v5 s _ r s9 e; cases e
  | succ n ih =>
    intro v1 v3 v4 v5 s hJ
    unfold f_X4_addName_52_b14
    refine pq_if (fun _ => ?_) (fun _ => ?_)
    · refine pq_c (fun _ => ?_)
      refine pq_n (fun s2 es2 => ?_)
      have js2 : Fr cC 6427752177035961102167848369364650410088812227332750473953280 s0 s2 := by rw [es2]; exact (fr_l hJ 55 rfl rfl)
      refine pq_c (fun _ => ?_)
      refine pq_n (fun s4 es4 => ?_)
      have js4 : Fr cC 6427752177035961102167848369364650410088812227332750473953280 s0 s4 := by rw [es4]; exact (fr_i js2 56 rfl rfl)
      refine pq_c (fun _ => ?_)
      refine pq_n (fun s6 es6 => ?_)
      have js6 : Fr cC 6427752177035961102167848369364650410088812227332750473953280 s0 s6 := by rw [es6]; exact (fr_i js4 57 rfl rfl)
      exact pq_s (fr_i js6 202 rfl rfl)
    · refine pq_c (fun _ => ?_)
      refine pq_if (fun _ => ?_) (fun _ => ?_)
      · exact pq_s hJ
      · exact ih _ _ _ _ _ hJ
theorem ft_X4_addName_52 (a1 : Int64) (a2 : Int32) (a3 : Int32) (s : Sg) : PQ (f_X4_addName_52 a1 a2 a3 s) (fun _ s9 => Fr cC 6427752177035961102167848369364650410088812227332750473953280 s s9) := by
  have hJ : Fr cC 6427752177035961102167848369364650410088812227332750473953280 s s := fr_r
  unfold f_X4_addName_52
  refine pq_if (fun _ => ?_) (fun _ => ?_)
  · exact ft_X4_addName_52_b14 BIG _ _ _ _ _ hJ
  · exact pq_s hJ

theorem ft_X7_wrong (a1 : Int32) (s : Sg) : PQ (f_X7_wrong a1 s) (fun _ s9 => Fr cC 1176956575385002643219210516851437453019191645837006471168 s s9) := by
  have hJ : Fr cC 1176956575385002643219210516851437453019191645837006471168 s s := fr_r
  unfold f_X7_wrong
  refine pq_if (fun _ => ?_) (fun _ => ?_)
  · refine pq_n (fun s1 es1 => ?_)
    have js1 : Fr cC 1176956575385002643219210516851437453019191645837006471168 s s1 := by rw [es1]; exact (fr_i (fr_i hJ 188 rfl rfl) 189 rfl rfl)
    exact pq_s js1
  · refine pq_n (fun s2 es2 => ?_)
    have js2 : Fr cC 1176956575385002643219210516851437453019191645837006471168 s s2 := by rw [es2]; exact (fr_i (fr_i hJ 188 rfl rfl) 189 rfl rfl)
    exact pq_s js2

theorem ft_X6_takeNew (a1 : Int32) (a2 : Int32) (a3 : Int32) (s : Sg) : PQ (f_X6_takeNew a1 a2 a3 s) (fun _ s9 => Fr cC 6429119163058413475029504014912868485880600142629738247094272 s s9) := by
  have hJ : Fr cC 6429119163058413475029504014912868485880600142629738247094272 s s := fr_r
  unfold f_X6_takeNew
  refine pq_if (fun _ => ?_) (fun _ => ?_)
  · refine pq_b (ft_X7_advance  _) (fun _ s2 gs2 => ?_)
    have js2 := fr_t hJ gs2 rfl
    refine pq_if (fun _ => ?_) (fun _ => ?_)
    · refine pq_b (ft_X4_addName_52 _ _ _ _) (fun _ s4 gs4 => ?_)
      have js4 := fr_t js2 gs4 rfl
      refine pq_if (fun _ => ?_) (fun _ => ?_)
      · refine pq_b (ft_X7_wrong _ _) (fun _ s6 gs6 => ?_)
        have js6 := fr_t js4 gs6 rfl
        refine pq_c (fun _ => ?_)
        exact pq_s js6
      · refine pq_b (ft_X7_advance  _) (fun _ s8 gs8 => ?_)
        have js8 := fr_t js4 gs8 rfl
        exact pq_s js8
    · refine pq_b (ft_X7_wrong _ _) (fun _ s10 gs10 => ?_)
      have js10 := fr_t js2 gs10 rfl
      refine pq_c (fun _ => ?_)
      exact pq_s js10
  · refine pq_b (ft_X7_wrong _ _) (fun _ s12 gs12 => ?_)
    have js12 := fr_t hJ gs12 rfl
    refine pq_c (fun _ => ?_)
    exact pq_s js12

theorem ft_X7_passNumber (a1 : Int32) (a2 : Int32) (s : Sg) : PQ (f_X7_passNumber a1 a2 s) (fun _ s9 => Fr cC 1563145451683206635525513967693315367291113904627274219520 s s9) := by
  have hJ : Fr cC 1563145451683206635525513967693315367291113904627274219520 s s := fr_r
  unfold f_X7_passNumber
  refine pq_if (fun _ => ?_) (fun _ => ?_)
  · refine pq_b (ft_X11_within _ _ _ _) (fun _ s2 gs2 => ?_)
    have js2 := fr_t hJ gs2 rfl
    refine pq_if (fun _ => ?_) (fun _ => ?_)
    · refine pq_b (ft_X7_wrong _ _) (fun _ s4 gs4 => ?_)
      have js4 := fr_t js2 gs4 rfl
      refine pq_c (fun _ => ?_)
      exact pq_s js4
    · refine pq_b (ft_X7_advance  _) (fun _ s6 gs6 => ?_)
      have js6 := fr_t (fr_i js2 187 rfl rfl) gs6 rfl
      exact pq_s js6
  · refine pq_b (ft_X7_wrong _ _) (fun _ s8 gs8 => ?_)
    have js8 := fr_t hJ gs8 rfl
    refine pq_c (fun _ => ?_)
    exact pq_s js8

theorem ft_X6_takeGrains_67 (a1 : Int32) (a3 : Int32) (s : Sg) : PQ (f_X6_takeGrains_67 a1 a3 s) (fun _ s9 => Fr cC 1563145451683206635525513967693315367438687857216950632448 s s9) := by
  have hJ : Fr cC 1563145451683206635525513967693315367438687857216950632448 s s := fr_r
  unfold f_X6_takeGrains_67
  refine pq_if (fun _ => ?_) (fun _ => ?_)
  · refine pq_b (ft_X7_advance  _) (fun _ s2 gs2 => ?_)
    have js2 := fr_t hJ gs2 rfl
    refine pq_b (ft_X7_passNumber _ _ _) (fun _ s4 gs4 => ?_)
    have js4 := fr_t js2 gs4 rfl
    refine pq_if (fun _ => ?_) (fun _ => ?_)
    · exact pq_s js4
    · refine pq_c (fun _ => ?_)
      refine pq_n (fun s6 es6 => ?_)
      have js6 : Fr cC 1563145451683206635525513967693315367438687857216950632448 s s6 := by rw [es6]; exact (fr_i js4 67 rfl rfl)
      exact pq_s js6
  · exact pq_s hJ

theorem ft_X6_takeGrains_68 (a1 : Int32) (a3 : Int32) (s : Sg) : PQ (f_X6_takeGrains_68 a1 a3 s) (fun _ s9 => Fr cC 1563145451683206635525513967693315367586261809806627045376 s s9) := by
  have hJ : Fr cC 1563145451683206635525513967693315367586261809806627045376 s s := fr_r
  unfold f_X6_takeGrains_68
  refine pq_if (fun _ => ?_) (fun _ => ?_)
  · refine pq_b (ft_X7_advance  _) (fun _ s2 gs2 => ?_)
    have js2 := fr_t hJ gs2 rfl
    refine pq_b (ft_X7_passNumber _ _ _) (fun _ s4 gs4 => ?_)
    have js4 := fr_t js2 gs4 rfl
    refine pq_if (fun _ => ?_) (fun _ => ?_)
    · exact pq_s js4
    · refine pq_c (fun _ => ?_)
      refine pq_n (fun s6 es6 => ?_)
      have js6 : Fr cC 1563145451683206635525513967693315367586261809806627045376 s s6 := by rw [es6]; exact (fr_i js4 68 rfl rfl)
      exact pq_s js6
  · exact pq_s hJ

theorem ft_X7_pass (a1 : Int32) (s : Sg) : PQ (f_X7_pass a1 s) (fun _ s9 => Fr cC 1366986022452372861655645548218075791787915296987773140992 s s9) := by
  have hJ : Fr cC 1366986022452372861655645548218075791787915296987773140992 s s := fr_r
  unfold f_X7_pass
  refine pq_if (fun _ => ?_) (fun _ => ?_)
  · refine pq_b (ft_X7_advance  _) (fun _ s2 gs2 => ?_)
    have js2 := fr_t hJ gs2 rfl
    exact pq_s js2
  · refine pq_b (ft_X7_wrong _ _) (fun _ s4 gs4 => ?_)
    have js4 := fr_t hJ gs4 rfl
    refine pq_c (fun _ => ?_)
    exact pq_s js4

theorem ft_X6_takeHouse_b64 {s0 : Sg} (v1 : Int32) (t0 : Int32) (s : Sg) (hJ : Fr cC 224972889341710321782510218441730457668476153217554972378398720 s0 s) : PQ (f_X6_takeHouse_b64 v1 t0 s) (fun _ s9 => Fr cC 224972889341710321782510218441730457668476153217554972378398720 s0 s9) := by
  unfold f_X6_takeHouse_b64
  refine pq_b (ft_X6_takeGrains_67 _ _ _) (fun _ s4 gs4 => ?_)
  have js4 := fr_t hJ gs4 rfl
  refine pq_if (fun _ => ?_) (fun _ => ?_)
  · exact pq_s js4
  · refine pq_b (ft_X6_takeGrains_68 _ _ _) (fun _ s6 gs6 => ?_)
    have js6 := fr_t js4 gs6 rfl
    refine pq_if (fun _ => ?_) (fun _ => ?_)
    · exact pq_s js6
    · refine pq_if (fun _ => ?_) (fun _ => ?_)
      · refine pq_if (fun _ => ?_) (fun _ => ?_)
        · refine pq_n (fun s7 es7 => ?_)
          have js7 : Fr cC 224972889341710321782510218441730457668476153217554972378398720 s0 s7 := by rw [es7]; exact (fr_i js6 207 rfl rfl)
          refine pq_b (ft_X7_advance  _) (fun _ s9 gs9 => ?_)
          have js9 := fr_t js7 gs9 rfl
          refine pq_b (ft_X7_pass _ _) (fun _ s11 gs11 => ?_)
          have js11 := fr_t js9 gs11 rfl
          refine pq_c (fun _ => ?_)
          exact pq_s js11
        · refine pq_b (ft_X7_wrong _ _) (fun _ s13 gs13 => ?_)
          have js13 := fr_t js6 gs13 rfl
          refine pq_c (fun _ => ?_)
          exact pq_s js13
      · refine pq_b (ft_X7_pass _ _) (fun _ s15 gs15 => ?_)
        have js15 := fr_t js6 gs15 rfl
        refine pq_c (fun _ => ?_)
        exact pq_s js15
theorem ft_X6_takeHouse_b59 {s0 : Sg} (v1 : Int32) (s : Sg) (hJ : Fr cC 224972889341710321782510218441730457668476153217554972378398720 s0 s) : PQ (f_X6_takeHouse_b59 v1 s) (fun _ s9 => Fr cC 224972889341710321782510218441730457668476153217554972378398720 s0 s9) := by
  unfold f_X6_takeHouse_b59
  exact ft_X6_takeHouse_b64 _ _ _ hJ
theorem ft_X6_takeHouse  (s : Sg) : PQ (f_X6_takeHouse  s) (fun _ s9 => Fr cC 224972889341710321782510218441730457668476153217554972378398720 s s9) := by
  have hJ : Fr cC 224972889341710321782510218441730457668476153217554972378398720 s s := fr_r
  unfold f_X6_takeHouse
  refine pq_b (ft_X6_takeNew _ _ _ _) (fun _ s2 gs2 => ?_)
  have js2 := fr_t hJ gs2 rfl
  refine pq_if (fun _ => ?_) (fun _ => ?_)
  · exact pq_s js2
  · refine pq_if (fun _ => ?_) (fun _ => ?_)
    · exact ft_X6_takeHouse_b59 _ _ (fr_i js2 203 rfl rfl)
    · refine pq_if (fun _ => ?_) (fun _ => ?_)
      · exact ft_X6_takeHouse_b59 _ _ (fr_i js2 203 rfl rfl)
      · exact ft_X6_takeHouse_b64 _ _ _ (fr_i js2 203 rfl rfl)

theorem ft_X6_takeCounts_b35 {s0 : Sg}  (s : Sg) (hJ : Fr cC 822753645646625473450346246924223470567159720732086919447445760 s0 s) : PQ (f_X6_takeCounts_b35  s) (fun _ s9 => Fr cC 822753645646625473450346246924223470567159720732086919447445760 s0 s9) := by
  unfold f_X6_takeCounts_b35
  refine pq_b (ft_X7_pass _ _) (fun _ s4 gs4 => ?_)
  have js4 := fr_t (fr_i (fr_i hJ 8 rfl rfl) 209 rfl rfl) gs4 rfl
  refine pq_if (fun _ => ?_) (fun _ => ?_)
  · exact pq_s js4
  · refine pq_b (ft_X7_pass _ _) (fun _ s6 gs6 => ?_)
    have js6 := fr_t js4 gs6 rfl
    refine pq_if (fun _ => ?_) (fun _ => ?_)
    · exact pq_s js6
    · exact pq_s js6
theorem ft_X6_takeCounts  (s : Sg) : PQ (f_X6_takeCounts  s) (fun _ s9 => Fr cC 822753645646625473450346246924223470567159720732086919447445760 s s9) := by
  have hJ : Fr cC 822753645646625473450346246924223470567159720732086919447445760 s s := fr_r
  unfold f_X6_takeCounts
  refine pq_b (ft_X7_advance  _) (fun _ s2 gs2 => ?_)
  have js2 := fr_t hJ gs2 rfl
  refine pq_if (fun _ => ?_) (fun _ => ?_)
  · refine pq_if (fun _ => ?_) (fun _ => ?_)
    · exact ft_X6_takeCounts_b35  _ js2
    · refine pq_b (ft_X7_wrong _ _) (fun _ s8 gs8 => ?_)
      have js8 := fr_t js2 gs8 rfl
      refine pq_c (fun _ => ?_)
      exact pq_s js8
  · exact ft_X6_takeCounts_b35  _ js2

theorem ft_X4_numberOf_52_b3 {s0 : Sg} (n : Nat) : ∀ (v1 : Int64) (v3 : Int32) (v4 : Int32) (s : Sg), Fr cC 0 s0 s → PQ (f_X4_numberOf_52_b3 n v1 v3 v4 s) (fun _ s9 => Fr cC 0 s0 s9) := by
  induction n with
  | zero => intro v1 v3 v4 s _ r s9 e; cases e
  | succ n ih =>
    intro v1 v3 v4 s hJ
    unfold f_X4_numberOf_52_b3
    refine pq_if (fun _ => ?_) (fun _ => ?_)
    · exact pq_s hJ
    · refine pq_c (fun _ => ?_)
      refine pq_if (fun _ => ?_) (fun _ => ?_)
      · refine pq_if (fun _ => ?_) (fun _ => ?_)
        · exact pq_s hJ
        · exact ih _ _ _ _ hJ
      · exact ih _ _ _ _ hJ
theorem ft_X4_numberOf_52 (a1 : Int64) (a2 : Int32) (s : Sg) : PQ (f_X4_numberOf_52 a1 a2 s) (fun _ s9 => Fr cC 0 s s9) := by
  have hJ : Fr cC 0 s s := fr_r
  unfold f_X4_numberOf_52
  exact ft_X4_numberOf_52_b3 BIG _ _ _ _ hJ

theorem ft_X7_findName_52 (a2 : Int32) (s : Sg) : PQ (f_X7_findName_52 a2 s) (fun _ s9 => Fr cC 1373116004615836417089078936326677028522390253476507549696 s s9) := by
  have hJ : Fr cC 1373116004615836417089078936326677028522390253476507549696 s s := fr_r
  unfold f_X7_findName_52
  refine pq_if (fun _ => ?_) (fun _ => ?_)
  · refine pq_b (ft_X4_numberOf_52 _ _ _) (fun _ s2 gs2 => ?_)
    have js2 := fr_t hJ gs2 rfl
    refine pq_if (fun _ => ?_) (fun _ => ?_)
    · refine pq_b (ft_X7_wrong _ _) (fun _ s4 gs4 => ?_)
      have js4 := fr_t (fr_i js2 187 rfl rfl) gs4 rfl
      refine pq_if (fun _ => ?_) (fun _ => ?_)
      · exact pq_s js4
      · exact pq_s js4
    · exact pq_s (fr_i js2 187 rfl rfl)
  · refine pq_b (ft_X7_wrong _ _) (fun _ s6 gs6 => ?_)
    have js6 := fr_t hJ gs6 rfl
    refine pq_c (fun _ => ?_)
    exact pq_s js6

theorem ft_X11_has (a0 : Int32) (a1 : Int32) (s : Sg) : PQ (f_X11_has a0 a1 s) (fun _ s9 => Fr cC 0 s s9) := by
  have hJ : Fr cC 0 s s := fr_r
  unfold f_X11_has
  refine pq_if (fun _ => ?_) (fun _ => ?_)
  · exact pq_s hJ
  · exact pq_s hJ

theorem ft_X6_takeEnd_58 (a2 : Int32) (a3 : Int32) (a4 : Int32) (s : Sg) : PQ (f_X6_takeEnd_58 a2 a3 a4 s) (fun _ s9 => Fr cC 1563145451683206635525513967693315367291402135003425931264 s s9) := by
  have hJ : Fr cC 1563145451683206635525513967693315367291402135003425931264 s s := fr_r
  unfold f_X6_takeEnd_58
  refine pq_b (ft_X7_findName_52 _ _) (fun _ s2 gs2 => ?_)
  have js2 := fr_t hJ gs2 rfl
  refine pq_if (fun _ => ?_) (fun _ => ?_)
  · exact pq_s js2
  · refine pq_if (fun _ => ?_) (fun _ => ?_)
    · refine pq_b (ft_X7_wrong _ _) (fun _ s4 gs4 => ?_)
      have js4 := fr_t js2 gs4 rfl
      refine pq_c (fun _ => ?_)
      exact pq_s js4
    · refine pq_b (ft_X11_has _ _ _) (fun _ s6 gs6 => ?_)
      have js6 := fr_t js2 gs6 rfl
      refine pq_if (fun _ => ?_) (fun _ => ?_)
      · refine pq_c (fun _ => ?_)
        refine pq_n (fun s8 es8 => ?_)
        have js8 : Fr cC 1563145451683206635525513967693315367291402135003425931264 s s8 := by rw [es8]; exact (fr_i js6 58 rfl rfl)
        refine pq_b (ft_X7_advance  _) (fun _ s10 gs10 => ?_)
        have js10 := fr_t js8 gs10 rfl
        exact pq_s js10
      · refine pq_b (ft_X7_wrong _ _) (fun _ s12 gs12 => ?_)
        have js12 := fr_t js6 gs12 rfl
        refine pq_c (fun _ => ?_)
        exact pq_s js12

theorem ft_X6_takeEnd_59 (a2 : Int32) (a3 : Int32) (a4 : Int32) (s : Sg) : PQ (f_X6_takeEnd_59 a2 a3 a4 s) (fun _ s9 => Fr cC 1563145451683206635525513967693315367291690365379577643008 s s9) := by
  have hJ : Fr cC 1563145451683206635525513967693315367291690365379577643008 s s := fr_r
  unfold f_X6_takeEnd_59
  refine pq_b (ft_X7_findName_52 _ _) (fun _ s2 gs2 => ?_)
  have js2 := fr_t hJ gs2 rfl
  refine pq_if (fun _ => ?_) (fun _ => ?_)
  · exact pq_s js2
  · refine pq_if (fun _ => ?_) (fun _ => ?_)
    · refine pq_b (ft_X7_wrong _ _) (fun _ s4 gs4 => ?_)
      have js4 := fr_t js2 gs4 rfl
      refine pq_c (fun _ => ?_)
      exact pq_s js4
    · refine pq_b (ft_X11_has _ _ _) (fun _ s6 gs6 => ?_)
      have js6 := fr_t js2 gs6 rfl
      refine pq_if (fun _ => ?_) (fun _ => ?_)
      · refine pq_c (fun _ => ?_)
        refine pq_n (fun s8 es8 => ?_)
        have js8 : Fr cC 1563145451683206635525513967693315367291690365379577643008 s s8 := by rw [es8]; exact (fr_i js6 59 rfl rfl)
        refine pq_b (ft_X7_advance  _) (fun _ s10 gs10 => ?_)
        have js10 := fr_t js8 gs10 rfl
        exact pq_s js10
      · refine pq_b (ft_X7_wrong _ _) (fun _ s12 gs12 => ?_)
        have js12 := fr_t js6 gs12 rfl
        refine pq_c (fun _ => ?_)
        exact pq_s js12

theorem ft_X4_joinAt_52 (a1 : Int32) (s : Sg) : PQ (f_X4_joinAt_52 a1 s) (fun _ s9 => Fr cC 2305843009213693952 s s9) := by
  have hJ : Fr cC 2305843009213693952 s s := fr_r
  unfold f_X4_joinAt_52
  refine pq_c (fun _ => ?_)
  refine pq_c (fun _ => ?_)
  refine pq_n (fun s3 es3 => ?_)
  have js3 : Fr cC 2305843009213693952 s s3 := by rw [es3]; exact (fr_i hJ 61 rfl rfl)
  refine pq_c (fun _ => ?_)
  refine pq_n (fun s5 es5 => ?_)
  have js5 : Fr cC 2305843009213693952 s s5 := by rw [es5]; exact (fr_i js3 61 rfl rfl)
  exact pq_s js5

theorem ft_X6_takeQuarrel  (s : Sg) : PQ (f_X6_takeQuarrel  s) (fun _ s9 => Fr cC 32140324030631488717474767360790945365811355565217705388670976 s s9) := by
  have hJ : Fr cC 32140324030631488717474767360790945365811355565217705388670976 s s := fr_r
  unfold f_X6_takeQuarrel
  refine pq_b (ft_X6_takeNew _ _ _ _) (fun _ s2 gs2 => ?_)
  have js2 := fr_t hJ gs2 rfl
  refine pq_if (fun _ => ?_) (fun _ => ?_)
  · exact pq_s js2
  · refine pq_b (ft_X7_pass _ _) (fun _ s4 gs4 => ?_)
    have js4 := fr_t js2 gs4 rfl
    refine pq_if (fun _ => ?_) (fun _ => ?_)
    · exact pq_s js4
    · refine pq_b (ft_X6_takeEnd_58 _ _ _ _) (fun _ s6 gs6 => ?_)
      have js6 := fr_t js4 gs6 rfl
      refine pq_if (fun _ => ?_) (fun _ => ?_)
      · exact pq_s js6
      · refine pq_b (ft_X7_pass _ _) (fun _ s8 gs8 => ?_)
        have js8 := fr_t js6 gs8 rfl
        refine pq_if (fun _ => ?_) (fun _ => ?_)
        · exact pq_s js8
        · refine pq_c (fun _ => ?_)
          refine pq_b (ft_X6_takeEnd_59 _ _ _ _) (fun _ s11 gs11 => ?_)
          have js11 := fr_t js8 gs11 rfl
          refine pq_if (fun _ => ?_) (fun _ => ?_)
          · exact pq_s js11
          · refine pq_b (ft_X7_pass _ _) (fun _ s13 gs13 => ?_)
            have js13 := fr_t js11 gs13 rfl
            refine pq_if (fun _ => ?_) (fun _ => ?_)
            · exact pq_s js13
            · refine pq_b (ft_X7_passNumber _ _ _) (fun _ s15 gs15 => ?_)
              have js15 := fr_t js13 gs15 rfl
              refine pq_if (fun _ => ?_) (fun _ => ?_)
              · exact pq_s js15
              · refine pq_n (fun s16 es16 => ?_)
                have js16 : Fr cC 32140324030631488717474767360790945365811355565217705388670976 s s16 := by rw [es16]; exact (fr_i js15 60 rfl rfl)
                refine pq_b (ft_X4_joinAt_52 _ _) (fun _ s18 gs18 => ?_)
                have js18 := fr_t js16 gs18 rfl
                refine pq_n (fun s19 es19 => ?_)
                have js19 : Fr cC 32140324030631488717474767360790945365811355565217705388670976 s s19 := by rw [es19]; exact (fr_i js18 204 rfl rfl)
                refine pq_b (ft_X7_pass _ _) (fun _ s21 gs21 => ?_)
                have js21 := fr_t js19 gs21 rfl
                refine pq_c (fun _ => ?_)
                exact pq_s js21

theorem ft_X6_takeEnd_62 (a2 : Int32) (a3 : Int32) (a4 : Int32) (s : Sg) : PQ (f_X6_takeEnd_62 a2 a3 a4 s) (fun _ s9 => Fr cC 1563145451683206635525513967693315367295725590645701607424 s s9) := by
  have hJ : Fr cC 1563145451683206635525513967693315367295725590645701607424 s s := fr_r
  unfold f_X6_takeEnd_62
  refine pq_b (ft_X7_findName_52 _ _) (fun _ s2 gs2 => ?_)
  have js2 := fr_t hJ gs2 rfl
  refine pq_if (fun _ => ?_) (fun _ => ?_)
  · exact pq_s js2
  · refine pq_if (fun _ => ?_) (fun _ => ?_)
    · refine pq_b (ft_X7_wrong _ _) (fun _ s4 gs4 => ?_)
      have js4 := fr_t js2 gs4 rfl
      refine pq_c (fun _ => ?_)
      exact pq_s js4
    · refine pq_b (ft_X11_has _ _ _) (fun _ s6 gs6 => ?_)
      have js6 := fr_t js2 gs6 rfl
      refine pq_if (fun _ => ?_) (fun _ => ?_)
      · refine pq_c (fun _ => ?_)
        refine pq_n (fun s8 es8 => ?_)
        have js8 : Fr cC 1563145451683206635525513967693315367295725590645701607424 s s8 := by rw [es8]; exact (fr_i js6 62 rfl rfl)
        refine pq_b (ft_X7_advance  _) (fun _ s10 gs10 => ?_)
        have js10 := fr_t js8 gs10 rfl
        exact pq_s js10
      · refine pq_b (ft_X7_wrong _ _) (fun _ s12 gs12 => ?_)
        have js12 := fr_t js6 gs12 rfl
        refine pq_c (fun _ => ?_)
        exact pq_s js12

theorem ft_X6_takeEnd_63 (a2 : Int32) (a3 : Int32) (a4 : Int32) (s : Sg) : PQ (f_X6_takeEnd_63 a2 a3 a4 s) (fun _ s9 => Fr cC 1563145451683206635525513967693315367300337276664128995328 s s9) := by
  have hJ : Fr cC 1563145451683206635525513967693315367300337276664128995328 s s := fr_r
  unfold f_X6_takeEnd_63
  refine pq_b (ft_X7_findName_52 _ _) (fun _ s2 gs2 => ?_)
  have js2 := fr_t hJ gs2 rfl
  refine pq_if (fun _ => ?_) (fun _ => ?_)
  · exact pq_s js2
  · refine pq_if (fun _ => ?_) (fun _ => ?_)
    · refine pq_b (ft_X7_wrong _ _) (fun _ s4 gs4 => ?_)
      have js4 := fr_t js2 gs4 rfl
      refine pq_c (fun _ => ?_)
      exact pq_s js4
    · refine pq_b (ft_X11_has _ _ _) (fun _ s6 gs6 => ?_)
      have js6 := fr_t js2 gs6 rfl
      refine pq_if (fun _ => ?_) (fun _ => ?_)
      · refine pq_c (fun _ => ?_)
        refine pq_n (fun s8 es8 => ?_)
        have js8 : Fr cC 1563145451683206635525513967693315367300337276664128995328 s s8 := by rw [es8]; exact (fr_i js6 63 rfl rfl)
        refine pq_b (ft_X7_advance  _) (fun _ s10 gs10 => ?_)
        have js10 := fr_t js8 gs10 rfl
        exact pq_s js10
      · refine pq_b (ft_X7_wrong _ _) (fun _ s12 gs12 => ?_)
        have js12 := fr_t js6 gs12 rfl
        refine pq_c (fun _ => ?_)
        exact pq_s js12

theorem ft_X6_takeCat  (s : Sg) : PQ (f_X6_takeCat  s) (fun _ s9 => Fr cC 57851332738775333126146160838249547006166631424088877469532160 s s9) := by
  have hJ : Fr cC 57851332738775333126146160838249547006166631424088877469532160 s s := fr_r
  unfold f_X6_takeCat
  refine pq_b (ft_X6_takeNew _ _ _ _) (fun _ s2 gs2 => ?_)
  have js2 := fr_t hJ gs2 rfl
  refine pq_if (fun _ => ?_) (fun _ => ?_)
  · exact pq_s js2
  · refine pq_b (ft_X7_pass _ _) (fun _ s4 gs4 => ?_)
    have js4 := fr_t js2 gs4 rfl
    refine pq_if (fun _ => ?_) (fun _ => ?_)
    · exact pq_s js4
    · refine pq_b (ft_X6_takeEnd_62 _ _ _ _) (fun _ s6 gs6 => ?_)
      have js6 := fr_t js4 gs6 rfl
      refine pq_if (fun _ => ?_) (fun _ => ?_)
      · exact pq_s js6
      · refine pq_b (ft_X7_pass _ _) (fun _ s8 gs8 => ?_)
        have js8 := fr_t js6 gs8 rfl
        refine pq_if (fun _ => ?_) (fun _ => ?_)
        · exact pq_s js8
        · refine pq_c (fun _ => ?_)
          refine pq_b (ft_X6_takeEnd_63 _ _ _ _) (fun _ s11 gs11 => ?_)
          have js11 := fr_t js8 gs11 rfl
          refine pq_if (fun _ => ?_) (fun _ => ?_)
          · exact pq_s js11
          · refine pq_b (ft_X7_pass _ _) (fun _ s13 gs13 => ?_)
            have js13 := fr_t js11 gs13 rfl
            refine pq_if (fun _ => ?_) (fun _ => ?_)
            · exact pq_s js13
            · refine pq_b (ft_X7_passNumber _ _ _) (fun _ s15 gs15 => ?_)
              have js15 := fr_t js13 gs15 rfl
              refine pq_if (fun _ => ?_) (fun _ => ?_)
              · exact pq_s js15
              · refine pq_n (fun s16 es16 => ?_)
                have js16 : Fr cC 57851332738775333126146160838249547006166631424088877469532160 s s16 := by rw [es16]; exact (fr_i js15 64 rfl rfl)
                refine pq_n (fun s17 es17 => ?_)
                have js17 : Fr cC 57851332738775333126146160838249547006166631424088877469532160 s s17 := by rw [es17]; exact (fr_i js16 205 rfl rfl)
                refine pq_b (ft_X7_pass _ _) (fun _ s19 gs19 => ?_)
                have js19 := fr_t js17 gs19 rfl
                refine pq_c (fun _ => ?_)
                exact pq_s js19

theorem ft_X6_takeGrocer_b171 {s0 : Sg}  (s : Sg) (hJ : Fr cC 109273350155063021943488947793166750286879566807041996287377408 s0 s) : PQ (f_X6_takeGrocer_b171  s) (fun _ s9 => Fr cC 109273350155063021943488947793166750286879566807041996287377408 s0 s9) := by
  unfold f_X6_takeGrocer_b171
  refine pq_b (ft_X7_pass _ _) (fun _ s21 gs21 => ?_)
  have js21 := fr_t (fr_i hJ 206 rfl rfl) gs21 rfl
  refine pq_c (fun _ => ?_)
  exact pq_s js21
theorem ft_X6_takeGrocer  (s : Sg) : PQ (f_X6_takeGrocer  s) (fun _ s9 => Fr cC 109273350155063021943488947793166750286879566807041996287377408 s s9) := by
  have hJ : Fr cC 109273350155063021943488947793166750286879566807041996287377408 s s := fr_r
  unfold f_X6_takeGrocer
  refine pq_b (ft_X6_takeNew _ _ _ _) (fun _ s2 gs2 => ?_)
  have js2 := fr_t hJ gs2 rfl
  refine pq_if (fun _ => ?_) (fun _ => ?_)
  · exact pq_s js2
  · refine pq_b (ft_X7_pass _ _) (fun _ s4 gs4 => ?_)
    have js4 := fr_t js2 gs4 rfl
    refine pq_if (fun _ => ?_) (fun _ => ?_)
    · exact pq_s js4
    · refine pq_b (ft_X7_passNumber _ _ _) (fun _ s6 gs6 => ?_)
      have js6 := fr_t js4 gs6 rfl
      refine pq_if (fun _ => ?_) (fun _ => ?_)
      · exact pq_s js6
      · refine pq_c (fun _ => ?_)
        refine pq_n (fun s8 es8 => ?_)
        have js8 : Fr cC 109273350155063021943488947793166750286879566807041996287377408 s s8 := by rw [es8]; exact (fr_i js6 71 rfl rfl)
        refine pq_b (ft_X7_pass _ _) (fun _ s10 gs10 => ?_)
        have js10 := fr_t js8 gs10 rfl
        refine pq_if (fun _ => ?_) (fun _ => ?_)
        · exact pq_s js10
        · refine pq_b (ft_X7_passNumber _ _ _) (fun _ s12 gs12 => ?_)
          have js12 := fr_t js10 gs12 rfl
          refine pq_if (fun _ => ?_) (fun _ => ?_)
          · exact pq_s js12
          · refine pq_n (fun s13 es13 => ?_)
            have js13 : Fr cC 109273350155063021943488947793166750286879566807041996287377408 s s13 := by rw [es13]; exact (fr_i js12 65 rfl rfl)
            refine pq_n (fun s14 es14 => ?_)
            have js14 : Fr cC 109273350155063021943488947793166750286879566807041996287377408 s s14 := by rw [es14]; exact (fr_i js13 66 rfl rfl)
            refine pq_if (fun _ => ?_) (fun _ => ?_)
            · refine pq_b (ft_X7_advance  _) (fun _ s16 gs16 => ?_)
              have js16 := fr_t js14 gs16 rfl
              refine pq_b (ft_X7_passNumber _ _ _) (fun _ s18 gs18 => ?_)
              have js18 := fr_t js16 gs18 rfl
              refine pq_if (fun _ => ?_) (fun _ => ?_)
              · exact pq_s js18
              · refine pq_n (fun s19 es19 => ?_)
                have js19 : Fr cC 109273350155063021943488947793166750286879566807041996287377408 s s19 := by rw [es19]; exact (fr_i js18 66 rfl rfl)
                exact ft_X6_takeGrocer_b171  _ js19
            · exact ft_X6_takeGrocer_b171  _ js14

theorem ft_X6_takeWashes_b35 {s0 : Sg}  (s : Sg) (hJ : Fr cC 411377702475753193745377821153305319561051257522299593111372032 s0 s) : PQ (f_X6_takeWashes_b35  s) (fun _ s9 => Fr cC 411377702475753193745377821153305319561051257522299593111372032 s0 s9) := by
  unfold f_X6_takeWashes_b35
  refine pq_b (ft_X7_pass _ _) (fun _ s4 gs4 => ?_)
  have js4 := fr_t hJ gs4 rfl
  refine pq_if (fun _ => ?_) (fun _ => ?_)
  · exact pq_s js4
  · refine pq_b (ft_X7_passNumber _ _ _) (fun _ s6 gs6 => ?_)
    have js6 := fr_t js4 gs6 rfl
    refine pq_if (fun _ => ?_) (fun _ => ?_)
    · exact pq_s js6
    · refine pq_n (fun s7 es7 => ?_)
      have js7 : Fr cC 411377702475753193745377821153305319561051257522299593111372032 s0 s7 := by rw [es7]; exact (fr_i (fr_i js6 8 rfl rfl) 208 rfl rfl)
      refine pq_b (ft_X7_pass _ _) (fun _ s9 gs9 => ?_)
      have js9 := fr_t js7 gs9 rfl
      refine pq_c (fun _ => ?_)
      exact pq_s js9
theorem ft_X6_takeWashes  (s : Sg) : PQ (f_X6_takeWashes  s) (fun _ s9 => Fr cC 411377702475753193745377821153305319561051257522299593111372032 s s9) := by
  have hJ : Fr cC 411377702475753193745377821153305319561051257522299593111372032 s s := fr_r
  unfold f_X6_takeWashes
  refine pq_b (ft_X7_advance  _) (fun _ s2 gs2 => ?_)
  have js2 := fr_t hJ gs2 rfl
  refine pq_if (fun _ => ?_) (fun _ => ?_)
  · refine pq_if (fun _ => ?_) (fun _ => ?_)
    · exact ft_X6_takeWashes_b35  _ js2
    · refine pq_b (ft_X7_wrong _ _) (fun _ s11 gs11 => ?_)
      have js11 := fr_t js2 gs11 rfl
      refine pq_c (fun _ => ?_)
      exact pq_s js11
  · exact ft_X6_takeWashes_b35  _ js2

theorem ft_X6_takeText_b21 {s0 : Sg} (n : Nat) : ∀ (v1 : Int32) (v2 : Int32) (s : Sg), Fr cC 2950383245087890849305964212002474058476950690282486929711869985024 s0 s → PQ (f_X6_takeText_b21 n v1 v2 s) (fun _ s9 => Fr cC 2950383245087890849305964212002474058476950690282486929711869985024 s0 s9) := by
  induction n with
  | zero => intro v1 v2 s _ r s9 e; cases e
  | succ n ih =>
    intro v1 v2 s hJ
    unfold f_X6_takeText_b21
    refine pq_if (fun _ => ?_) (fun _ => ?_)
    · refine pq_c (fun _ => ?_)
      exact pq_s hJ
    · refine pq_if (fun _ => ?_) (fun _ => ?_)
      · refine pq_c (fun _ => ?_)
        exact pq_s hJ
      · refine pq_if (fun _ => ?_) (fun _ => ?_)
        · refine pq_c (fun _ => ?_)
          exact pq_s hJ
        · refine pq_if (fun _ => ?_) (fun _ => ?_)
          · refine pq_b (ft_X6_takeHouse  _) (fun _ s4 gs4 => ?_)
            have js4 := fr_t hJ gs4 rfl
            exact ih _ _ _ js4
          · refine pq_if (fun _ => ?_) (fun _ => ?_)
            · refine pq_b (ft_X7_wrong _ _) (fun _ s6 gs6 => ?_)
              have js6 := fr_t hJ gs6 rfl
              exact ih _ _ _ js6
            · refine pq_if (fun _ => ?_) (fun _ => ?_)
              · refine pq_b (ft_X7_wrong _ _) (fun _ s8 gs8 => ?_)
                have js8 := fr_t hJ gs8 rfl
                exact ih _ _ _ js8
              · refine pq_if (fun _ => ?_) (fun _ => ?_)
                · refine pq_b (ft_X6_takeCounts  _) (fun _ s10 gs10 => ?_)
                  have js10 := fr_t hJ gs10 rfl
                  exact ih _ _ _ js10
                · refine pq_if (fun _ => ?_) (fun _ => ?_)
                  · refine pq_b (ft_X6_takeQuarrel  _) (fun _ s12 gs12 => ?_)
                    have js12 := fr_t hJ gs12 rfl
                    exact ih _ _ _ js12
                  · refine pq_if (fun _ => ?_) (fun _ => ?_)
                    · refine pq_b (ft_X7_wrong _ _) (fun _ s14 gs14 => ?_)
                      have js14 := fr_t hJ gs14 rfl
                      exact ih _ _ _ js14
                    · refine pq_if (fun _ => ?_) (fun _ => ?_)
                      · refine pq_b (ft_X7_wrong _ _) (fun _ s16 gs16 => ?_)
                        have js16 := fr_t hJ gs16 rfl
                        exact ih _ _ _ js16
                      · refine pq_if (fun _ => ?_) (fun _ => ?_)
                        · refine pq_b (ft_X7_wrong _ _) (fun _ s18 gs18 => ?_)
                          have js18 := fr_t hJ gs18 rfl
                          exact ih _ _ _ js18
                        · refine pq_if (fun _ => ?_) (fun _ => ?_)
                          · refine pq_b (ft_X6_takeCat  _) (fun _ s20 gs20 => ?_)
                            have js20 := fr_t hJ gs20 rfl
                            exact ih _ _ _ js20
                          · refine pq_if (fun _ => ?_) (fun _ => ?_)
                            · refine pq_b (ft_X7_wrong _ _) (fun _ s22 gs22 => ?_)
                              have js22 := fr_t hJ gs22 rfl
                              exact ih _ _ _ js22
                            · refine pq_if (fun _ => ?_) (fun _ => ?_)
                              · refine pq_b (ft_X7_wrong _ _) (fun _ s24 gs24 => ?_)
                                have js24 := fr_t hJ gs24 rfl
                                exact ih _ _ _ js24
                              · refine pq_if (fun _ => ?_) (fun _ => ?_)
                                · refine pq_b (ft_X7_wrong _ _) (fun _ s26 gs26 => ?_)
                                  have js26 := fr_t hJ gs26 rfl
                                  exact ih _ _ _ js26
                                · refine pq_if (fun _ => ?_) (fun _ => ?_)
                                  · refine pq_b (ft_X6_takeGrocer  _) (fun _ s28 gs28 => ?_)
                                    have js28 := fr_t hJ gs28 rfl
                                    exact ih _ _ _ js28
                                  · refine pq_if (fun _ => ?_) (fun _ => ?_)
                                    · refine pq_b (ft_X7_wrong _ _) (fun _ s30 gs30 => ?_)
                                      have js30 := fr_t hJ gs30 rfl
                                      exact ih _ _ _ js30
                                    · refine pq_if (fun _ => ?_) (fun _ => ?_)
                                      · refine pq_b (ft_X7_wrong _ _) (fun _ s32 gs32 => ?_)
                                        have js32 := fr_t hJ gs32 rfl
                                        exact ih _ _ _ js32
                                      · refine pq_if (fun _ => ?_) (fun _ => ?_)
                                        · refine pq_b (ft_X7_wrong _ _) (fun _ s34 gs34 => ?_)
                                          have js34 := fr_t hJ gs34 rfl
                                          exact ih _ _ _ js34
                                        · refine pq_if (fun _ => ?_) (fun _ => ?_)
                                          · refine pq_b (ft_X6_takeWashes  _) (fun _ s36 gs36 => ?_)
                                            have js36 := fr_t hJ gs36 rfl
                                            exact ih _ _ _ js36
                                          · refine pq_b (ft_X7_wrong _ _) (fun _ s38 gs38 => ?_)
                                            have js38 := fr_t hJ gs38 rfl
                                            exact ih _ _ _ js38
theorem ft_X6_takeText  (s : Sg) : PQ (f_X6_takeText  s) (fun _ s9 => Fr cC 2950383245087890849305964212002474058476950690282486929711869985024 s s9) := by
  have hJ : Fr cC 2950383245087890849305964212002474058476950690282486929711869985024 s s := fr_r
  unfold f_X6_takeText
  refine pq_b (ft_X10_clear_51  _) (fun _ s2 gs2 => ?_)
  have js2 := fr_t hJ gs2 rfl
  exact ft_X6_takeText_b21 BIG _ _ _ (fr_i (fr_i js2 8 rfl rfl) 8 rfl rfl)

theorem ft_X11_closeText  (s : Sg) : PQ (f_X11_closeText  s) (fun _ s9 => Fr cC 1161344277062431400474684856512343678211075741029761024 s s9) := by
  have hJ : Fr cC 1161344277062431400474684856512343678211075741029761024 s s := fr_r
  unfold f_X11_closeText
  refine pq_n (fun s1 es1 => ?_)
  have js1 : Fr cC 1161344277062431400474684856512343678211075741029761024 s s1 := by rw [es1]; exact (fr_i (fr_i hJ 173 rfl rfl) 178 rfl rfl)
  exact pq_s (fr_i js1 179 rfl rfl)

theorem ft_X11_copyRow_29_56  (s : Sg) : PQ (f_X11_copyRow_29_56  s) (fun _ s9 => Fr cC 536870912 s s9) := by
  have hJ : Fr cC 536870912 s s := fr_r
  unfold f_X11_copyRow_29_56
  refine pq_c (fun _ => ?_)
  exact pq_s (fr_a hJ 29 (fun _ => rfl) rfl)

theorem ft_X11_copyRow_30_57  (s : Sg) : PQ (f_X11_copyRow_30_57  s) (fun _ s9 => Fr cC 1073741824 s s9) := by
  have hJ : Fr cC 1073741824 s s := fr_r
  unfold f_X11_copyRow_30_57
  refine pq_c (fun _ => ?_)
  exact pq_s (fr_a hJ 30 (fun _ => rfl) rfl)

theorem ft_X11_copyRow_31_58  (s : Sg) : PQ (f_X11_copyRow_31_58  s) (fun _ s9 => Fr cC 2147483648 s s9) := by
  have hJ : Fr cC 2147483648 s s := fr_r
  unfold f_X11_copyRow_31_58
  refine pq_c (fun _ => ?_)
  exact pq_s (fr_a hJ 31 (fun _ => rfl) rfl)

theorem ft_X11_copyRow_32_59  (s : Sg) : PQ (f_X11_copyRow_32_59  s) (fun _ s9 => Fr cC 4294967296 s s9) := by
  have hJ : Fr cC 4294967296 s s := fr_r
  unfold f_X11_copyRow_32_59
  refine pq_c (fun _ => ?_)
  exact pq_s (fr_a hJ 32 (fun _ => rfl) rfl)

theorem ft_X11_copyRow_33_60  (s : Sg) : PQ (f_X11_copyRow_33_60  s) (fun _ s9 => Fr cC 8589934592 s s9) := by
  have hJ : Fr cC 8589934592 s s := fr_r
  unfold f_X11_copyRow_33_60
  refine pq_c (fun _ => ?_)
  exact pq_s (fr_a hJ 33 (fun _ => rfl) rfl)

theorem ft_X11_copyRow_34_61  (s : Sg) : PQ (f_X11_copyRow_34_61  s) (fun _ s9 => Fr cC 17179869184 s s9) := by
  have hJ : Fr cC 17179869184 s s := fr_r
  unfold f_X11_copyRow_34_61
  refine pq_c (fun _ => ?_)
  exact pq_s (fr_a hJ 34 (fun _ => rfl) rfl)

theorem ft_X11_copyRow_35_62  (s : Sg) : PQ (f_X11_copyRow_35_62  s) (fun _ s9 => Fr cC 34359738368 s s9) := by
  have hJ : Fr cC 34359738368 s s := fr_r
  unfold f_X11_copyRow_35_62
  refine pq_c (fun _ => ?_)
  exact pq_s (fr_a hJ 35 (fun _ => rfl) rfl)

theorem ft_X11_copyRow_36_63  (s : Sg) : PQ (f_X11_copyRow_36_63  s) (fun _ s9 => Fr cC 68719476736 s s9) := by
  have hJ : Fr cC 68719476736 s s := fr_r
  unfold f_X11_copyRow_36_63
  refine pq_c (fun _ => ?_)
  exact pq_s (fr_a hJ 36 (fun _ => rfl) rfl)

theorem ft_X11_copyRow_37_64  (s : Sg) : PQ (f_X11_copyRow_37_64  s) (fun _ s9 => Fr cC 137438953472 s s9) := by
  have hJ : Fr cC 137438953472 s s := fr_r
  unfold f_X11_copyRow_37_64
  refine pq_c (fun _ => ?_)
  exact pq_s (fr_a hJ 37 (fun _ => rfl) rfl)

theorem ft_X11_copyRow_38_65  (s : Sg) : PQ (f_X11_copyRow_38_65  s) (fun _ s9 => Fr cC 274877906944 s s9) := by
  have hJ : Fr cC 274877906944 s s := fr_r
  unfold f_X11_copyRow_38_65
  refine pq_c (fun _ => ?_)
  exact pq_s (fr_a hJ 38 (fun _ => rfl) rfl)

theorem ft_X11_copyRow_39_66  (s : Sg) : PQ (f_X11_copyRow_39_66  s) (fun _ s9 => Fr cC 549755813888 s s9) := by
  have hJ : Fr cC 549755813888 s s := fr_r
  unfold f_X11_copyRow_39_66
  refine pq_c (fun _ => ?_)
  exact pq_s (fr_a hJ 39 (fun _ => rfl) rfl)

theorem ft_X4_copyFrom_52  (s : Sg) : PQ (f_X4_copyFrom_52  s) (fun _ s9 => Fr cC 1099276746752 s s9) := by
  have hJ : Fr cC 1099276746752 s s := fr_r
  unfold f_X4_copyFrom_52
  refine pq_b (ft_X11_copyRow_29_56  _) (fun _ s2 gs2 => ?_)
  have js2 := fr_t (fr_b hJ 28 (fun _ => rfl) rfl) gs2 rfl
  refine pq_b (ft_X11_copyRow_30_57  _) (fun _ s4 gs4 => ?_)
  have js4 := fr_t js2 gs4 rfl
  refine pq_b (ft_X11_copyRow_31_58  _) (fun _ s6 gs6 => ?_)
  have js6 := fr_t js4 gs6 rfl
  refine pq_b (ft_X11_copyRow_32_59  _) (fun _ s8 gs8 => ?_)
  have js8 := fr_t js6 gs8 rfl
  refine pq_b (ft_X11_copyRow_33_60  _) (fun _ s10 gs10 => ?_)
  have js10 := fr_t js8 gs10 rfl
  refine pq_b (ft_X11_copyRow_34_61  _) (fun _ s12 gs12 => ?_)
  have js12 := fr_t js10 gs12 rfl
  refine pq_b (ft_X11_copyRow_35_62  _) (fun _ s14 gs14 => ?_)
  have js14 := fr_t js12 gs14 rfl
  refine pq_b (ft_X11_copyRow_36_63  _) (fun _ s16 gs16 => ?_)
  have js16 := fr_t js14 gs16 rfl
  refine pq_b (ft_X11_copyRow_37_64  _) (fun _ s18 gs18 => ?_)
  have js18 := fr_t js16 gs18 rfl
  refine pq_b (ft_X11_copyRow_38_65  _) (fun _ s20 gs20 => ?_)
  have js20 := fr_t js18 gs20 rfl
  refine pq_b (ft_X11_copyRow_39_66  _) (fun _ s22 gs22 => ?_)
  have js22 := fr_t js20 gs22 rfl
  refine pq_n (fun s23 es23 => ?_)
  have js23 : Fr cC 1099276746752 s s23 := by rw [es23]; exact (fr_i (fr_i js22 25 rfl rfl) 25 rfl rfl)
  refine pq_n (fun s24 es24 => ?_)
  have js24 : Fr cC 1099276746752 s s24 := by rw [es24]; exact (fr_i (fr_i js23 25 rfl rfl) 25 rfl rfl)
  refine pq_n (fun s25 es25 => ?_)
  have js25 : Fr cC 1099276746752 s s25 := by rw [es25]; exact (fr_i (fr_i js24 25 rfl rfl) 25 rfl rfl)
  refine pq_c (fun _ => ?_)
  exact pq_s (fr_i (fr_i js25 25 rfl rfl) 25 rfl rfl)

theorem ft_X11_copyRow_40_67  (s : Sg) : PQ (f_X11_copyRow_40_67  s) (fun _ s9 => Fr cC 1099511627776 s s9) := by
  have hJ : Fr cC 1099511627776 s s := fr_r
  unfold f_X11_copyRow_40_67
  refine pq_c (fun _ => ?_)
  exact pq_s (fr_a hJ 40 (fun _ => rfl) rfl)

theorem ft_X11_copyRow_41_68  (s : Sg) : PQ (f_X11_copyRow_41_68  s) (fun _ s9 => Fr cC 2199023255552 s s9) := by
  have hJ : Fr cC 2199023255552 s s := fr_r
  unfold f_X11_copyRow_41_68
  refine pq_c (fun _ => ?_)
  exact pq_s (fr_a hJ 41 (fun _ => rfl) rfl)

theorem ft_X11_copyRow_42_69  (s : Sg) : PQ (f_X11_copyRow_42_69  s) (fun _ s9 => Fr cC 4398046511104 s s9) := by
  have hJ : Fr cC 4398046511104 s s := fr_r
  unfold f_X11_copyRow_42_69
  refine pq_c (fun _ => ?_)
  exact pq_s (fr_a hJ 42 (fun _ => rfl) rfl)

theorem ft_X11_copyRow_43_70  (s : Sg) : PQ (f_X11_copyRow_43_70  s) (fun _ s9 => Fr cC 8796093022208 s s9) := by
  have hJ : Fr cC 8796093022208 s s := fr_r
  unfold f_X11_copyRow_43_70
  refine pq_c (fun _ => ?_)
  exact pq_s (fr_a hJ 43 (fun _ => rfl) rfl)

theorem ft_X11_copyRow_44_71  (s : Sg) : PQ (f_X11_copyRow_44_71  s) (fun _ s9 => Fr cC 17592186044416 s s9) := by
  have hJ : Fr cC 17592186044416 s s := fr_r
  unfold f_X11_copyRow_44_71
  refine pq_c (fun _ => ?_)
  exact pq_s (fr_a hJ 44 (fun _ => rfl) rfl)

theorem ft_X2_copyFrom_53  (s : Sg) : PQ (f_X2_copyFrom_53  s) (fun _ s9 => Fr cC 34084927569920 s s9) := by
  have hJ : Fr cC 34084927569920 s s := fr_r
  unfold f_X2_copyFrom_53
  refine pq_b (ft_X11_copyRow_40_67  _) (fun _ s2 gs2 => ?_)
  have js2 := fr_t hJ gs2 rfl
  refine pq_b (ft_X11_copyRow_41_68  _) (fun _ s4 gs4 => ?_)
  have js4 := fr_t js2 gs4 rfl
  refine pq_b (ft_X11_copyRow_42_69  _) (fun _ s6 gs6 => ?_)
  have js6 := fr_t js4 gs6 rfl
  refine pq_b (ft_X11_copyRow_43_70  _) (fun _ s8 gs8 => ?_)
  have js8 := fr_t js6 gs8 rfl
  refine pq_b (ft_X11_copyRow_44_71  _) (fun _ s10 gs10 => ?_)
  have js10 := fr_t js8 gs10 rfl
  refine pq_n (fun s11 es11 => ?_)
  have js11 : Fr cC 34084927569920 s s11 := by rw [es11]; exact (fr_i (fr_i js10 26 rfl rfl) 26 rfl rfl)
  refine pq_c (fun _ => ?_)
  refine pq_n (fun s13 es13 => ?_)
  have js13 : Fr cC 34084927569920 s s13 := by rw [es13]; exact (fr_i (fr_i js11 26 rfl rfl) 26 rfl rfl)
  refine pq_n (fun s14 es14 => ?_)
  have js14 : Fr cC 34084927569920 s s14 := by rw [es14]; exact (fr_i (fr_i js13 26 rfl rfl) 26 rfl rfl)
  refine pq_n (fun s15 es15 => ?_)
  have js15 : Fr cC 34084927569920 s s15 := by rw [es15]; exact (fr_i (fr_i js14 26 rfl rfl) 26 rfl rfl)
  exact pq_s js15

theorem ft_X11_copyRow_45_72  (s : Sg) : PQ (f_X11_copyRow_45_72  s) (fun _ s9 => Fr cC 35184372088832 s s9) := by
  have hJ : Fr cC 35184372088832 s s := fr_r
  unfold f_X11_copyRow_45_72
  refine pq_c (fun _ => ?_)
  exact pq_s (fr_a hJ 45 (fun _ => rfl) rfl)

theorem ft_X11_copyRow_46_73  (s : Sg) : PQ (f_X11_copyRow_46_73  s) (fun _ s9 => Fr cC 70368744177664 s s9) := by
  have hJ : Fr cC 70368744177664 s s := fr_r
  unfold f_X11_copyRow_46_73
  refine pq_c (fun _ => ?_)
  exact pq_s (fr_a hJ 46 (fun _ => rfl) rfl)

theorem ft_X11_copyRow_47_74  (s : Sg) : PQ (f_X11_copyRow_47_74  s) (fun _ s9 => Fr cC 140737488355328 s s9) := by
  have hJ : Fr cC 140737488355328 s s := fr_r
  unfold f_X11_copyRow_47_74
  refine pq_c (fun _ => ?_)
  exact pq_s (fr_a hJ 47 (fun _ => rfl) rfl)

theorem ft_X11_copyRow_48_75  (s : Sg) : PQ (f_X11_copyRow_48_75  s) (fun _ s9 => Fr cC 281474976710656 s s9) := by
  have hJ : Fr cC 281474976710656 s s := fr_r
  unfold f_X11_copyRow_48_75
  refine pq_c (fun _ => ?_)
  exact pq_s (fr_a hJ 48 (fun _ => rfl) rfl)

theorem ft_X11_copyRow_49_76  (s : Sg) : PQ (f_X11_copyRow_49_76  s) (fun _ s9 => Fr cC 562949953421312 s s9) := by
  have hJ : Fr cC 562949953421312 s s := fr_r
  unfold f_X11_copyRow_49_76
  refine pq_c (fun _ => ?_)
  exact pq_s (fr_a hJ 49 (fun _ => rfl) rfl)

theorem ft_X11_copyRow_50_77  (s : Sg) : PQ (f_X11_copyRow_50_77  s) (fun _ s9 => Fr cC 1125899906842624 s s9) := by
  have hJ : Fr cC 1125899906842624 s s := fr_r
  unfold f_X11_copyRow_50_77
  refine pq_c (fun _ => ?_)
  exact pq_s (fr_a hJ 50 (fun _ => rfl) rfl)

theorem ft_X5_copyFrom_54  (s : Sg) : PQ (f_X5_copyFrom_54  s) (fun _ s9 => Fr cC 2216615575814144 s s9) := by
  have hJ : Fr cC 2216615575814144 s s := fr_r
  unfold f_X5_copyFrom_54
  refine pq_b (ft_X11_copyRow_45_72  _) (fun _ s2 gs2 => ?_)
  have js2 := fr_t hJ gs2 rfl
  refine pq_b (ft_X11_copyRow_46_73  _) (fun _ s4 gs4 => ?_)
  have js4 := fr_t js2 gs4 rfl
  refine pq_b (ft_X11_copyRow_47_74  _) (fun _ s6 gs6 => ?_)
  have js6 := fr_t js4 gs6 rfl
  refine pq_b (ft_X11_copyRow_48_75  _) (fun _ s8 gs8 => ?_)
  have js8 := fr_t js6 gs8 rfl
  refine pq_b (ft_X11_copyRow_49_76  _) (fun _ s10 gs10 => ?_)
  have js10 := fr_t js8 gs10 rfl
  refine pq_b (ft_X11_copyRow_50_77  _) (fun _ s12 gs12 => ?_)
  have js12 := fr_t js10 gs12 rfl
  refine pq_c (fun _ => ?_)
  refine pq_n (fun s14 es14 => ?_)
  have js14 : Fr cC 2216615575814144 s s14 := by rw [es14]; exact (fr_i (fr_i js12 27 rfl rfl) 27 rfl rfl)
  exact pq_s (fr_i js14 27 rfl rfl)

theorem ft_X10_copyFrom_51  (s : Sg) : PQ (f_X10_copyFrom_51  s) (fun _ s9 => Fr cC 2251799780130816 s s9) := by
  have hJ : Fr cC 2251799780130816 s s := fr_r
  unfold f_X10_copyFrom_51
  refine pq_b (ft_X4_copyFrom_52  _) (fun _ s2 gs2 => ?_)
  have js2 := fr_t hJ gs2 rfl
  refine pq_b (ft_X2_copyFrom_53  _) (fun _ s4 gs4 => ?_)
  have js4 := fr_t js2 gs4 rfl
  refine pq_b (ft_X5_copyFrom_54  _) (fun _ s6 gs6 => ?_)
  have js6 := fr_t js4 gs6 rfl
  exact pq_s js6

theorem ft_X11_answer (a1 : Int32) (s : Sg) : PQ (f_X11_answer a1 s) (fun _ s9 => Fr cC 47890485652059026823698344598447161988085597568237568 s s9) := by
  have hJ : Fr cC 47890485652059026823698344598447161988085597568237568 s s := fr_r
  unfold f_X11_answer
  exact pq_s (fr_i hJ 175 rfl rfl)

theorem ft_X11_street (a1 : Int32) (s : Sg) : PQ (f_X11_street a1 s) (fun _ s9 => Fr cC 2950383245092165075150410480146489135732362099489925821094615318784 s s9) := by
  have hJ : Fr cC 2950383245092165075150410480146489135732362099489925821094615318784 s s := fr_r
  unfold f_X11_street
  refine pq_b (ft_X11_within _ _ _ _) (fun _ s2 gs2 => ?_)
  have js2 := fr_t hJ gs2 rfl
  refine pq_if (fun _ => ?_) (fun _ => ?_)
  · refine pq_b (ft_X11_refuse _ _) (fun _ s4 gs4 => ?_)
    have js4 := fr_t js2 gs4 rfl
    exact pq_s js4
  · refine pq_b (ft_X7_begin _ _) (fun _ s6 gs6 => ?_)
    have js6 := fr_t js2 gs6 rfl
    refine pq_b (ft_X6_takeText  _) (fun _ s8 gs8 => ?_)
    have js8 := fr_t js6 gs8 rfl
    refine pq_b (ft_X11_closeText  _) (fun _ s10 gs10 => ?_)
    have js10 := fr_t js8 gs10 rfl
    refine pq_if (fun _ => ?_) (fun _ => ?_)
    · refine pq_b (ft_X11_refuse _ _) (fun _ s12 gs12 => ?_)
      have js12 := fr_t js10 gs12 rfl
      exact pq_s js12
    · refine pq_b (ft_X10_copyFrom_51  _) (fun _ s14 gs14 => ?_)
      have js14 := fr_t js10 gs14 rfl
      refine pq_b (ft_X11_answer _ _) (fun _ s16 gs16 => ?_)
      have js16 := fr_t js14 gs16 rfl
      exact pq_s js16

theorem ft_X1_takeEnd  (s : Sg) : PQ (f_X1_takeEnd  s) (fun _ s9 => Fr cC 432201645009125680230707958475439099784963547471479561819378317000704 s s9) := by
  have hJ : Fr cC 432201645009125680230707958475439099784963547471479561819378317000704 s s := fr_r
  unfold f_X1_takeEnd
  refine pq_if (fun _ => ?_) (fun _ => ?_)
  · refine pq_b (ft_X7_wrong _ _) (fun _ s2 gs2 => ?_)
    have js2 := fr_t hJ gs2 rfl
    refine pq_c (fun _ => ?_)
    exact pq_s js2
  · refine pq_if (fun _ => ?_) (fun _ => ?_)
    · refine pq_c (fun _ => ?_)
      refine pq_n (fun x4 _ => ?_)
      refine pq_c (fun _ => ?_)
      refine pq_n (fun s6 es6 => ?_)
      have js6 : Fr cC 432201645009125680230707958475439099784963547471479561819378317000704 s s6 := by rw [es6]; exact (fr_i (fr_i hJ 228 rfl rfl) 72 rfl rfl)
      refine pq_c (fun _ => ?_)
      refine pq_n (fun s8 es8 => ?_)
      have js8 : Fr cC 432201645009125680230707958475439099784963547471479561819378317000704 s s8 := by rw [es8]; exact (fr_i js6 77 rfl rfl)
      refine pq_c (fun _ => ?_)
      refine pq_n (fun s10 es10 => ?_)
      have js10 : Fr cC 432201645009125680230707958475439099784963547471479561819378317000704 s s10 := by rw [es10]; exact (fr_i js8 77 rfl rfl)
      refine pq_b (ft_X7_advance  _) (fun _ s12 gs12 => ?_)
      have js12 := fr_t (fr_i js10 219 rfl rfl) gs12 rfl
      refine pq_b (ft_X7_pass _ _) (fun _ s14 gs14 => ?_)
      have js14 := fr_t js12 gs14 rfl
      refine pq_c (fun _ => ?_)
      exact pq_s js14
    · refine pq_b (ft_X7_wrong _ _) (fun _ s16 gs16 => ?_)
      have js16 := fr_t hJ gs16 rfl
      refine pq_c (fun _ => ?_)
      exact pq_s js16

theorem ft_X1_isStepWord (a0 : Int32) (s : Sg) : PQ (f_X1_isStepWord a0 s) (fun _ s9 => Fr cC 0 s s9) := by
  have hJ : Fr cC 0 s s := fr_r
  unfold f_X1_isStepWord
  refine pq_if (fun _ => ?_) (fun _ => ?_)
  · exact pq_s hJ
  · refine pq_if (fun _ => ?_) (fun _ => ?_)
    · exact pq_s hJ
    · refine pq_if (fun _ => ?_) (fun _ => ?_)
      · exact pq_s hJ
      · refine pq_b (ft_X11_within _ _ _ _) (fun _ s2 gs2 => ?_)
        have js2 := fr_t hJ gs2 rfl
        refine pq_if (fun _ => ?_) (fun _ => ?_)
        · exact pq_s js2
        · exact pq_s js2

theorem ft_X1_beginStep_b129 {s0 : Sg} (v1 : Int32) (s : Sg) (hJ : Fr cC 433886641675822595217874646918377826702065868846772620147618654191616 s0 s) : PQ (f_X1_beginStep_b129 v1 s) (fun _ s9 => Fr cC 433886641675822595217874646918377826702065868846772620147618654191616 s0 s9) := by
  unfold f_X1_beginStep_b129
  refine pq_c (fun _ => ?_)
  refine pq_n (fun s8 es8 => ?_)
  have js8 : Fr cC 433886641675822595217874646918377826702065868846772620147618654191616 s0 s8 := by rw [es8]; exact (fr_i hJ 72 rfl rfl)
  refine pq_n (fun s9 es9 => ?_)
  have js9 : Fr cC 433886641675822595217874646918377826702065868846772620147618654191616 s0 s9 := by rw [es9]; exact (fr_i (fr_i js8 219 rfl rfl) 220 rfl rfl)
  refine pq_b (ft_X7_advance  _) (fun _ s11 gs11 => ?_)
  have js11 := fr_t js9 gs11 rfl
  exact pq_s js11
theorem ft_X1_beginStep_b99 {s0 : Sg} (v1 : Int32) (v2 : Int32) (s : Sg) (hJ : Fr cC 433886641675822595217874646918377826702065868846772620147618654191616 s0 s) : PQ (f_X1_beginStep_b99 v1 v2 s) (fun _ s9 => Fr cC 433886641675822595217874646918377826702065868846772620147618654191616 s0 s9) := by
  unfold f_X1_beginStep_b99
  refine pq_if (fun _ => ?_) (fun _ => ?_)
  · exact ft_X1_beginStep_b129 _ _ hJ
  · refine pq_c (fun _ => ?_)
    refine pq_n (fun s13 es13 => ?_)
    have js13 : Fr cC 433886641675822595217874646918377826702065868846772620147618654191616 s0 s13 := by rw [es13]; exact (fr_i hJ 23 rfl rfl)
    exact ft_X1_beginStep_b129 _ _ (fr_i js13 228 rfl rfl)
theorem ft_X1_beginStep_b26 {s0 : Sg} (v1 : Int32) (t0 : Int32) (s : Sg) (hJ : Fr cC 433886641675822595217874646918377826702065868846772620147618654191616 s0 s) : PQ (f_X1_beginStep_b26 v1 t0 s) (fun _ s9 => Fr cC 433886641675822595217874646918377826702065868846772620147618654191616 s0 s9) := by
  unfold f_X1_beginStep_b26
  refine pq_b (ft_X1_isStepWord _ _) (fun _ s2 gs2 => ?_)
  have js2 := fr_t hJ gs2 rfl
  refine pq_if (fun _ => ?_) (fun _ => ?_)
  · refine pq_b (ft_X7_wrong _ _) (fun _ s4 gs4 => ?_)
    have js4 := fr_t js2 gs4 rfl
    refine pq_c (fun _ => ?_)
    exact pq_s js4
  · refine pq_if (fun _ => ?_) (fun _ => ?_)
    · refine pq_b (ft_X7_wrong _ _) (fun _ s6 gs6 => ?_)
      have js6 := fr_t js2 gs6 rfl
      refine pq_c (fun _ => ?_)
      exact pq_s js6
    · refine pq_if (fun _ => ?_) (fun _ => ?_)
      · refine pq_if (fun _ => ?_) (fun _ => ?_)
        · exact ft_X1_beginStep_b99 _ _ _ js2
        · refine pq_if (fun _ => ?_) (fun _ => ?_)
          · exact ft_X1_beginStep_b99 _ _ _ js2
          · refine pq_b (ft_X7_wrong _ _) (fun _ s15 gs15 => ?_)
            have js15 := fr_t js2 gs15 rfl
            refine pq_c (fun _ => ?_)
            exact pq_s js15
      · refine pq_b (ft_X7_wrong _ _) (fun _ s17 gs17 => ?_)
        have js17 := fr_t js2 gs17 rfl
        refine pq_c (fun _ => ?_)
        exact pq_s js17
theorem ft_X1_beginStep_b21 {s0 : Sg} (v1 : Int32) (s : Sg) (hJ : Fr cC 433886641675822595217874646918377826702065868846772620147618654191616 s0 s) : PQ (f_X1_beginStep_b21 v1 s) (fun _ s9 => Fr cC 433886641675822595217874646918377826702065868846772620147618654191616 s0 s9) := by
  unfold f_X1_beginStep_b21
  exact ft_X1_beginStep_b26 _ _ _ hJ
theorem ft_X1_beginStep  (s : Sg) : PQ (f_X1_beginStep  s) (fun _ s9 => Fr cC 433886641675822595217874646918377826702065868846772620147618654191616 s s9) := by
  have hJ : Fr cC 433886641675822595217874646918377826702065868846772620147618654191616 s s := fr_r
  unfold f_X1_beginStep
  refine pq_if (fun _ => ?_) (fun _ => ?_)
  · exact ft_X1_beginStep_b21 _ _ hJ
  · refine pq_if (fun _ => ?_) (fun _ => ?_)
    · exact ft_X1_beginStep_b21 _ _ hJ
    · exact ft_X1_beginStep_b26 _ _ _ hJ

theorem ft_X1_takeNumber (a1 : Int32) (a2 : Int32) (a3 : Int32) (s : Sg) : PQ (f_X1_takeNumber a1 a2 a3 s) (fun _ s9 => Fr cC 1563145451683206635525513967693315386180579836105855074304 s s9) := by
  have hJ : Fr cC 1563145451683206635525513967693315386180579836105855074304 s s := fr_r
  unfold f_X1_takeNumber
  refine pq_b (ft_X7_passNumber _ _ _) (fun _ s2 gs2 => ?_)
  have js2 := fr_t hJ gs2 rfl
  refine pq_if (fun _ => ?_) (fun _ => ?_)
  · exact pq_s js2
  · refine pq_c (fun _ => ?_)
    refine pq_n (fun s4 es4 => ?_)
    have js4 : Fr cC 1563145451683206635525513967693315386180579836105855074304 s s4 := by rw [es4]; exact (fr_i js2 74 rfl rfl)
    exact pq_s js4

theorem ft_X4_numberOf_b3 {s0 : Sg} (n : Nat) : ∀ (v1 : Int64) (v3 : Int32) (v4 : Int32) (s : Sg), Fr cC 0 s0 s → PQ (f_X4_numberOf_b3 n v1 v3 v4 s) (fun _ s9 => Fr cC 0 s0 s9) := by
  induction n with
  | zero => intro v1 v3 v4 s _ r s9 e; cases e
  | succ n ih =>
    intro v1 v3 v4 s hJ
    unfold f_X4_numberOf_b3
    refine pq_if (fun _ => ?_) (fun _ => ?_)
    · exact pq_s hJ
    · refine pq_c (fun _ => ?_)
      refine pq_if (fun _ => ?_) (fun _ => ?_)
      · refine pq_if (fun _ => ?_) (fun _ => ?_)
        · exact pq_s hJ
        · exact ih _ _ _ _ hJ
      · exact ih _ _ _ _ hJ
theorem ft_X4_numberOf (a1 : Int64) (a2 : Int32) (s : Sg) : PQ (f_X4_numberOf a1 a2 s) (fun _ s9 => Fr cC 0 s s9) := by
  have hJ : Fr cC 0 s s := fr_r
  unfold f_X4_numberOf
  exact ft_X4_numberOf_b3 BIG _ _ _ _ hJ

theorem ft_X7_findName_25 (a2 : Int32) (s : Sg) : PQ (f_X7_findName_25 a2 s) (fun _ s9 => Fr cC 1373116004615836417089078936326677028522390253476507549696 s s9) := by
  have hJ : Fr cC 1373116004615836417089078936326677028522390253476507549696 s s := fr_r
  unfold f_X7_findName_25
  refine pq_if (fun _ => ?_) (fun _ => ?_)
  · refine pq_b (ft_X4_numberOf _ _ _) (fun _ s2 gs2 => ?_)
    have js2 := fr_t hJ gs2 rfl
    refine pq_if (fun _ => ?_) (fun _ => ?_)
    · refine pq_b (ft_X7_wrong _ _) (fun _ s4 gs4 => ?_)
      have js4 := fr_t (fr_i js2 187 rfl rfl) gs4 rfl
      refine pq_if (fun _ => ?_) (fun _ => ?_)
      · exact pq_s js4
      · exact pq_s js4
    · exact pq_s (fr_i js2 187 rfl rfl)
  · refine pq_b (ft_X7_wrong _ _) (fun _ s6 gs6 => ?_)
    have js6 := fr_t hJ gs6 rfl
    refine pq_c (fun _ => ?_)
    exact pq_s js6

theorem ft_X1_takeGrocer (a1 : Int32) (s : Sg) : PQ (f_X1_takeGrocer a1 s) (fun _ s9 => Fr cC 1563145451683206635525513967693315376735846870366564646912 s s9) := by
  have hJ : Fr cC 1563145451683206635525513967693315376735846870366564646912 s s := fr_r
  unfold f_X1_takeGrocer
  refine pq_b (ft_X7_findName_25 _ _) (fun _ s2 gs2 => ?_)
  have js2 := fr_t hJ gs2 rfl
  refine pq_if (fun _ => ?_) (fun _ => ?_)
  · exact pq_s js2
  · refine pq_c (fun _ => ?_)
    refine pq_n (fun s4 es4 => ?_)
    have js4 : Fr cC 1563145451683206635525513967693315376735846870366564646912 s s4 := by rw [es4]; exact (fr_i js2 73 rfl rfl)
    refine pq_b (ft_X7_advance  _) (fun _ s6 gs6 => ?_)
    have js6 := fr_t js4 gs6 rfl
    exact pq_s js6

theorem ft_X4_isGone (a1 : Int32) (s : Sg) : PQ (f_X4_isGone a1 s) (fun _ s9 => Fr cC 0 s s9) := by
  have hJ : Fr cC 0 s s := fr_r
  unfold f_X4_isGone
  refine pq_if (fun _ => ?_) (fun _ => ?_)
  · exact pq_s hJ
  · exact pq_s hJ

theorem ft_X1_takeHouse_75 (a2 : Int32) (s : Sg) : PQ (f_X1_takeHouse_75 a2 s) (fun _ s9 => Fr cC 1563145451683206635525513967693315405070045767584435929088 s s9) := by
  have hJ : Fr cC 1563145451683206635525513967693315405070045767584435929088 s s := fr_r
  unfold f_X1_takeHouse_75
  refine pq_b (ft_X7_findName_25 _ _) (fun _ s2 gs2 => ?_)
  have js2 := fr_t hJ gs2 rfl
  refine pq_if (fun _ => ?_) (fun _ => ?_)
  · exact pq_s js2
  · refine pq_b (ft_X4_isGone _ _) (fun _ s4 gs4 => ?_)
    have js4 := fr_t js2 gs4 rfl
    refine pq_if (fun _ => ?_) (fun _ => ?_)
    · refine pq_c (fun _ => ?_)
      refine pq_n (fun s6 es6 => ?_)
      have js6 : Fr cC 1563145451683206635525513967693315405070045767584435929088 s s6 := by rw [es6]; exact (fr_i js4 75 rfl rfl)
      refine pq_b (ft_X7_advance  _) (fun _ s8 gs8 => ?_)
      have js8 := fr_t js6 gs8 rfl
      exact pq_s js8
    · refine pq_b (ft_X7_wrong _ _) (fun _ s10 gs10 => ?_)
      have js10 := fr_t js4 gs10 rfl
      refine pq_c (fun _ => ?_)
      exact pq_s js10

theorem ft_X1_takeHouse_73 (a2 : Int32) (s : Sg) : PQ (f_X1_takeHouse_73 a2 s) (fun _ s9 => Fr cC 1563145451683206635525513967693315376735846870366564646912 s s9) := by
  have hJ : Fr cC 1563145451683206635525513967693315376735846870366564646912 s s := fr_r
  unfold f_X1_takeHouse_73
  refine pq_b (ft_X7_findName_25 _ _) (fun _ s2 gs2 => ?_)
  have js2 := fr_t hJ gs2 rfl
  refine pq_if (fun _ => ?_) (fun _ => ?_)
  · exact pq_s js2
  · refine pq_b (ft_X4_isGone _ _) (fun _ s4 gs4 => ?_)
    have js4 := fr_t js2 gs4 rfl
    refine pq_if (fun _ => ?_) (fun _ => ?_)
    · refine pq_c (fun _ => ?_)
      refine pq_n (fun s6 es6 => ?_)
      have js6 : Fr cC 1563145451683206635525513967693315376735846870366564646912 s s6 := by rw [es6]; exact (fr_i js4 73 rfl rfl)
      refine pq_b (ft_X7_advance  _) (fun _ s8 gs8 => ?_)
      have js8 := fr_t js6 gs8 rfl
      exact pq_s js8
    · refine pq_b (ft_X7_wrong _ _) (fun _ s10 gs10 => ?_)
      have js10 := fr_t js4 gs10 rfl
      refine pq_c (fun _ => ?_)
      exact pq_s js10

theorem ft_X1_takeTest_b40 {s0 : Sg} (v1 : Int32) (s : Sg) (hJ : Fr cC 1563145451683206635525513967693315471183176527759468920832 s0 s) : PQ (f_X1_takeTest_b40 v1 s) (fun _ s9 => Fr cC 1563145451683206635525513967693315471183176527759468920832 s0 s9) := by
  unfold f_X1_takeTest_b40
  refine pq_b (ft_X7_advance  _) (fun _ s4 gs4 => ?_)
  have js4 := fr_t hJ gs4 rfl
  refine pq_b (ft_X7_findName_25 _ _) (fun _ s6 gs6 => ?_)
  have js6 := fr_t js4 gs6 rfl
  refine pq_if (fun _ => ?_) (fun _ => ?_)
  · exact pq_s js6
  · refine pq_c (fun _ => ?_)
    refine pq_n (fun s8 es8 => ?_)
    have js8 : Fr cC 1563145451683206635525513967693315471183176527759468920832 s0 s8 := by rw [es8]; exact (fr_i js6 73 rfl rfl)
    refine pq_b (ft_X7_advance  _) (fun _ s10 gs10 => ?_)
    have js10 := fr_t js8 gs10 rfl
    exact pq_s js10
theorem ft_X1_takeTest_b180 {s0 : Sg} (v1 : Int32) (s : Sg) (hJ : Fr cC 1563145451683206635525513967693315471183176527759468920832 s0 s) : PQ (f_X1_takeTest_b180 v1 s) (fun _ s9 => Fr cC 1563145451683206635525513967693315471183176527759468920832 s0 s9) := by
  unfold f_X1_takeTest_b180
  refine pq_b (ft_X7_advance  _) (fun _ s17 gs17 => ?_)
  have js17 := fr_t hJ gs17 rfl
  refine pq_b (ft_X7_passNumber _ _ _) (fun _ s19 gs19 => ?_)
  have js19 := fr_t js17 gs19 rfl
  refine pq_c (fun _ => ?_)
  refine pq_n (fun s21 es21 => ?_)
  have js21 : Fr cC 1563145451683206635525513967693315471183176527759468920832 s0 s21 := by rw [es21]; exact (fr_i js19 74 rfl rfl)
  refine pq_c (fun _ => ?_)
  exact pq_s js21
theorem ft_X1_takeTest (a1 : Int32) (s : Sg) : PQ (f_X1_takeTest a1 s) (fun _ s9 => Fr cC 1563145451683206635525513967693315471183176527759468920832 s s9) := by
  have hJ : Fr cC 1563145451683206635525513967693315471183176527759468920832 s s := fr_r
  unfold f_X1_takeTest
  refine pq_c (fun _ => ?_)
  refine pq_n (fun s2 es2 => ?_)
  have js2 : Fr cC 1563145451683206635525513967693315471183176527759468920832 s s2 := by rw [es2]; exact (fr_i hJ 76 rfl rfl)
  refine pq_if (fun _ => ?_) (fun _ => ?_)
  · exact ft_X1_takeTest_b40 _ _ js2
  · refine pq_if (fun _ => ?_) (fun _ => ?_)
    · exact ft_X1_takeTest_b40 _ _ js2
    · refine pq_b (ft_X7_pass _ _) (fun _ s12 gs12 => ?_)
      have js12 := fr_t js2 gs12 rfl
      refine pq_if (fun _ => ?_) (fun _ => ?_)
      · exact pq_s js12
      · refine pq_b (ft_X1_takeHouse_73 _ _) (fun _ s14 gs14 => ?_)
        have js14 := fr_t js12 gs14 rfl
        refine pq_if (fun _ => ?_) (fun _ => ?_)
        · exact pq_s js14
        · refine pq_n (fun s15 es15 => ?_)
          have js15 : Fr cC 1563145451683206635525513967693315471183176527759468920832 s s15 := by rw [es15]; exact (fr_i js14 76 rfl rfl)
          refine pq_if (fun _ => ?_) (fun _ => ?_)
          · exact ft_X1_takeTest_b180 _ _ js15
          · refine pq_if (fun _ => ?_) (fun _ => ?_)
            · exact ft_X1_takeTest_b180 _ _ js15
            · refine pq_if (fun _ => ?_) (fun _ => ?_)
              · exact ft_X1_takeTest_b180 _ _ js15
              · refine pq_b (ft_X7_wrong _ _) (fun _ s23 gs23 => ?_)
                have js23 := fr_t js15 gs23 rfl
                refine pq_c (fun _ => ?_)
                exact pq_s js23

theorem ft_X1_takeStep_b249 {s0 : Sg} (v2 : Int32) (s : Sg) (hJ : Fr cC 433886641676018754647105480692247695121541108563946813241347511681024 s0 s) : PQ (f_X1_takeStep_b249 v2 s) (fun _ s9 => Fr cC 433886641676018754647105480692247695121541108563946813241347511681024 s0 s9) := by
  unfold f_X1_takeStep_b249
  refine pq_if (fun _ => ?_) (fun _ => ?_)
  · exact pq_s hJ
  · refine pq_b (ft_X7_pass _ _) (fun _ s7 gs7 => ?_)
    have js7 := fr_t hJ gs7 rfl
    refine pq_if (fun _ => ?_) (fun _ => ?_)
    · exact pq_s js7
    · exact pq_s js7
theorem ft_X1_takeStep_b184 {s0 : Sg} (t0 : Int32) (s : Sg) (hJ : Fr cC 433886641676018754647105480692247695121541108563946813241347511681024 s0 s) : PQ (f_X1_takeStep_b184 t0 s) (fun _ s9 => Fr cC 433886641676018754647105480692247695121541108563946813241347511681024 s0 s9) := by
  unfold f_X1_takeStep_b184
  exact ft_X1_takeStep_b249 _ _ hJ
theorem ft_X1_takeStep_b183 {s0 : Sg}  (s : Sg) (hJ : Fr cC 433886641676018754647105480692247695121541108563946813241347511681024 s0 s) : PQ (f_X1_takeStep_b183  s) (fun _ s9 => Fr cC 433886641676018754647105480692247695121541108563946813241347511681024 s0 s9) := by
  unfold f_X1_takeStep_b183
  exact ft_X1_takeStep_b184 _ _ hJ
theorem ft_X1_takeStep_b128 {s0 : Sg} (t0 : Int32) (s : Sg) (hJ : Fr cC 433886641676018754647105480692247695121541108563946813241347511681024 s0 s) : PQ (f_X1_takeStep_b128 t0 s) (fun _ s9 => Fr cC 433886641676018754647105480692247695121541108563946813241347511681024 s0 s9) := by
  unfold f_X1_takeStep_b128
  exact ft_X1_takeStep_b249 _ _ hJ
theorem ft_X1_takeStep_b127 {s0 : Sg}  (s : Sg) (hJ : Fr cC 433886641676018754647105480692247695121541108563946813241347511681024 s0 s) : PQ (f_X1_takeStep_b127  s) (fun _ s9 => Fr cC 433886641676018754647105480692247695121541108563946813241347511681024 s0 s9) := by
  unfold f_X1_takeStep_b127
  exact ft_X1_takeStep_b128 _ _ hJ
theorem ft_X1_takeStep  (s : Sg) : PQ (f_X1_takeStep  s) (fun _ s9 => Fr cC 433886641676018754647105480692247695121541108563946813241347511681024 s s9) := by
  have hJ : Fr cC 433886641676018754647105480692247695121541108563946813241347511681024 s s := fr_r
  unfold f_X1_takeStep
  refine pq_b (ft_X1_beginStep  _) (fun _ s2 gs2 => ?_)
  have js2 := fr_t hJ gs2 rfl
  refine pq_if (fun _ => ?_) (fun _ => ?_)
  · exact pq_s js2
  · refine pq_c (fun _ => ?_)
    refine pq_if (fun _ => ?_) (fun _ => ?_)
    · refine pq_b (ft_X1_takeNumber _ _ _ _) (fun _ s5 gs5 => ?_)
      have js5 := fr_t js2 gs5 rfl
      exact ft_X1_takeStep_b249 _ _ js5
    · refine pq_if (fun _ => ?_) (fun _ => ?_)
      · exact ft_X1_takeStep_b249 _ _ js2
      · refine pq_if (fun _ => ?_) (fun _ => ?_)
        · exact ft_X1_takeStep_b249 _ _ js2
        · refine pq_if (fun _ => ?_) (fun _ => ?_)
          · refine pq_b (ft_X1_takeGrocer _ _) (fun _ s9 gs9 => ?_)
            have js9 := fr_t js2 gs9 rfl
            refine pq_if (fun _ => ?_) (fun _ => ?_)
            · exact ft_X1_takeStep_b183  _ js9
            · refine pq_b (ft_X1_takeNumber _ _ _ _) (fun _ s11 gs11 => ?_)
              have js11 := fr_t js9 gs11 rfl
              refine pq_if (fun _ => ?_) (fun _ => ?_)
              · exact ft_X1_takeStep_b183  _ js11
              · refine pq_b (ft_X7_pass _ _) (fun _ s13 gs13 => ?_)
                have js13 := fr_t js11 gs13 rfl
                refine pq_if (fun _ => ?_) (fun _ => ?_)
                · exact ft_X1_takeStep_b183  _ js13
                · refine pq_b (ft_X1_takeHouse_75 _ _) (fun _ s15 gs15 => ?_)
                  have js15 := fr_t js13 gs15 rfl
                  refine pq_if (fun _ => ?_) (fun _ => ?_)
                  · exact ft_X1_takeStep_b183  _ js15
                  · exact ft_X1_takeStep_b184 _ _ js15
          · refine pq_if (fun _ => ?_) (fun _ => ?_)
            · refine pq_b (ft_X1_takeHouse_73 _ _) (fun _ s17 gs17 => ?_)
              have js17 := fr_t js2 gs17 rfl
              refine pq_if (fun _ => ?_) (fun _ => ?_)
              · exact ft_X1_takeStep_b127  _ js17
              · refine pq_b (ft_X1_takeNumber _ _ _ _) (fun _ s19 gs19 => ?_)
                have js19 := fr_t js17 gs19 rfl
                refine pq_if (fun _ => ?_) (fun _ => ?_)
                · exact ft_X1_takeStep_b127  _ js19
                · exact ft_X1_takeStep_b128 _ _ js19
            · refine pq_if (fun _ => ?_) (fun _ => ?_)
              · refine pq_b (ft_X1_takeHouse_73 _ _) (fun _ s21 gs21 => ?_)
                have js21 := fr_t js2 gs21 rfl
                exact ft_X1_takeStep_b249 _ _ js21
              · refine pq_if (fun _ => ?_) (fun _ => ?_)
                · refine pq_b (ft_X1_takeNumber _ _ _ _) (fun _ s23 gs23 => ?_)
                  have js23 := fr_t js2 gs23 rfl
                  exact ft_X1_takeStep_b249 _ _ js23
                · refine pq_if (fun _ => ?_) (fun _ => ?_)
                  · exact ft_X1_takeStep_b249 _ _ js2
                  · refine pq_if (fun _ => ?_) (fun _ => ?_)
                    · refine pq_b (ft_X1_takeTest _ _) (fun _ s25 gs25 => ?_)
                      have js25 := fr_t js2 gs25 rfl
                      exact ft_X1_takeStep_b249 _ _ js25
                    · refine pq_if (fun _ => ?_) (fun _ => ?_)
                      · exact ft_X1_takeStep_b249 _ _ js2
                      · refine pq_if (fun _ => ?_) (fun _ => ?_)
                        · exact ft_X1_takeStep_b249 _ _ js2
                        · refine pq_if (fun _ => ?_) (fun _ => ?_)
                          · exact ft_X1_takeStep_b249 _ _ js2
                          · refine pq_if (fun _ => ?_) (fun _ => ?_)
                            · refine pq_b (ft_X1_takeNumber _ _ _ _) (fun _ s27 gs27 => ?_)
                              have js27 := fr_t js2 gs27 rfl
                              exact ft_X1_takeStep_b249 _ _ js27
                            · exact ft_X1_takeStep_b249 _ _ js2

theorem ft_X1_takeText_b22 {s0 : Sg} (n : Nat) : ∀ (v1 : Int32) (s : Sg), Fr cC 434307890842692983393897152802982376850816689096664737138193402429440 s0 s → PQ (f_X1_takeText_b22 n v1 s) (fun _ s9 => Fr cC 434307890842692983393897152802982376850816689096664737138193402429440 s0 s9) := by
  induction n with
  | zero => intro v1 s _ r s9 e; cases e
  | succ n ih =>
    intro v1 s hJ
    unfold f_X1_takeText_b22
    refine pq_if (fun _ => ?_) (fun _ => ?_)
    · refine pq_b (ft_X7_wrong _ _) (fun _ s4 gs4 => ?_)
      have js4 := fr_t hJ gs4 rfl
      refine pq_c (fun _ => ?_)
      exact pq_s js4
    · refine pq_if (fun _ => ?_) (fun _ => ?_)
      · refine pq_if (fun _ => ?_) (fun _ => ?_)
        · exact pq_s hJ
        · refine pq_b (ft_X7_wrong _ _) (fun _ s6 gs6 => ?_)
          have js6 := fr_t hJ gs6 rfl
          refine pq_if (fun _ => ?_) (fun _ => ?_)
          · exact pq_s js6
          · exact pq_s js6
      · refine pq_if (fun _ => ?_) (fun _ => ?_)
        · refine pq_b (ft_X1_takeEnd  _) (fun _ s8 gs8 => ?_)
          have js8 := fr_t hJ gs8 rfl
          refine pq_if (fun _ => ?_) (fun _ => ?_)
          · exact pq_s js8
          · exact ih _ _ js8
        · refine pq_b (ft_X1_takeStep  _) (fun _ s10 gs10 => ?_)
          have js10 := fr_t hJ gs10 rfl
          refine pq_if (fun _ => ?_) (fun _ => ?_)
          · exact pq_s js10
          · exact ih _ _ js10
theorem ft_X1_takeText  (s : Sg) : PQ (f_X1_takeText  s) (fun _ s9 => Fr cC 434307890842692983393897152802982376850816689096664737138193402429440 s s9) := by
  have hJ : Fr cC 434307890842692983393897152802982376850816689096664737138193402429440 s s := fr_r
  unfold f_X1_takeText
  refine pq_b (ft_X5_clear_54  _) (fun _ s2 gs2 => ?_)
  have js2 := fr_t hJ gs2 rfl
  exact ft_X1_takeText_b22 BIG _ _ (fr_i (fr_i js2 218 rfl rfl) 228 rfl rfl)

theorem ft_X11_days (a1 : Int32) (s : Sg) : PQ (f_X11_days a1 s) (fun _ s9 => Fr cC 434307890842697257619741599071126391928072100505872175994391943446528 s s9) := by
  have hJ : Fr cC 434307890842697257619741599071126391928072100505872175994391943446528 s s := fr_r
  unfold f_X11_days
  refine pq_b (ft_X11_within _ _ _ _) (fun _ s2 gs2 => ?_)
  have js2 := fr_t hJ gs2 rfl
  refine pq_if (fun _ => ?_) (fun _ => ?_)
  · refine pq_b (ft_X11_refuse _ _) (fun _ s4 gs4 => ?_)
    have js4 := fr_t js2 gs4 rfl
    exact pq_s js4
  · refine pq_if (fun _ => ?_) (fun _ => ?_)
    · refine pq_b (ft_X7_begin _ _) (fun _ s6 gs6 => ?_)
      have js6 := fr_t js2 gs6 rfl
      refine pq_b (ft_X1_takeText  _) (fun _ s8 gs8 => ?_)
      have js8 := fr_t js6 gs8 rfl
      refine pq_b (ft_X11_closeText  _) (fun _ s10 gs10 => ?_)
      have js10 := fr_t js8 gs10 rfl
      refine pq_if (fun _ => ?_) (fun _ => ?_)
      · refine pq_b (ft_X11_refuse _ _) (fun _ s12 gs12 => ?_)
        have js12 := fr_t js10 gs12 rfl
        exact pq_s js12
      · refine pq_b (ft_X5_copyFrom_54  _) (fun _ s14 gs14 => ?_)
        have js14 := fr_t js10 gs14 rfl
        refine pq_b (ft_X11_answer _ _) (fun _ s16 gs16 => ?_)
        have js16 := fr_t js14 gs16 rfl
        exact pq_s js16
    · refine pq_b (ft_X11_refuse _ _) (fun _ s18 gs18 => ?_)
      have js18 := fr_t js2 gs18 rfl
      exact pq_s js18

theorem ft_X11_copyRow_83_29  (s : Sg) : PQ (f_X11_copyRow_83_29  s) (fun _ s9 => Fr cC 9671406556917033397649408 s s9) := by
  have hJ : Fr cC 9671406556917033397649408 s s := fr_r
  unfold f_X11_copyRow_83_29
  refine pq_c (fun _ => ?_)
  exact pq_s (fr_a hJ 83 (fun _ => rfl) rfl)

theorem ft_X11_copyRow_84_30  (s : Sg) : PQ (f_X11_copyRow_84_30  s) (fun _ s9 => Fr cC 19342813113834066795298816 s s9) := by
  have hJ : Fr cC 19342813113834066795298816 s s := fr_r
  unfold f_X11_copyRow_84_30
  refine pq_c (fun _ => ?_)
  exact pq_s (fr_a hJ 84 (fun _ => rfl) rfl)

theorem ft_X11_copyRow_85_31  (s : Sg) : PQ (f_X11_copyRow_85_31  s) (fun _ s9 => Fr cC 38685626227668133590597632 s s9) := by
  have hJ : Fr cC 38685626227668133590597632 s s := fr_r
  unfold f_X11_copyRow_85_31
  refine pq_c (fun _ => ?_)
  exact pq_s (fr_a hJ 85 (fun _ => rfl) rfl)

theorem ft_X11_copyRow_86_32  (s : Sg) : PQ (f_X11_copyRow_86_32  s) (fun _ s9 => Fr cC 77371252455336267181195264 s s9) := by
  have hJ : Fr cC 77371252455336267181195264 s s := fr_r
  unfold f_X11_copyRow_86_32
  refine pq_c (fun _ => ?_)
  exact pq_s (fr_a hJ 86 (fun _ => rfl) rfl)

theorem ft_X11_copyRow_87_33  (s : Sg) : PQ (f_X11_copyRow_87_33  s) (fun _ s9 => Fr cC 154742504910672534362390528 s s9) := by
  have hJ : Fr cC 154742504910672534362390528 s s := fr_r
  unfold f_X11_copyRow_87_33
  refine pq_c (fun _ => ?_)
  exact pq_s (fr_a hJ 87 (fun _ => rfl) rfl)

theorem ft_X11_copyRow_88_34  (s : Sg) : PQ (f_X11_copyRow_88_34  s) (fun _ s9 => Fr cC 309485009821345068724781056 s s9) := by
  have hJ : Fr cC 309485009821345068724781056 s s := fr_r
  unfold f_X11_copyRow_88_34
  refine pq_c (fun _ => ?_)
  exact pq_s (fr_a hJ 88 (fun _ => rfl) rfl)

theorem ft_X11_copyRow_89_35  (s : Sg) : PQ (f_X11_copyRow_89_35  s) (fun _ s9 => Fr cC 618970019642690137449562112 s s9) := by
  have hJ : Fr cC 618970019642690137449562112 s s := fr_r
  unfold f_X11_copyRow_89_35
  refine pq_c (fun _ => ?_)
  exact pq_s (fr_a hJ 89 (fun _ => rfl) rfl)

theorem ft_X11_copyRow_90_36  (s : Sg) : PQ (f_X11_copyRow_90_36  s) (fun _ s9 => Fr cC 1237940039285380274899124224 s s9) := by
  have hJ : Fr cC 1237940039285380274899124224 s s := fr_r
  unfold f_X11_copyRow_90_36
  refine pq_c (fun _ => ?_)
  exact pq_s (fr_a hJ 90 (fun _ => rfl) rfl)

theorem ft_X11_copyRow_91_37  (s : Sg) : PQ (f_X11_copyRow_91_37  s) (fun _ s9 => Fr cC 2475880078570760549798248448 s s9) := by
  have hJ : Fr cC 2475880078570760549798248448 s s := fr_r
  unfold f_X11_copyRow_91_37
  refine pq_c (fun _ => ?_)
  exact pq_s (fr_a hJ 91 (fun _ => rfl) rfl)

theorem ft_X11_copyRow_92_38  (s : Sg) : PQ (f_X11_copyRow_92_38  s) (fun _ s9 => Fr cC 4951760157141521099596496896 s s9) := by
  have hJ : Fr cC 4951760157141521099596496896 s s := fr_r
  unfold f_X11_copyRow_92_38
  refine pq_c (fun _ => ?_)
  exact pq_s (fr_a hJ 92 (fun _ => rfl) rfl)

theorem ft_X11_copyRow_93_39  (s : Sg) : PQ (f_X11_copyRow_93_39  s) (fun _ s9 => Fr cC 9903520314283042199192993792 s s9) := by
  have hJ : Fr cC 9903520314283042199192993792 s s := fr_r
  unfold f_X11_copyRow_93_39
  refine pq_c (fun _ => ?_)
  exact pq_s (fr_a hJ 93 (fun _ => rfl) rfl)

theorem ft_X4_copyFrom_25_79  (s : Sg) : PQ (f_X4_copyFrom_25_79  s) (fun _ s9 => Fr cC 19802809388197433196274515968 s s9) := by
  have hJ : Fr cC 19802809388197433196274515968 s s := fr_r
  unfold f_X4_copyFrom_25_79
  refine pq_b (ft_X11_copyRow_83_29  _) (fun _ s2 gs2 => ?_)
  have js2 := fr_t (fr_b hJ 82 (fun _ => rfl) rfl) gs2 rfl
  refine pq_b (ft_X11_copyRow_84_30  _) (fun _ s4 gs4 => ?_)
  have js4 := fr_t js2 gs4 rfl
  refine pq_b (ft_X11_copyRow_85_31  _) (fun _ s6 gs6 => ?_)
  have js6 := fr_t js4 gs6 rfl
  refine pq_b (ft_X11_copyRow_86_32  _) (fun _ s8 gs8 => ?_)
  have js8 := fr_t js6 gs8 rfl
  refine pq_b (ft_X11_copyRow_87_33  _) (fun _ s10 gs10 => ?_)
  have js10 := fr_t js8 gs10 rfl
  refine pq_b (ft_X11_copyRow_88_34  _) (fun _ s12 gs12 => ?_)
  have js12 := fr_t js10 gs12 rfl
  refine pq_b (ft_X11_copyRow_89_35  _) (fun _ s14 gs14 => ?_)
  have js14 := fr_t js12 gs14 rfl
  refine pq_b (ft_X11_copyRow_90_36  _) (fun _ s16 gs16 => ?_)
  have js16 := fr_t js14 gs16 rfl
  refine pq_b (ft_X11_copyRow_91_37  _) (fun _ s18 gs18 => ?_)
  have js18 := fr_t js16 gs18 rfl
  refine pq_b (ft_X11_copyRow_92_38  _) (fun _ s20 gs20 => ?_)
  have js20 := fr_t js18 gs20 rfl
  refine pq_b (ft_X11_copyRow_93_39  _) (fun _ s22 gs22 => ?_)
  have js22 := fr_t js20 gs22 rfl
  refine pq_n (fun s23 es23 => ?_)
  have js23 : Fr cC 19802809388197433196274515968 s s23 := by rw [es23]; exact (fr_i (fr_i js22 79 rfl rfl) 79 rfl rfl)
  refine pq_n (fun s24 es24 => ?_)
  have js24 : Fr cC 19802809388197433196274515968 s s24 := by rw [es24]; exact (fr_i (fr_i js23 79 rfl rfl) 79 rfl rfl)
  refine pq_n (fun s25 es25 => ?_)
  have js25 : Fr cC 19802809388197433196274515968 s s25 := by rw [es25]; exact (fr_i (fr_i js24 79 rfl rfl) 79 rfl rfl)
  refine pq_c (fun _ => ?_)
  exact pq_s (fr_i (fr_i js25 79 rfl rfl) 79 rfl rfl)

theorem ft_X11_copyRow_94_40  (s : Sg) : PQ (f_X11_copyRow_94_40  s) (fun _ s9 => Fr cC 19807040628566084398385987584 s s9) := by
  have hJ : Fr cC 19807040628566084398385987584 s s := fr_r
  unfold f_X11_copyRow_94_40
  refine pq_c (fun _ => ?_)
  exact pq_s (fr_a hJ 94 (fun _ => rfl) rfl)

theorem ft_X11_copyRow_95_41  (s : Sg) : PQ (f_X11_copyRow_95_41  s) (fun _ s9 => Fr cC 39614081257132168796771975168 s s9) := by
  have hJ : Fr cC 39614081257132168796771975168 s s := fr_r
  unfold f_X11_copyRow_95_41
  refine pq_c (fun _ => ?_)
  exact pq_s (fr_a hJ 95 (fun _ => rfl) rfl)

theorem ft_X11_copyRow_96_42  (s : Sg) : PQ (f_X11_copyRow_96_42  s) (fun _ s9 => Fr cC 79228162514264337593543950336 s s9) := by
  have hJ : Fr cC 79228162514264337593543950336 s s := fr_r
  unfold f_X11_copyRow_96_42
  refine pq_c (fun _ => ?_)
  exact pq_s (fr_a hJ 96 (fun _ => rfl) rfl)

theorem ft_X11_copyRow_97_43  (s : Sg) : PQ (f_X11_copyRow_97_43  s) (fun _ s9 => Fr cC 158456325028528675187087900672 s s9) := by
  have hJ : Fr cC 158456325028528675187087900672 s s := fr_r
  unfold f_X11_copyRow_97_43
  refine pq_c (fun _ => ?_)
  exact pq_s (fr_a hJ 97 (fun _ => rfl) rfl)

theorem ft_X11_copyRow_98_44  (s : Sg) : PQ (f_X11_copyRow_98_44  s) (fun _ s9 => Fr cC 316912650057057350374175801344 s s9) := by
  have hJ : Fr cC 316912650057057350374175801344 s s := fr_r
  unfold f_X11_copyRow_98_44
  refine pq_c (fun _ => ?_)
  exact pq_s (fr_a hJ 98 (fun _ => rfl) rfl)

theorem ft_X2_copyFrom_26_80  (s : Sg) : PQ (f_X2_copyFrom_26_80  s) (fun _ s9 => Fr cC 614019468411368230979140321280 s s9) := by
  have hJ : Fr cC 614019468411368230979140321280 s s := fr_r
  unfold f_X2_copyFrom_26_80
  refine pq_b (ft_X11_copyRow_94_40  _) (fun _ s2 gs2 => ?_)
  have js2 := fr_t hJ gs2 rfl
  refine pq_b (ft_X11_copyRow_95_41  _) (fun _ s4 gs4 => ?_)
  have js4 := fr_t js2 gs4 rfl
  refine pq_b (ft_X11_copyRow_96_42  _) (fun _ s6 gs6 => ?_)
  have js6 := fr_t js4 gs6 rfl
  refine pq_b (ft_X11_copyRow_97_43  _) (fun _ s8 gs8 => ?_)
  have js8 := fr_t js6 gs8 rfl
  refine pq_b (ft_X11_copyRow_98_44  _) (fun _ s10 gs10 => ?_)
  have js10 := fr_t js8 gs10 rfl
  refine pq_n (fun s11 es11 => ?_)
  have js11 : Fr cC 614019468411368230979140321280 s s11 := by rw [es11]; exact (fr_i (fr_i js10 80 rfl rfl) 80 rfl rfl)
  refine pq_c (fun _ => ?_)
  refine pq_n (fun s13 es13 => ?_)
  have js13 : Fr cC 614019468411368230979140321280 s s13 := by rw [es13]; exact (fr_i (fr_i js11 80 rfl rfl) 80 rfl rfl)
  refine pq_n (fun s14 es14 => ?_)
  have js14 : Fr cC 614019468411368230979140321280 s s14 := by rw [es14]; exact (fr_i (fr_i js13 80 rfl rfl) 80 rfl rfl)
  refine pq_n (fun s15 es15 => ?_)
  have js15 : Fr cC 614019468411368230979140321280 s s15 := by rw [es15]; exact (fr_i (fr_i js14 80 rfl rfl) 80 rfl rfl)
  exact pq_s js15

theorem ft_X11_copyRow_99_45  (s : Sg) : PQ (f_X11_copyRow_99_45  s) (fun _ s9 => Fr cC 633825300114114700748351602688 s s9) := by
  have hJ : Fr cC 633825300114114700748351602688 s s := fr_r
  unfold f_X11_copyRow_99_45
  refine pq_c (fun _ => ?_)
  exact pq_s (fr_a hJ 99 (fun _ => rfl) rfl)

theorem ft_X11_copyRow_100_46  (s : Sg) : PQ (f_X11_copyRow_100_46  s) (fun _ s9 => Fr cC 1267650600228229401496703205376 s s9) := by
  have hJ : Fr cC 1267650600228229401496703205376 s s := fr_r
  unfold f_X11_copyRow_100_46
  refine pq_c (fun _ => ?_)
  exact pq_s (fr_a hJ 100 (fun _ => rfl) rfl)

theorem ft_X11_copyRow_101_47  (s : Sg) : PQ (f_X11_copyRow_101_47  s) (fun _ s9 => Fr cC 2535301200456458802993406410752 s s9) := by
  have hJ : Fr cC 2535301200456458802993406410752 s s := fr_r
  unfold f_X11_copyRow_101_47
  refine pq_c (fun _ => ?_)
  exact pq_s (fr_a hJ 101 (fun _ => rfl) rfl)

theorem ft_X11_copyRow_102_48  (s : Sg) : PQ (f_X11_copyRow_102_48  s) (fun _ s9 => Fr cC 5070602400912917605986812821504 s s9) := by
  have hJ : Fr cC 5070602400912917605986812821504 s s := fr_r
  unfold f_X11_copyRow_102_48
  refine pq_c (fun _ => ?_)
  exact pq_s (fr_a hJ 102 (fun _ => rfl) rfl)

theorem ft_X11_copyRow_103_49  (s : Sg) : PQ (f_X11_copyRow_103_49  s) (fun _ s9 => Fr cC 10141204801825835211973625643008 s s9) := by
  have hJ : Fr cC 10141204801825835211973625643008 s s := fr_r
  unfold f_X11_copyRow_103_49
  refine pq_c (fun _ => ?_)
  exact pq_s (fr_a hJ 103 (fun _ => rfl) rfl)

theorem ft_X11_copyRow_104_50  (s : Sg) : PQ (f_X11_copyRow_104_50  s) (fun _ s9 => Fr cC 20282409603651670423947251286016 s s9) := by
  have hJ : Fr cC 20282409603651670423947251286016 s s := fr_r
  unfold f_X11_copyRow_104_50
  refine pq_c (fun _ => ?_)
  exact pq_s (fr_a hJ 104 (fun _ => rfl) rfl)

theorem ft_X5_copyFrom_27_81  (s : Sg) : PQ (f_X5_copyFrom_27_81  s) (fun _ s9 => Fr cC 39930996325040865376404500381696 s s9) := by
  have hJ : Fr cC 39930996325040865376404500381696 s s := fr_r
  unfold f_X5_copyFrom_27_81
  refine pq_b (ft_X11_copyRow_99_45  _) (fun _ s2 gs2 => ?_)
  have js2 := fr_t hJ gs2 rfl
  refine pq_b (ft_X11_copyRow_100_46  _) (fun _ s4 gs4 => ?_)
  have js4 := fr_t js2 gs4 rfl
  refine pq_b (ft_X11_copyRow_101_47  _) (fun _ s6 gs6 => ?_)
  have js6 := fr_t js4 gs6 rfl
  refine pq_b (ft_X11_copyRow_102_48  _) (fun _ s8 gs8 => ?_)
  have js8 := fr_t js6 gs8 rfl
  refine pq_b (ft_X11_copyRow_103_49  _) (fun _ s10 gs10 => ?_)
  have js10 := fr_t js8 gs10 rfl
  refine pq_b (ft_X11_copyRow_104_50  _) (fun _ s12 gs12 => ?_)
  have js12 := fr_t js10 gs12 rfl
  refine pq_c (fun _ => ?_)
  refine pq_n (fun s14 es14 => ?_)
  have js14 : Fr cC 39930996325040865376404500381696 s s14 := by rw [es14]; exact (fr_i (fr_i js12 81 rfl rfl) 81 rfl rfl)
  exact pq_s (fr_i js14 81 rfl rfl)

theorem ft_X10_copyFrom_24_78  (s : Sg) : PQ (f_X10_copyFrom_24_78  s) (fun _ s9 => Fr cC 40564818602840431040579915218944 s s9) := by
  have hJ : Fr cC 40564818602840431040579915218944 s s := fr_r
  unfold f_X10_copyFrom_24_78
  refine pq_b (ft_X4_copyFrom_25_79  _) (fun _ s2 gs2 => ?_)
  have js2 := fr_t hJ gs2 rfl
  refine pq_b (ft_X2_copyFrom_26_80  _) (fun _ s4 gs4 => ?_)
  have js4 := fr_t js2 gs4 rfl
  refine pq_b (ft_X5_copyFrom_27_81  _) (fun _ s6 gs6 => ?_)
  have js6 := fr_t js4 gs6 rfl
  exact pq_s js6

theorem ft_X11_copyRow_110_29  (s : Sg) : PQ (f_X11_copyRow_110_29  s) (fun _ s9 => Fr cC 1298074214633706907132624082305024 s s9) := by
  have hJ : Fr cC 1298074214633706907132624082305024 s s := fr_r
  unfold f_X11_copyRow_110_29
  refine pq_c (fun _ => ?_)
  exact pq_s (fr_a hJ 110 (fun _ => rfl) rfl)

theorem ft_X11_copyRow_111_30  (s : Sg) : PQ (f_X11_copyRow_111_30  s) (fun _ s9 => Fr cC 2596148429267413814265248164610048 s s9) := by
  have hJ : Fr cC 2596148429267413814265248164610048 s s := fr_r
  unfold f_X11_copyRow_111_30
  refine pq_c (fun _ => ?_)
  exact pq_s (fr_a hJ 111 (fun _ => rfl) rfl)

theorem ft_X11_copyRow_112_31  (s : Sg) : PQ (f_X11_copyRow_112_31  s) (fun _ s9 => Fr cC 5192296858534827628530496329220096 s s9) := by
  have hJ : Fr cC 5192296858534827628530496329220096 s s := fr_r
  unfold f_X11_copyRow_112_31
  refine pq_c (fun _ => ?_)
  exact pq_s (fr_a hJ 112 (fun _ => rfl) rfl)

theorem ft_X11_copyRow_113_32  (s : Sg) : PQ (f_X11_copyRow_113_32  s) (fun _ s9 => Fr cC 10384593717069655257060992658440192 s s9) := by
  have hJ : Fr cC 10384593717069655257060992658440192 s s := fr_r
  unfold f_X11_copyRow_113_32
  refine pq_c (fun _ => ?_)
  exact pq_s (fr_a hJ 113 (fun _ => rfl) rfl)

theorem ft_X11_copyRow_114_33  (s : Sg) : PQ (f_X11_copyRow_114_33  s) (fun _ s9 => Fr cC 20769187434139310514121985316880384 s s9) := by
  have hJ : Fr cC 20769187434139310514121985316880384 s s := fr_r
  unfold f_X11_copyRow_114_33
  refine pq_c (fun _ => ?_)
  exact pq_s (fr_a hJ 114 (fun _ => rfl) rfl)

theorem ft_X11_copyRow_115_34  (s : Sg) : PQ (f_X11_copyRow_115_34  s) (fun _ s9 => Fr cC 41538374868278621028243970633760768 s s9) := by
  have hJ : Fr cC 41538374868278621028243970633760768 s s := fr_r
  unfold f_X11_copyRow_115_34
  refine pq_c (fun _ => ?_)
  exact pq_s (fr_a hJ 115 (fun _ => rfl) rfl)

theorem ft_X11_copyRow_116_35  (s : Sg) : PQ (f_X11_copyRow_116_35  s) (fun _ s9 => Fr cC 83076749736557242056487941267521536 s s9) := by
  have hJ : Fr cC 83076749736557242056487941267521536 s s := fr_r
  unfold f_X11_copyRow_116_35
  refine pq_c (fun _ => ?_)
  exact pq_s (fr_a hJ 116 (fun _ => rfl) rfl)

theorem ft_X11_copyRow_117_36  (s : Sg) : PQ (f_X11_copyRow_117_36  s) (fun _ s9 => Fr cC 166153499473114484112975882535043072 s s9) := by
  have hJ : Fr cC 166153499473114484112975882535043072 s s := fr_r
  unfold f_X11_copyRow_117_36
  refine pq_c (fun _ => ?_)
  exact pq_s (fr_a hJ 117 (fun _ => rfl) rfl)

theorem ft_X11_copyRow_118_37  (s : Sg) : PQ (f_X11_copyRow_118_37  s) (fun _ s9 => Fr cC 332306998946228968225951765070086144 s s9) := by
  have hJ : Fr cC 332306998946228968225951765070086144 s s := fr_r
  unfold f_X11_copyRow_118_37
  refine pq_c (fun _ => ?_)
  exact pq_s (fr_a hJ 118 (fun _ => rfl) rfl)

theorem ft_X11_copyRow_119_38  (s : Sg) : PQ (f_X11_copyRow_119_38  s) (fun _ s9 => Fr cC 664613997892457936451903530140172288 s s9) := by
  have hJ : Fr cC 664613997892457936451903530140172288 s s := fr_r
  unfold f_X11_copyRow_119_38
  refine pq_c (fun _ => ?_)
  exact pq_s (fr_a hJ 119 (fun _ => rfl) rfl)

theorem ft_X11_copyRow_120_39  (s : Sg) : PQ (f_X11_copyRow_120_39  s) (fun _ s9 => Fr cC 1329227995784915872903807060280344576 s s9) := by
  have hJ : Fr cC 1329227995784915872903807060280344576 s s := fr_r
  unfold f_X11_copyRow_120_39
  refine pq_c (fun _ => ?_)
  exact pq_s (fr_a hJ 120 (fun _ => rfl) rfl)

theorem ft_X4_copyFrom_25_106  (s : Sg) : PQ (f_X4_copyFrom_25_106  s) (fun _ s9 => Fr cC 2657888084100929499035743597524680704 s s9) := by
  have hJ : Fr cC 2657888084100929499035743597524680704 s s := fr_r
  unfold f_X4_copyFrom_25_106
  refine pq_b (ft_X11_copyRow_110_29  _) (fun _ s2 gs2 => ?_)
  have js2 := fr_t (fr_b hJ 109 (fun _ => rfl) rfl) gs2 rfl
  refine pq_b (ft_X11_copyRow_111_30  _) (fun _ s4 gs4 => ?_)
  have js4 := fr_t js2 gs4 rfl
  refine pq_b (ft_X11_copyRow_112_31  _) (fun _ s6 gs6 => ?_)
  have js6 := fr_t js4 gs6 rfl
  refine pq_b (ft_X11_copyRow_113_32  _) (fun _ s8 gs8 => ?_)
  have js8 := fr_t js6 gs8 rfl
  refine pq_b (ft_X11_copyRow_114_33  _) (fun _ s10 gs10 => ?_)
  have js10 := fr_t js8 gs10 rfl
  refine pq_b (ft_X11_copyRow_115_34  _) (fun _ s12 gs12 => ?_)
  have js12 := fr_t js10 gs12 rfl
  refine pq_b (ft_X11_copyRow_116_35  _) (fun _ s14 gs14 => ?_)
  have js14 := fr_t js12 gs14 rfl
  refine pq_b (ft_X11_copyRow_117_36  _) (fun _ s16 gs16 => ?_)
  have js16 := fr_t js14 gs16 rfl
  refine pq_b (ft_X11_copyRow_118_37  _) (fun _ s18 gs18 => ?_)
  have js18 := fr_t js16 gs18 rfl
  refine pq_b (ft_X11_copyRow_119_38  _) (fun _ s20 gs20 => ?_)
  have js20 := fr_t js18 gs20 rfl
  refine pq_b (ft_X11_copyRow_120_39  _) (fun _ s22 gs22 => ?_)
  have js22 := fr_t js20 gs22 rfl
  refine pq_n (fun s23 es23 => ?_)
  have js23 : Fr cC 2657888084100929499035743597524680704 s s23 := by rw [es23]; exact (fr_i (fr_i js22 106 rfl rfl) 106 rfl rfl)
  refine pq_n (fun s24 es24 => ?_)
  have js24 : Fr cC 2657888084100929499035743597524680704 s s24 := by rw [es24]; exact (fr_i (fr_i js23 106 rfl rfl) 106 rfl rfl)
  refine pq_n (fun s25 es25 => ?_)
  have js25 : Fr cC 2657888084100929499035743597524680704 s s25 := by rw [es25]; exact (fr_i (fr_i js24 106 rfl rfl) 106 rfl rfl)
  refine pq_c (fun _ => ?_)
  exact pq_s (fr_i (fr_i js25 106 rfl rfl) 106 rfl rfl)

theorem ft_X11_copyRow_121_40  (s : Sg) : PQ (f_X11_copyRow_121_40  s) (fun _ s9 => Fr cC 2658455991569831745807614120560689152 s s9) := by
  have hJ : Fr cC 2658455991569831745807614120560689152 s s := fr_r
  unfold f_X11_copyRow_121_40
  refine pq_c (fun _ => ?_)
  exact pq_s (fr_a hJ 121 (fun _ => rfl) rfl)

theorem ft_X11_copyRow_122_41  (s : Sg) : PQ (f_X11_copyRow_122_41  s) (fun _ s9 => Fr cC 5316911983139663491615228241121378304 s s9) := by
  have hJ : Fr cC 5316911983139663491615228241121378304 s s := fr_r
  unfold f_X11_copyRow_122_41
  refine pq_c (fun _ => ?_)
  exact pq_s (fr_a hJ 122 (fun _ => rfl) rfl)

theorem ft_X11_copyRow_123_42  (s : Sg) : PQ (f_X11_copyRow_123_42  s) (fun _ s9 => Fr cC 10633823966279326983230456482242756608 s s9) := by
  have hJ : Fr cC 10633823966279326983230456482242756608 s s := fr_r
  unfold f_X11_copyRow_123_42
  refine pq_c (fun _ => ?_)
  exact pq_s (fr_a hJ 123 (fun _ => rfl) rfl)

theorem ft_X11_copyRow_124_43  (s : Sg) : PQ (f_X11_copyRow_124_43  s) (fun _ s9 => Fr cC 21267647932558653966460912964485513216 s s9) := by
  have hJ : Fr cC 21267647932558653966460912964485513216 s s := fr_r
  unfold f_X11_copyRow_124_43
  refine pq_c (fun _ => ?_)
  exact pq_s (fr_a hJ 124 (fun _ => rfl) rfl)

theorem ft_X11_copyRow_125_44  (s : Sg) : PQ (f_X11_copyRow_125_44  s) (fun _ s9 => Fr cC 42535295865117307932921825928971026432 s s9) := by
  have hJ : Fr cC 42535295865117307932921825928971026432 s s := fr_r
  unfold f_X11_copyRow_125_44
  refine pq_c (fun _ => ?_)
  exact pq_s (fr_a hJ 125 (fun _ => rfl) rfl)

theorem ft_X2_copyFrom_26_107  (s : Sg) : PQ (f_X2_copyFrom_26_107  s) (fun _ s9 => Fr cC 82412297997941613333399429315391651840 s s9) := by
  have hJ : Fr cC 82412297997941613333399429315391651840 s s := fr_r
  unfold f_X2_copyFrom_26_107
  refine pq_b (ft_X11_copyRow_121_40  _) (fun _ s2 gs2 => ?_)
  have js2 := fr_t hJ gs2 rfl
  refine pq_b (ft_X11_copyRow_122_41  _) (fun _ s4 gs4 => ?_)
  have js4 := fr_t js2 gs4 rfl
  refine pq_b (ft_X11_copyRow_123_42  _) (fun _ s6 gs6 => ?_)
  have js6 := fr_t js4 gs6 rfl
  refine pq_b (ft_X11_copyRow_124_43  _) (fun _ s8 gs8 => ?_)
  have js8 := fr_t js6 gs8 rfl
  refine pq_b (ft_X11_copyRow_125_44  _) (fun _ s10 gs10 => ?_)
  have js10 := fr_t js8 gs10 rfl
  refine pq_n (fun s11 es11 => ?_)
  have js11 : Fr cC 82412297997941613333399429315391651840 s s11 := by rw [es11]; exact (fr_i (fr_i js10 107 rfl rfl) 107 rfl rfl)
  refine pq_c (fun _ => ?_)
  refine pq_n (fun s13 es13 => ?_)
  have js13 : Fr cC 82412297997941613333399429315391651840 s s13 := by rw [es13]; exact (fr_i (fr_i js11 107 rfl rfl) 107 rfl rfl)
  refine pq_n (fun s14 es14 => ?_)
  have js14 : Fr cC 82412297997941613333399429315391651840 s s14 := by rw [es14]; exact (fr_i (fr_i js13 107 rfl rfl) 107 rfl rfl)
  refine pq_n (fun s15 es15 => ?_)
  have js15 : Fr cC 82412297997941613333399429315391651840 s s15 := by rw [es15]; exact (fr_i (fr_i js14 107 rfl rfl) 107 rfl rfl)
  exact pq_s js15

theorem ft_X11_copyRow_126_45  (s : Sg) : PQ (f_X11_copyRow_126_45  s) (fun _ s9 => Fr cC 85070591730234615865843651857942052864 s s9) := by
  have hJ : Fr cC 85070591730234615865843651857942052864 s s := fr_r
  unfold f_X11_copyRow_126_45
  refine pq_c (fun _ => ?_)
  exact pq_s (fr_a hJ 126 (fun _ => rfl) rfl)

theorem ft_X11_copyRow_127_46  (s : Sg) : PQ (f_X11_copyRow_127_46  s) (fun _ s9 => Fr cC 170141183460469231731687303715884105728 s s9) := by
  have hJ : Fr cC 170141183460469231731687303715884105728 s s := fr_r
  unfold f_X11_copyRow_127_46
  refine pq_c (fun _ => ?_)
  exact pq_s (fr_a hJ 127 (fun _ => rfl) rfl)

theorem ft_X11_copyRow_128_47  (s : Sg) : PQ (f_X11_copyRow_128_47  s) (fun _ s9 => Fr cC 340282366920938463463374607431768211456 s s9) := by
  have hJ : Fr cC 340282366920938463463374607431768211456 s s := fr_r
  unfold f_X11_copyRow_128_47
  refine pq_c (fun _ => ?_)
  exact pq_s (fr_a hJ 128 (fun _ => rfl) rfl)

theorem ft_X11_copyRow_129_48  (s : Sg) : PQ (f_X11_copyRow_129_48  s) (fun _ s9 => Fr cC 680564733841876926926749214863536422912 s s9) := by
  have hJ : Fr cC 680564733841876926926749214863536422912 s s := fr_r
  unfold f_X11_copyRow_129_48
  refine pq_c (fun _ => ?_)
  exact pq_s (fr_a hJ 129 (fun _ => rfl) rfl)

theorem ft_X11_copyRow_130_49  (s : Sg) : PQ (f_X11_copyRow_130_49  s) (fun _ s9 => Fr cC 1361129467683753853853498429727072845824 s s9) := by
  have hJ : Fr cC 1361129467683753853853498429727072845824 s s := fr_r
  unfold f_X11_copyRow_130_49
  refine pq_c (fun _ => ?_)
  exact pq_s (fr_a hJ 130 (fun _ => rfl) rfl)

theorem ft_X11_copyRow_131_50  (s : Sg) : PQ (f_X11_copyRow_131_50  s) (fun _ s9 => Fr cC 2722258935367507707706996859454145691648 s s9) := by
  have hJ : Fr cC 2722258935367507707706996859454145691648 s s := fr_r
  unfold f_X11_copyRow_131_50
  refine pq_c (fun _ => ?_)
  exact pq_s (fr_a hJ 131 (fun _ => rfl) rfl)

theorem ft_X5_copyFrom_27_108  (s : Sg) : PQ (f_X5_copyFrom_27_108  s) (fun _ s9 => Fr cC 5359447603523334457974876850206369906688 s s9) := by
  have hJ : Fr cC 5359447603523334457974876850206369906688 s s := fr_r
  unfold f_X5_copyFrom_27_108
  refine pq_b (ft_X11_copyRow_126_45  _) (fun _ s2 gs2 => ?_)
  have js2 := fr_t hJ gs2 rfl
  refine pq_b (ft_X11_copyRow_127_46  _) (fun _ s4 gs4 => ?_)
  have js4 := fr_t js2 gs4 rfl
  refine pq_b (ft_X11_copyRow_128_47  _) (fun _ s6 gs6 => ?_)
  have js6 := fr_t js4 gs6 rfl
  refine pq_b (ft_X11_copyRow_129_48  _) (fun _ s8 gs8 => ?_)
  have js8 := fr_t js6 gs8 rfl
  refine pq_b (ft_X11_copyRow_130_49  _) (fun _ s10 gs10 => ?_)
  have js10 := fr_t js8 gs10 rfl
  refine pq_b (ft_X11_copyRow_131_50  _) (fun _ s12 gs12 => ?_)
  have js12 := fr_t js10 gs12 rfl
  refine pq_c (fun _ => ?_)
  refine pq_n (fun s14 es14 => ?_)
  have js14 : Fr cC 5359447603523334457974876850206369906688 s s14 := by rw [es14]; exact (fr_i (fr_i js12 108 rfl rfl) 108 rfl rfl)
  exact pq_s (fr_i js14 108 rfl rfl)

theorem ft_X10_copyFrom_24_105  (s : Sg) : PQ (f_X10_copyFrom_24_105  s) (fun _ s9 => Fr cC 5444517789605377000807312023119286239232 s s9) := by
  have hJ : Fr cC 5444517789605377000807312023119286239232 s s := fr_r
  unfold f_X10_copyFrom_24_105
  refine pq_b (ft_X4_copyFrom_25_106  _) (fun _ s2 gs2 => ?_)
  have js2 := fr_t hJ gs2 rfl
  refine pq_b (ft_X2_copyFrom_26_107  _) (fun _ s4 gs4 => ?_)
  have js4 := fr_t js2 gs4 rfl
  refine pq_b (ft_X5_copyFrom_27_108  _) (fun _ s6 gs6 => ?_)
  have js6 := fr_t js4 gs6 rfl
  exact pq_s js6

theorem ft_X11_copyRow_137_29  (s : Sg) : PQ (f_X11_copyRow_137_29  s) (fun _ s9 => Fr cC 174224571863520493293247799005065324265472 s s9) := by
  have hJ : Fr cC 174224571863520493293247799005065324265472 s s := fr_r
  unfold f_X11_copyRow_137_29
  refine pq_c (fun _ => ?_)
  exact pq_s (fr_a hJ 137 (fun _ => rfl) rfl)

theorem ft_X11_copyRow_138_30  (s : Sg) : PQ (f_X11_copyRow_138_30  s) (fun _ s9 => Fr cC 348449143727040986586495598010130648530944 s s9) := by
  have hJ : Fr cC 348449143727040986586495598010130648530944 s s := fr_r
  unfold f_X11_copyRow_138_30
  refine pq_c (fun _ => ?_)
  exact pq_s (fr_a hJ 138 (fun _ => rfl) rfl)

theorem ft_X11_copyRow_139_31  (s : Sg) : PQ (f_X11_copyRow_139_31  s) (fun _ s9 => Fr cC 696898287454081973172991196020261297061888 s s9) := by
  have hJ : Fr cC 696898287454081973172991196020261297061888 s s := fr_r
  unfold f_X11_copyRow_139_31
  refine pq_c (fun _ => ?_)
  exact pq_s (fr_a hJ 139 (fun _ => rfl) rfl)

theorem ft_X11_copyRow_140_32  (s : Sg) : PQ (f_X11_copyRow_140_32  s) (fun _ s9 => Fr cC 1393796574908163946345982392040522594123776 s s9) := by
  have hJ : Fr cC 1393796574908163946345982392040522594123776 s s := fr_r
  unfold f_X11_copyRow_140_32
  refine pq_c (fun _ => ?_)
  exact pq_s (fr_a hJ 140 (fun _ => rfl) rfl)

theorem ft_X11_copyRow_141_33  (s : Sg) : PQ (f_X11_copyRow_141_33  s) (fun _ s9 => Fr cC 2787593149816327892691964784081045188247552 s s9) := by
  have hJ : Fr cC 2787593149816327892691964784081045188247552 s s := fr_r
  unfold f_X11_copyRow_141_33
  refine pq_c (fun _ => ?_)
  exact pq_s (fr_a hJ 141 (fun _ => rfl) rfl)

theorem ft_X11_copyRow_142_34  (s : Sg) : PQ (f_X11_copyRow_142_34  s) (fun _ s9 => Fr cC 5575186299632655785383929568162090376495104 s s9) := by
  have hJ : Fr cC 5575186299632655785383929568162090376495104 s s := fr_r
  unfold f_X11_copyRow_142_34
  refine pq_c (fun _ => ?_)
  exact pq_s (fr_a hJ 142 (fun _ => rfl) rfl)

theorem ft_X11_copyRow_143_35  (s : Sg) : PQ (f_X11_copyRow_143_35  s) (fun _ s9 => Fr cC 11150372599265311570767859136324180752990208 s s9) := by
  have hJ : Fr cC 11150372599265311570767859136324180752990208 s s := fr_r
  unfold f_X11_copyRow_143_35
  refine pq_c (fun _ => ?_)
  exact pq_s (fr_a hJ 143 (fun _ => rfl) rfl)

theorem ft_X11_copyRow_144_36  (s : Sg) : PQ (f_X11_copyRow_144_36  s) (fun _ s9 => Fr cC 22300745198530623141535718272648361505980416 s s9) := by
  have hJ : Fr cC 22300745198530623141535718272648361505980416 s s := fr_r
  unfold f_X11_copyRow_144_36
  refine pq_c (fun _ => ?_)
  exact pq_s (fr_a hJ 144 (fun _ => rfl) rfl)

theorem ft_X11_copyRow_145_37  (s : Sg) : PQ (f_X11_copyRow_145_37  s) (fun _ s9 => Fr cC 44601490397061246283071436545296723011960832 s s9) := by
  have hJ : Fr cC 44601490397061246283071436545296723011960832 s s := fr_r
  unfold f_X11_copyRow_145_37
  refine pq_c (fun _ => ?_)
  exact pq_s (fr_a hJ 145 (fun _ => rfl) rfl)

theorem ft_X11_copyRow_146_38  (s : Sg) : PQ (f_X11_copyRow_146_38  s) (fun _ s9 => Fr cC 89202980794122492566142873090593446023921664 s s9) := by
  have hJ : Fr cC 89202980794122492566142873090593446023921664 s s := fr_r
  unfold f_X11_copyRow_146_38
  refine pq_c (fun _ => ?_)
  exact pq_s (fr_a hJ 146 (fun _ => rfl) rfl)

theorem ft_X11_copyRow_147_39  (s : Sg) : PQ (f_X11_copyRow_147_39  s) (fun _ s9 => Fr cC 178405961588244985132285746181186892047843328 s s9) := by
  have hJ : Fr cC 178405961588244985132285746181186892047843328 s s := fr_r
  unfold f_X11_copyRow_147_39
  refine pq_c (fun _ => ?_)
  exact pq_s (fr_a hJ 147 (fun _ => rfl) rfl)

theorem ft_X4_copyFrom_25_133  (s : Sg) : PQ (f_X4_copyFrom_25_133  s) (fun _ s9 => Fr cC 356735699926299680048755696450309068016320512 s s9) := by
  have hJ : Fr cC 356735699926299680048755696450309068016320512 s s := fr_r
  unfold f_X4_copyFrom_25_133
  refine pq_b (ft_X11_copyRow_137_29  _) (fun _ s2 gs2 => ?_)
  have js2 := fr_t (fr_b hJ 136 (fun _ => rfl) rfl) gs2 rfl
  refine pq_b (ft_X11_copyRow_138_30  _) (fun _ s4 gs4 => ?_)
  have js4 := fr_t js2 gs4 rfl
  refine pq_b (ft_X11_copyRow_139_31  _) (fun _ s6 gs6 => ?_)
  have js6 := fr_t js4 gs6 rfl
  refine pq_b (ft_X11_copyRow_140_32  _) (fun _ s8 gs8 => ?_)
  have js8 := fr_t js6 gs8 rfl
  refine pq_b (ft_X11_copyRow_141_33  _) (fun _ s10 gs10 => ?_)
  have js10 := fr_t js8 gs10 rfl
  refine pq_b (ft_X11_copyRow_142_34  _) (fun _ s12 gs12 => ?_)
  have js12 := fr_t js10 gs12 rfl
  refine pq_b (ft_X11_copyRow_143_35  _) (fun _ s14 gs14 => ?_)
  have js14 := fr_t js12 gs14 rfl
  refine pq_b (ft_X11_copyRow_144_36  _) (fun _ s16 gs16 => ?_)
  have js16 := fr_t js14 gs16 rfl
  refine pq_b (ft_X11_copyRow_145_37  _) (fun _ s18 gs18 => ?_)
  have js18 := fr_t js16 gs18 rfl
  refine pq_b (ft_X11_copyRow_146_38  _) (fun _ s20 gs20 => ?_)
  have js20 := fr_t js18 gs20 rfl
  refine pq_b (ft_X11_copyRow_147_39  _) (fun _ s22 gs22 => ?_)
  have js22 := fr_t js20 gs22 rfl
  refine pq_n (fun s23 es23 => ?_)
  have js23 : Fr cC 356735699926299680048755696450309068016320512 s s23 := by rw [es23]; exact (fr_i (fr_i js22 133 rfl rfl) 133 rfl rfl)
  refine pq_n (fun s24 es24 => ?_)
  have js24 : Fr cC 356735699926299680048755696450309068016320512 s s24 := by rw [es24]; exact (fr_i (fr_i js23 133 rfl rfl) 133 rfl rfl)
  refine pq_n (fun s25 es25 => ?_)
  have js25 : Fr cC 356735699926299680048755696450309068016320512 s s25 := by rw [es25]; exact (fr_i (fr_i js24 133 rfl rfl) 133 rfl rfl)
  refine pq_c (fun _ => ?_)
  exact pq_s (fr_i (fr_i js25 133 rfl rfl) 133 rfl rfl)

theorem ft_X11_copyRow_148_40  (s : Sg) : PQ (f_X11_copyRow_148_40  s) (fun _ s9 => Fr cC 356811923176489970264571492362373784095686656 s s9) := by
  have hJ : Fr cC 356811923176489970264571492362373784095686656 s s := fr_r
  unfold f_X11_copyRow_148_40
  refine pq_c (fun _ => ?_)
  exact pq_s (fr_a hJ 148 (fun _ => rfl) rfl)

theorem ft_X11_copyRow_149_41  (s : Sg) : PQ (f_X11_copyRow_149_41  s) (fun _ s9 => Fr cC 713623846352979940529142984724747568191373312 s s9) := by
  have hJ : Fr cC 713623846352979940529142984724747568191373312 s s := fr_r
  unfold f_X11_copyRow_149_41
  refine pq_c (fun _ => ?_)
  exact pq_s (fr_a hJ 149 (fun _ => rfl) rfl)

theorem ft_X11_copyRow_150_42  (s : Sg) : PQ (f_X11_copyRow_150_42  s) (fun _ s9 => Fr cC 1427247692705959881058285969449495136382746624 s s9) := by
  have hJ : Fr cC 1427247692705959881058285969449495136382746624 s s := fr_r
  unfold f_X11_copyRow_150_42
  refine pq_c (fun _ => ?_)
  exact pq_s (fr_a hJ 150 (fun _ => rfl) rfl)

theorem ft_X11_copyRow_151_43  (s : Sg) : PQ (f_X11_copyRow_151_43  s) (fun _ s9 => Fr cC 2854495385411919762116571938898990272765493248 s s9) := by
  have hJ : Fr cC 2854495385411919762116571938898990272765493248 s s := fr_r
  unfold f_X11_copyRow_151_43
  refine pq_c (fun _ => ?_)
  exact pq_s (fr_a hJ 151 (fun _ => rfl) rfl)

theorem ft_X11_copyRow_152_44  (s : Sg) : PQ (f_X11_copyRow_152_44  s) (fun _ s9 => Fr cC 5708990770823839524233143877797980545530986496 s s9) := by
  have hJ : Fr cC 5708990770823839524233143877797980545530986496 s s := fr_r
  unfold f_X11_copyRow_152_44
  refine pq_c (fun _ => ?_)
  exact pq_s (fr_a hJ 152 (fun _ => rfl) rfl)

theorem ft_X2_copyFrom_26_134  (s : Sg) : PQ (f_X2_copyFrom_26_134  s) (fun _ s9 => Fr cC 11061191396542672018263377919208462940131819520 s s9) := by
  have hJ : Fr cC 11061191396542672018263377919208462940131819520 s s := fr_r
  unfold f_X2_copyFrom_26_134
  refine pq_b (ft_X11_copyRow_148_40  _) (fun _ s2 gs2 => ?_)
  have js2 := fr_t hJ gs2 rfl
  refine pq_b (ft_X11_copyRow_149_41  _) (fun _ s4 gs4 => ?_)
  have js4 := fr_t js2 gs4 rfl
  refine pq_b (ft_X11_copyRow_150_42  _) (fun _ s6 gs6 => ?_)
  have js6 := fr_t js4 gs6 rfl
  refine pq_b (ft_X11_copyRow_151_43  _) (fun _ s8 gs8 => ?_)
  have js8 := fr_t js6 gs8 rfl
  refine pq_b (ft_X11_copyRow_152_44  _) (fun _ s10 gs10 => ?_)
  have js10 := fr_t js8 gs10 rfl
  refine pq_n (fun s11 es11 => ?_)
  have js11 : Fr cC 11061191396542672018263377919208462940131819520 s s11 := by rw [es11]; exact (fr_i (fr_i js10 134 rfl rfl) 134 rfl rfl)
  refine pq_c (fun _ => ?_)
  refine pq_n (fun s13 es13 => ?_)
  have js13 : Fr cC 11061191396542672018263377919208462940131819520 s s13 := by rw [es13]; exact (fr_i (fr_i js11 134 rfl rfl) 134 rfl rfl)
  refine pq_n (fun s14 es14 => ?_)
  have js14 : Fr cC 11061191396542672018263377919208462940131819520 s s14 := by rw [es14]; exact (fr_i (fr_i js13 134 rfl rfl) 134 rfl rfl)
  refine pq_n (fun s15 es15 => ?_)
  have js15 : Fr cC 11061191396542672018263377919208462940131819520 s s15 := by rw [es15]; exact (fr_i (fr_i js14 134 rfl rfl) 134 rfl rfl)
  exact pq_s js15

theorem ft_X11_copyRow_153_45  (s : Sg) : PQ (f_X11_copyRow_153_45  s) (fun _ s9 => Fr cC 11417981541647679048466287755595961091061972992 s s9) := by
  have hJ : Fr cC 11417981541647679048466287755595961091061972992 s s := fr_r
  unfold f_X11_copyRow_153_45
  refine pq_c (fun _ => ?_)
  exact pq_s (fr_a hJ 153 (fun _ => rfl) rfl)

theorem ft_X11_copyRow_154_46  (s : Sg) : PQ (f_X11_copyRow_154_46  s) (fun _ s9 => Fr cC 22835963083295358096932575511191922182123945984 s s9) := by
  have hJ : Fr cC 22835963083295358096932575511191922182123945984 s s := fr_r
  unfold f_X11_copyRow_154_46
  refine pq_c (fun _ => ?_)
  exact pq_s (fr_a hJ 154 (fun _ => rfl) rfl)

theorem ft_X11_copyRow_155_47  (s : Sg) : PQ (f_X11_copyRow_155_47  s) (fun _ s9 => Fr cC 45671926166590716193865151022383844364247891968 s s9) := by
  have hJ : Fr cC 45671926166590716193865151022383844364247891968 s s := fr_r
  unfold f_X11_copyRow_155_47
  refine pq_c (fun _ => ?_)
  exact pq_s (fr_a hJ 155 (fun _ => rfl) rfl)

theorem ft_X11_copyRow_156_48  (s : Sg) : PQ (f_X11_copyRow_156_48  s) (fun _ s9 => Fr cC 91343852333181432387730302044767688728495783936 s s9) := by
  have hJ : Fr cC 91343852333181432387730302044767688728495783936 s s := fr_r
  unfold f_X11_copyRow_156_48
  refine pq_c (fun _ => ?_)
  exact pq_s (fr_a hJ 156 (fun _ => rfl) rfl)

theorem ft_X11_copyRow_157_49  (s : Sg) : PQ (f_X11_copyRow_157_49  s) (fun _ s9 => Fr cC 182687704666362864775460604089535377456991567872 s s9) := by
  have hJ : Fr cC 182687704666362864775460604089535377456991567872 s s := fr_r
  unfold f_X11_copyRow_157_49
  refine pq_c (fun _ => ?_)
  exact pq_s (fr_a hJ 157 (fun _ => rfl) rfl)

theorem ft_X11_copyRow_158_50  (s : Sg) : PQ (f_X11_copyRow_158_50  s) (fun _ s9 => Fr cC 365375409332725729550921208179070754913983135744 s s9) := by
  have hJ : Fr cC 365375409332725729550921208179070754913983135744 s s := fr_r
  unfold f_X11_copyRow_158_50
  refine pq_c (fun _ => ?_)
  exact pq_s (fr_a hJ 158 (fun _ => rfl) rfl)

theorem ft_X5_copyFrom_27_135  (s : Sg) : PQ (f_X5_copyFrom_27_135  s) (fun _ s9 => Fr cC 719332880679946745933499451914495300003235364864 s s9) := by
  have hJ : Fr cC 719332880679946745933499451914495300003235364864 s s := fr_r
  unfold f_X5_copyFrom_27_135
  refine pq_b (ft_X11_copyRow_153_45  _) (fun _ s2 gs2 => ?_)
  have js2 := fr_t hJ gs2 rfl
  refine pq_b (ft_X11_copyRow_154_46  _) (fun _ s4 gs4 => ?_)
  have js4 := fr_t js2 gs4 rfl
  refine pq_b (ft_X11_copyRow_155_47  _) (fun _ s6 gs6 => ?_)
  have js6 := fr_t js4 gs6 rfl
  refine pq_b (ft_X11_copyRow_156_48  _) (fun _ s8 gs8 => ?_)
  have js8 := fr_t js6 gs8 rfl
  refine pq_b (ft_X11_copyRow_157_49  _) (fun _ s10 gs10 => ?_)
  have js10 := fr_t js8 gs10 rfl
  refine pq_b (ft_X11_copyRow_158_50  _) (fun _ s12 gs12 => ?_)
  have js12 := fr_t js10 gs12 rfl
  refine pq_c (fun _ => ?_)
  refine pq_n (fun s14 es14 => ?_)
  have js14 : Fr cC 719332880679946745933499451914495300003235364864 s s14 := by rw [es14]; exact (fr_i (fr_i js12 135 rfl rfl) 135 rfl rfl)
  exact pq_s (fr_i js14 135 rfl rfl)

theorem ft_X10_copyFrom_24_132  (s : Sg) : PQ (f_X10_copyFrom_24_132  s) (fun _ s9 => Fr cC 730750807776415717631811585530154072011383504896 s s9) := by
  have hJ : Fr cC 730750807776415717631811585530154072011383504896 s s := fr_r
  unfold f_X10_copyFrom_24_132
  refine pq_b (ft_X4_copyFrom_25_133  _) (fun _ s2 gs2 => ?_)
  have js2 := fr_t hJ gs2 rfl
  refine pq_b (ft_X2_copyFrom_26_134  _) (fun _ s4 gs4 => ?_)
  have js4 := fr_t js2 gs4 rfl
  refine pq_b (ft_X5_copyFrom_27_135  _) (fun _ s6 gs6 => ?_)
  have js6 := fr_t js4 gs6 rfl
  exact pq_s js6

theorem ft_X11_mark  (s : Sg) : PQ (f_X11_mark  s) (fun _ s9 => Fr cC 71836459228901761169095318904859920879264106937319424 s s9) := by
  have hJ : Fr cC 71836459228901761169095318904859920879264106937319424 s s := fr_r
  unfold f_X11_mark
  refine pq_if (fun _ => ?_) (fun _ => ?_)
  · refine pq_c (fun _ => ?_)
    refine pq_s3 ?_ ?_ ?_
    · refine pq_b (ft_X10_copyFrom_24_78  _) (fun _ s3 gs3 => ?_)
      have js3 := fr_t hJ gs3 rfl
      refine pq_b (ft_X11_answer _ _) (fun _ s5 gs5 => ?_)
      have js5 := fr_t (fr_i js3 174 rfl rfl) gs5 rfl
      exact pq_s js5
    · refine pq_b (ft_X10_copyFrom_24_105  _) (fun _ s7 gs7 => ?_)
      have js7 := fr_t hJ gs7 rfl
      refine pq_b (ft_X11_answer _ _) (fun _ s9 gs9 => ?_)
      have js9 := fr_t (fr_i js7 174 rfl rfl) gs9 rfl
      exact pq_s js9
    · refine pq_b (ft_X10_copyFrom_24_132  _) (fun _ s11 gs11 => ?_)
      have js11 := fr_t hJ gs11 rfl
      refine pq_b (ft_X11_answer _ _) (fun _ s13 gs13 => ?_)
      have js13 := fr_t (fr_i js11 174 rfl rfl) gs13 rfl
      exact pq_s js13
  · refine pq_b (ft_X11_refuse _ _) (fun _ s15 gs15 => ?_)
    have js15 := fr_t hJ gs15 rfl
    exact pq_s js15

theorem ft_X11_copyRow_29_83  (s : Sg) : PQ (f_X11_copyRow_29_83  s) (fun _ s9 => Fr cC 536870912 s s9) := by
  have hJ : Fr cC 536870912 s s := fr_r
  unfold f_X11_copyRow_29_83
  refine pq_c (fun _ => ?_)
  exact pq_s (fr_a hJ 29 (fun _ => rfl) rfl)

theorem ft_X11_copyRow_30_84  (s : Sg) : PQ (f_X11_copyRow_30_84  s) (fun _ s9 => Fr cC 1073741824 s s9) := by
  have hJ : Fr cC 1073741824 s s := fr_r
  unfold f_X11_copyRow_30_84
  refine pq_c (fun _ => ?_)
  exact pq_s (fr_a hJ 30 (fun _ => rfl) rfl)

theorem ft_X11_copyRow_31_85  (s : Sg) : PQ (f_X11_copyRow_31_85  s) (fun _ s9 => Fr cC 2147483648 s s9) := by
  have hJ : Fr cC 2147483648 s s := fr_r
  unfold f_X11_copyRow_31_85
  refine pq_c (fun _ => ?_)
  exact pq_s (fr_a hJ 31 (fun _ => rfl) rfl)

theorem ft_X11_copyRow_32_86  (s : Sg) : PQ (f_X11_copyRow_32_86  s) (fun _ s9 => Fr cC 4294967296 s s9) := by
  have hJ : Fr cC 4294967296 s s := fr_r
  unfold f_X11_copyRow_32_86
  refine pq_c (fun _ => ?_)
  exact pq_s (fr_a hJ 32 (fun _ => rfl) rfl)

theorem ft_X11_copyRow_33_87  (s : Sg) : PQ (f_X11_copyRow_33_87  s) (fun _ s9 => Fr cC 8589934592 s s9) := by
  have hJ : Fr cC 8589934592 s s := fr_r
  unfold f_X11_copyRow_33_87
  refine pq_c (fun _ => ?_)
  exact pq_s (fr_a hJ 33 (fun _ => rfl) rfl)

theorem ft_X11_copyRow_34_88  (s : Sg) : PQ (f_X11_copyRow_34_88  s) (fun _ s9 => Fr cC 17179869184 s s9) := by
  have hJ : Fr cC 17179869184 s s := fr_r
  unfold f_X11_copyRow_34_88
  refine pq_c (fun _ => ?_)
  exact pq_s (fr_a hJ 34 (fun _ => rfl) rfl)

theorem ft_X11_copyRow_35_89  (s : Sg) : PQ (f_X11_copyRow_35_89  s) (fun _ s9 => Fr cC 34359738368 s s9) := by
  have hJ : Fr cC 34359738368 s s := fr_r
  unfold f_X11_copyRow_35_89
  refine pq_c (fun _ => ?_)
  exact pq_s (fr_a hJ 35 (fun _ => rfl) rfl)

theorem ft_X11_copyRow_36_90  (s : Sg) : PQ (f_X11_copyRow_36_90  s) (fun _ s9 => Fr cC 68719476736 s s9) := by
  have hJ : Fr cC 68719476736 s s := fr_r
  unfold f_X11_copyRow_36_90
  refine pq_c (fun _ => ?_)
  exact pq_s (fr_a hJ 36 (fun _ => rfl) rfl)

theorem ft_X11_copyRow_37_91  (s : Sg) : PQ (f_X11_copyRow_37_91  s) (fun _ s9 => Fr cC 137438953472 s s9) := by
  have hJ : Fr cC 137438953472 s s := fr_r
  unfold f_X11_copyRow_37_91
  refine pq_c (fun _ => ?_)
  exact pq_s (fr_a hJ 37 (fun _ => rfl) rfl)

theorem ft_X11_copyRow_38_92  (s : Sg) : PQ (f_X11_copyRow_38_92  s) (fun _ s9 => Fr cC 274877906944 s s9) := by
  have hJ : Fr cC 274877906944 s s := fr_r
  unfold f_X11_copyRow_38_92
  refine pq_c (fun _ => ?_)
  exact pq_s (fr_a hJ 38 (fun _ => rfl) rfl)

theorem ft_X11_copyRow_39_93  (s : Sg) : PQ (f_X11_copyRow_39_93  s) (fun _ s9 => Fr cC 549755813888 s s9) := by
  have hJ : Fr cC 549755813888 s s := fr_r
  unfold f_X11_copyRow_39_93
  refine pq_c (fun _ => ?_)
  exact pq_s (fr_a hJ 39 (fun _ => rfl) rfl)

theorem ft_X4_copyFrom_79  (s : Sg) : PQ (f_X4_copyFrom_79  s) (fun _ s9 => Fr cC 1099276746752 s s9) := by
  have hJ : Fr cC 1099276746752 s s := fr_r
  unfold f_X4_copyFrom_79
  refine pq_b (ft_X11_copyRow_29_83  _) (fun _ s2 gs2 => ?_)
  have js2 := fr_t (fr_b hJ 28 (fun _ => rfl) rfl) gs2 rfl
  refine pq_b (ft_X11_copyRow_30_84  _) (fun _ s4 gs4 => ?_)
  have js4 := fr_t js2 gs4 rfl
  refine pq_b (ft_X11_copyRow_31_85  _) (fun _ s6 gs6 => ?_)
  have js6 := fr_t js4 gs6 rfl
  refine pq_b (ft_X11_copyRow_32_86  _) (fun _ s8 gs8 => ?_)
  have js8 := fr_t js6 gs8 rfl
  refine pq_b (ft_X11_copyRow_33_87  _) (fun _ s10 gs10 => ?_)
  have js10 := fr_t js8 gs10 rfl
  refine pq_b (ft_X11_copyRow_34_88  _) (fun _ s12 gs12 => ?_)
  have js12 := fr_t js10 gs12 rfl
  refine pq_b (ft_X11_copyRow_35_89  _) (fun _ s14 gs14 => ?_)
  have js14 := fr_t js12 gs14 rfl
  refine pq_b (ft_X11_copyRow_36_90  _) (fun _ s16 gs16 => ?_)
  have js16 := fr_t js14 gs16 rfl
  refine pq_b (ft_X11_copyRow_37_91  _) (fun _ s18 gs18 => ?_)
  have js18 := fr_t js16 gs18 rfl
  refine pq_b (ft_X11_copyRow_38_92  _) (fun _ s20 gs20 => ?_)
  have js20 := fr_t js18 gs20 rfl
  refine pq_b (ft_X11_copyRow_39_93  _) (fun _ s22 gs22 => ?_)
  have js22 := fr_t js20 gs22 rfl
  refine pq_n (fun s23 es23 => ?_)
  have js23 : Fr cC 1099276746752 s s23 := by rw [es23]; exact (fr_i (fr_i js22 25 rfl rfl) 25 rfl rfl)
  refine pq_n (fun s24 es24 => ?_)
  have js24 : Fr cC 1099276746752 s s24 := by rw [es24]; exact (fr_i (fr_i js23 25 rfl rfl) 25 rfl rfl)
  refine pq_n (fun s25 es25 => ?_)
  have js25 : Fr cC 1099276746752 s s25 := by rw [es25]; exact (fr_i (fr_i js24 25 rfl rfl) 25 rfl rfl)
  refine pq_c (fun _ => ?_)
  exact pq_s (fr_i (fr_i js25 25 rfl rfl) 25 rfl rfl)

theorem ft_X11_copyRow_40_94  (s : Sg) : PQ (f_X11_copyRow_40_94  s) (fun _ s9 => Fr cC 1099511627776 s s9) := by
  have hJ : Fr cC 1099511627776 s s := fr_r
  unfold f_X11_copyRow_40_94
  refine pq_c (fun _ => ?_)
  exact pq_s (fr_a hJ 40 (fun _ => rfl) rfl)

theorem ft_X11_copyRow_41_95  (s : Sg) : PQ (f_X11_copyRow_41_95  s) (fun _ s9 => Fr cC 2199023255552 s s9) := by
  have hJ : Fr cC 2199023255552 s s := fr_r
  unfold f_X11_copyRow_41_95
  refine pq_c (fun _ => ?_)
  exact pq_s (fr_a hJ 41 (fun _ => rfl) rfl)

theorem ft_X11_copyRow_42_96  (s : Sg) : PQ (f_X11_copyRow_42_96  s) (fun _ s9 => Fr cC 4398046511104 s s9) := by
  have hJ : Fr cC 4398046511104 s s := fr_r
  unfold f_X11_copyRow_42_96
  refine pq_c (fun _ => ?_)
  exact pq_s (fr_a hJ 42 (fun _ => rfl) rfl)

theorem ft_X11_copyRow_43_97  (s : Sg) : PQ (f_X11_copyRow_43_97  s) (fun _ s9 => Fr cC 8796093022208 s s9) := by
  have hJ : Fr cC 8796093022208 s s := fr_r
  unfold f_X11_copyRow_43_97
  refine pq_c (fun _ => ?_)
  exact pq_s (fr_a hJ 43 (fun _ => rfl) rfl)

theorem ft_X11_copyRow_44_98  (s : Sg) : PQ (f_X11_copyRow_44_98  s) (fun _ s9 => Fr cC 17592186044416 s s9) := by
  have hJ : Fr cC 17592186044416 s s := fr_r
  unfold f_X11_copyRow_44_98
  refine pq_c (fun _ => ?_)
  exact pq_s (fr_a hJ 44 (fun _ => rfl) rfl)

theorem ft_X2_copyFrom_80  (s : Sg) : PQ (f_X2_copyFrom_80  s) (fun _ s9 => Fr cC 34084927569920 s s9) := by
  have hJ : Fr cC 34084927569920 s s := fr_r
  unfold f_X2_copyFrom_80
  refine pq_b (ft_X11_copyRow_40_94  _) (fun _ s2 gs2 => ?_)
  have js2 := fr_t hJ gs2 rfl
  refine pq_b (ft_X11_copyRow_41_95  _) (fun _ s4 gs4 => ?_)
  have js4 := fr_t js2 gs4 rfl
  refine pq_b (ft_X11_copyRow_42_96  _) (fun _ s6 gs6 => ?_)
  have js6 := fr_t js4 gs6 rfl
  refine pq_b (ft_X11_copyRow_43_97  _) (fun _ s8 gs8 => ?_)
  have js8 := fr_t js6 gs8 rfl
  refine pq_b (ft_X11_copyRow_44_98  _) (fun _ s10 gs10 => ?_)
  have js10 := fr_t js8 gs10 rfl
  refine pq_n (fun s11 es11 => ?_)
  have js11 : Fr cC 34084927569920 s s11 := by rw [es11]; exact (fr_i (fr_i js10 26 rfl rfl) 26 rfl rfl)
  refine pq_c (fun _ => ?_)
  refine pq_n (fun s13 es13 => ?_)
  have js13 : Fr cC 34084927569920 s s13 := by rw [es13]; exact (fr_i (fr_i js11 26 rfl rfl) 26 rfl rfl)
  refine pq_n (fun s14 es14 => ?_)
  have js14 : Fr cC 34084927569920 s s14 := by rw [es14]; exact (fr_i (fr_i js13 26 rfl rfl) 26 rfl rfl)
  refine pq_n (fun s15 es15 => ?_)
  have js15 : Fr cC 34084927569920 s s15 := by rw [es15]; exact (fr_i (fr_i js14 26 rfl rfl) 26 rfl rfl)
  exact pq_s js15

theorem ft_X11_copyRow_45_99  (s : Sg) : PQ (f_X11_copyRow_45_99  s) (fun _ s9 => Fr cC 35184372088832 s s9) := by
  have hJ : Fr cC 35184372088832 s s := fr_r
  unfold f_X11_copyRow_45_99
  refine pq_c (fun _ => ?_)
  exact pq_s (fr_a hJ 45 (fun _ => rfl) rfl)

theorem ft_X11_copyRow_46_100  (s : Sg) : PQ (f_X11_copyRow_46_100  s) (fun _ s9 => Fr cC 70368744177664 s s9) := by
  have hJ : Fr cC 70368744177664 s s := fr_r
  unfold f_X11_copyRow_46_100
  refine pq_c (fun _ => ?_)
  exact pq_s (fr_a hJ 46 (fun _ => rfl) rfl)

theorem ft_X11_copyRow_47_101  (s : Sg) : PQ (f_X11_copyRow_47_101  s) (fun _ s9 => Fr cC 140737488355328 s s9) := by
  have hJ : Fr cC 140737488355328 s s := fr_r
  unfold f_X11_copyRow_47_101
  refine pq_c (fun _ => ?_)
  exact pq_s (fr_a hJ 47 (fun _ => rfl) rfl)

theorem ft_X11_copyRow_48_102  (s : Sg) : PQ (f_X11_copyRow_48_102  s) (fun _ s9 => Fr cC 281474976710656 s s9) := by
  have hJ : Fr cC 281474976710656 s s := fr_r
  unfold f_X11_copyRow_48_102
  refine pq_c (fun _ => ?_)
  exact pq_s (fr_a hJ 48 (fun _ => rfl) rfl)

theorem ft_X11_copyRow_49_103  (s : Sg) : PQ (f_X11_copyRow_49_103  s) (fun _ s9 => Fr cC 562949953421312 s s9) := by
  have hJ : Fr cC 562949953421312 s s := fr_r
  unfold f_X11_copyRow_49_103
  refine pq_c (fun _ => ?_)
  exact pq_s (fr_a hJ 49 (fun _ => rfl) rfl)

theorem ft_X11_copyRow_50_104  (s : Sg) : PQ (f_X11_copyRow_50_104  s) (fun _ s9 => Fr cC 1125899906842624 s s9) := by
  have hJ : Fr cC 1125899906842624 s s := fr_r
  unfold f_X11_copyRow_50_104
  refine pq_c (fun _ => ?_)
  exact pq_s (fr_a hJ 50 (fun _ => rfl) rfl)

theorem ft_X5_copyFrom_81  (s : Sg) : PQ (f_X5_copyFrom_81  s) (fun _ s9 => Fr cC 2216615575814144 s s9) := by
  have hJ : Fr cC 2216615575814144 s s := fr_r
  unfold f_X5_copyFrom_81
  refine pq_b (ft_X11_copyRow_45_99  _) (fun _ s2 gs2 => ?_)
  have js2 := fr_t hJ gs2 rfl
  refine pq_b (ft_X11_copyRow_46_100  _) (fun _ s4 gs4 => ?_)
  have js4 := fr_t js2 gs4 rfl
  refine pq_b (ft_X11_copyRow_47_101  _) (fun _ s6 gs6 => ?_)
  have js6 := fr_t js4 gs6 rfl
  refine pq_b (ft_X11_copyRow_48_102  _) (fun _ s8 gs8 => ?_)
  have js8 := fr_t js6 gs8 rfl
  refine pq_b (ft_X11_copyRow_49_103  _) (fun _ s10 gs10 => ?_)
  have js10 := fr_t js8 gs10 rfl
  refine pq_b (ft_X11_copyRow_50_104  _) (fun _ s12 gs12 => ?_)
  have js12 := fr_t js10 gs12 rfl
  refine pq_c (fun _ => ?_)
  refine pq_n (fun s14 es14 => ?_)
  have js14 : Fr cC 2216615575814144 s s14 := by rw [es14]; exact (fr_i (fr_i js12 27 rfl rfl) 27 rfl rfl)
  exact pq_s (fr_i js14 27 rfl rfl)

theorem ft_X10_copyFrom_78  (s : Sg) : PQ (f_X10_copyFrom_78  s) (fun _ s9 => Fr cC 2251799780130816 s s9) := by
  have hJ : Fr cC 2251799780130816 s s := fr_r
  unfold f_X10_copyFrom_78
  refine pq_b (ft_X4_copyFrom_79  _) (fun _ s2 gs2 => ?_)
  have js2 := fr_t hJ gs2 rfl
  refine pq_b (ft_X2_copyFrom_80  _) (fun _ s4 gs4 => ?_)
  have js4 := fr_t js2 gs4 rfl
  refine pq_b (ft_X5_copyFrom_81  _) (fun _ s6 gs6 => ?_)
  have js6 := fr_t js4 gs6 rfl
  exact pq_s js6

theorem ft_X11_copyRow_29_110  (s : Sg) : PQ (f_X11_copyRow_29_110  s) (fun _ s9 => Fr cC 536870912 s s9) := by
  have hJ : Fr cC 536870912 s s := fr_r
  unfold f_X11_copyRow_29_110
  refine pq_c (fun _ => ?_)
  exact pq_s (fr_a hJ 29 (fun _ => rfl) rfl)

theorem ft_X11_copyRow_30_111  (s : Sg) : PQ (f_X11_copyRow_30_111  s) (fun _ s9 => Fr cC 1073741824 s s9) := by
  have hJ : Fr cC 1073741824 s s := fr_r
  unfold f_X11_copyRow_30_111
  refine pq_c (fun _ => ?_)
  exact pq_s (fr_a hJ 30 (fun _ => rfl) rfl)

theorem ft_X11_copyRow_31_112  (s : Sg) : PQ (f_X11_copyRow_31_112  s) (fun _ s9 => Fr cC 2147483648 s s9) := by
  have hJ : Fr cC 2147483648 s s := fr_r
  unfold f_X11_copyRow_31_112
  refine pq_c (fun _ => ?_)
  exact pq_s (fr_a hJ 31 (fun _ => rfl) rfl)

theorem ft_X11_copyRow_32_113  (s : Sg) : PQ (f_X11_copyRow_32_113  s) (fun _ s9 => Fr cC 4294967296 s s9) := by
  have hJ : Fr cC 4294967296 s s := fr_r
  unfold f_X11_copyRow_32_113
  refine pq_c (fun _ => ?_)
  exact pq_s (fr_a hJ 32 (fun _ => rfl) rfl)

theorem ft_X11_copyRow_33_114  (s : Sg) : PQ (f_X11_copyRow_33_114  s) (fun _ s9 => Fr cC 8589934592 s s9) := by
  have hJ : Fr cC 8589934592 s s := fr_r
  unfold f_X11_copyRow_33_114
  refine pq_c (fun _ => ?_)
  exact pq_s (fr_a hJ 33 (fun _ => rfl) rfl)

theorem ft_X11_copyRow_34_115  (s : Sg) : PQ (f_X11_copyRow_34_115  s) (fun _ s9 => Fr cC 17179869184 s s9) := by
  have hJ : Fr cC 17179869184 s s := fr_r
  unfold f_X11_copyRow_34_115
  refine pq_c (fun _ => ?_)
  exact pq_s (fr_a hJ 34 (fun _ => rfl) rfl)

theorem ft_X11_copyRow_35_116  (s : Sg) : PQ (f_X11_copyRow_35_116  s) (fun _ s9 => Fr cC 34359738368 s s9) := by
  have hJ : Fr cC 34359738368 s s := fr_r
  unfold f_X11_copyRow_35_116
  refine pq_c (fun _ => ?_)
  exact pq_s (fr_a hJ 35 (fun _ => rfl) rfl)

theorem ft_X11_copyRow_36_117  (s : Sg) : PQ (f_X11_copyRow_36_117  s) (fun _ s9 => Fr cC 68719476736 s s9) := by
  have hJ : Fr cC 68719476736 s s := fr_r
  unfold f_X11_copyRow_36_117
  refine pq_c (fun _ => ?_)
  exact pq_s (fr_a hJ 36 (fun _ => rfl) rfl)

theorem ft_X11_copyRow_37_118  (s : Sg) : PQ (f_X11_copyRow_37_118  s) (fun _ s9 => Fr cC 137438953472 s s9) := by
  have hJ : Fr cC 137438953472 s s := fr_r
  unfold f_X11_copyRow_37_118
  refine pq_c (fun _ => ?_)
  exact pq_s (fr_a hJ 37 (fun _ => rfl) rfl)

theorem ft_X11_copyRow_38_119  (s : Sg) : PQ (f_X11_copyRow_38_119  s) (fun _ s9 => Fr cC 274877906944 s s9) := by
  have hJ : Fr cC 274877906944 s s := fr_r
  unfold f_X11_copyRow_38_119
  refine pq_c (fun _ => ?_)
  exact pq_s (fr_a hJ 38 (fun _ => rfl) rfl)

theorem ft_X11_copyRow_39_120  (s : Sg) : PQ (f_X11_copyRow_39_120  s) (fun _ s9 => Fr cC 549755813888 s s9) := by
  have hJ : Fr cC 549755813888 s s := fr_r
  unfold f_X11_copyRow_39_120
  refine pq_c (fun _ => ?_)
  exact pq_s (fr_a hJ 39 (fun _ => rfl) rfl)

theorem ft_X4_copyFrom_106  (s : Sg) : PQ (f_X4_copyFrom_106  s) (fun _ s9 => Fr cC 1099276746752 s s9) := by
  have hJ : Fr cC 1099276746752 s s := fr_r
  unfold f_X4_copyFrom_106
  refine pq_b (ft_X11_copyRow_29_110  _) (fun _ s2 gs2 => ?_)
  have js2 := fr_t (fr_b hJ 28 (fun _ => rfl) rfl) gs2 rfl
  refine pq_b (ft_X11_copyRow_30_111  _) (fun _ s4 gs4 => ?_)
  have js4 := fr_t js2 gs4 rfl
  refine pq_b (ft_X11_copyRow_31_112  _) (fun _ s6 gs6 => ?_)
  have js6 := fr_t js4 gs6 rfl
  refine pq_b (ft_X11_copyRow_32_113  _) (fun _ s8 gs8 => ?_)
  have js8 := fr_t js6 gs8 rfl
  refine pq_b (ft_X11_copyRow_33_114  _) (fun _ s10 gs10 => ?_)
  have js10 := fr_t js8 gs10 rfl
  refine pq_b (ft_X11_copyRow_34_115  _) (fun _ s12 gs12 => ?_)
  have js12 := fr_t js10 gs12 rfl
  refine pq_b (ft_X11_copyRow_35_116  _) (fun _ s14 gs14 => ?_)
  have js14 := fr_t js12 gs14 rfl
  refine pq_b (ft_X11_copyRow_36_117  _) (fun _ s16 gs16 => ?_)
  have js16 := fr_t js14 gs16 rfl
  refine pq_b (ft_X11_copyRow_37_118  _) (fun _ s18 gs18 => ?_)
  have js18 := fr_t js16 gs18 rfl
  refine pq_b (ft_X11_copyRow_38_119  _) (fun _ s20 gs20 => ?_)
  have js20 := fr_t js18 gs20 rfl
  refine pq_b (ft_X11_copyRow_39_120  _) (fun _ s22 gs22 => ?_)
  have js22 := fr_t js20 gs22 rfl
  refine pq_n (fun s23 es23 => ?_)
  have js23 : Fr cC 1099276746752 s s23 := by rw [es23]; exact (fr_i (fr_i js22 25 rfl rfl) 25 rfl rfl)
  refine pq_n (fun s24 es24 => ?_)
  have js24 : Fr cC 1099276746752 s s24 := by rw [es24]; exact (fr_i (fr_i js23 25 rfl rfl) 25 rfl rfl)
  refine pq_n (fun s25 es25 => ?_)
  have js25 : Fr cC 1099276746752 s s25 := by rw [es25]; exact (fr_i (fr_i js24 25 rfl rfl) 25 rfl rfl)
  refine pq_c (fun _ => ?_)
  exact pq_s (fr_i (fr_i js25 25 rfl rfl) 25 rfl rfl)

theorem ft_X11_copyRow_40_121  (s : Sg) : PQ (f_X11_copyRow_40_121  s) (fun _ s9 => Fr cC 1099511627776 s s9) := by
  have hJ : Fr cC 1099511627776 s s := fr_r
  unfold f_X11_copyRow_40_121
  refine pq_c (fun _ => ?_)
  exact pq_s (fr_a hJ 40 (fun _ => rfl) rfl)

theorem ft_X11_copyRow_41_122  (s : Sg) : PQ (f_X11_copyRow_41_122  s) (fun _ s9 => Fr cC 2199023255552 s s9) := by
  have hJ : Fr cC 2199023255552 s s := fr_r
  unfold f_X11_copyRow_41_122
  refine pq_c (fun _ => ?_)
  exact pq_s (fr_a hJ 41 (fun _ => rfl) rfl)

theorem ft_X11_copyRow_42_123  (s : Sg) : PQ (f_X11_copyRow_42_123  s) (fun _ s9 => Fr cC 4398046511104 s s9) := by
  have hJ : Fr cC 4398046511104 s s := fr_r
  unfold f_X11_copyRow_42_123
  refine pq_c (fun _ => ?_)
  exact pq_s (fr_a hJ 42 (fun _ => rfl) rfl)

theorem ft_X11_copyRow_43_124  (s : Sg) : PQ (f_X11_copyRow_43_124  s) (fun _ s9 => Fr cC 8796093022208 s s9) := by
  have hJ : Fr cC 8796093022208 s s := fr_r
  unfold f_X11_copyRow_43_124
  refine pq_c (fun _ => ?_)
  exact pq_s (fr_a hJ 43 (fun _ => rfl) rfl)

theorem ft_X11_copyRow_44_125  (s : Sg) : PQ (f_X11_copyRow_44_125  s) (fun _ s9 => Fr cC 17592186044416 s s9) := by
  have hJ : Fr cC 17592186044416 s s := fr_r
  unfold f_X11_copyRow_44_125
  refine pq_c (fun _ => ?_)
  exact pq_s (fr_a hJ 44 (fun _ => rfl) rfl)

theorem ft_X2_copyFrom_107  (s : Sg) : PQ (f_X2_copyFrom_107  s) (fun _ s9 => Fr cC 34084927569920 s s9) := by
  have hJ : Fr cC 34084927569920 s s := fr_r
  unfold f_X2_copyFrom_107
  refine pq_b (ft_X11_copyRow_40_121  _) (fun _ s2 gs2 => ?_)
  have js2 := fr_t hJ gs2 rfl
  refine pq_b (ft_X11_copyRow_41_122  _) (fun _ s4 gs4 => ?_)
  have js4 := fr_t js2 gs4 rfl
  refine pq_b (ft_X11_copyRow_42_123  _) (fun _ s6 gs6 => ?_)
  have js6 := fr_t js4 gs6 rfl
  refine pq_b (ft_X11_copyRow_43_124  _) (fun _ s8 gs8 => ?_)
  have js8 := fr_t js6 gs8 rfl
  refine pq_b (ft_X11_copyRow_44_125  _) (fun _ s10 gs10 => ?_)
  have js10 := fr_t js8 gs10 rfl
  refine pq_n (fun s11 es11 => ?_)
  have js11 : Fr cC 34084927569920 s s11 := by rw [es11]; exact (fr_i (fr_i js10 26 rfl rfl) 26 rfl rfl)
  refine pq_c (fun _ => ?_)
  refine pq_n (fun s13 es13 => ?_)
  have js13 : Fr cC 34084927569920 s s13 := by rw [es13]; exact (fr_i (fr_i js11 26 rfl rfl) 26 rfl rfl)
  refine pq_n (fun s14 es14 => ?_)
  have js14 : Fr cC 34084927569920 s s14 := by rw [es14]; exact (fr_i (fr_i js13 26 rfl rfl) 26 rfl rfl)
  refine pq_n (fun s15 es15 => ?_)
  have js15 : Fr cC 34084927569920 s s15 := by rw [es15]; exact (fr_i (fr_i js14 26 rfl rfl) 26 rfl rfl)
  exact pq_s js15

theorem ft_X11_copyRow_45_126  (s : Sg) : PQ (f_X11_copyRow_45_126  s) (fun _ s9 => Fr cC 35184372088832 s s9) := by
  have hJ : Fr cC 35184372088832 s s := fr_r
  unfold f_X11_copyRow_45_126
  refine pq_c (fun _ => ?_)
  exact pq_s (fr_a hJ 45 (fun _ => rfl) rfl)

theorem ft_X11_copyRow_46_127  (s : Sg) : PQ (f_X11_copyRow_46_127  s) (fun _ s9 => Fr cC 70368744177664 s s9) := by
  have hJ : Fr cC 70368744177664 s s := fr_r
  unfold f_X11_copyRow_46_127
  refine pq_c (fun _ => ?_)
  exact pq_s (fr_a hJ 46 (fun _ => rfl) rfl)

theorem ft_X11_copyRow_47_128  (s : Sg) : PQ (f_X11_copyRow_47_128  s) (fun _ s9 => Fr cC 140737488355328 s s9) := by
  have hJ : Fr cC 140737488355328 s s := fr_r
  unfold f_X11_copyRow_47_128
  refine pq_c (fun _ => ?_)
  exact pq_s (fr_a hJ 47 (fun _ => rfl) rfl)

theorem ft_X11_copyRow_48_129  (s : Sg) : PQ (f_X11_copyRow_48_129  s) (fun _ s9 => Fr cC 281474976710656 s s9) := by
  have hJ : Fr cC 281474976710656 s s := fr_r
  unfold f_X11_copyRow_48_129
  refine pq_c (fun _ => ?_)
  exact pq_s (fr_a hJ 48 (fun _ => rfl) rfl)

theorem ft_X11_copyRow_49_130  (s : Sg) : PQ (f_X11_copyRow_49_130  s) (fun _ s9 => Fr cC 562949953421312 s s9) := by
  have hJ : Fr cC 562949953421312 s s := fr_r
  unfold f_X11_copyRow_49_130
  refine pq_c (fun _ => ?_)
  exact pq_s (fr_a hJ 49 (fun _ => rfl) rfl)

theorem ft_X11_copyRow_50_131  (s : Sg) : PQ (f_X11_copyRow_50_131  s) (fun _ s9 => Fr cC 1125899906842624 s s9) := by
  have hJ : Fr cC 1125899906842624 s s := fr_r
  unfold f_X11_copyRow_50_131
  refine pq_c (fun _ => ?_)
  exact pq_s (fr_a hJ 50 (fun _ => rfl) rfl)

theorem ft_X5_copyFrom_108  (s : Sg) : PQ (f_X5_copyFrom_108  s) (fun _ s9 => Fr cC 2216615575814144 s s9) := by
  have hJ : Fr cC 2216615575814144 s s := fr_r
  unfold f_X5_copyFrom_108
  refine pq_b (ft_X11_copyRow_45_126  _) (fun _ s2 gs2 => ?_)
  have js2 := fr_t hJ gs2 rfl
  refine pq_b (ft_X11_copyRow_46_127  _) (fun _ s4 gs4 => ?_)
  have js4 := fr_t js2 gs4 rfl
  refine pq_b (ft_X11_copyRow_47_128  _) (fun _ s6 gs6 => ?_)
  have js6 := fr_t js4 gs6 rfl
  refine pq_b (ft_X11_copyRow_48_129  _) (fun _ s8 gs8 => ?_)
  have js8 := fr_t js6 gs8 rfl
  refine pq_b (ft_X11_copyRow_49_130  _) (fun _ s10 gs10 => ?_)
  have js10 := fr_t js8 gs10 rfl
  refine pq_b (ft_X11_copyRow_50_131  _) (fun _ s12 gs12 => ?_)
  have js12 := fr_t js10 gs12 rfl
  refine pq_c (fun _ => ?_)
  refine pq_n (fun s14 es14 => ?_)
  have js14 : Fr cC 2216615575814144 s s14 := by rw [es14]; exact (fr_i (fr_i js12 27 rfl rfl) 27 rfl rfl)
  exact pq_s (fr_i js14 27 rfl rfl)

theorem ft_X10_copyFrom_105  (s : Sg) : PQ (f_X10_copyFrom_105  s) (fun _ s9 => Fr cC 2251799780130816 s s9) := by
  have hJ : Fr cC 2251799780130816 s s := fr_r
  unfold f_X10_copyFrom_105
  refine pq_b (ft_X4_copyFrom_106  _) (fun _ s2 gs2 => ?_)
  have js2 := fr_t hJ gs2 rfl
  refine pq_b (ft_X2_copyFrom_107  _) (fun _ s4 gs4 => ?_)
  have js4 := fr_t js2 gs4 rfl
  refine pq_b (ft_X5_copyFrom_108  _) (fun _ s6 gs6 => ?_)
  have js6 := fr_t js4 gs6 rfl
  exact pq_s js6

theorem ft_X11_copyRow_29_137  (s : Sg) : PQ (f_X11_copyRow_29_137  s) (fun _ s9 => Fr cC 536870912 s s9) := by
  have hJ : Fr cC 536870912 s s := fr_r
  unfold f_X11_copyRow_29_137
  refine pq_c (fun _ => ?_)
  exact pq_s (fr_a hJ 29 (fun _ => rfl) rfl)

theorem ft_X11_copyRow_30_138  (s : Sg) : PQ (f_X11_copyRow_30_138  s) (fun _ s9 => Fr cC 1073741824 s s9) := by
  have hJ : Fr cC 1073741824 s s := fr_r
  unfold f_X11_copyRow_30_138
  refine pq_c (fun _ => ?_)
  exact pq_s (fr_a hJ 30 (fun _ => rfl) rfl)

theorem ft_X11_copyRow_31_139  (s : Sg) : PQ (f_X11_copyRow_31_139  s) (fun _ s9 => Fr cC 2147483648 s s9) := by
  have hJ : Fr cC 2147483648 s s := fr_r
  unfold f_X11_copyRow_31_139
  refine pq_c (fun _ => ?_)
  exact pq_s (fr_a hJ 31 (fun _ => rfl) rfl)

theorem ft_X11_copyRow_32_140  (s : Sg) : PQ (f_X11_copyRow_32_140  s) (fun _ s9 => Fr cC 4294967296 s s9) := by
  have hJ : Fr cC 4294967296 s s := fr_r
  unfold f_X11_copyRow_32_140
  refine pq_c (fun _ => ?_)
  exact pq_s (fr_a hJ 32 (fun _ => rfl) rfl)

theorem ft_X11_copyRow_33_141  (s : Sg) : PQ (f_X11_copyRow_33_141  s) (fun _ s9 => Fr cC 8589934592 s s9) := by
  have hJ : Fr cC 8589934592 s s := fr_r
  unfold f_X11_copyRow_33_141
  refine pq_c (fun _ => ?_)
  exact pq_s (fr_a hJ 33 (fun _ => rfl) rfl)

theorem ft_X11_copyRow_34_142  (s : Sg) : PQ (f_X11_copyRow_34_142  s) (fun _ s9 => Fr cC 17179869184 s s9) := by
  have hJ : Fr cC 17179869184 s s := fr_r
  unfold f_X11_copyRow_34_142
  refine pq_c (fun _ => ?_)
  exact pq_s (fr_a hJ 34 (fun _ => rfl) rfl)

theorem ft_X11_copyRow_35_143  (s : Sg) : PQ (f_X11_copyRow_35_143  s) (fun _ s9 => Fr cC 34359738368 s s9) := by
  have hJ : Fr cC 34359738368 s s := fr_r
  unfold f_X11_copyRow_35_143
  refine pq_c (fun _ => ?_)
  exact pq_s (fr_a hJ 35 (fun _ => rfl) rfl)

theorem ft_X11_copyRow_36_144  (s : Sg) : PQ (f_X11_copyRow_36_144  s) (fun _ s9 => Fr cC 68719476736 s s9) := by
  have hJ : Fr cC 68719476736 s s := fr_r
  unfold f_X11_copyRow_36_144
  refine pq_c (fun _ => ?_)
  exact pq_s (fr_a hJ 36 (fun _ => rfl) rfl)

theorem ft_X11_copyRow_37_145  (s : Sg) : PQ (f_X11_copyRow_37_145  s) (fun _ s9 => Fr cC 137438953472 s s9) := by
  have hJ : Fr cC 137438953472 s s := fr_r
  unfold f_X11_copyRow_37_145
  refine pq_c (fun _ => ?_)
  exact pq_s (fr_a hJ 37 (fun _ => rfl) rfl)

theorem ft_X11_copyRow_38_146  (s : Sg) : PQ (f_X11_copyRow_38_146  s) (fun _ s9 => Fr cC 274877906944 s s9) := by
  have hJ : Fr cC 274877906944 s s := fr_r
  unfold f_X11_copyRow_38_146
  refine pq_c (fun _ => ?_)
  exact pq_s (fr_a hJ 38 (fun _ => rfl) rfl)

theorem ft_X11_copyRow_39_147  (s : Sg) : PQ (f_X11_copyRow_39_147  s) (fun _ s9 => Fr cC 549755813888 s s9) := by
  have hJ : Fr cC 549755813888 s s := fr_r
  unfold f_X11_copyRow_39_147
  refine pq_c (fun _ => ?_)
  exact pq_s (fr_a hJ 39 (fun _ => rfl) rfl)

theorem ft_X4_copyFrom_133  (s : Sg) : PQ (f_X4_copyFrom_133  s) (fun _ s9 => Fr cC 1099276746752 s s9) := by
  have hJ : Fr cC 1099276746752 s s := fr_r
  unfold f_X4_copyFrom_133
  refine pq_b (ft_X11_copyRow_29_137  _) (fun _ s2 gs2 => ?_)
  have js2 := fr_t (fr_b hJ 28 (fun _ => rfl) rfl) gs2 rfl
  refine pq_b (ft_X11_copyRow_30_138  _) (fun _ s4 gs4 => ?_)
  have js4 := fr_t js2 gs4 rfl
  refine pq_b (ft_X11_copyRow_31_139  _) (fun _ s6 gs6 => ?_)
  have js6 := fr_t js4 gs6 rfl
  refine pq_b (ft_X11_copyRow_32_140  _) (fun _ s8 gs8 => ?_)
  have js8 := fr_t js6 gs8 rfl
  refine pq_b (ft_X11_copyRow_33_141  _) (fun _ s10 gs10 => ?_)
  have js10 := fr_t js8 gs10 rfl
  refine pq_b (ft_X11_copyRow_34_142  _) (fun _ s12 gs12 => ?_)
  have js12 := fr_t js10 gs12 rfl
  refine pq_b (ft_X11_copyRow_35_143  _) (fun _ s14 gs14 => ?_)
  have js14 := fr_t js12 gs14 rfl
  refine pq_b (ft_X11_copyRow_36_144  _) (fun _ s16 gs16 => ?_)
  have js16 := fr_t js14 gs16 rfl
  refine pq_b (ft_X11_copyRow_37_145  _) (fun _ s18 gs18 => ?_)
  have js18 := fr_t js16 gs18 rfl
  refine pq_b (ft_X11_copyRow_38_146  _) (fun _ s20 gs20 => ?_)
  have js20 := fr_t js18 gs20 rfl
  refine pq_b (ft_X11_copyRow_39_147  _) (fun _ s22 gs22 => ?_)
  have js22 := fr_t js20 gs22 rfl
  refine pq_n (fun s23 es23 => ?_)
  have js23 : Fr cC 1099276746752 s s23 := by rw [es23]; exact (fr_i (fr_i js22 25 rfl rfl) 25 rfl rfl)
  refine pq_n (fun s24 es24 => ?_)
  have js24 : Fr cC 1099276746752 s s24 := by rw [es24]; exact (fr_i (fr_i js23 25 rfl rfl) 25 rfl rfl)
  refine pq_n (fun s25 es25 => ?_)
  have js25 : Fr cC 1099276746752 s s25 := by rw [es25]; exact (fr_i (fr_i js24 25 rfl rfl) 25 rfl rfl)
  refine pq_c (fun _ => ?_)
  exact pq_s (fr_i (fr_i js25 25 rfl rfl) 25 rfl rfl)

theorem ft_X11_copyRow_40_148  (s : Sg) : PQ (f_X11_copyRow_40_148  s) (fun _ s9 => Fr cC 1099511627776 s s9) := by
  have hJ : Fr cC 1099511627776 s s := fr_r
  unfold f_X11_copyRow_40_148
  refine pq_c (fun _ => ?_)
  exact pq_s (fr_a hJ 40 (fun _ => rfl) rfl)

theorem ft_X11_copyRow_41_149  (s : Sg) : PQ (f_X11_copyRow_41_149  s) (fun _ s9 => Fr cC 2199023255552 s s9) := by
  have hJ : Fr cC 2199023255552 s s := fr_r
  unfold f_X11_copyRow_41_149
  refine pq_c (fun _ => ?_)
  exact pq_s (fr_a hJ 41 (fun _ => rfl) rfl)

theorem ft_X11_copyRow_42_150  (s : Sg) : PQ (f_X11_copyRow_42_150  s) (fun _ s9 => Fr cC 4398046511104 s s9) := by
  have hJ : Fr cC 4398046511104 s s := fr_r
  unfold f_X11_copyRow_42_150
  refine pq_c (fun _ => ?_)
  exact pq_s (fr_a hJ 42 (fun _ => rfl) rfl)

theorem ft_X11_copyRow_43_151  (s : Sg) : PQ (f_X11_copyRow_43_151  s) (fun _ s9 => Fr cC 8796093022208 s s9) := by
  have hJ : Fr cC 8796093022208 s s := fr_r
  unfold f_X11_copyRow_43_151
  refine pq_c (fun _ => ?_)
  exact pq_s (fr_a hJ 43 (fun _ => rfl) rfl)

theorem ft_X11_copyRow_44_152  (s : Sg) : PQ (f_X11_copyRow_44_152  s) (fun _ s9 => Fr cC 17592186044416 s s9) := by
  have hJ : Fr cC 17592186044416 s s := fr_r
  unfold f_X11_copyRow_44_152
  refine pq_c (fun _ => ?_)
  exact pq_s (fr_a hJ 44 (fun _ => rfl) rfl)

theorem ft_X2_copyFrom_134  (s : Sg) : PQ (f_X2_copyFrom_134  s) (fun _ s9 => Fr cC 34084927569920 s s9) := by
  have hJ : Fr cC 34084927569920 s s := fr_r
  unfold f_X2_copyFrom_134
  refine pq_b (ft_X11_copyRow_40_148  _) (fun _ s2 gs2 => ?_)
  have js2 := fr_t hJ gs2 rfl
  refine pq_b (ft_X11_copyRow_41_149  _) (fun _ s4 gs4 => ?_)
  have js4 := fr_t js2 gs4 rfl
  refine pq_b (ft_X11_copyRow_42_150  _) (fun _ s6 gs6 => ?_)
  have js6 := fr_t js4 gs6 rfl
  refine pq_b (ft_X11_copyRow_43_151  _) (fun _ s8 gs8 => ?_)
  have js8 := fr_t js6 gs8 rfl
  refine pq_b (ft_X11_copyRow_44_152  _) (fun _ s10 gs10 => ?_)
  have js10 := fr_t js8 gs10 rfl
  refine pq_n (fun s11 es11 => ?_)
  have js11 : Fr cC 34084927569920 s s11 := by rw [es11]; exact (fr_i (fr_i js10 26 rfl rfl) 26 rfl rfl)
  refine pq_c (fun _ => ?_)
  refine pq_n (fun s13 es13 => ?_)
  have js13 : Fr cC 34084927569920 s s13 := by rw [es13]; exact (fr_i (fr_i js11 26 rfl rfl) 26 rfl rfl)
  refine pq_n (fun s14 es14 => ?_)
  have js14 : Fr cC 34084927569920 s s14 := by rw [es14]; exact (fr_i (fr_i js13 26 rfl rfl) 26 rfl rfl)
  refine pq_n (fun s15 es15 => ?_)
  have js15 : Fr cC 34084927569920 s s15 := by rw [es15]; exact (fr_i (fr_i js14 26 rfl rfl) 26 rfl rfl)
  exact pq_s js15

theorem ft_X11_copyRow_45_153  (s : Sg) : PQ (f_X11_copyRow_45_153  s) (fun _ s9 => Fr cC 35184372088832 s s9) := by
  have hJ : Fr cC 35184372088832 s s := fr_r
  unfold f_X11_copyRow_45_153
  refine pq_c (fun _ => ?_)
  exact pq_s (fr_a hJ 45 (fun _ => rfl) rfl)

theorem ft_X11_copyRow_46_154  (s : Sg) : PQ (f_X11_copyRow_46_154  s) (fun _ s9 => Fr cC 70368744177664 s s9) := by
  have hJ : Fr cC 70368744177664 s s := fr_r
  unfold f_X11_copyRow_46_154
  refine pq_c (fun _ => ?_)
  exact pq_s (fr_a hJ 46 (fun _ => rfl) rfl)

theorem ft_X11_copyRow_47_155  (s : Sg) : PQ (f_X11_copyRow_47_155  s) (fun _ s9 => Fr cC 140737488355328 s s9) := by
  have hJ : Fr cC 140737488355328 s s := fr_r
  unfold f_X11_copyRow_47_155
  refine pq_c (fun _ => ?_)
  exact pq_s (fr_a hJ 47 (fun _ => rfl) rfl)

theorem ft_X11_copyRow_48_156  (s : Sg) : PQ (f_X11_copyRow_48_156  s) (fun _ s9 => Fr cC 281474976710656 s s9) := by
  have hJ : Fr cC 281474976710656 s s := fr_r
  unfold f_X11_copyRow_48_156
  refine pq_c (fun _ => ?_)
  exact pq_s (fr_a hJ 48 (fun _ => rfl) rfl)

theorem ft_X11_copyRow_49_157  (s : Sg) : PQ (f_X11_copyRow_49_157  s) (fun _ s9 => Fr cC 562949953421312 s s9) := by
  have hJ : Fr cC 562949953421312 s s := fr_r
  unfold f_X11_copyRow_49_157
  refine pq_c (fun _ => ?_)
  exact pq_s (fr_a hJ 49 (fun _ => rfl) rfl)

theorem ft_X11_copyRow_50_158  (s : Sg) : PQ (f_X11_copyRow_50_158  s) (fun _ s9 => Fr cC 1125899906842624 s s9) := by
  have hJ : Fr cC 1125899906842624 s s := fr_r
  unfold f_X11_copyRow_50_158
  refine pq_c (fun _ => ?_)
  exact pq_s (fr_a hJ 50 (fun _ => rfl) rfl)

theorem ft_X5_copyFrom_135  (s : Sg) : PQ (f_X5_copyFrom_135  s) (fun _ s9 => Fr cC 2216615575814144 s s9) := by
  have hJ : Fr cC 2216615575814144 s s := fr_r
  unfold f_X5_copyFrom_135
  refine pq_b (ft_X11_copyRow_45_153  _) (fun _ s2 gs2 => ?_)
  have js2 := fr_t hJ gs2 rfl
  refine pq_b (ft_X11_copyRow_46_154  _) (fun _ s4 gs4 => ?_)
  have js4 := fr_t js2 gs4 rfl
  refine pq_b (ft_X11_copyRow_47_155  _) (fun _ s6 gs6 => ?_)
  have js6 := fr_t js4 gs6 rfl
  refine pq_b (ft_X11_copyRow_48_156  _) (fun _ s8 gs8 => ?_)
  have js8 := fr_t js6 gs8 rfl
  refine pq_b (ft_X11_copyRow_49_157  _) (fun _ s10 gs10 => ?_)
  have js10 := fr_t js8 gs10 rfl
  refine pq_b (ft_X11_copyRow_50_158  _) (fun _ s12 gs12 => ?_)
  have js12 := fr_t js10 gs12 rfl
  refine pq_c (fun _ => ?_)
  refine pq_n (fun s14 es14 => ?_)
  have js14 : Fr cC 2216615575814144 s s14 := by rw [es14]; exact (fr_i (fr_i js12 27 rfl rfl) 27 rfl rfl)
  exact pq_s (fr_i js14 27 rfl rfl)

theorem ft_X10_copyFrom_132  (s : Sg) : PQ (f_X10_copyFrom_132  s) (fun _ s9 => Fr cC 2251799780130816 s s9) := by
  have hJ : Fr cC 2251799780130816 s s := fr_r
  unfold f_X10_copyFrom_132
  refine pq_b (ft_X4_copyFrom_133  _) (fun _ s2 gs2 => ?_)
  have js2 := fr_t hJ gs2 rfl
  refine pq_b (ft_X2_copyFrom_134  _) (fun _ s4 gs4 => ?_)
  have js4 := fr_t js2 gs4 rfl
  refine pq_b (ft_X5_copyFrom_135  _) (fun _ s6 gs6 => ?_)
  have js6 := fr_t js4 gs6 rfl
  exact pq_s js6

theorem ft_X11_back  (s : Sg) : PQ (f_X11_back  s) (fun _ s9 => Fr cC 71835728478088540235547516897670742984380196132487168 s s9) := by
  have hJ : Fr cC 71835728478088540235547516897670742984380196132487168 s s := fr_r
  unfold f_X11_back
  refine pq_if (fun _ => ?_) (fun _ => ?_)
  · refine pq_c (fun _ => ?_)
    refine pq_s3 ?_ ?_ ?_
    · refine pq_b (ft_X10_copyFrom_78  _) (fun _ s3 gs3 => ?_)
      have js3 := fr_t (fr_i hJ 174 rfl rfl) gs3 rfl
      refine pq_b (ft_X11_answer _ _) (fun _ s5 gs5 => ?_)
      have js5 := fr_t js3 gs5 rfl
      exact pq_s js5
    · refine pq_b (ft_X10_copyFrom_105  _) (fun _ s7 gs7 => ?_)
      have js7 := fr_t (fr_i hJ 174 rfl rfl) gs7 rfl
      refine pq_b (ft_X11_answer _ _) (fun _ s9 gs9 => ?_)
      have js9 := fr_t js7 gs9 rfl
      exact pq_s js9
    · refine pq_b (ft_X10_copyFrom_132  _) (fun _ s11 gs11 => ?_)
      have js11 := fr_t (fr_i hJ 174 rfl rfl) gs11 rfl
      refine pq_b (ft_X11_answer _ _) (fun _ s13 gs13 => ?_)
      have js13 := fr_t js11 gs13 rfl
      exact pq_s js13
  · refine pq_b (ft_X11_refuse _ _) (fun _ s15 gs15 => ?_)
    have js15 := fr_t hJ gs15 rfl
    exact pq_s js15

