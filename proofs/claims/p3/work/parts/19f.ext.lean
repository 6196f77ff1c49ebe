/-! the little relation -/
abbrev MXC : Nat := 2037035976334486086268445688409378161015550529426891980518366690905545928272272508006958079
abbrev MXM : Nat := 2037035976334486086268445688409378161051468393665936250636140449354381299727307908090691527
abbrev MXC1 : Nat := 2037035976334486086268445688409378161051468393665936250636140449354381299763336706183136255
abbrev MXM1 : Nat := 2037035976334486086268445688409378161051468393665936250636140449354381299763336706183397319
abbrev MXC2 : Nat := 2037035976334486086268445688409378161015550529426891980518366690905545928272272508007219199
abbrev MXM2 : Nat := 2037035976334486086268445688409378161051468393665936250636140449354381299727307908090691583
abbrev MXC3 : Nat := 2037035976334486086268445688409378161027523150839906737224291277055157718769293907399017471
abbrev MXM3 : Nat := 2037035976334486086268445688409378161051468393665936250636140449354381299727307909164433351
abbrev MXC4 : Nat := 2037035976334486086268445688409378161039495772252921493930215863204769509266315306791076863
abbrev MXM4 : Nat := 2037035976334486086268445688409378161051468393665936250636140449354381299763336705109655495
theorem fr_m {cd : Nat → Nat → Nat} {L M : Nat} {s0 s : Sg} (h : Fr cd L s0 s) (hL : L &&& M = L) : Fr cd M s0 s := fun c k hb => h c k (tb_sub hL hb)
theorem fr_e2 {cd : Nat → Nat → Nat} {L : Nat} {s0 s : Sg} (h : Fr cd L s0 s) (c k m : Nat) (hm : cd c k = m) (hb : L.testBit m = false) : s.2 c k = s0.2 c k := (h c k (by rw [hm]; exact hb)).2
theorem kc_1 {s s9 : Sg} (f : Fr cC MXC1 s s9) : KeptC s s9 := u4 ⟨funext fun k => fr_e f 10 k 10 rfl rfl, funext fun k => fr_e2 f 14 k 14 rfl rfl⟩ ⟨funext fun k => fr_e f 11 k 11 rfl rfl, funext fun k => fr_e2 f 15 k 15 rfl rfl⟩ ⟨funext fun k => fr_e f 12 k 12 rfl rfl, funext fun k => fr_e2 f 16 k 16 rfl rfl⟩ ⟨funext fun k => fr_e f 13 k 13 rfl rfl, funext fun k => fr_e2 f 17 k 17 rfl rfl⟩
theorem km_1 {s s9 : Sg} (f : Fr cdM MXM1 s s9) : KeptM s s9 := ⟨funext fun k => fr_e f 3 k 3 rfl rfl, funext fun k => fr_e f 4 k 4 rfl rfl, funext fun k => fr_e2 f 5 k 5 rfl rfl⟩
def Ext (sC sM : Sg) : Prop := sC.1 0 13 = sM.1 0 10 ∧ sC.1 0 14 = sM.1 0 35 ∧ ∀ t, t < 4 → TrR t sC sM
theorem ext_tr {L1 L2 : Nat} {sC sM sC2 sM2 : Sg} (h : Ext sC sM) (f : Fr cC L1 sC sC2) (g : Fr cdM L2 sM sM2) (h1 : L1 &&& MXC2 = L1) (h2 : L2 &&& MXM2 = L2) (t : ∀ t, t < 4 → TrR t sC2 sM2) : Ext sC2 sM2 := by
  refine ⟨?_, ?_, t⟩
  · rw [fr_e (fr_m f h1) 0 13 173 rfl rfl, fr_e (fr_m g h2) 0 10 30 rfl rfl]
    exact h.1
  · rw [fr_e (fr_m f h1) 0 14 174 rfl rfl, fr_e (fr_m g h2) 0 35 55 rfl rfl]
    exact h.2.1
theorem ext_t {L1 L2 : Nat} {sC sM sC2 sM2 : Sg} (h : Ext sC sM) (f : Fr cC L1 sC sC2) (g : Fr cdM L2 sM sM2) (h1 : L1 &&& MXC = L1) (h2 : L2 &&& MXM = L2) : Ext sC2 sM2 :=
  ext_tr h (fr_m f h1) (fr_m g h2) rfl rfl (fun t ht => tr_kept ht (h.2.2 t ht) (kc_1 (fr_m (fr_m f h1) rfl)) (km_1 (fr_m (fr_m g h2) rfl)))
theorem ext_3 {L1 L2 : Nat} {sC sM sC2 sM2 : Sg} (h : Ext sC sM) (f : Fr cC L1 sC sC2) (g : Fr cdM L2 sM sM2) (h1 : L1 &&& MXC3 = L1) (h2 : L2 &&& MXM3 = L2) (e : sC2.1 0 13 = sM2.1 0 10) : Ext sC2 sM2 := by
  refine ⟨e, ?_, fun t ht => tr_kept ht (h.2.2 t ht) (kc_1 (fr_m (fr_m f h1) rfl)) (km_1 (fr_m (fr_m g h2) rfl))⟩
  rw [fr_e (fr_m f h1) 0 14 174 rfl rfl, fr_e (fr_m g h2) 0 35 55 rfl rfl]
  exact h.2.1
theorem ext_4 {L1 L2 : Nat} {sC sM sC2 sM2 : Sg} (h : Ext sC sM) (f : Fr cC L1 sC sC2) (g : Fr cdM L2 sM sM2) (h1 : L1 &&& MXC4 = L1) (h2 : L2 &&& MXM4 = L2) (e : sC2.1 0 14 = sM2.1 0 35) : Ext sC2 sM2 := by
  refine ⟨?_, e, fun t ht => tr_kept ht (h.2.2 t ht) (kc_1 (fr_m (fr_m f h1) rfl)) (km_1 (fr_m (fr_m g h2) rfl))⟩
  rw [fr_e (fr_m f h1) 0 13 173 rfl rfl, fr_e (fr_m g h2) 0 10 30 rfl rfl]
  exact h.1
def RelX (sC sM : Sg) : Prop := RelB sC sM ∧ Ext sC sM
theorem oq2 {α β : Type} {oC : Option (α × Sg)} {oM : Option (β × Sg)} {R : α → Sg → β → Sg → Prop} {P : α → Sg → Prop} {P' : β → Sg → Prop} {F : α → Sg → β → Sg → Prop} (h : OQ oC (fun rC sC2 => OQ oM (fun rM sM2 => R rC sC2 rM sM2))) (p : PQ oC P) (q : PQ oM P') (f : ∀ rC sC2 rM sM2, R rC sC2 rM sM2 → P rC sC2 → P' rM sM2 → F rC sC2 rM sM2) : OQ oC (fun rC sC2 => OQ oM (fun rM sM2 => F rC sC2 rM sM2)) := by
  cases oC with
  | none => exact h.elim
  | some x =>
    cases oM with
    | none => exact (show False from h).elim
    | some y => exact f _ _ _ _ h (p _ _ rfl) (q _ _ rfl)
theorem t13 {s : Sg} (h : Rg rC s) : 0 ≤ (s.1 0 13).toInt ∧ (s.1 0 13).toInt ≤ 900 := h 0 13
theorem t10 {s : Sg} (h : Rg rM s) : 0 ≤ (s.1 0 10).toInt ∧ (s.1 0 10).toInt ≤ 900 := h 0 10
theorem t35 {s : Sg} (h : Rg rM s) : 0 ≤ (s.1 0 35).toInt ∧ (s.1 0 35).toInt ≤ 3 := h 0 35
theorem r46 {s : Sg} (h : Rg rM s) (t : Nat) : -1 ≤ (s.1 4 t).toInt ∧ (s.1 4 t).toInt ≤ 60 := h 4 t
theorem r460 {s : Sg} (h : Rg rM s) (t : Nat) : (s.1 4 t).toInt ≤ 60 := (r46 h t).2
theorem tp_x {a : Int32} {lim : Int} {n m x x9 : Int32} (e : n = m) (h : Tp (OkN a lim m) x x9) : Tp (OkN a lim n) x x9 := by subst e; exact h
theorem mk_x {c c' : Prop} {d x r x9 : Int32} (e : c = c') (h : Mk c d x r x9) : Mk c' d x r x9 := by subst e; exact h
theorem c35 {a b : Int32} (e : a = b) : (b.toInt < 3) = (a.toInt < 3) := by rw [e]
theorem c35b {a b : Int32} (e : a = b) : (0 < b.toInt) = (0 < a.toInt) := by rw [e]
theorem tray_an {p : Prop} {r r' : Int32} (h : (r = 1 ∧ p) ∨ (r = 0 ∧ ¬ p)) (g : (r' = 1 ∧ p) ∨ (r' = 0 ∧ ¬ p)) : r = r' := ok_eq h g
theorem tray_tr {t : Nat} {a1 a2 a3 : Int32} {sC sM sC2 sM2 : Sg} (ht : t < 4) (h : TrR t sC sM) (c : (OKT a1 a2 a3 ∧ LaidC a1.toNatClampNeg a2 a3 sC sC2) ∨ (¬ OKT a1 a2 a3 ∧ KeptC sC sC2)) (m : (OKT a1 a2 a3 ∧ LaidM a1.toNatClampNeg a2 a3 sM sM2) ∨ (¬ OKT a1 a2 a3 ∧ KeptM sM sM2)) : TrR t sC2 sM2 := by
  rcases c with c | c <;> rcases m with m | m
  · exact tr_laid ht h c.2 m.2 c.1.2.2
  · exact absurd c.1 m.1
  · exact absurd m.1 c.1
  · exact tr_kept ht h c.2 m.2
theorem ok3_eq {p q : Prop} {A B C D : Prop} {r r' : Int32} (e : p ↔ q) (h : (p ∧ r = 1 ∧ A) ∨ (¬ p ∧ r = 0 ∧ B)) (g : (q ∧ r' = 1 ∧ C) ∨ (¬ q ∧ r' = 0 ∧ D)) : r = r' := by
  rcases h with h | h <;> rcases g with g | g
  · exact h.2.1.trans g.2.1.symm
  · exact absurd (e.mp h.1) g.1
  · exact absurd (e.mpr g.1) h.1
  · exact h.2.1.trans g.2.1.symm
theorem tr_lt {a : Int32} (h : TrayA a) : a.toNatClampNeg < 4 := by
  have := cl_nat a
  unfold TrayA at h
  omega
theorem wr_iff {a1 a2 : Int32} {sC sM : Sg} (h : ∀ t, t < 4 → TrR t sC sM) : (TrayA a1 ∧ ¬ sC.1 (10 + a1.toNatClampNeg) 1 = 0 ∧ InC a1.toNatClampNeg a2 sC) ↔ (TrayA a1 ∧ ¬ sM.1 4 a1.toNatClampNeg = -1 ∧ InM a1.toNatClampNeg a2 sM) := by
  constructor
  · intro w
    have g := h _ (tr_lt w.1)
    exact ⟨w.1, fun z => w.2.1 ((gone_iff g).mpr z), (in_iff g w.2.1).mp w.2.2⟩
  · intro w
    have g := h _ (tr_lt w.1)
    have n : ¬ sC.1 (10 + a1.toNatClampNeg) 1 = 0 := fun z => w.2.1 ((gone_iff g).mp z)
    exact ⟨w.1, n, (in_iff g n).mpr w.2.2⟩
theorem in_60 {t : Nat} {a2 : Int32} {sC sM : Sg} (h : TrR t sC sM) (hg : ¬ sC.1 (10 + t) 1 = 0) (hi : InC t a2 sC) : 0 ≤ a2.toInt ∧ a2.toInt < (sC.1 (10 + t) 3).toInt ∧ a2.toInt < 60 := by
  rcases h with q | q
  · exact absurd q.1 hg
  · have e1 : (1 : Int32).toInt = 1 := rfl
    have := i_sub (sC.1 (10 + t) 3) 1
    have := q.2.2.2.1
    unfold InC at hi
    omega
theorem write_tr {t : Nat} {a1 a2 : Int32} {v : Int64} {r r' : Int32} {sC sM sC2 sM2 : Sg} (ht : t < 4) (h : ∀ t, t < 4 → TrR t sC sM) (c : ((TrayA a1 ∧ ¬ sC.1 (10 + a1.toNatClampNeg) 1 = 0 ∧ InC a1.toNatClampNeg a2 sC) ∧ r = 1 ∧ WroC a1.toNatClampNeg a2 (cutf (sC.1 (10 + a1.toNatClampNeg) 2) v) sC sC2) ∨ (¬ (TrayA a1 ∧ ¬ sC.1 (10 + a1.toNatClampNeg) 1 = 0 ∧ InC a1.toNatClampNeg a2 sC) ∧ r = 0 ∧ KeptC sC sC2)) (m : ((TrayA a1 ∧ ¬ sM.1 4 a1.toNatClampNeg = -1 ∧ InM a1.toNatClampNeg a2 sM) ∧ r' = 1 ∧ WroM a1.toNatClampNeg a2 (cutf (sM.1 3 a1.toNatClampNeg) v) sM sM2) ∨ (¬ (TrayA a1 ∧ ¬ sM.1 4 a1.toNatClampNeg = -1 ∧ InM a1.toNatClampNeg a2 sM) ∧ r' = 0 ∧ KeptM sM sM2)) : TrR t sC2 sM2 := by
  have e := wr_iff (a1 := a1) (a2 := a2) h
  rcases c with c | c <;> rcases m with m | m
  · have l := tr_lt c.1.1
    have g := h _ l
    have i := in_60 g c.1.2.1 c.1.2.2
    have q := g.elim (fun q => absurd q.1 c.1.2.1) id
    have w := m.2.2
    rw [q.2.2.1] at w
    exact tr_wro ht l (h t ht) ⟨i.1, i.2.2⟩ c.2.2 w
  · exact absurd (e.mp c.1) m.1
  · exact absurd (e.mpr m.1) c.1
  · exact tr_kept ht (h t ht) c.2.2 m.2.2
theorem pour_tr {t : Nat} {a1 a2 a3 a4 a5 : Int32} {r r' : Int32} {sC sM sC2 sM2 : Sg} (ht : t < 4) (h : ∀ t, t < 4 → TrR t sC sM) (c : (VC a1 a2 a3 a4 a5 sC ∧ r = 1 ∧ PouC a1.toNatClampNeg a3.toNatClampNeg a2.toNatClampNeg a4.toNatClampNeg a5.toNatClampNeg sC sC2) ∨ (¬ VC a1 a2 a3 a4 a5 sC ∧ r = 0 ∧ KeptC sC sC2)) (m : (VM a1 a2 a3 a4 a5 sM ∧ r' = 1 ∧ PouM a1.toNatClampNeg a3.toNatClampNeg a2.toNatClampNeg a4.toNatClampNeg a5.toNatClampNeg sM sM2) ∨ (¬ VM a1 a2 a3 a4 a5 sM ∧ r' = 0 ∧ KeptM sM sM2)) : TrR t sC2 sM2 := by
  have e := v_iff (a1 := a1) (a2 := a2) (a3 := a3) (a4 := a4) (a5 := a5) h
  rcases c with c | c <;> rcases m with m | m
  · have l1 := tr_lt c.1.1.1
    have l3 := tr_lt c.1.1.2.1
    have g3 := (h _ l3).elim (fun q => absurd q.1 c.1.2.1.2.1) id
    have z := c.1.1.2.2
    have y := c.1.2.2
    have x := g3.2.2.2.1
    have c2 := cl_nat a2
    have c4 := cl_nat a4
    have c5 := cl_nat a5
    exact tr_pou ht l1 l3 h c.1.2.1.1 (by omega) (by omega) c.2.2 m.2.2
  · exact absurd (e.mp c.1) m.1
  · exact absurd (e.mpr m.1) c.1
  · exact tr_kept ht (h t ht) c.2.2 m.2.2
theorem read_eq {a1 a2 : Int32} {r r' : Int64} {sC sM sC2 : Sg} (h : ∀ t, t < 4 → TrR t sC sM) (c : ((TrayA a1 ∧ ¬ sC.1 (10 + a1.toNatClampNeg) 1 = 0 ∧ InC a1.toNatClampNeg a2 sC) ∧ r = sC.2 (14 + a1.toNatClampNeg) a2.toNatClampNeg ∧ KeptC sC sC2) ∨ (¬ (TrayA a1 ∧ ¬ sC.1 (10 + a1.toNatClampNeg) 1 = 0 ∧ InC a1.toNatClampNeg a2 sC) ∧ r = -1 ∧ KeptC sC sC2)) (m : ((TrayA a1 ∧ ¬ sM.1 4 a1.toNatClampNeg = -1 ∧ InM a1.toNatClampNeg a2 sM) ∧ r' = sM.2 5 (60 * a1.toNatClampNeg + a2.toNatClampNeg)) ∨ (¬ (TrayA a1 ∧ ¬ sM.1 4 a1.toNatClampNeg = -1 ∧ InM a1.toNatClampNeg a2 sM) ∧ r' = -1)) : r = r' := by
  have e := wr_iff (a1 := a1) (a2 := a2) h
  rcases c with c | c <;> rcases m with m | m
  · have g := h _ (tr_lt c.1.1)
    have i := in_60 g c.1.2.1 c.1.2.2
    have q := g.elim (fun q => absurd q.1 c.1.2.1) id
    have cl := cl_nat a2
    rw [c.2.1, m.2]
    exact (q.2.2.2.2 a2.toNatClampNeg (by omega)).symm
  · exact absurd (e.mp c.1) m.1
  · exact absurd (e.mpr m.1) c.1
  · exact c.2.1.trans m.2.symm

set_option maxRecDepth 20000 in
theorem sq_0  {sC sM : Sg} (hR : RelX sC sM) : OQ (f_X11_status  sC) (fun rC sC2 => OQ (f_X12_status  sM) (fun rM sM2 => RelX sC2 sM2)) := oq2 (sb_0  hR.1) (pq_o (h_X11_status  hR.1.1.1)) (pq_o (h_X12_status  hR.1.2.1)) (fun _ _ _ _ b c m => ⟨b, ext_t hR.2 c.1.2 m.1.2 rfl rfl⟩)
set_option maxRecDepth 20000 in
theorem sq_1  {sC sM : Sg} (hR : RelX sC sM) : OQ (f_X11_top  sC) (fun rC sC2 => OQ (f_X12_top  sM) (fun rM sM2 => RelX sC2 sM2)) := oq2 (sb_1  hR.1) (pq_o (h_X11_top  hR.1.1.1)) (pq_o (h_X12_top  hR.1.2.1)) (fun _ _ _ _ b c m => ⟨b, ext_t hR.2 c.1.2 m.1.2 rfl rfl⟩)
set_option maxRecDepth 20000 in
theorem sq_2  {sC sM : Sg} (hR : RelX sC sM) : OQ (f_X11_bottom  sC) (fun rC sC2 => OQ (f_X12_bottom  sM) (fun rM sM2 => RelX sC2 sM2)) := oq2 (sb_2  hR.1) (pq_o (h_X11_bottom  hR.1.1.1)) (pq_o (h_X12_bottom  hR.1.2.1)) (fun _ _ _ _ b c m => ⟨b, ext_t hR.2 c.1.2 m.1.2 rfl rfl⟩)
theorem sq_3 (a0 : Int32) (a1 : Int32) (a2 : Int32) {sC sM : Sg} (hR : RelX sC sM) : OQ (f_X11_tray a0 a1 a2 sC) (fun rC sC2 => OQ (f_X12_tray a0 a1 a2 sM) (fun rM sM2 => RelX sC2 sM2 ∧ rC = rM)) := oq2 (sb_3 a0 a1 a2 hR.1) (pq_and (pq_o (h_X11_tray a0 a1 a2 hR.1.1.1)) (pq_and (tray_cr a0 a1 a2 sC) (tray_cf a0 a1 a2 sC))) (pq_and (pq_o (h_X12_tray a0 a1 a2 hR.1.2.1)) (pq_and (tray_mr a0 a1 a2 sM) (tray_mf a0 a1 a2 sM))) (fun _ _ _ _ b c m => ⟨⟨b, ext_tr hR.2 c.1.1.2 m.1.1.2 rfl rfl (fun t ht => tray_tr ht (hR.2.2.2 t ht) c.2.2 m.2.2)⟩, tray_an c.2.1 m.2.1⟩)
theorem sq_4 (a0 : Int32) (a1 : Int32) (a2 : Int64) {sC sM : Sg} (hR : RelX sC sM) : OQ (f_X11_write a0 a1 a2 sC) (fun rC sC2 => OQ (f_X12_write a0 a1 a2 sM) (fun rM sM2 => RelX sC2 sM2 ∧ rC = rM)) := oq2 (sb_4 a0 a1 a2 hR.1) (pq_and (pq_o (h_X11_write a0 a1 a2 hR.1.1.1)) (write_c a0 a1 a2 sC)) (pq_and (pq_o (h_X12_write a0 a1 a2 hR.1.2.1)) (write_m a0 a1 a2 sM (r460 hR.1.2.1))) (fun _ _ _ _ b c m => ⟨⟨b, ext_tr hR.2 c.1.1.2 m.1.1.2 rfl rfl (fun t ht => write_tr ht hR.2.2.2 c.2 m.2)⟩, ok3_eq (wr_iff hR.2.2.2) c.2 m.2⟩)
theorem sq_5 (a0 : Int32) (a1 : Int32) {sC sM : Sg} (hR : RelX sC sM) : OQ (f_X11_read a0 a1 sC) (fun rC sC2 => OQ (f_X12_read a0 a1 sM) (fun rM sM2 => RelX sC2 sM2 ∧ rC = rM)) := oq2 (sb_5 a0 a1 hR.1) (pq_and (pq_o (h_X11_read a0 a1 hR.1.1.1)) (read_c a0 a1 sC)) (pq_and (pq_o (h_X12_read a0 a1 hR.1.2.1)) (read_m a0 a1 sM (r460 hR.1.2.1))) (fun _ _ _ _ b c m => ⟨⟨b, ext_t hR.2 c.1.1.2 m.1.1.2 rfl rfl⟩, read_eq hR.2.2.2 c.2 m.2⟩)
theorem sq_6 (a0 : Int32) (a1 : Int32) (a2 : Int32) (a3 : Int32) (a4 : Int32) {sC sM : Sg} (hR : RelX sC sM) : OQ (f_X11_pour a0 a1 a2 a3 a4 sC) (fun rC sC2 => OQ (f_X12_pour a0 a1 a2 a3 a4 sM) (fun rM sM2 => RelX sC2 sM2 ∧ rC = rM)) := oq2 (sb_6 a0 a1 a2 a3 a4 hR.1) (pq_and (pq_o (h_X11_pour a0 a1 a2 a3 a4 hR.1.1.1)) (pour_c a0 a1 a2 a3 a4 sC)) (pq_and (pq_o (h_X12_pour a0 a1 a2 a3 a4 hR.1.2.1)) (pour_m a0 a1 a2 a3 a4 sM (r46 hR.1.2.1))) (fun _ _ _ _ b c m => ⟨⟨b, ext_tr hR.2 c.1.1.2 m.1.1.2 rfl rfl (fun t ht => pour_tr ht hR.2.2.2 c.2 m.2)⟩, ok3_eq (v_iff hR.2.2.2) c.2 m.2⟩)
theorem sq_7 (a0 : Int32) (a1 : Int32) (a2 : Int32) (a3 : Int32) (a4 : Int32) {sC sM : Sg} (hR : RelX sC sM) : OQ (f_X11_feed a0 a1 a2 a3 a4 sC) (fun rC sC2 => OQ (f_X12_feed a0 a1 a2 a3 a4 sM) (fun rM sM2 => RelX sC2 sM2 ∧ rC = rM)) := oq2 (sb_7 a0 a1 a2 a3 a4 hR.1) (pq_and (pq_o (h_X11_feed a0 a1 a2 a3 a4 hR.1.1.1)) (feed_c a0 a1 a2 a3 a4 sC (t13 hR.1.1.1).1 (t13 hR.1.1.1).2)) (pq_and (pq_o (h_X12_feed a0 a1 a2 a3 a4 hR.1.2.1)) (feed_m a0 a1 a2 a3 a4 sM (t10 hR.1.2.1).1 (t10 hR.1.2.1).2)) (fun _ _ _ _ b c m => ⟨⟨b, ext_3 hR.2 c.1.1.2 m.1.1.2 rfl rfl (fd_eq c.2 m.2 hR.2.1).1⟩, (fd_eq c.2 m.2 hR.2.1).2⟩)
theorem sq_8 (a0 : Int32) {sC sM : Sg} (hR : RelX sC sM) : OQ (f_X11_street a0 sC) (fun rC sC2 => OQ (f_X12_street a0 sM) (fun rM sM2 => RelX sC2 sM2)) := oq2 (sb_8 a0 hR.1) (pq_and (pq_o (h_X11_street a0 hR.1.1.1)) (street_t a0 (t13 hR.1.1.1).2)) (pq_and (pq_o (h_X12_street a0 hR.1.2.1)) (street_tm a0 sM)) (fun _ _ _ _ b c m => ⟨b, ext_3 hR.2 c.1.1.2 m.1.1.2 rfl rfl (tp_eq c.2 (tp_x hR.2.1 m.2) hR.2.1)⟩)
theorem sq_9 (a0 : Int32) {sC sM : Sg} (hR : RelX sC sM) : OQ (f_X11_days a0 sC) (fun rC sC2 => OQ (f_X12_days a0 sM) (fun rM sM2 => RelX sC2 sM2)) := oq2 (sb_9 a0 hR.1) (pq_and (pq_o (h_X11_days a0 hR.1.1.1)) (days_t a0)) (pq_and (pq_o (h_X12_days a0 hR.1.2.1)) (days_tm a0 sM)) (fun _ _ _ _ b c m => ⟨b, ext_3 hR.2 c.1.1.2 m.1.1.2 rfl rfl (tp_eq c.2 (tp_x hR.2.1 m.2) hR.2.1)⟩)
theorem sq_10 (a0 : Int32) {sC sM : Sg} (hR : RelX sC sM) : OQ (f_X11_fault a0 sC) (fun rC sC2 => OQ (f_X12_fault a0 sM) (fun rM sM2 => RelX sC2 sM2)) := oq2 (sb_10 a0 hR.1) (pq_o (h_X11_fault a0 hR.1.1.1)) (pq_o (h_X12_fault a0 hR.1.2.1)) (fun _ _ _ _ b c m => ⟨b, ext_t hR.2 c.1.2 m.1.2 rfl rfl⟩)
theorem sq_11 (a0 : Int32) {sC sM : Sg} (hR : RelX sC sM) : OQ (f_X11_told a0 sC) (fun rC sC2 => OQ (f_X12_told a0 sM) (fun rM sM2 => RelX sC2 sM2)) := oq2 (sb_11 a0 hR.1) (pq_o (h_X11_told a0 hR.1.1.1)) (pq_o (h_X12_told a0 hR.1.2.1)) (fun _ _ _ _ b c m => ⟨b, ext_t hR.2 c.1.2 m.1.2 rfl rfl⟩)
set_option maxRecDepth 20000 in
theorem sq_12  {sC sM : Sg} (hR : RelX sC sM) : OQ (f_X11_purse  sC) (fun rC sC2 => OQ (f_X12_purse  sM) (fun rM sM2 => RelX sC2 sM2)) := oq2 (sb_12  hR.1) (pq_o (h_X11_purse  hR.1.1.1)) (pq_o (h_X12_purse  hR.1.2.1)) (fun _ _ _ _ b c m => ⟨b, ext_t hR.2 c.1.2 m.1.2 rfl rfl⟩)
theorem sq_13 (a0 : Int32) (a1 : Int32) {sC sM : Sg} (hR : RelX sC sM) : OQ (f_X11_step a0 a1 sC) (fun rC sC2 => OQ (f_X12_step a0 a1 sM) (fun rM sM2 => RelX sC2 sM2)) := oq2 (sb_13 a0 a1 hR.1) (pq_o (h_X11_step a0 a1 hR.1.1.1)) (pq_o (h_X12_step a0 a1 hR.1.2.1)) (fun _ _ _ _ b c m => ⟨b, ext_t hR.2 c.1.2 m.1.2 rfl rfl⟩)
theorem sq_14 (a0 : Int32) (a1 : Int32) {sC sM : Sg} (hR : RelX sC sM) : OQ (f_X11_quarrel a0 a1 sC) (fun rC sC2 => OQ (f_X12_quarrel a0 a1 sM) (fun rM sM2 => RelX sC2 sM2)) := oq2 (sb_14 a0 a1 hR.1) (pq_o (h_X11_quarrel a0 a1 hR.1.1.1)) (pq_o (h_X12_quarrel a0 a1 hR.1.2.1)) (fun _ _ _ _ b c m => ⟨b, ext_t hR.2 c.1.2 m.1.2 rfl rfl⟩)
theorem sq_15 (a0 : Int32) (a1 : Int32) {sC sM : Sg} (hR : RelX sC sM) : OQ (f_X11_grocer a0 a1 sC) (fun rC sC2 => OQ (f_X12_grocer a0 a1 sM) (fun rM sM2 => RelX sC2 sM2)) := oq2 (sb_15 a0 a1 hR.1) (pq_o (h_X11_grocer a0 a1 hR.1.1.1)) (pq_o (h_X12_grocer a0 a1 hR.1.2.1)) (fun _ _ _ _ b c m => ⟨b, ext_t hR.2 c.1.2 m.1.2 rfl rfl⟩)
theorem sq_16 (a0 : Int32) (a1 : Int32) {sC sM : Sg} (hR : RelX sC sM) : OQ (f_X11_share a0 a1 sC) (fun rC sC2 => OQ (f_X12_share a0 a1 sM) (fun rM sM2 => RelX sC2 sM2)) := oq2 (sb_16 a0 a1 hR.1) (pq_o (h_X11_share a0 a1 hR.1.1.1)) (pq_o (h_X12_share a0 a1 hR.1.2.1)) (fun _ _ _ _ b c m => ⟨b, ext_t hR.2 c.1.2 m.1.2 rfl rfl⟩)
theorem sq_17 (a0 : Int32) (a1 : Int32) {sC sM : Sg} (hR : RelX sC sM) : OQ (f_X11_whose a0 a1 sC) (fun rC sC2 => OQ (f_X12_whose a0 a1 sM) (fun rM sM2 => RelX sC2 sM2)) := oq2 (sb_17 a0 a1 hR.1) (pq_o (h_X11_whose a0 a1 hR.1.1.1)) (pq_o (h_X12_whose a0 a1 hR.1.2.1)) (fun _ _ _ _ b c m => ⟨b, ext_t hR.2 c.1.2 m.1.2 rfl rfl⟩)
theorem sq_18 (a0 : Int32) {sC sM : Sg} (hR : RelX sC sM) : OQ (f_X11_nobodys a0 sC) (fun rC sC2 => OQ (f_X12_nobodys a0 sM) (fun rM sM2 => RelX sC2 sM2)) := oq2 (sb_18 a0 hR.1) (pq_o (h_X11_nobodys a0 hR.1.1.1)) (pq_o (h_X12_nobodys a0 hR.1.2.1)) (fun _ _ _ _ b c m => ⟨b, ext_t hR.2 c.1.2 m.1.2 rfl rfl⟩)
set_option maxRecDepth 20000 in
theorem sq_19  {sC sM : Sg} (hR : RelX sC sM) : OQ (f_X11_peace  sC) (fun rC sC2 => OQ (f_X12_peace  sM) (fun rM sM2 => RelX sC2 sM2)) := oq2 (sb_19  hR.1) (pq_o (h_X11_peace  hR.1.1.1)) (pq_o (h_X12_peace  hR.1.2.1)) (fun _ _ _ _ b c m => ⟨b, ext_t hR.2 c.1.2 m.1.2 rfl rfl⟩)
set_option maxRecDepth 20000 in
theorem sq_20  {sC sM : Sg} (hR : RelX sC sM) : OQ (f_X11_truce  sC) (fun rC sC2 => OQ (f_X12_truce  sM) (fun rM sM2 => RelX sC2 sM2)) := oq2 (sb_20  hR.1) (pq_o (h_X11_truce  hR.1.1.1)) (pq_o (h_X12_truce  hR.1.2.1)) (fun _ _ _ _ b c m => ⟨b, ext_t hR.2 c.1.2 m.1.2 rfl rfl⟩)
set_option maxRecDepth 20000 in
theorem sq_21  {sC sM : Sg} (hR : RelX sC sM) : OQ (f_X11_over  sC) (fun rC sC2 => OQ (f_X12_over  sM) (fun rM sM2 => RelX sC2 sM2)) := oq2 (sb_21  hR.1) (pq_o (h_X11_over  hR.1.1.1)) (pq_o (h_X12_over  hR.1.2.1)) (fun _ _ _ _ b c m => ⟨b, ext_t hR.2 c.1.2 m.1.2 rfl rfl⟩)
set_option maxRecDepth 20000 in
theorem sq_22  {sC sM : Sg} (hR : RelX sC sM) : OQ (f_X11_hopeless  sC) (fun rC sC2 => OQ (f_X12_hopeless  sM) (fun rM sM2 => RelX sC2 sM2)) := oq2 (sb_22  hR.1) (pq_o (h_X11_hopeless  hR.1.1.1)) (pq_o (h_X12_hopeless  hR.1.2.1)) (fun _ _ _ _ b c m => ⟨b, ext_t hR.2 c.1.2 m.1.2 rfl rfl⟩)
theorem sq_23 (a0 : Int32) (a1 : Int32) {sC sM : Sg} (hR : RelX sC sM) : OQ (f_X11_strew a0 a1 sC) (fun rC sC2 => OQ (f_X12_strew a0 a1 sM) (fun rM sM2 => RelX sC2 sM2)) := oq2 (sb_23 a0 a1 hR.1) (pq_o (h_X11_strew a0 a1 hR.1.1.1)) (pq_o (h_X12_strew a0 a1 hR.1.2.1)) (fun _ _ _ _ b c m => ⟨b, ext_t hR.2 c.1.2 m.1.2 rfl rfl⟩)
theorem sq_24 (a0 : Int32) (a1 : Int32) (a2 : Int32) {sC sM : Sg} (hR : RelX sC sM) : OQ (f_X11_buy a0 a1 a2 sC) (fun rC sC2 => OQ (f_X12_buy a0 a1 a2 sM) (fun rM sM2 => RelX sC2 sM2)) := oq2 (sb_24 a0 a1 a2 hR.1) (pq_o (h_X11_buy a0 a1 a2 hR.1.1.1)) (pq_o (h_X12_buy a0 a1 a2 hR.1.2.1)) (fun _ _ _ _ b c m => ⟨b, ext_t hR.2 c.1.2 m.1.2 rfl rfl⟩)
theorem sq_25 (a0 : Int32) {sC sM : Sg} (hR : RelX sC sM) : OQ (f_X11_sweep a0 sC) (fun rC sC2 => OQ (f_X12_sweep a0 sM) (fun rM sM2 => RelX sC2 sM2)) := oq2 (sb_25 a0 hR.1) (pq_o (h_X11_sweep a0 hR.1.1.1)) (pq_o (h_X12_sweep a0 hR.1.2.1)) (fun _ _ _ _ b c m => ⟨b, ext_t hR.2 c.1.2 m.1.2 rfl rfl⟩)
theorem sq_26 (a0 : Int32) (a1 : Int32) (a2 : Int32) {sC sM : Sg} (hR : RelX sC sM) : OQ (f_X11_shovel a0 a1 a2 sC) (fun rC sC2 => OQ (f_X12_shovel a0 a1 a2 sM) (fun rM sM2 => RelX sC2 sM2)) := oq2 (sb_26 a0 a1 a2 hR.1) (pq_o (h_X11_shovel a0 a1 a2 hR.1.1.1)) (pq_o (h_X12_shovel a0 a1 a2 hR.1.2.1)) (fun _ _ _ _ b c m => ⟨b, ext_t hR.2 c.1.2 m.1.2 rfl rfl⟩)
set_option maxRecDepth 20000 in
theorem sq_27  {sC sM : Sg} (hR : RelX sC sM) : OQ (f_X11_rain  sC) (fun rC sC2 => OQ (f_X12_rain  sM) (fun rM sM2 => RelX sC2 sM2)) := oq2 (sb_27  hR.1) (pq_o (h_X11_rain  hR.1.1.1)) (pq_o (h_X12_rain  hR.1.2.1)) (fun _ _ _ _ b c m => ⟨b, ext_t hR.2 c.1.2 m.1.2 rfl rfl⟩)
theorem sq_28 (a0 : Int32) {sC sM : Sg} (hR : RelX sC sM) : OQ (f_X11_snow a0 sC) (fun rC sC2 => OQ (f_X12_snow a0 sM) (fun rM sM2 => RelX sC2 sM2 ∧ rC = rM)) := oq2 (sb_28 a0 hR.1) (pq_and (pq_o (h_X11_snow a0 hR.1.1.1)) (snow_cr a0 sC)) (pq_and (pq_o (h_X12_snow a0 hR.1.2.1)) (snow_mr a0 sM)) (fun _ _ _ _ b c m => ⟨⟨b, ext_t hR.2 c.1.1.2 m.1.1.2 rfl rfl⟩, ok_eq c.2 m.2⟩)
set_option maxRecDepth 20000 in
theorem sq_29  {sC sM : Sg} (hR : RelX sC sM) : OQ (f_X11_night  sC) (fun rC sC2 => OQ (f_X12_night  sM) (fun rM sM2 => RelX sC2 sM2)) := oq2 (sb_29  hR.1) (pq_o (h_X11_night  hR.1.1.1)) (pq_o (h_X12_night  hR.1.2.1)) (fun _ _ _ _ b c m => ⟨b, ext_t hR.2 c.1.2 m.1.2 rfl rfl⟩)
theorem sq_30 (a0 : Int32) (a1 : Int32) {sC sM : Sg} (hR : RelX sC sM) : OQ (f_X11_cat a0 a1 sC) (fun rC sC2 => OQ (f_X12_cat a0 a1 sM) (fun rM sM2 => RelX sC2 sM2)) := oq2 (sb_30 a0 a1 hR.1) (pq_o (h_X11_cat a0 a1 hR.1.1.1)) (pq_o (h_X12_cat a0 a1 hR.1.2.1)) (fun _ _ _ _ b c m => ⟨b, ext_t hR.2 c.1.2 m.1.2 rfl rfl⟩)
theorem sq_31 (a0 : Int32) {sC sM : Sg} (hR : RelX sC sM) : OQ (f_X11_reaches a0 sC) (fun rC sC2 => OQ (f_X12_reaches a0 sM) (fun rM sM2 => RelX sC2 sM2)) := oq2 (sb_31 a0 hR.1) (pq_o (h_X11_reaches a0 hR.1.1.1)) (pq_o (h_X12_reaches a0 hR.1.2.1)) (fun _ _ _ _ b c m => ⟨b, ext_t hR.2 c.1.2 m.1.2 rfl rfl⟩)
theorem sq_32 (a0 : Int32) {sC sM : Sg} (hR : RelX sC sM) : OQ (f_X11_chain a0 sC) (fun rC sC2 => OQ (f_X12_chain a0 sM) (fun rM sM2 => RelX sC2 sM2)) := oq2 (sb_32 a0 hR.1) (pq_o (h_X11_chain a0 hR.1.1.1)) (pq_o (h_X12_chain a0 hR.1.2.1)) (fun _ _ _ _ b c m => ⟨b, ext_t hR.2 c.1.2 m.1.2 rfl rfl⟩)
theorem sq_33 (a0 : Int32) (a1 : Int32) (a2 : Int32) {sC sM : Sg} (hR : RelX sC sM) : OQ (f_X11_forecast a0 a1 a2 sC) (fun rC sC2 => OQ (f_X12_forecast a0 a1 a2 sM) (fun rM sM2 => RelX sC2 sM2)) := oq2 (sb_33 a0 a1 a2 hR.1) (pq_o (h_X11_forecast a0 a1 a2 hR.1.1.1)) (pq_o (h_X12_forecast a0 a1 a2 hR.1.2.1)) (fun _ _ _ _ b c m => ⟨b, ext_t hR.2 c.1.2 m.1.2 rfl rfl⟩)
theorem sq_34 (a0 : Int32) {sC sM : Sg} (hR : RelX sC sM) : OQ (f_X11_soonest a0 sC) (fun rC sC2 => OQ (f_X12_soonest a0 sM) (fun rM sM2 => RelX sC2 sM2)) := oq2 (sb_34 a0 hR.1) (pq_o (h_X11_soonest a0 hR.1.1.1)) (pq_o (h_X12_soonest a0 hR.1.2.1)) (fun _ _ _ _ b c m => ⟨b, ext_t hR.2 c.1.2 m.1.2 rfl rfl⟩)
set_option maxRecDepth 20000 in
theorem sq_35  {sC sM : Sg} (hR : RelX sC sM) : OQ (f_X11_longest  sC) (fun rC sC2 => OQ (f_X12_longest  sM) (fun rM sM2 => RelX sC2 sM2)) := oq2 (sb_35  hR.1) (pq_o (h_X11_longest  hR.1.1.1)) (pq_o (h_X12_longest  hR.1.2.1)) (fun _ _ _ _ b c m => ⟨b, ext_t hR.2 c.1.2 m.1.2 rfl rfl⟩)
set_option maxRecDepth 20000 in
theorem sq_36  {sC sM : Sg} (hR : RelX sC sM) : OQ (f_X11_fullest  sC) (fun rC sC2 => OQ (f_X12_fullest  sM) (fun rM sM2 => RelX sC2 sM2)) := oq2 (sb_36  hR.1) (pq_o (h_X11_fullest  hR.1.1.1)) (pq_o (h_X12_fullest  hR.1.2.1)) (fun _ _ _ _ b c m => ⟨b, ext_t hR.2 c.1.2 m.1.2 rfl rfl⟩)
theorem sq_37 (a0 : Int32) {sC sM : Sg} (hR : RelX sC sM) : OQ (f_X11_best a0 sC) (fun rC sC2 => OQ (f_X12_best a0 sM) (fun rM sM2 => RelX sC2 sM2)) := oq2 (sb_37 a0 hR.1) (pq_o (h_X11_best a0 hR.1.1.1)) (pq_o (h_X12_best a0 hR.1.2.1)) (fun _ _ _ _ b c m => ⟨b, ext_t hR.2 c.1.2 m.1.2 rfl rfl⟩)
set_option maxRecDepth 20000 in
theorem sq_38  {sC sM : Sg} (hR : RelX sC sM) : OQ (f_X11_closest  sC) (fun rC sC2 => OQ (f_X12_closest  sM) (fun rM sM2 => RelX sC2 sM2)) := oq2 (sb_38  hR.1) (pq_o (h_X11_closest  hR.1.1.1)) (pq_o (h_X12_closest  hR.1.2.1)) (fun _ _ _ _ b c m => ⟨b, ext_t hR.2 c.1.2 m.1.2 rfl rfl⟩)
set_option maxRecDepth 20000 in
theorem sq_39  {sC sM : Sg} (hR : RelX sC sM) : OQ (f_X11_level  sC) (fun rC sC2 => OQ (f_X12_level  sM) (fun rM sM2 => RelX sC2 sM2)) := oq2 (sb_39  hR.1) (pq_o (h_X11_level  hR.1.1.1)) (pq_o (h_X12_level  hR.1.2.1)) (fun _ _ _ _ b c m => ⟨b, ext_t hR.2 c.1.2 m.1.2 rfl rfl⟩)
theorem sq_40 (a0 : Int32) {sC sM : Sg} (hR : RelX sC sM) : OQ (f_X11_thaw a0 sC) (fun rC sC2 => OQ (f_X12_thaw a0 sM) (fun rM sM2 => RelX sC2 sM2)) := oq2 (sb_40 a0 hR.1) (pq_o (h_X11_thaw a0 hR.1.1.1)) (pq_o (h_X12_thaw a0 hR.1.2.1)) (fun _ _ _ _ b c m => ⟨b, ext_t hR.2 c.1.2 m.1.2 rfl rfl⟩)
set_option maxRecDepth 20000 in
theorem sq_41  {sC sM : Sg} (hR : RelX sC sM) : OQ (f_X11_thawAll  sC) (fun rC sC2 => OQ (f_X12_thawAll  sM) (fun rM sM2 => RelX sC2 sM2)) := oq2 (sb_41  hR.1) (pq_o (h_X11_thawAll  hR.1.1.1)) (pq_o (h_X12_thawAll  hR.1.2.1)) (fun _ _ _ _ b c m => ⟨b, ext_t hR.2 c.1.2 m.1.2 rfl rfl⟩)
theorem sq_42 (a0 : Int32) {sC sM : Sg} (hR : RelX sC sM) : OQ (f_X11_wants a0 sC) (fun rC sC2 => OQ (f_X12_wants a0 sM) (fun rM sM2 => RelX sC2 sM2)) := oq2 (sb_42 a0 hR.1) (pq_o (h_X11_wants a0 hR.1.1.1)) (pq_o (h_X12_wants a0 hR.1.2.1)) (fun _ _ _ _ b c m => ⟨b, ext_t hR.2 c.1.2 m.1.2 rfl rfl⟩)
set_option maxRecDepth 20000 in
theorem sq_43  {sC sM : Sg} (hR : RelX sC sM) : OQ (f_X11_cliff  sC) (fun rC sC2 => OQ (f_X12_cliff  sM) (fun rM sM2 => RelX sC2 sM2)) := oq2 (sb_43  hR.1) (pq_o (h_X11_cliff  hR.1.1.1)) (pq_o (h_X12_cliff  hR.1.2.1)) (fun _ _ _ _ b c m => ⟨b, ext_t hR.2 c.1.2 m.1.2 rfl rfl⟩)
theorem sq_44 (a0 : Int32) {sC sM : Sg} (hR : RelX sC sM) : OQ (f_X11_steps a0 sC) (fun rC sC2 => OQ (f_X12_steps a0 sM) (fun rM sM2 => RelX sC2 sM2)) := oq2 (sb_44 a0 hR.1) (pq_o (h_X11_steps a0 hR.1.1.1)) (pq_o (h_X12_steps a0 hR.1.2.1)) (fun _ _ _ _ b c m => ⟨b, ext_t hR.2 c.1.2 m.1.2 rfl rfl⟩)
theorem sq_45 (a0 : Int32) {sC sM : Sg} (hR : RelX sC sM) : OQ (f_X11_value a0 sC) (fun rC sC2 => OQ (f_X12_value a0 sM) (fun rM sM2 => RelX sC2 sM2)) := oq2 (sb_45 a0 hR.1) (pq_o (h_X11_value a0 hR.1.1.1)) (pq_o (h_X12_value a0 hR.1.2.1)) (fun _ _ _ _ b c m => ⟨b, ext_t hR.2 c.1.2 m.1.2 rfl rfl⟩)
theorem sq_46 (a0 : Int32) {sC sM : Sg} (hR : RelX sC sM) : OQ (f_X11_beside a0 sC) (fun rC sC2 => OQ (f_X12_beside a0 sM) (fun rM sM2 => RelX sC2 sM2)) := oq2 (sb_46 a0 hR.1) (pq_o (h_X11_beside a0 hR.1.1.1)) (pq_o (h_X12_beside a0 hR.1.2.1)) (fun _ _ _ _ b c m => ⟨b, ext_t hR.2 c.1.2 m.1.2 rfl rfl⟩)
set_option maxRecDepth 20000 in
theorem sq_47  {sC sM : Sg} (hR : RelX sC sM) : OQ (f_X11_ghosts  sC) (fun rC sC2 => OQ (f_X12_ghosts  sM) (fun rM sM2 => RelX sC2 sM2)) := oq2 (sb_47  hR.1) (pq_o (h_X11_ghosts  hR.1.1.1)) (pq_o (h_X12_ghosts  hR.1.2.1)) (fun _ _ _ _ b c m => ⟨b, ext_t hR.2 c.1.2 m.1.2 rfl rfl⟩)
set_option maxRecDepth 20000 in
theorem sq_48  {sC sM : Sg} (hR : RelX sC sM) : OQ (f_X11_most  sC) (fun rC sC2 => OQ (f_X12_most  sM) (fun rM sM2 => RelX sC2 sM2)) := oq2 (sb_48  hR.1) (pq_o (h_X11_most  hR.1.1.1)) (pq_o (h_X12_most  hR.1.2.1)) (fun _ _ _ _ b c m => ⟨b, ext_t hR.2 c.1.2 m.1.2 rfl rfl⟩)
theorem sq_49 (a0 : Int32) {sC sM : Sg} (hR : RelX sC sM) : OQ (f_X11_lack a0 sC) (fun rC sC2 => OQ (f_X12_lack a0 sM) (fun rM sM2 => RelX sC2 sM2)) := oq2 (sb_49 a0 hR.1) (pq_o (h_X11_lack a0 hR.1.1.1)) (pq_o (h_X12_lack a0 hR.1.2.1)) (fun _ _ _ _ b c m => ⟨b, ext_t hR.2 c.1.2 m.1.2 rfl rfl⟩)
theorem sq_50 (a0 : Int32) (a1 : Int32) {sC sM : Sg} (hR : RelX sC sM) : OQ (f_X11_lackAt a0 a1 sC) (fun rC sC2 => OQ (f_X12_lackAt a0 a1 sM) (fun rM sM2 => RelX sC2 sM2)) := oq2 (sb_50 a0 a1 hR.1) (pq_o (h_X11_lackAt a0 a1 hR.1.1.1)) (pq_o (h_X12_lackAt a0 a1 hR.1.2.1)) (fun _ _ _ _ b c m => ⟨b, ext_t hR.2 c.1.2 m.1.2 rfl rfl⟩)
theorem sq_51 (a0 : Int32) {sC sM : Sg} (hR : RelX sC sM) : OQ (f_X11_freed a0 sC) (fun rC sC2 => OQ (f_X12_freed a0 sM) (fun rM sM2 => RelX sC2 sM2)) := oq2 (sb_51 a0 hR.1) (pq_o (h_X11_freed a0 hR.1.1.1)) (pq_o (h_X12_freed a0 hR.1.2.1)) (fun _ _ _ _ b c m => ⟨b, ext_t hR.2 c.1.2 m.1.2 rfl rfl⟩)
theorem sq_52 (a0 : Int32) {sC sM : Sg} (hR : RelX sC sM) : OQ (f_X11_cost a0 sC) (fun rC sC2 => OQ (f_X12_cost a0 sM) (fun rM sM2 => RelX sC2 sM2)) := oq2 (sb_52 a0 hR.1) (pq_o (h_X11_cost a0 hR.1.1.1)) (pq_o (h_X12_cost a0 hR.1.2.1)) (fun _ _ _ _ b c m => ⟨b, ext_t hR.2 c.1.2 m.1.2 rfl rfl⟩)
theorem sq_53 (a0 : Int32) {sC sM : Sg} (hR : RelX sC sM) : OQ (f_X11_dearest a0 sC) (fun rC sC2 => OQ (f_X12_dearest a0 sM) (fun rM sM2 => RelX sC2 sM2)) := oq2 (sb_53 a0 hR.1) (pq_o (h_X11_dearest a0 hR.1.1.1)) (pq_o (h_X12_dearest a0 hR.1.2.1)) (fun _ _ _ _ b c m => ⟨b, ext_t hR.2 c.1.2 m.1.2 rfl rfl⟩)
theorem sq_54 (a0 : Int32) (a1 : Int32) (a2 : Int32) {sC sM : Sg} (hR : RelX sC sM) : OQ (f_X11_quiet a0 a1 a2 sC) (fun rC sC2 => OQ (f_X12_quiet a0 a1 a2 sM) (fun rM sM2 => RelX sC2 sM2)) := oq2 (sb_54 a0 a1 a2 hR.1) (pq_o (h_X11_quiet a0 a1 a2 hR.1.1.1)) (pq_o (h_X12_quiet a0 a1 a2 hR.1.2.1)) (fun _ _ _ _ b c m => ⟨b, ext_t hR.2 c.1.2 m.1.2 rfl rfl⟩)
theorem sq_55 (a0 : Int32) (a1 : Int32) {sC sM : Sg} (hR : RelX sC sM) : OQ (f_X11_who a0 a1 sC) (fun rC sC2 => OQ (f_X12_who a0 a1 sM) (fun rM sM2 => RelX sC2 sM2)) := oq2 (sb_55 a0 a1 hR.1) (pq_o (h_X11_who a0 a1 hR.1.1.1)) (pq_o (h_X12_who a0 a1 hR.1.2.1)) (fun _ _ _ _ b c m => ⟨b, ext_t hR.2 c.1.2 m.1.2 rfl rfl⟩)
theorem sq_56 (a0 : Int32) (a1 : Int32) {sC sM : Sg} (hR : RelX sC sM) : OQ (f_X11_found a0 a1 sC) (fun rC sC2 => OQ (f_X12_found a0 a1 sM) (fun rM sM2 => RelX sC2 sM2)) := oq2 (sb_56 a0 a1 hR.1) (pq_o (h_X11_found a0 a1 hR.1.1.1)) (pq_o (h_X12_found a0 a1 hR.1.2.1)) (fun _ _ _ _ b c m => ⟨b, ext_t hR.2 c.1.2 m.1.2 rfl rfl⟩)
theorem sq_57 (a0 : Int32) {sC sM : Sg} (hR : RelX sC sM) : OQ (f_X11_live a0 sC) (fun rC sC2 => OQ (f_X12_live a0 sM) (fun rM sM2 => RelX sC2 sM2)) := oq2 (sb_57 a0 hR.1) (pq_o (h_X11_live a0 hR.1.1.1 hR.1.1.2.1.2)) (pq_o (h_X12_live a0 hR.1.2.1 (rowB_0 (hR.1.2.2 0 (m35 hR.1.2.1))))) (fun _ _ _ _ b c m => ⟨b, ext_t hR.2 c.1.2 m.1.2 rfl rfl⟩)
theorem sq_58 (a0 : Int32) {sC sM : Sg} (hR : RelX sC sM) : OQ (f_X11_lived a0 sC) (fun rC sC2 => OQ (f_X12_lived a0 sM) (fun rM sM2 => RelX sC2 sM2)) := oq2 (sb_58 a0 hR.1) (pq_o (h_X11_lived a0 hR.1.1.1)) (pq_o (h_X12_lived a0 hR.1.2.1)) (fun _ _ _ _ b c m => ⟨b, ext_t hR.2 c.1.2 m.1.2 rfl rfl⟩)
theorem sq_59 (a0 : Int32) (a1 : Int32) (a2 : Int32) {sC sM : Sg} (hR : RelX sC sM) : OQ (f_X11_odds a0 a1 a2 sC) (fun rC sC2 => OQ (f_X12_odds a0 a1 a2 sM) (fun rM sM2 => RelX sC2 sM2)) := oq2 (sb_59 a0 a1 a2 hR.1) (pq_o (h_X11_odds a0 a1 a2 hR.1.1.1 hR.1.1.2.1.2)) (pq_o (h_X12_odds a0 a1 a2 hR.1.2.1 (rowB_0 (hR.1.2.2 0 (m35 hR.1.2.1))))) (fun _ _ _ _ b c m => ⟨b, ext_t hR.2 c.1.2 m.1.2 rfl rfl⟩)
set_option maxRecDepth 20000 in
theorem sq_60  {sC sM : Sg} (hR : RelX sC sM) : OQ (f_X11_mark  sC) (fun rC sC2 => OQ (f_X12_mark  sM) (fun rM sM2 => RelX sC2 sM2 ∧ rC = rM)) := oq2 (sb_60  hR.1) (pq_and (pq_o (h_X11_mark  hR.1.1.1)) (mark_t sC)) (pq_and (pq_o (h_X12_mark  hR.1.2.1)) (mark_tm sM (t35 hR.1.2.1).2)) (fun _ _ _ _ b c m => ⟨⟨b, ext_4 hR.2 c.1.1.2 m.1.1.2 rfl rfl (mk_eq c.2 (mk_x (c35 hR.2.2.1) m.2) hR.2.2.1).1⟩, (mk_eq c.2 (mk_x (c35 hR.2.2.1) m.2) hR.2.2.1).2⟩)
set_option maxRecDepth 20000 in
theorem sq_61  {sC sM : Sg} (hR : RelX sC sM) : OQ (f_X11_back  sC) (fun rC sC2 => OQ (f_X12_back  sM) (fun rM sM2 => RelX sC2 sM2 ∧ rC = rM)) := oq2 (sb_61  hR.1) (pq_and (pq_o (h_X11_back  hR.1.1.1)) (back_t sC)) (pq_and (pq_o (h_X12_back  hR.1.2.1)) (back_tm sM (t35 hR.1.2.1).1)) (fun _ _ _ _ b c m => ⟨⟨b, ext_4 hR.2 c.1.1.2 m.1.1.2 rfl rfl (mk_eq c.2 (mk_x (c35b hR.2.2.1) m.2) hR.2.2.1).1⟩, (mk_eq c.2 (mk_x (c35b hR.2.2.1) m.2) hR.2.2.1).2⟩)
/-! the start -/
theorem fOf_or : ∀ (f : List (Nat × Int32)) (k : Nat), fOf f k = 0 ∨ ∃ q, q ∈ f ∧ q.1 = k ∧ fOf f k = q.2
  | [], _ => Or.inl rfl
  | q :: r, k => by
    unfold fOf
    by_cases h : k = q.1
    · rw [if_pos h]
      exact Or.inr ⟨q, List.mem_cons_self, h.symm, rfl⟩
    · rw [if_neg h]
      rcases fOf_or r k with g | ⟨p, g1, g2, g3⟩
      · exact Or.inl g
      · exact Or.inr ⟨p, List.mem_cons_of_mem _ g1, g2, g3⟩
def fldI (fs : List Value) (k : Nat) : Int32 := match fs[k]? with
  | some (.int x) => x
  | _ => 0
def chkI (r : Int × Int) (v : Int32) : Bool := decide (r.1 ≤ v.toInt ∧ v.toInt ≤ r.2)
def chkC (r : Nat → Nat → Int × Int) (c : Nat) : Option CC → Bool
  | none => true
  | some (.inl (_, fs)) => (List.range fs.length).all (fun k => chkI (r c k) (fldI fs k))
  | some (.inr (_, _, f, _)) => f.all (fun q => chkI (r c q.1) q.2)
theorem rg_st {r : Nat → Nat → Int × Int} {pi : List Nat} {w : List CC} (h0 : ∀ c k, (r c k).1 ≤ 0 ∧ 0 ≤ (r c k).2) (c k : Nat) (hc : chkC r c (w[pi.getD c 0]?) = true) : (r c k).1 ≤ ((stOf pi w).1 c k).toInt ∧ ((stOf pi w).1 c k).toInt ≤ (r c k).2 := by
  have e0 : (0 : Int32).toInt = 0 := rfl
  have z : (r c k).1 ≤ (0 : Int32).toInt ∧ (0 : Int32).toInt ≤ (r c k).2 := by rw [e0]; exact h0 c k
  unfold stOf
  dsimp only
  cases hw : w[pi.getD c 0]? with
  | none => exact z
  | some q =>
    rw [hw] at hc
    cases q with
    | inl o =>
      obtain ⟨ci, fs⟩ := o
      show (r c k).1 ≤ (fldI fs k).toInt ∧ (fldI fs k).toInt ≤ (r c k).2
      by_cases hk : k < fs.length
      · have g := List.all_eq_true.mp hc k (List.mem_range.mpr hk)
        exact of_decide_eq_true g
      · have e : fldI fs k = 0 := by
          unfold fldI
          rw [List.getElem?_eq_none_iff.mpr (by omega)]
        rw [e]; exact z
    | inr a =>
      obtain ⟨t, n, f, ids⟩ := a
      show (r c k).1 ≤ (fOf f k).toInt ∧ (fOf f k).toInt ≤ (r c k).2
      rcases fOf_or f k with g | ⟨q, g1, g2, g3⟩
      · rw [g]; exact z
      · have g := List.all_eq_true.mp hc q g1
        rw [g2] at g
        rw [g3]
        exact of_decide_eq_true g
theorem rW_0 (w k : Nat) : (rW w k).1 ≤ 0 ∧ 0 ≤ (rW w k).2 := by
  unfold rW
  repeat' split
  all_goals decide
def Zr (r : Int × Int) : Prop := r.1 ≤ 0 ∧ 0 ≤ r.2
theorem z_ite {p : Prop} [Decidable p] {a b : Int × Int} (ha : Zr a) (hb : Zr b) : Zr (if p then a else b) := by
  by_cases h : p
  · rw [if_pos h]; exact ha
  · rw [if_neg h]; exact hb
theorem z_p (a b : Int) (h : a ≤ 0 ∧ 0 ≤ b) : Zr (a, b) := h
theorem rC_0 (c k : Nat) : (rC c k).1 ≤ 0 ∧ 0 ≤ (rC c k).2 := by
  show Zr (rC c k)
  unfold rC
  refine z_ite (rW_0 _ _) ?_
  repeat' apply z_ite
  all_goals first
    | (split <;> (unfold Zr; decide))
    | (unfold Zr; decide)
theorem rS_0 (p : Nat) : (rS p).1 ≤ 0 ∧ 0 ≤ (rS p).2 := by
  unfold rS
  repeat' split
  all_goals decide
theorem rM_0 (c k : Nat) : (rM c k).1 ≤ 0 ∧ 0 ≤ (rM c k).2 := by
  unfold rM
  split
  · repeat' split
    all_goals decide
  · split
    · exact rS_0 _
    · repeat' split
      all_goals decide
def sC1 : Sg := (fun c k => if c < 159 then sC0.1 c k else 0, sC0.2)
theorem shC_n : SHC.length = 159 := by decide +kernel
theorem wsl_1 (kc : Nat → ClassId) (ad : Nat → Nat) : wsl kc ad SHC sC1 = wsl kc ad SHC sC0 := by
  unfold wsl
  apply List.ext_getElem?
  intro i
  rw [List.getElem?_mapIdx, List.getElem?_mapIdx]
  cases h : SHC[i]? with
  | none => rfl
  | some sh =>
    have hi : i < 159 := by
      have q := (List.getElem?_eq_some_iff.mp h).1
      rw [shC_n] at q
      exact q
    have e : sC1.1 i = sC0.1 i := by
      funext k
      show (if i < 159 then sC0.1 i k else 0) = sC0.1 i k
      rw [if_pos hi]
    show some (ad i, cellOf kc ad sC1 i sh) = some (ad i, cellOf kc ad sC0 i sh)
    rw [cell_congr (s := sC0) (s' := sC1) e rfl]
set_option maxRecDepth 100000 in
theorem chC_all : (List.range 159).all (fun c => chkC rC c (wC[piC.getD c 0]?)) = true := by decide +kernel
set_option maxRecDepth 100000 in
theorem chM_all : (List.range 13).all (fun c => chkC rM c (wM[piM.getD c 0]?)) = true := by decide +kernel
theorem rgC1 : Rg rC sC1 := by
  intro c k
  show (rC c k).1 ≤ (if c < 159 then sC0.1 c k else 0).toInt ∧ (if c < 159 then sC0.1 c k else 0).toInt ≤ (rC c k).2
  by_cases h : c < 159
  · rw [if_pos h]
    exact rg_st rC_0 c k (List.all_eq_true.mp chC_all c (List.mem_range.mpr h))
  · rw [if_neg h]
    exact rC_0 c k
theorem rgM0 : Rg rM sM0 := by
  intro c k
  by_cases h : c < 13
  · exact rg_st rM_0 c k (List.all_eq_true.mp chM_all c (List.mem_range.mpr h))
  · have e : rM c k = (-2147483648, 2147483647) := by
      unfold rM
      rw [if_neg (by omega), if_neg (by omega), if_neg (by omega), if_neg (by omega), if_neg (by omega)]
    rw [e]
    exact i_rg _
theorem wk_0 {b : Nat} {s : Sg} (h1 : s.1 (b + 1) 12 = 0) (h2 : s.1 (b + 3) 7 = 0) : WkC b s := by
  have e0 : (0 : Int32).toInt = 0 := rfl
  constructor
  · intro k k1
    rw [h1] at k1
    omega
  · intro k k1
    rw [h2] at k1
    omega
set_option maxRecDepth 100000 in
theorem relB0 : RelB sC1 sM0 := by
  refine ⟨⟨rgC1, wk_0 (by decide +kernel) (by decide +kernel), wk_0 (by decide +kernel) (by decide +kernel), wk_0 (by decide +kernel) (by decide +kernel), wk_0 (by decide +kernel) (by decide +kernel)⟩, rgM0, ?_⟩
  intro j hj p h1 h2 h3
  have e35 : sM0.1 0 35 = 0 := by decide +kernel
  have e0 : (0 : Int32).toInt = 0 := rfl
  rw [e35] at hj
  have j0 : j = 0 := by omega
  subst j0
  have e11 : sM0.1 1 (480 * 0 + 11) = -1 := by decide +kernel
  rw [e11] at h3
  have e : (-1 : Int32).toInt = -1 := rfl
  omega
set_option maxRecDepth 100000 in
theorem relX0 : RelX sC1 sM0 := ⟨relB0, by decide +kernel, by decide +kernel, u4 (Or.inl (by decide +kernel)) (Or.inl (by decide +kernel)) (Or.inl (by decide +kernel)) (Or.inl (by decide +kernel))⟩

