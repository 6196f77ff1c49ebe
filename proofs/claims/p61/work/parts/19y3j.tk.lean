/-! the ground and the program of a world and of a slot; the relation of both sides -/
def PrW (o : Nat) (s : Sg) (M : Nat → Int32) : Prop := (s.1 (27 + o) 6 = 0 ∧ M 11 = -1) ∨ (s.1 (27 + o) 6 = 1 ∧ ∃ X : Nat, (s.1 (27 + o) 7 = M 11 ∧ (M 11).toInt = (X : Int) ∧ X ≤ 60) ∧ (∀ k : Nat, k < X → (RwR (24 + o) 110 s M k ∧ VdR 110 M k) ∧ ((s.1 (45 + o) k = 124 ∨ s.1 (45 + o) k = 128 ∨ s.1 (45 + o) k = 129) → s.1 (50 + o) k = M (110 + 6 * k + 4))) ∧ ∃ st : Nat → Int32, NsA (fun k => M (110 + 6 * k)) (fun k => M (110 + 6 * k + 4)) st 0 X)
theorem prw_0 {s : Sg} {M : Nat → Int32} : PrW 0 s M ↔ PrgR s M := Iff.rfl
theorem prw_x {o o' : Nat} {s s' : Sg} {M M' : Nat → Int32} (h : PrW o s M) (hs : ∀ i k, (i = 3 ∨ (21 ≤ i ∧ i ≤ 26)) → loW i ≤ k → k < hiW i → s'.1 (24 + o' + i) k = s.1 (24 + o + i) k) (hM : ∀ p, (110 ≤ p ∧ p < 480) ∨ PlP p ∨ p = 11 → M' p = M p) : PrW o' s' M' := by
  have m11 := hM 11 (Or.inr (Or.inr rfl))
  have c6 : s'.1 (27 + o') 6 = s.1 (27 + o) 6 := by
    rw [show 27 + o' = 24 + o' + 3 by omega, show 27 + o = 24 + o + 3 by omega]
    exact hs 3 6 (Or.inl rfl) (by decide) (by decide)
  have c7 : s'.1 (27 + o') 7 = s.1 (27 + o) 7 := by
    rw [show 27 + o' = 24 + o' + 3 by omega, show 27 + o = 24 + o + 3 by omega]
    exact hs 3 7 (Or.inl rfl) (by decide) (by decide)
  rcases h with ⟨h1, h2⟩ | ⟨h1, X, ⟨h2, h3, h4⟩, h5, st, h6⟩
  · exact Or.inl ⟨by rw [c6]; exact h1, by rw [m11]; exact h2⟩
  · have big : ∀ p, 110 ≤ p → p < 480 → M' p = M p := fun p hp hq => hM p (Or.inl ⟨hp, hq⟩)
    have sm : ∀ p, p < 4 ∨ p = 9 → M' p = M p := fun p hp => hM p (Or.inr (Or.inl (plp_0 (by omega))))
    refine Or.inr ⟨by rw [c6]; exact h1, X, ⟨by rw [c7, m11]; exact h2, by rw [m11]; exact h3, h4⟩, fun k hk => ?_, st, ns_e h6 (fun k hk => ⟨big _ (by omega) (by omega), big _ (by omega) (by omega)⟩)⟩
    have w := h5 k hk
    have k60 : k < 60 := by omega
    have r : ∀ i, 21 ≤ i → i ≤ 26 → s'.1 (24 + o' + i) k = s.1 (24 + o + i) k := fun i i1 i2 => hs i k (Or.inr ⟨i1, i2⟩) (by
      unfold loW
      rw [if_neg (by omega), if_neg (by omega), if_neg (by omega)]
      exact Nat.zero_le _) (by
      unfold hiW
      rw [if_neg (by omega), if_neg (by omega), if_neg (by omega), if_neg (by omega), if_neg (by omega), if_neg (by omega), if_neg (by omega), if_neg (by omega), if_neg (by omega), if_neg (by omega), if_pos (by omega)]
      exact k60)
    have r21 := r 21 (by decide) (by decide)
    have r26 := r 26 (by decide) (by decide)
    rw [show 45 + o = 24 + o + 21 by omega, show 50 + o = 24 + o + 26 by omega] at w
    rw [show 45 + o' = 24 + o' + 21 by omega, show 50 + o' = 24 + o' + 26 by omega]
    unfold RwR VdR at w ⊢
    rw [r21, r 22 (by decide) (by decide), r 23 (by decide) (by decide), r 24 (by decide) (by decide), r 25 (by decide) (by decide), r26, big (110 + 6 * k) (by omega) (by omega), big (110 + 6 * k + 1) (by omega) (by omega), big (110 + 6 * k + 2) (by omega) (by omega), big (110 + 6 * k + 3) (by omega) (by omega), big (110 + 6 * k + 4) (by omega) (by omega), big (110 + 6 * k + 5) (by omega) (by omega), sm 0 (by omega), sm 1 (by omega), sm 3 (by omega), sm 9 (by omega)]
    exact w
/-- the ground: cells and places, who is over, the day, whether it rained, the grains' bounds -/
def GrX (o : Nat) (s : Sg) (M : Nat → Int32) (K : Int) : Prop := (GrdT o s M ∧ OvR o s M) ∧ (s.1 (26 + o) 6 = M 4 ∧ 0 ≤ (M 4).toInt ∧ (M 4).toInt ≤ 999) ∧ (M 10 = 0 ∨ M 10 = 1) ∧ Gz M ∧ GnR M K
theorem gp_lt {o c k p : Nat} (h : Gp o c k p) : p < 110 := by
  unfold Gp at h
  omega
theorem grx_x {o o' : Nat} {s s' : Sg} {M M' : Nat → Int32} {K K' : Int} (h : GrX o s M K) (hK : K ≤ K') (hs : ∀ i k, (i = 2 ∨ (16 ≤ i ∧ i ≤ 20)) → loW i ≤ k → k < hiW i → s'.1 (24 + o' + i) k = s.1 (24 + o + i) k) (hM : ∀ p, p < 110 → M' p = M p) : GrX o' s' M' K' := by
  obtain ⟨⟨h1, h2, h3, h4⟩, ⟨h5, h6, h7⟩, h8, h9, h10⟩ := h
  refine ⟨⟨fun c k p g => ?_, fun q hq => ?_, fun q hq hQ => ?_, fun i hi => ?_⟩, ⟨?_, ?_, ?_⟩, ?_, fun x hx hb => ?_, gn_up (gn_c h10 (fun p p1 p2 => hM p (by omega))) hK⟩
  · rw [hM p (gp_lt g)]
    rcases g with ⟨hk, ⟨e, e2⟩ | ⟨e, e2⟩ | ⟨e, e2⟩ | ⟨e, e2⟩⟩ | ⟨hk, e, e2⟩ | ⟨e, e2⟩
    · rw [e, show 40 + o' = 24 + o' + 16 by omega, hs 16 k (by omega) (Nat.zero_le _) hk, show 24 + o + 16 = 40 + o by omega]
      exact h1 _ k p (Or.inl ⟨hk, Or.inl ⟨rfl, e2⟩⟩)
    · rw [e, show 41 + o' = 24 + o' + 17 by omega, hs 17 k (by omega) (Nat.zero_le _) hk, show 24 + o + 17 = 41 + o by omega]
      exact h1 _ k p (Or.inl ⟨hk, Or.inr (Or.inl ⟨rfl, e2⟩)⟩)
    · rw [e, show 42 + o' = 24 + o' + 18 by omega, hs 18 k (by omega) (Nat.zero_le _) hk, show 24 + o + 18 = 42 + o by omega]
      exact h1 _ k p (Or.inl ⟨hk, Or.inr (Or.inr (Or.inl ⟨rfl, e2⟩))⟩)
    · rw [e, show 43 + o' = 24 + o' + 19 by omega, hs 19 k (by omega) (Nat.zero_le _) hk, show 24 + o + 19 = 43 + o by omega]
      exact h1 _ k p (Or.inl ⟨hk, Or.inr (Or.inr (Or.inr ⟨rfl, e2⟩))⟩)
    · rw [e, show 44 + o' = 24 + o' + 20 by omega, hs 20 k (by omega) (Nat.zero_le _) hk, show 24 + o + 20 = 44 + o by omega]
      exact h1 _ k p (Or.inr (Or.inl ⟨hk, rfl, e2⟩))
    · rw [e, show 26 + o' = 24 + o' + 2 by omega, hs 2 k (by omega) (show 5 ≤ k by omega) (show k < 13 by omega), show 24 + o + 2 = 26 + o by omega]
      exact h1 _ k p (Or.inr (Or.inr ⟨rfl, e2⟩))
  · rw [hM _ (by omega)]; exact h2 q hq
  · rw [hM 1 (by decide)] at hQ
    rw [hM _ (by omega)]; exact h3 q hq hQ
  · rw [show 26 + o' = 24 + o' + 2 by omega, hs 2 5 (by omega) (by decide) (by decide), show 24 + o + 2 = 26 + o by omega, h4 i hi]
    apply decide_eq_decide.mpr
    constructor
    · intro w; exact ⟨w.1, by rw [hM _ (by omega)]; exact w.2⟩
    · intro w
      have y := w.2
      rw [hM _ (by omega)] at y
      exact ⟨w.1, y⟩
  · rw [show 26 + o' = 24 + o' + 2 by omega, hs 2 6 (by omega) (by decide) (by decide), show 24 + o + 2 = 26 + o by omega, hM 4 (by decide)]
    exact h5
  · rw [hM 4 (by decide)]; exact h6
  · rw [hM 4 (by decide)]; exact h7
  · rw [hM 10 (by decide)]; exact h8
  · rw [hM 9 (by decide)] at hb
    rw [hM _ (by omega), hM _ (by omega), hM _ (by omega)]
    exact h9 x hx hb
def GwR (o : Nat) (s : Sg) (M : Nat → Int32) (K : Int) : Prop := GrX o s M K ∧ PrW o s M
theorem gw_x {o o' : Nat} {s s' : Sg} {M M' : Nat → Int32} {K K' : Int} (h : GwR o s M K) (hK : K ≤ K') (hs : ∀ i k, (i = 2 ∨ i = 3 ∨ (16 ≤ i ∧ i ≤ 26)) → loW i ≤ k → k < hiW i → s'.1 (24 + o' + i) k = s.1 (24 + o + i) k) (hM : ∀ p, p < 480 → M' p = M p) : GwR o' s' M' K' :=
  ⟨grx_x h.1 hK (fun i k hi => hs i k (by omega)) (fun p hp => hM p (by omega)), prw_x h.2 (fun i k hi => hs i k (by omega)) (fun p hp => hM p (by
    rcases hp with z | z | z
    · omega
    · have := (plp_lt z).1
      omega
    · omega))⟩
def MgR (K : Int) (s t : Sg) : Prop := ∀ j : Nat, (j : Int) < (t.1 0 35).toInt → GwR (54 + 27 * j) s (fun k => t.1 1 (480 * (j + 1) + k)) K
def FgR (K : Int) (s t : Sg) : Prop := GwR 0 s (t.1 1) K ∧ MgR K s t
/-- cells of the ground and the program, the marks' -/
def GkC (s s' : Sg) : Prop := ∀ c, (c = 26 ∨ c = 27 ∨ (40 ≤ c ∧ c ≤ 50)) → s'.1 c = s.1 c
def GmC (s s' : Sg) : Prop := ∀ c, ((c = 80 ∨ c = 81 ∨ (94 ≤ c ∧ c ≤ 104)) ∨ (c = 107 ∨ c = 108 ∨ (121 ≤ c ∧ c ≤ 131)) ∨ (c = 134 ∨ c = 135 ∨ (148 ≤ c ∧ c ≤ 158))) → s'.1 c = s.1 c
theorem gw_k {o : Nat} {s s' : Sg} {M M' : Nat → Int32} {K K' : Int} (h : GwR o s M K) (hK : K ≤ K') (hs : ∀ c, (c = 26 + o ∨ c = 27 + o ∨ (40 + o ≤ c ∧ c ≤ 50 + o)) → s'.1 c = s.1 c) (hM : ∀ p, p < 480 → M' p = M p) : GwR o s' M' K' := gw_x h hK (fun i k hi _ _ => by rw [hs (24 + o + i) (by omega)]) hM
theorem mg_k {s t s' t' : Sg} {K K' : Int} (r : (t.1 0 35).toInt ≤ 3) (h : MgR K s t) (hK : K ≤ K') (c : GmC s s') (m : ∀ p, 480 ≤ p → p < 1920 → t'.1 1 p = t.1 1 p) (m35 : t'.1 0 35 = t.1 0 35) : MgR K' s' t' := fun j hj => by
  rw [m35] at hj
  exact gw_k (h j hj) hK (fun c' hc => c c' (by omega)) (fun p hp => m _ (by omega) (by omega))
theorem fg_k {s t s' t' : Sg} {K K' : Int} (r : (t.1 0 35).toInt ≤ 3) (h : FgR K s t) (hK : K ≤ K') (c : GkC s s') (cm : GmC s s') (m0 : ∀ p, p < 480 → t'.1 1 p = t.1 1 p) (m : ∀ p, 480 ≤ p → p < 1920 → t'.1 1 p = t.1 1 p) (m35 : t'.1 0 35 = t.1 0 35) : FgR K' s' t' := ⟨gw_k h.1 hK (fun c' hc => c c' (by omega)) m0, mg_k r h.2 hK cm m m35⟩
theorem fg_mark {s t s' t' : Sg} {K : Int} (r : 0 ≤ (t.1 0 35).toInt ∧ (t.1 0 35).toInt ≤ 3) (h : FgR K s t) (e14 : s.1 0 14 = t.1 0 35) (c : McW s s') (m : MmW t t') : FgR K s' t' := by
  rw [McW, e14] at c
  rcases c with ⟨c1, c2⟩ | ⟨j, j3, c1, c2⟩ <;> rcases m with ⟨m1, m2, m3, m4, m5⟩ | ⟨i, i3, m1, m2, m3, m4, m5⟩
  · exact fg_k r.2 h (by omega) (fun c hc => (c2 c (by omega)).1 ▸ rfl) (fun c hc => (c2 c (by omega)).1 ▸ rfl) (fun p _ => by rw [m2]) (fun p _ _ => by rw [m2]) m4
  · omega
  · omega
  · have ij : i = j := by omega
    subst ij
    refine ⟨gw_x h.1 (by omega) (fun x k hx _ _ => by rw [(c2.1 (24 + 0 + x) (by omega) (by omega)).1]) (fun p hp => m4.2 p (by omega)), fun j hj => ?_⟩
    by_cases z : j = i
    · subst z
      refine gw_x h.1 (by omega) (fun x k hx k1 k2 => ?_) (fun k hk => ?_)
      · have w := c2.2.1 x k (by omega) (by omega) k1 k2
        rw [show 24 + (54 + 27 * j) + x = 78 + 27 * j + x by omega]
        exact w
      · have w := m4.1 k (by omega)
        rw [show 480 * 0 + k = k by omega] at w
        exact w
    · exact gw_x (h.2 j (by omega)) (by omega) (fun x k hx _ _ => by rw [(c2.1 (24 + (54 + 27 * j) + x) (by omega) (by omega)).1]) (fun k hk => m4.2 _ (by omega))
theorem fg_back {s t s' t' : Sg} {K : Int} (r : 0 ≤ (t.1 0 35).toInt ∧ (t.1 0 35).toInt ≤ 3) (h : FgR K s t) (e14 : s.1 0 14 = t.1 0 35) (c : BcW s s') (m : BmW t t') : FgR K s' t' := by
  rw [BcW, e14] at c
  rcases c with ⟨c1, c2⟩ | ⟨j, j3, c1, c2⟩ <;> rcases m with ⟨m1, m2, m3, m4, m5⟩ | ⟨i, i3, m1, m2, m3, m4, m5⟩
  · exact fg_k r.2 h (by omega) (fun c hc => (c2 c (by omega)).1 ▸ rfl) (fun c hc => (c2 c (by omega)).1 ▸ rfl) (fun p _ => by rw [m2]) (fun p _ _ => by rw [m2]) m4
  · omega
  · omega
  · have ij : i = j := by omega
    subst ij
    refine ⟨gw_x (h.2 i (by omega)) (by omega) (fun x k hx k1 k2 => ?_) (fun k hk => ?_), fun j hj => ?_⟩
    · have w := c2.2.1 x k (by omega) (by omega) k1 k2
      rw [show 24 + (54 + 27 * i) + x = 78 + 27 * i + x by omega]
      exact w
    · have w := m4.1 k (by omega)
      rw [show 480 * 0 + k = k by omega] at w
      exact w
    · exact gw_x (h.2 j (by omega)) (by omega) (fun x k hx _ _ => by rw [(c2.1 (24 + (54 + 27 * j) + x) (by omega) (by omega)).1]) (fun k hk => m4.2 _ (by omega))
/-! from the frames of both sides -/
abbrev MGW : Nat := 730394077518349360018054694594215900549272829952
abbrev MGQ : Nat := 730394077518349360018054694594213649848769445888
abbrev MGD : Nat := 730394077518349360018054694594215866464345260032
abbrev MGX : Nat := 3802951810128304277521812160514
abbrev MGY : Nat := 3802951800684724233287128580096
abbrev MGE : Nat := 2535301200456494831790425374720
set_option maxRecDepth 20000 in
theorem mgw_b : ∀ c, c < 160 → (c = 26 ∨ c = 27 ∨ (40 ≤ c ∧ c ≤ 50)) → MGW.testBit c = true := by decide +kernel
set_option maxRecDepth 20000 in
theorem mgx_b : ∀ c, c < 160 → ((c = 80 ∨ c = 81 ∨ (94 ≤ c ∧ c ≤ 104)) ∨ (c = 107 ∨ c = 108 ∨ (121 ≤ c ∧ c ≤ 131)) ∨ (c = 134 ∨ c = 135 ∨ (148 ≤ c ∧ c ≤ 158))) → MGW.testBit c = true ∧ MGQ.testBit c = true ∧ MGD.testBit c = true := by decide +kernel
set_option maxRecDepth 20000 in
theorem mgd_b : ∀ c, c < 160 → (c = 27 ∨ (45 ≤ c ∧ c ≤ 50)) → MGD.testBit c = true := by decide +kernel
theorem gc_f {L : Nat} {s s' : Sg} (f : Fr cC L s s') {c : Nat} (h : c < 160 ∧ 10 ≤ c ∧ ¬ c = 52 ∧ ¬ c = 54) (b : L.testBit c = false) : s'.1 c = s.1 c := funext fun k => (f c k (by
  rw [cC_id c k (by omega) (by omega) (by omega) h.2.2.1 h.2.2.2]
  exact b)).1
theorem gkc_f {L : Nat} {s s' : Sg} (f : Fr cC L s s') (e : L &&& MGW = 0) : GkC s s' ∧ GmC s s' := ⟨fun c hc => gc_f f (by omega) (and_b e (mgw_b c (by omega) hc)), fun c hc => gc_f f (by omega) (and_b e (mgx_b c (by omega) hc).1)⟩
theorem gmc_q {L : Nat} {s s' : Sg} (f : Fr cC L s s') (e : L &&& MGQ = 0) : GmC s s' := fun c hc => gc_f f (by omega) (and_b e (mgx_b c (by omega) hc).2.1)
theorem gmc_d {L : Nat} {s s' : Sg} (f : Fr cC L s s') (e : L &&& MGD = 0) : GmC s s' ∧ ∀ c, (c = 27 ∨ (45 ≤ c ∧ c ≤ 50)) → s'.1 c = s.1 c := ⟨fun c hc => gc_f f (by omega) (and_b e (mgx_b c (by omega) hc).2.2), fun c hc => gc_f f (by omega) (and_b e (mgd_b c (by omega) hc))⟩
theorem cd_ro {p : Nat} (h : 110 ≤ p) (h2 : p < 480) : cdM 1 p = 100 := by rw [cdM_x, if_neg (by omega), if_neg (by omega), if_pos h2]
theorem mgx_l : ∀ p, p < 13 → MGX.testBit (60 + p) = true := by decide
theorem gm_lo {L : Nat} {t t' : Sg} (f : Fr cdM L t t') (e : L &&& MGX = 0) : ∀ p, p < 110 → t'.1 1 p = t.1 1 p := fun p hp => by
  by_cases z : p < 13
  · exact fr_e f 1 p (60 + p) (cd_lo z) (and_b e (mgx_l p z))
  · exact fr_e f 1 p 1 (cd_mi (by omega) hp) (and_b e (by decide))
theorem mgy_x {L : Nat} (e : L &&& MGX = 0) : L.testBit 100 = false ∧ L.testBit 101 = false ∧ L.testBit 55 = false := ⟨and_b e (by decide), and_b e (by decide), and_b e (by decide)⟩
theorem mgy_y {L : Nat} (e : L &&& MGY = 0) : L.testBit 100 = false ∧ L.testBit 101 = false ∧ L.testBit 55 = false := ⟨and_b e (by decide), and_b e (by decide), and_b e (by decide)⟩
theorem fg_m {s t s' t' : Sg} {K K' : Int} {L : Nat} (r : (t.1 0 35).toInt ≤ 3) (F : FgR K s t) (hK : K ≤ K') (c : GkC s s' ∧ GmC s s') (lo : ∀ p, p < 110 → t'.1 1 p = t.1 1 p) (f : Fr cdM L t t') (e : L.testBit 100 = false ∧ L.testBit 101 = false ∧ L.testBit 55 = false) : FgR K' s' t' := fg_k r F hK c.1 c.2 (fun p hp => by
  by_cases z : p < 110
  · exact lo p z
  · exact fr_e f 1 p 100 (cd_ro (by omega) hp) e.1) (fun p h1 h2 => fr_e f 1 p 101 (cd_mk h1 h2) e.2.1) (fr_e f 0 35 55 rfl e.2.2)
theorem fg_f {s t s' t' : Sg} {K K' : Int} {L L2 : Nat} (r : (t.1 0 35).toInt ≤ 3) (F : FgR K s t) (hK : K ≤ K') (fc : Fr cC L s s') (ec : L &&& MGW = 0) (f : Fr cdM L2 t t') (e : L2 &&& MGX = 0) : FgR K' s' t' := fg_m r F hK (gkc_f fc ec) (gm_lo f e) f (mgy_x e)
theorem fg_s {s t s' t' : Sg} {K K' : Int} {L L2 : Nat} (r : (t.1 0 35).toInt ≤ 3) (F : FgR K s t) (hK : K ≤ K') (fc : Fr cC L s s') (ec : L &&& MGW = 0) (lo : ∀ p, p < 110 → t'.1 1 p = t.1 1 p) (f : Fr cdM L2 t t') (e : L2 &&& MGY = 0) : FgR K' s' t' := fg_m r F hK (gkc_f fc ec) lo f (mgy_y e)
theorem now_of {s t : Sg} {K : Int} (W : WmR s t) (F : FgR K s t) : NowG 0 s t := ⟨⟨W.1.1.1, F.1.1.1.1, F.1.1.1.2⟩, ⟨F.1.1.2.2.1, W.1.2⟩, W.1.1.2.1, F.1.1.2.2.2.1⟩
theorem dye_of {s t : Sg} {K : Int} (F : FgR K s t) : DyE s t := F.1.1.2.1
theorem gn_of {s t : Sg} {K : Int} (F : FgR K s t) : GnR (t.1 1) K := F.1.1.2.2.2.2
theorem prg_o {s t : Sg} {K : Int} (F : FgR K s t) : PrgR s (t.1 1) := F.1.2
theorem grx_an {s t : Sg} {K : Int} (H : NowG 0 s t) (D : DyE s t) (G : GnR (t.1 1) K) : GrX 0 s (t.1 1) K := ⟨⟨H.1.2.1, H.1.2.2⟩, D, H.2.1.1, H.2.2.2, G⟩
theorem fg_do {s t s' t' : Sg} {K K' : Int} {L L2 : Nat} (r : (t.1 0 35).toInt ≤ 3) (F : FgR K s t) (hK : K ≤ K') (fc : Fr cC L s s') (ec : L &&& MGD = 0) (f : Fr cdM L2 t t') (e : L2 &&& MGE = 0) (pk : PK t t') (H : NowG 0 s' t') (D : DyE s' t') (G : GnR (t'.1 1) K') : FgR K' s' t' := by
  have c := gmc_d fc ec
  exact ⟨⟨grx_an H D G, prw_x F.1.2 (fun i k hi _ _ => by rw [c.2 (24 + 0 + i) (by omega)]) (fun p hp => pk.1 p (hp.imp (fun z => z.1) id))⟩, mg_k r F.2 hK c.1 (fun p h1 h2 => fr_e f 1 p 101 (cd_mk h1 h2) (and_b e (by decide))) (fr_e f 0 35 55 rfl (and_b e (by decide)))⟩
theorem fg_street {s t s' t' : Sg} {K K' : Int} {L : Nat} (r : (t.1 0 35).toInt ≤ 3) (F : FgR K s t) (hK : K ≤ K') (h9 : 9999 ≤ K') (fc : Fr cC L s s') (hL : L &&& MGQ = 0) (kc : KpC0 s s') (km : KpM0 t t') (m1 : ∀ p, 480 ≤ p → p < 1920 → t'.1 1 p = t.1 1 p) (m35 : t'.1 0 35 = t.1 0 35) (es : s'.1 0 15 = t'.1 0 2) (fr : s'.1 0 15 = 0 → FreshP s' t') (th : s'.1 0 15 = 0 → s'.1 27 6 = 0) (gs : s'.1 0 15 = 0 → ∀ k, k < 8 → (0 ≤ (s'.1 40 k).toInt ∧ (s'.1 40 k).toInt ≤ 999) ∧ (0 ≤ (s'.1 41 k).toInt ∧ (s'.1 41 k).toInt ≤ 999) ∧ s'.1 42 k = 0) : FgR K' s' t' := by
  refine ⟨?_, mg_k r F.2 hK (gmc_q fc hL) m1 m35⟩
  by_cases z : s'.1 0 15 = 0
  · have f := fr z
    have g := gs z
    have e0 : (0 : Int32).toInt = 0 := rfl
    refine ⟨⟨⟨f.1.1.2.1, f.1.1.2.2⟩, ⟨f.2.1.1, by rw [f.2.1.2, e0]; decide, by rw [f.2.1.2, e0]; decide⟩, f.1.2.1, f.1.2.2.2, fun h hh => ?_⟩, Or.inl ⟨th z, f.2.2.2⟩⟩
    have G := f.1.1.2.1
    have w := g h hh
    rw [G 40 h _ (Or.inl ⟨hh, Or.inl ⟨rfl, rfl⟩⟩), G 41 h _ (Or.inl ⟨hh, Or.inr (Or.inl ⟨rfl, rfl⟩)⟩), G 42 h _ (Or.inl ⟨hh, Or.inr (Or.inr (Or.inl ⟨rfl, rfl⟩))⟩)] at w
    rw [w.2.2, e0]
    omega
  · have c := kc.elim (fun y => absurd y z) id
    have m := km.elim (fun y => absurd (es.trans y) z) id
    exact gw_k F.1 hK (fun c' hc => (c c' (by omega)).1) (fun p hp => m.1 p (by omega))
abbrev MGU : Nat := 730394077518349360018054694594213683933697015808
abbrev MGV : Nat := 2535301207538891634590286348290
set_option maxRecDepth 20000 in
theorem mgu_b : ∀ c, c < 160 → ((c = 26 ∨ (40 ≤ c ∧ c ≤ 44)) ∨ ((c = 80 ∨ c = 81 ∨ (94 ≤ c ∧ c ≤ 104)) ∨ (c = 107 ∨ c = 108 ∨ (121 ≤ c ∧ c ≤ 131)) ∨ (c = 134 ∨ c = 135 ∨ (148 ≤ c ∧ c ≤ 158)))) → MGU.testBit c = true := by decide +kernel
theorem mgv_l : ∀ p, p < 13 → ¬ p = 11 → MGV.testBit (60 + p) = true := by decide
/-- the ground of a street looks at no place 11 -/
theorem grx_11 {o : Nat} {s s' : Sg} {M M' : Nat → Int32} {K K' : Int} (h : GrX o s M K) (hK : K ≤ K') (hs : ∀ c, (c = 26 + o ∨ (40 + o ≤ c ∧ c ≤ 44 + o)) → s'.1 c = s.1 c) (hM : ∀ p, p < 110 → ¬ p = 11 → M' p = M p) : GrX o s' M' K' := by
  obtain ⟨M2, hM2⟩ : ∃ f : Nat → Int32, ∀ p, f p = if p = 11 then M 11 else M' p := ⟨_, fun _ => rfl⟩
  have y : GrX o s' M2 K' := grx_x h hK (fun i k hi _ _ => by rw [hs (24 + o + i) (by omega)]) (fun p hp => by
    rw [hM2]
    by_cases z : p = 11
    · rw [if_pos z, z]
    · rw [if_neg z]; exact hM p hp z)
  obtain ⟨⟨h1, h2, h3, h4⟩, ⟨h5, h6, h7⟩, h8, h9, h10⟩ := y
  have e : ∀ p, ¬ p = 11 → M2 p = M' p := fun p hp => (hM2 p).trans (if_neg hp)
  refine ⟨⟨fun c k p g => (h1 c k p g).trans (e p (by unfold Gp at g; omega)), fun q hq => ?_, fun q hq hQ => ?_, fun i hi => ?_⟩, ⟨h5.trans (e 4 (by decide)), ?_, ?_⟩, ?_, fun x hx hb => ?_, fun x hx => ?_⟩
  · have w := h2 q hq
    rw [e _ (by omega)] at w
    exact w
  · have w := h3 q hq (by rw [e 1 (by decide)]; exact hQ)
    rw [e _ (by omega)] at w
    exact w
  · rw [h4 i hi, e _ (by omega)]
  · rw [e 4 (by decide)] at h6
    exact h6
  · rw [e 4 (by decide)] at h7
    exact h7
  · rw [e 10 (by decide)] at h8
    exact h8
  · have w := h9 x hx (by rw [e 9 (by decide)]; exact hb)
    rw [e _ (by omega), e _ (by omega), e _ (by omega)] at w
    exact w
  · have w := h10 x hx
    rw [e _ (by omega), e _ (by omega), e _ (by omega)] at w
    exact w
theorem fg_days {s t s' t' : Sg} {K K' : Int} {L L2 : Nat} (r : (t.1 0 35).toInt ≤ 3) (F : FgR K s t) (hK : K ≤ K') (fc : Fr cC L s s') (hL : L &&& MGU = 0) (f : Fr cdM L2 t t') (e : L2 &&& MGV = 0) (P : PrgR s' (t'.1 1)) : FgR K' s' t' := by
  have lo : ∀ p, p < 110 → ¬ p = 11 → t'.1 1 p = t.1 1 p := fun p hp h11 => by
    by_cases z : p < 13
    · exact fr_e f 1 p (60 + p) (cd_lo z) (and_b e (mgv_l p z h11))
    · exact fr_e f 1 p 1 (cd_mi (by omega) hp) (and_b e (by decide))
  exact ⟨⟨grx_11 F.1.1 hK (fun c hc => gc_f fc (by omega) (and_b hL (mgu_b c (by omega) (Or.inl (by omega))))) lo, P⟩, mg_k r F.2 hK (fun c hc => gc_f fc (by omega) (and_b hL (mgu_b c (by omega) (Or.inr hc)))) (fun p h1 h2 => fr_e f 1 p 101 (cd_mk h1 h2) (and_b e (by decide))) (fr_e f 0 35 55 rfl (and_b e (by decide)))⟩
/-! the tallies of the life lived latest -/
def LvS (s t : Sg) : Prop := s.1 4 1 = t.1 0 34 ∧ (t.1 0 34 = 0 ∨ (t.1 0 34 = 1 ∧ s.1 4 4 = t.1 12 0 ∧ s.1 4 5 = t.1 12 1 ∧ s.1 4 6 = t.1 12 2 ∧ s.1 4 7 = t.1 12 3 ∧ s.1 4 8 = t.1 12 4))
theorem lvs_x {s t s' t' : Sg} (h : LvS s t) (c4 : s'.1 4 = s.1 4) (c12 : t'.1 12 = t.1 12) (c34 : t'.1 0 34 = t.1 0 34) : LvS s' t' := by
  unfold LvS
  rw [c4, c12, c34]
  exact h
theorem lvs_f {s t s' t' : Sg} {L L2 : Nat} (h : LvS s t) (f : Fr cC L s s') (a : L.testBit 4 = false) (g : Fr cdM L2 t t') (b : L2.testBit 12 = false) (c : L2.testBit 54 = false) : LvS s' t' := lvs_x h (funext fun k => fr_e f 4 k 4 rfl a) (funext fun k => fr_e g 12 k 12 rfl b) (fr_e g 0 34 54 rfl c)
theorem lvs_t {s t s' t' : Sg} (h : LvS s t) (k : LvT s t s' t') : LvS s' t' := by
  rcases k with ⟨k1, k2, k3⟩ | ⟨k1, k2, k3⟩
  · exact lvs_x h k1 k2 k3
  · exact ⟨k1.trans k2.symm, Or.inr ⟨k2, k3⟩⟩
