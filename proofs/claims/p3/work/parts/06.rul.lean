def Mono (cl : Ct) : Prop := ∀ j as s (Q Q' : Qt), (∀ v s, Q v s → Q' v s) → cl j as s Q → cl j as s Q'
section MON
theorem k1_mono {st : List Value} {f g : Int32 → List Value → Prop} (h : ∀ x r, f x r → g x r) (k : k1 st f) : k1 st g := by
  unfold k1 at k ⊢; split at k
  · exact h _ _ k
  · exact k.elim
theorem k2_mono {st : List Value} {f g : Int32 → Int32 → List Value → Prop} (h : ∀ x y r, f x y r → g x y r) (k : k2 st f) : k2 st g := by
  unfold k2 at k ⊢; split at k
  · exact h _ _ _ k
  · exact k.elim
theorem kl1_mono {st : List Value} {f g : Int64 → List Value → Prop} (h : ∀ x r, f x r → g x r) (k : kl1 st f) : kl1 st g := by
  unfold kl1 at k ⊢; split at k
  · exact h _ _ k
  · exact k.elim
theorem kl2_mono {st : List Value} {f g : Int64 → Int64 → List Value → Prop} (h : ∀ x y r, f x y r → g x y r) (k : kl2 st f) : kl2 st g := by
  unfold kl2 at k ⊢; split at k
  · exact h _ _ _ k
  · exact k.elim
theorem kil_mono {st : List Value} {f g : Int64 → Int32 → List Value → Prop} (h : ∀ x y r, f x y r → g x y r) (k : kil st f) : kil st g := by
  unfold kil at k ⊢; split at k
  · exact h _ _ _ k
  · exact k.elim
theorem kr_mono {st : List Value} {f g : Nat → List Value → Prop} (h : ∀ x r, f x r → g x r) (k : kr st f) : kr st g := by
  unfold kr at k ⊢; split at k
  · exact h _ _ k
  · exact k.elim
theorem kri_mono {st : List Value} {f g : Nat → Int32 → List Value → Prop} (h : ∀ x y r, f x y r → g x y r) (k : kri st f) : kri st g := by
  unfold kri at k ⊢; split at k
  · exact h _ _ _ k
  · exact k.elim
theorem kir_mono {st : List Value} {f g : Nat → Int32 → List Value → Prop} (h : ∀ x y r, f x y r → g x y r) (k : kir st f) : kir st g := by
  unfold kir at k ⊢; split at k
  · exact h _ _ _ k
  · exact k.elim
theorem klr_mono {st : List Value} {f g : Nat → Int64 → List Value → Prop} (h : ∀ x y r, f x y r → g x y r) (k : klr st f) : klr st g := by
  unfold klr at k ⊢; split at k
  · exact h _ _ _ k
  · exact k.elim
theorem krii_mono {st : List Value} {f g : Nat → Int32 → Int32 → List Value → Prop} (h : ∀ x y z r, f x y z r → g x y z r) (k : krii st f) : krii st g := by
  unfold krii at k ⊢; split at k
  · exact h _ _ _ _ k
  · exact k.elim
theorem kril_mono {st : List Value} {f g : Nat → Int32 → Int64 → List Value → Prop} (h : ∀ x y z r, f x y z r → g x y z r) (k : kril st f) : kril st g := by
  unfold kril at k ⊢; split at k
  · exact h _ _ _ _ k
  · exact k.elim
theorem kc1_mono {st : List Value} {f g : Value → List Value → Prop} (h : ∀ x r, f x r → g x r) (k : kc1 st f) : kc1 st g := by
  unfold kc1 at k ⊢; split at k
  · exact h _ _ k
  · exact h _ _ k
  · exact k.elim
theorem kcp_mono {st : List Value} {f g : Int32 → Int32 → Nat → Int32 → Nat → List Value → Prop} (h : ∀ a b c d e r, f a b c d e r → g a b c d e r) (k : kcp st f) : kcp st g := by
  unfold kcp at k ⊢; split at k
  · exact h _ _ _ _ _ _ k
  · exact k.elim
theorem ki_mono {o : Option Value} {f g : Int32 → Prop} (h : ∀ x, f x → g x) (k : ki o f) : ki o g := by
  unfold ki at k ⊢; split at k
  · exact h _ k
  · exact k.elim
theorem kl_mono {o : Option Value} {f g : Int64 → Prop} (h : ∀ x, f x → g x) (k : kl o f) : kl o g := by
  unfold kl at k ⊢; split at k
  · exact h _ k
  · exact k.elim
theorem ka_mono {o : Option Value} {f g : Nat → Prop} (h : ∀ x, f x → g x) (k : ka o f) : ka o g := by
  unfold ka at k ⊢; split at k
  · exact h _ k
  · exact k.elim
theorem br_mono {c a b a' b' : Prop} (ha : a → a') (hb : b → b') (k : br c a b) : br c a' b' := ⟨fun h => ha (k.1 h), fun h => hb (k.2 h)⟩
theorem cd0_mono {c : Jvm.ClassFile.Cond} {x : Int32} {a b a' b' : Prop} (ha : a → a') (hb : b → b') (k : cd0 c x a b) : cd0 c x a' b' := by
  cases c <;> first | exact br_mono ha hb k | exact br_mono hb ha k
theorem cd2_mono {c : Jvm.ClassFile.Cond} {x y : Int32} {a b a' b' : Prop} (ha : a → a') (hb : b → b') (k : cd2 c x y a b) : cd2 c x y a' b' := by
  cases c <;> first | exact br_mono ha hb k | exact br_mono hb ha k
theorem kon_mono {b : Bool} {a a' : Prop} (h : a → a') (k : kon b a) : kon b a' := by
  cases b
  · exact k
  · exact h k
theorem kf_mono {SH : List Shp} {o ci k : Nat} {f g : Nat × Nat → Prop} (h : ∀ q, f q → g q) (w : kf SH o ci k f) : kf SH o ci k g := by
  unfold kf at w ⊢
  split at w
  · refine kon_mono (fun w => ?_) w
    split at w
    · exact h _ w
    · exact w
  · exact w
theorem kar_mono {SH : List Shp} {o t : Nat} {f g : Nat → Prop} (h : ∀ q, f q → g q) (w : kar SH o t f) : kar SH o t g := by
  unfold kar at w ⊢
  split at w
  · exact kon_mono (h _) w
  · exact w
theorem karr_mono {SH : List Shp} {o : Nat} {f g : Nat → List Nat → Prop} (h : ∀ q r, f q r → g q r) (w : karr SH o f) : karr SH o g := by
  unfold karr at w ⊢
  split at w
  · exact kon_mono (h _ _) w
  · exact w
theorem kal_mono {SH : List Shp} {o : Nat} {f g : Nat → Prop} (h : ∀ q, f q → g q) (w : kal SH o f) : kal SH o g := by
  unfold kal at w ⊢
  split at w
  · exact kon_mono (h _) w
  · exact w
theorem alls_mono {f g : Nat → Prop} (h : ∀ q, f q → g q) : ∀ (ids : List Nat) (k : Nat) (i : Int32), alls ids k i f → alls ids k i g
  | [], _, _, _ => trivial
  | _ :: r, k, i, w => ⟨fun e => h _ (w.1 e), alls_mono h r (k + 1) i w.2⟩
theorem sw_mono {f g : Nat → Prop} (h : ∀ q, f q → g q) : ∀ (l : List (Int32 × Nat)) (d : Nat) (x : Int32), sw l d x f → sw l d x g
  | [], _, _, w => h _ w
  | _ :: r, d, x, w => ⟨fun e => h _ (w.1 e), fun e => sw_mono h r d x (w.2 e)⟩
end MON
set_option maxHeartbeats 4000000 in
theorem sti_mono {SH : List Shp} {cl : Ct} {rt : Option FieldType} {Q Q' : Qt} {X X' : Xt} (hc : Mono cl) (hX : ∀ pc lv st s, X pc lv st s → X' pc lv st s) (hQ : ∀ v s, Q v s → Q' v s) {pc : Nat} {lv : Lv} {st : List Value} {s : Sg} {ins : Instr} {ax : List Nat} {z : Int32} {zl : Int64}
    (h : sti SH cl rt Q X pc lv st s ins ax z zl) : sti SH cl rt Q' X' pc lv st s ins ax z zl := by
  cases ins with
  | iconst => exact hX _ _ _ _ h
  | bipush => exact hX _ _ _ _ h
  | sipush => exact hX _ _ _ _ h
  | lconst => exact hX _ _ _ _ h
  | ldc =>
    simp only [sti] at h ⊢
    split at h
    · exact hX _ _ _ _ h
    · exact hX _ _ _ _ h
    · exact h
  | ldc_w => exact hX _ _ _ _ h
  | ldc2_w => exact hX _ _ _ _ h
  | iload_n => exact ki_mono (fun _ => hX _ _ _ _) h
  | iload => exact ki_mono (fun _ => hX _ _ _ _) h
  | lload_n => exact kl_mono (fun _ => hX _ _ _ _) h
  | lload => exact kl_mono (fun _ => hX _ _ _ _) h
  | aload_n => exact ka_mono (fun _ => hX _ _ _ _) h
  | aload => exact ka_mono (fun _ => hX _ _ _ _) h
  | istore_n => exact k1_mono (fun _ _ => hX _ _ _ _) h
  | istore => exact k1_mono (fun _ _ => hX _ _ _ _) h
  | lstore_n => exact kl1_mono (fun _ _ => hX _ _ _ _) h
  | lstore => exact kl1_mono (fun _ _ => hX _ _ _ _) h
  | astore_n => exact kr_mono (fun _ _ => hX _ _ _ _) h
  | astore => exact kr_mono (fun _ _ => hX _ _ _ _) h
  | iinc => exact ki_mono (fun _ => hX _ _ _ _) h
  | iadd => exact k2_mono (fun _ _ _ => hX _ _ _ _) h
  | isub => exact k2_mono (fun _ _ _ => hX _ _ _ _) h
  | imul => exact k2_mono (fun _ _ _ => hX _ _ _ _) h
  | iand => exact k2_mono (fun _ _ _ => hX _ _ _ _) h
  | ior => exact k2_mono (fun _ _ _ => hX _ _ _ _) h
  | ixor => exact k2_mono (fun _ _ _ => hX _ _ _ _) h
  | idiv => exact k2_mono (fun _ _ _ w => ⟨w.1, hX _ _ _ _ w.2⟩) h
  | irem => exact k2_mono (fun _ _ _ w => ⟨w.1, hX _ _ _ _ w.2⟩) h
  | ishl => exact k2_mono (fun _ _ _ => hX _ _ _ _) h
  | ishr => exact k2_mono (fun _ _ _ => hX _ _ _ _) h
  | iushr => exact k2_mono (fun _ _ _ => hX _ _ _ _) h
  | ladd => exact kl2_mono (fun _ _ _ => hX _ _ _ _) h
  | lsub => exact kl2_mono (fun _ _ _ => hX _ _ _ _) h
  | lmul => exact kl2_mono (fun _ _ _ => hX _ _ _ _) h
  | land => exact kl2_mono (fun _ _ _ => hX _ _ _ _) h
  | lor => exact kl2_mono (fun _ _ _ => hX _ _ _ _) h
  | ldiv => exact kl2_mono (fun _ _ _ w => ⟨w.1, hX _ _ _ _ w.2⟩) h
  | lrem => exact kl2_mono (fun _ _ _ w => ⟨w.1, hX _ _ _ _ w.2⟩) h
  | lshl => exact kil_mono (fun _ _ _ => hX _ _ _ _) h
  | lcmp => exact kl2_mono (fun _ _ _ => hX _ _ _ _) h
  | i2l => exact k1_mono (fun _ _ => hX _ _ _ _) h
  | l2i => exact kl1_mono (fun _ _ => hX _ _ _ _) h
  | i2b => exact k1_mono (fun _ _ => hX _ _ _ _) h
  | i2s => exact k1_mono (fun _ _ => hX _ _ _ _) h
  | dup =>
    simp only [sti] at h ⊢
    exact kc1_mono (fun _ _ w => hX _ _ _ _ w) h
  | dup2 => exact kri_mono (fun _ _ _ => hX _ _ _ _) h
  | pop =>
    simp only [sti] at h ⊢
    exact kc1_mono (fun _ _ w => hX _ _ _ _ w) h
  | pop2 => exact kl1_mono (fun _ _ => hX _ _ _ _) h
  | goto =>
    simp only [sti] at h ⊢
    split at h
    · exact hX _ _ _ _ h
    · exact h
  | ifCond =>
    simp only [sti] at h ⊢
    split at h
    · exact k1_mono (fun _ _ => cd0_mono (hX _ _ _ _) (hX _ _ _ _)) h
    · exact h
  | if_icmp =>
    simp only [sti] at h ⊢
    split at h
    · exact k2_mono (fun _ _ _ => cd2_mono (hX _ _ _ _) (hX _ _ _ _)) h
    · exact h
  | tableswitch => exact k1_mono (fun _ _ => sw_mono (fun _ => hX _ _ _ _) _ _ _) h
  | lookupswitch => exact k1_mono (fun _ _ => sw_mono (fun _ => hX _ _ _ _) _ _ _) h
  | getfield =>
    simp only [sti] at h ⊢
    split at h
    · exact kr_mono (fun _ _ => kf_mono (fun _ => hX _ _ _ _)) h
    · exact h
  | putfield =>
    simp only [sti] at h ⊢
    split at h
    · exact klr_mono (fun _ _ _ => kf_mono (fun _ => kon_mono (hX _ _ _ _))) h
    · exact kir_mono (fun _ _ _ => kf_mono (fun _ => kon_mono (hX _ _ _ _))) h
    · exact kir_mono (fun _ _ _ => kf_mono (fun _ => kon_mono (fun w => ⟨w.1, hX _ _ _ _ w.2⟩))) h
    · exact h
  | iaload => exact kri_mono (fun _ _ _ => kar_mono (fun _ w => ⟨w.1, hX _ _ _ _ w.2⟩)) h
  | baload => exact kri_mono (fun _ _ _ => kar_mono (fun _ w => ⟨w.1, hX _ _ _ _ w.2⟩)) h
  | laload => exact kri_mono (fun _ _ _ => kar_mono (fun _ w => ⟨w.1, hX _ _ _ _ w.2⟩)) h
  | aaload => exact kri_mono (fun _ _ _ => karr_mono (fun _ _ w => ⟨w.1, alls_mono (fun _ => hX _ _ _ _) _ _ _ w.2⟩)) h
  | iastore => exact krii_mono (fun _ _ _ _ => kar_mono (fun _ w => ⟨w.1, hX _ _ _ _ w.2⟩)) h
  | bastore => exact krii_mono (fun _ _ _ _ => kar_mono (fun _ w => ⟨w.1, hX _ _ _ _ w.2⟩)) h
  | lastore => exact kril_mono (fun _ _ _ _ => kar_mono (fun _ w => ⟨w.1, hX _ _ _ _ w.2⟩)) h
  | arraylength => exact kr_mono (fun _ _ => kal_mono (fun _ => hX _ _ _ _)) h
  | invokestatic =>
    simp only [sti] at h ⊢
    split at h
    · exact kon_mono (fun w => ⟨w.1, hc _ _ _ _ _ (fun _ _ => hX _ _ _ _) w.2⟩) h
    · exact k2_mono (fun _ _ _ w => ⟨w.1, hX _ _ _ _ w.2⟩) h
    · exact k2_mono (fun _ _ _ w => ⟨w.1, hX _ _ _ _ w.2⟩) h
    · exact k1_mono (fun _ _ w => ⟨w.1, hX _ _ _ _ w.2⟩) h
    · exact kcp_mono (fun _ _ _ _ _ _ w => ⟨w.1, kar_mono (fun _ => kar_mono (fun _ w => ⟨w.1, hX _ _ _ _ w.2⟩)) w.2⟩) h
    · exact kcp_mono (fun _ _ _ _ _ _ w => ⟨w.1, kar_mono (fun _ => kar_mono (fun _ w => ⟨w.1, hX _ _ _ _ w.2⟩)) w.2⟩) h
    · exact h
  | invokevirtual =>
    simp only [sti] at h ⊢
    split at h
    · split at h
      · exact kon_mono (kf_mono (fun _ w => ⟨w.1, hc _ _ _ _ _ (fun _ _ => hX _ _ _ _) w.2⟩)) h
      · exact h
    · exact kr_mono (fun _ _ => kon_mono (fun w => ⟨w.1, hX _ _ _ _ w.2⟩)) h
    · exact kri_mono (fun _ _ _ => kon_mono (fun w => ⟨w.1, w.2.1, hX _ _ _ _ w.2.2⟩)) h
    · exact h
  | ireturn =>
    simp only [sti] at h ⊢
    split at h
    · exact ⟨h.1, hQ _ _ h.2⟩
    · exact h
  | lreturn =>
    simp only [sti] at h ⊢
    split at h
    · exact hQ _ _ h
    · exact h
  | areturn =>
    simp only [sti] at h ⊢
    split at h
    · exact hQ _ _ h
    · exact hQ _ _ h
    · exact h
  | return_ =>
    simp only [sti] at h ⊢
    split at h
    · exact hQ _ _ h
    · exact h
  | _ => exact h
theorem stp_mono {SH : List Shp} {cl : Ct} {cd : List Ent} {rt : Option FieldType} {Q Q' : Qt} {X X' : Xt} (hc : Mono cl) (hX : ∀ pc lv st s, X pc lv st s → X' pc lv st s) (hQ : ∀ v s, Q v s → Q' v s) {pc : Nat} {lv : Lv} {st : List Value} {s : Sg}
    (h : stp SH cl cd rt Q X pc lv st s) : stp SH cl cd rt Q' X' pc lv st s := by
  unfold stp at h ⊢
  split at h
  · exact sti_mono hc hX hQ h
  · exact h
theorem Wp.step {SH : List Shp} {cl : Ct} {cd : List Ent} {rt : Option FieldType} {Q : Qt} (hc : Mono cl) {pc : Nat} {lv : Lv} {st : List Value} {s : Sg} (h : stp SH cl cd rt Q (Wp SH cl cd rt Q) pc lv st s) : Wp SH cl cd rt Q pc lv st s :=
  fun X h1 h2 => h1 _ _ _ _ (stp_mono hc (fun _ _ _ _ w => w X h1 h2) (fun _ _ q => q) h)
theorem Wp.weak {SH : List Shp} {cl : Ct} {cd : List Ent} {rt : Option FieldType} {Q : Qt} {pc : Nat} {lv lv' : Lv} {st : List Value} {s : Sg} (ks : List Nat) (hl : lv_pick lv ks = lv') (h : Wp SH cl cd rt Q pc lv' st s) : Wp SH cl cd rt Q pc lv st s :=
  fun X h1 h2 => h2 _ _ ks _ _ (by rw [hl]; exact h X h1 h2)
theorem Wp.mono {SH : List Shp} {cl : Ct} {cd : List Ent} {rt : Option FieldType} {Q Q' : Qt} (hc : Mono cl) (hQ : ∀ v s, Q v s → Q' v s) {pc : Nat} {lv : Lv} {st : List Value} {s : Sg} (h : Wp SH cl cd rt Q pc lv st s) : Wp SH cl cd rt Q' pc lv st s :=
  h (Wp SH cl cd rt Q') (fun _ _ _ _ w => Wp.step hc (stp_mono hc (fun _ _ _ _ z => z) hQ w)) (fun _ _ ks _ _ w => Wp.weak ks rfl w)
theorem WpM_mono (SH : List Shp) (MT : List ME) : ∀ d, Mono (WpM SH MT d) := by
  intro d
  induction d with
  | zero => intro j as s Q Q' _ h; exact h
  | succ d ih =>
    intro j as s Q Q' hQ h
    unfold WpM at h ⊢
    split at h
    · exact kon_mono (Wp.mono ih hQ) h
    · exact h
def rn (SH : List Shp) (cl : Ct) (cd : List Ent) (rt : Option FieldType) (Q : Qt) (X : Xt) : Nat → Xt
  | 0 => X
  | n + 1 => stp SH cl cd rt Q (rn SH cl cd rt Q X n)
theorem Wp.run {SH : List Shp} {MT : List ME} {d : Nat} {cd : List Ent} {rt : Option FieldType} {Q : Qt} (n : Nat) {pc : Nat} {lv : Lv} {st : List Value} {s : Sg} (h : rn SH (WpM SH MT d) cd rt Q (Wp SH (WpM SH MT d) cd rt Q) n pc lv st s) : Wp SH (WpM SH MT d) cd rt Q pc lv st s := by
  induction n generalizing pc lv st s with
  | zero => exact h
  | succ n ih => exact Wp.step (WpM_mono SH MT d) (stp_mono (WpM_mono SH MT d) (fun _ _ _ _ w => ih w) (fun _ _ q => q) h)
theorem WpM.enter {SH : List Shp} {MT : List ME} {d j : Nat} {as : List Value} {s : Sg} {Q : Qt} (q : ME) (h : MT[j]? = some q) (hn : Nat.ble (lg_sl as).length q.2.2.1 = true) (w : Wp SH (WpM SH MT d) q.2.2.2.2.2 q.2.2.2.1 Q 0 (lv_args 0 as) [] s) : WpM SH MT (d + 1) j as s Q := by
  unfold WpM
  rw [h]
  show kon (Nat.ble (lg_sl as).length q.2.2.1) _
  rw [hn]
  exact w
/-! programs as functions: none where the machine would throw, or does not end in the turns given -/
def OQ {α : Type} (o : Option (α × Sg)) (Q : α → Sg → Prop) : Prop := match o with
  | some (r, s) => Q r s
  | none => False
def ck {α : Type} (c : Prop) [Decidable c] (k : Option α) : Option α := if c then k else none
def bd {α β : Type} (o : Option (α × Sg)) (k : α → Sg → Option (β × Sg)) : Option (β × Sg) := match o with
  | some (r, s) => k r s
  | none => none
theorem oq_ck {α : Type} {c : Prop} [Decidable c] {k : Option (α × Sg)} {Q : α → Sg → Prop} (h : OQ (ck c k) Q) : c ∧ OQ k Q := by
  unfold ck at h
  split at h
  · exact ⟨by assumption, h⟩
  · exact h.elim
theorem oq_t {α : Type} {c : Prop} [Decidable c] {a b : Option (α × Sg)} {Q : α → Sg → Prop} (hc : c) (h : OQ (if c then a else b) Q) : OQ a Q := by rw [if_pos hc] at h; exact h
theorem oq_f {α : Type} {c : Prop} [Decidable c] {a b : Option (α × Sg)} {Q : α → Sg → Prop} (hc : ¬ c) (h : OQ (if c then a else b) Q) : OQ b Q := by rw [if_neg hc] at h; exact h
theorem oq_bd {α β : Type} {o : Option (α × Sg)} {k : α → Sg → Option (β × Sg)} {Q : β → Sg → Prop} {P : α → Sg → Prop} (h : OQ (bd o k) Q) (hp : ∀ r s, OQ (k r s) Q → P r s) : OQ o P := by
  cases o with
  | none => exact h
  | some q => exact hp _ _ h
theorem OQ.mono {α : Type} {o : Option (α × Sg)} {P Q : α → Sg → Prop} (h : OQ o P) (hp : ∀ r s, P r s → Q r s) : OQ o Q := by
  cases o with
  | none => exact h
  | some q => exact hp _ _ h
theorem ck_t {α : Type} {c : Prop} [Decidable c] {k : Option α} (h : c) : ck c k = k := if_pos h
theorem bd_some {α β : Type} {r : α} {s : Sg} {k : α → Sg → Option (β × Sg)} : bd (some (r, s)) k = k r s := rfl
def BIG : Nat := 4294967296
