theorem h_X6_takeEnd_58 (a2 : Int32) (a3 : Int32) (a4 : Int32) {s : Sg} (hR : Rg rC s) (p_a2 : 0 ≤ a2.toInt ∧ a2.toInt ≤ 7) (p_a3 : (-1) ≤ a3.toInt ∧ a3.toInt ≤ (-1)) (p_a4 : 0 ≤ a4.toInt ∧ a4.toInt ≤ 0) (z_52_14 : 0 ≤ (s.1 52 14).toInt ∧ (s.1 52 14).toInt ≤ 7) : OQ (f_X6_takeEnd_58 a2 a3 a4 s) (fun r9 s9 => JC 1563145451683206635525513967693315367291402135003425931264 s s9 ∧ (0 ≤ r9.toInt ∧ r9.toInt ≤ 1) ∧ (r9 = 0 → (s.1 52 14).toInt ≤ 7) ∧ (¬ r9 = 0 → (s.1 52 14).toInt ≤ 7 ∧ 0 ≤ (s9.1 7 7).toInt ∧ (s9.1 7 7).toInt ≤ 7)) := by
  have hJ : JC 1563145451683206635525513967693315367291402135003425931264 s s := j_refl hR
  unfold f_X6_takeEnd_58
  refine oq_b (h_X7_findName_52 _ hJ.1 (by have f0 : (100 : Int32).toInt = 100 := rfl; omega)) (fun r1 s2 hs2 => ?_)
  have js2 : JC 1563145451683206635525513967693315367291402135003425931264 s s2 := j_call hJ hs2.1 rfl
  refine oq_if (fun c1 => ?_) (fun c1 => ?_)
  · exact ⟨js2, (by have f0 : (0 : Int32).toInt = 0 := rfl; omega), fun w9 => (by have f0 := z_52_14; have f1 := j_rd hJ 52 14 0 8 rfl; have f2 : (7 : Int32).toInt = 7 := rfl; omega), fun w9 => absurd rfl w9⟩
  · refine oq_if (fun c2 => ?_) (fun c2 => ?_)
    · exact False.elim (by have f0 := i_rg (s2.1 7 7); have f1 := p_a3; have f2 := i_rg a3; have f3 := (hs2.2.2.2 c1).1; have f4 := (hs2.2.2.2 c1).2; have f5 := i_eq c2; have f6 : (0 : Int32).toInt = 0 := rfl; have f7 : (7 : Int32).toInt = 7 := rfl; omega)
    · refine oq_b (h_X11_has _ _ js2.1 (by have f0 := i_rg (s2.1 7 7); have f1 := (hs2.2.2.2 c1).1; have f2 := (hs2.2.2.2 c1).2; have f3 := i_ne c2; have f4 : (0 : Int32).toInt = 0 := rfl; have f5 : (7 : Int32).toInt = 7 := rfl; have f6 := p_a3; have f7 := i_rg a3; omega)) (fun r5 s6 hs6 => ?_)
      have js6 : JC 1563145451683206635525513967693315367291402135003425931264 s s6 := j_call js2 hs6.1 rfl
      refine oq_if (fun c3 => ?_) (fun c3 => ?_)
      · refine oq_c (inr_of (by have f0 := p_a2; have f1 := i_rg a2; omega)) ?_
        refine oq_n (fun s8 es8 => ?_)
        have js8 : JC 1563145451683206635525513967693315367291402135003425931264 s s8 := by rw [es8]; exact (j_wr 0 7 js6 rfl 58 rfl rfl (by have f0 : (s6.1 7 7).toInt = (s2.1 7 7).toInt := j_fr hs6.1 7 7 187 rfl rfl; have f1 := i_rg (s6.1 7 7); have f2 := i_rg (s2.1 7 7); have f3 := (hs2.2.2.2 c1).1; have f4 := (hs2.2.2.2 c1).2; have f5 := i_ne c2; have f6 : (0 : Int32).toInt = 0 := rfl; have f7 : (7 : Int32).toInt = 7 := rfl; have f8 := p_a3; have f9 := i_rg a3; omega))
        refine oq_b (h_X7_advance  js8.1) (fun u4 s10 hs10 => ?_)
        have js10 : JC 1563145451683206635525513967693315367291402135003425931264 s s10 := j_call js8 hs10.1 rfl
        exact ⟨js10, (by have f0 : (1 : Int32).toInt = 1 := rfl; omega), fun w9 => absurd w9 (by decide), fun w9 => ⟨(by have f0 := z_52_14; have f1 := j_rd hJ 52 14 0 8 rfl; have f2 : (7 : Int32).toInt = 7 := rfl; omega), (by have f0 : (0 : Int32).toInt = 0 := rfl; have f1 : (s10.1 7 7).toInt = (s8.1 7 7).toInt := j_fr hs10.1 7 7 187 rfl rfl; have f2 := i_rg (s10.1 7 7); have f3 : (s8.1 7 7).toInt = (s6.1 7 7).toInt := (by rw [es8]; exact u_nc rfl); have f4 := i_rg (s8.1 7 7); have f5 : (s6.1 7 7).toInt = (s2.1 7 7).toInt := j_fr hs6.1 7 7 187 rfl rfl; have f6 := i_rg (s6.1 7 7); have f7 := i_rg (s2.1 7 7); have f8 := (hs2.2.2.2 c1).1; have f9 := (hs2.2.2.2 c1).2; have f10 := i_ne c2; have f11 : (7 : Int32).toInt = 7 := rfl; have f12 := p_a3; have f13 := i_rg a3; omega), (by have f0 : (s10.1 7 7).toInt = (s8.1 7 7).toInt := j_fr hs10.1 7 7 187 rfl rfl; have f1 := i_rg (s10.1 7 7); have f2 : (7 : Int32).toInt = 7 := rfl; have f3 : (s8.1 7 7).toInt = (s6.1 7 7).toInt := (by rw [es8]; exact u_nc rfl); have f4 := i_rg (s8.1 7 7); have f5 : (s6.1 7 7).toInt = (s2.1 7 7).toInt := j_fr hs6.1 7 7 187 rfl rfl; have f6 := i_rg (s6.1 7 7); have f7 := i_rg (s2.1 7 7); have f8 := (hs2.2.2.2 c1).1; have f9 := (hs2.2.2.2 c1).2; have f10 := i_ne c2; have f11 : (0 : Int32).toInt = 0 := rfl; have f12 := p_a3; have f13 := i_rg a3; omega)⟩⟩
      · refine oq_b (h_X7_wrong _ js6.1 (by have f0 : (5 : Int32).toInt = 5 := rfl; omega)) (fun r11 s12 hs12 => ?_)
        have js12 : JC 1563145451683206635525513967693315367291402135003425931264 s s12 := j_call js6 hs12.1 rfl
        refine oq_c (b01_of (by have f0 := hs12.2.1; have f1 := i_rg r11; omega)) ?_
        exact ⟨js12, (by have f0 := hs12.2.1; have f1 := i_rg r11; omega), fun w9 => (by have f0 := z_52_14; have f1 := j_rd hJ 52 14 0 8 rfl; have f2 : (7 : Int32).toInt = 7 := rfl; omega), fun w9 => False.elim (by have f0 := hs12.2.1; have f1 := i_rg r11; have f2 := i_ne w9; have f3 : (0 : Int32).toInt = 0 := rfl; omega)⟩
theorem h_X6_takeEnd_59 (a2 : Int32) (a3 : Int32) (a4 : Int32) {s : Sg} (hR : Rg rC s) (p_a2 : 0 ≤ a2.toInt ∧ a2.toInt ≤ 7) (p_a3 : 0 ≤ a3.toInt ∧ a3.toInt ≤ 7) (p_a4 : 0 ≤ a4.toInt ∧ a4.toInt ≤ 0) (z_52_14 : 0 ≤ (s.1 52 14).toInt ∧ (s.1 52 14).toInt ≤ 7) : OQ (f_X6_takeEnd_59 a2 a3 a4 s) (fun r9 s9 => JC 1563145451683206635525513967693315367291690365379577643008 s s9 ∧ (0 ≤ r9.toInt ∧ r9.toInt ≤ 1) ∧ (r9 = 0 → (s.1 52 14).toInt ≤ 7) ∧ (¬ r9 = 0 → (s.1 52 14).toInt ≤ 7 ∧ 0 ≤ (s9.1 7 7).toInt ∧ (s9.1 7 7).toInt ≤ 7)) := by
  have hJ : JC 1563145451683206635525513967693315367291690365379577643008 s s := j_refl hR
  unfold f_X6_takeEnd_59
  refine oq_b (h_X7_findName_52 _ hJ.1 (by have f0 : (100 : Int32).toInt = 100 := rfl; omega)) (fun r1 s2 hs2 => ?_)
  have js2 : JC 1563145451683206635525513967693315367291690365379577643008 s s2 := j_call hJ hs2.1 rfl
  refine oq_if (fun c1 => ?_) (fun c1 => ?_)
  · exact ⟨js2, (by have f0 : (0 : Int32).toInt = 0 := rfl; omega), fun w9 => (by have f0 := z_52_14; have f1 := j_rd hJ 52 14 0 8 rfl; have f2 : (7 : Int32).toInt = 7 := rfl; omega), fun w9 => absurd rfl w9⟩
  · refine oq_if (fun c2 => ?_) (fun c2 => ?_)
    · refine oq_b (h_X7_wrong _ js2.1 (by have f0 : (5 : Int32).toInt = 5 := rfl; omega)) (fun r3 s4 hs4 => ?_)
      have js4 : JC 1563145451683206635525513967693315367291690365379577643008 s s4 := j_call js2 hs4.1 rfl
      refine oq_c (b01_of (by have f0 := hs4.2.1; have f1 := i_rg r3; omega)) ?_
      exact ⟨js4, (by have f0 := hs4.2.1; have f1 := i_rg r3; omega), fun w9 => (by have f0 := z_52_14; have f1 := j_rd hJ 52 14 0 8 rfl; have f2 : (7 : Int32).toInt = 7 := rfl; omega), fun w9 => False.elim (by have f0 := hs4.2.1; have f1 := i_rg r3; have f2 := i_ne w9; have f3 : (0 : Int32).toInt = 0 := rfl; omega)⟩
    · refine oq_b (h_X11_has _ _ js2.1 (by have f0 := i_rg (s2.1 7 7); have f1 := (hs2.2.2.2 c1).1; have f2 := (hs2.2.2.2 c1).2; have f3 := i_ne c2; have f4 : (0 : Int32).toInt = 0 := rfl; have f5 : (7 : Int32).toInt = 7 := rfl; have f6 := p_a3; have f7 := i_rg a3; omega)) (fun r5 s6 hs6 => ?_)
      have js6 : JC 1563145451683206635525513967693315367291690365379577643008 s s6 := j_call js2 hs6.1 rfl
      refine oq_if (fun c3 => ?_) (fun c3 => ?_)
      · refine oq_c (inr_of (by have f0 := p_a2; have f1 := i_rg a2; omega)) ?_
        refine oq_n (fun s8 es8 => ?_)
        have js8 : JC 1563145451683206635525513967693315367291690365379577643008 s s8 := by rw [es8]; exact (j_wr 0 7 js6 rfl 59 rfl rfl (by have f0 : (s6.1 7 7).toInt = (s2.1 7 7).toInt := j_fr hs6.1 7 7 187 rfl rfl; have f1 := i_rg (s6.1 7 7); have f2 := i_rg (s2.1 7 7); have f3 := (hs2.2.2.2 c1).1; have f4 := (hs2.2.2.2 c1).2; have f5 := i_ne c2; have f6 : (0 : Int32).toInt = 0 := rfl; have f7 : (7 : Int32).toInt = 7 := rfl; have f8 := p_a3; have f9 := i_rg a3; omega))
        refine oq_b (h_X7_advance  js8.1) (fun u4 s10 hs10 => ?_)
        have js10 : JC 1563145451683206635525513967693315367291690365379577643008 s s10 := j_call js8 hs10.1 rfl
        exact ⟨js10, (by have f0 : (1 : Int32).toInt = 1 := rfl; omega), fun w9 => absurd w9 (by decide), fun w9 => ⟨(by have f0 := z_52_14; have f1 := j_rd hJ 52 14 0 8 rfl; have f2 : (7 : Int32).toInt = 7 := rfl; omega), (by have f0 : (0 : Int32).toInt = 0 := rfl; have f1 : (s10.1 7 7).toInt = (s8.1 7 7).toInt := j_fr hs10.1 7 7 187 rfl rfl; have f2 := i_rg (s10.1 7 7); have f3 : (s8.1 7 7).toInt = (s6.1 7 7).toInt := (by rw [es8]; exact u_nc rfl); have f4 := i_rg (s8.1 7 7); have f5 : (s6.1 7 7).toInt = (s2.1 7 7).toInt := j_fr hs6.1 7 7 187 rfl rfl; have f6 := i_rg (s6.1 7 7); have f7 := i_rg (s2.1 7 7); have f8 := (hs2.2.2.2 c1).1; have f9 := (hs2.2.2.2 c1).2; have f10 := i_ne c2; have f11 : (7 : Int32).toInt = 7 := rfl; have f12 := p_a3; have f13 := i_rg a3; omega), (by have f0 : (s10.1 7 7).toInt = (s8.1 7 7).toInt := j_fr hs10.1 7 7 187 rfl rfl; have f1 := i_rg (s10.1 7 7); have f2 : (7 : Int32).toInt = 7 := rfl; have f3 : (s8.1 7 7).toInt = (s6.1 7 7).toInt := (by rw [es8]; exact u_nc rfl); have f4 := i_rg (s8.1 7 7); have f5 : (s6.1 7 7).toInt = (s2.1 7 7).toInt := j_fr hs6.1 7 7 187 rfl rfl; have f6 := i_rg (s6.1 7 7); have f7 := i_rg (s2.1 7 7); have f8 := (hs2.2.2.2 c1).1; have f9 := (hs2.2.2.2 c1).2; have f10 := i_ne c2; have f11 : (0 : Int32).toInt = 0 := rfl; have f12 := p_a3; have f13 := i_rg a3; omega)⟩⟩
      · refine oq_b (h_X7_wrong _ js6.1 (by have f0 : (5 : Int32).toInt = 5 := rfl; omega)) (fun r11 s12 hs12 => ?_)
        have js12 : JC 1563145451683206635525513967693315367291690365379577643008 s s12 := j_call js6 hs12.1 rfl
        refine oq_c (b01_of (by have f0 := hs12.2.1; have f1 := i_rg r11; omega)) ?_
        exact ⟨js12, (by have f0 := hs12.2.1; have f1 := i_rg r11; omega), fun w9 => (by have f0 := z_52_14; have f1 := j_rd hJ 52 14 0 8 rfl; have f2 : (7 : Int32).toInt = 7 := rfl; omega), fun w9 => False.elim (by have f0 := hs12.2.1; have f1 := i_rg r11; have f2 := i_ne w9; have f3 : (0 : Int32).toInt = 0 := rfl; omega)⟩
theorem h_X4_joinAt_52 (a1 : Int32) {s : Sg} (hR : Rg rC s) (p_a1 : 0 ≤ a1.toInt ∧ a1.toInt ≤ 7) (z_52_14 : 0 ≤ (s.1 52 14).toInt ∧ (s.1 52 14).toInt ≤ 7) : OQ (f_X4_joinAt_52 a1 s) (fun _ s9 => JC 2305843009213693952 s s9 ∧ True) := by
  have hJ : JC 2305843009213693952 s s := j_refl hR
  unfold f_X4_joinAt_52
  refine oq_c (inr_of (by have f0 := p_a1; have f1 := i_rg a1; omega)) ?_
  refine oq_c (inr_of (by have f0 := j_rd hJ 58 a1.toNatClampNeg 0 7 rfl; omega)) ?_
  refine oq_n (fun s3 es3 => ?_)
  have js3 : JC 2305843009213693952 s s3 := by rw [es3]; exact (j_wf hJ rfl 61 rfl rfl)
  refine oq_c (inr_of (by have f0 := j_rd js3 59 a1.toNatClampNeg 0 7 rfl; omega)) ?_
  refine oq_n (fun s5 es5 => ?_)
  have js5 : JC 2305843009213693952 s s5 := by rw [es5]; exact (j_wf js3 rfl 61 rfl rfl)
  exact ⟨js5, trivial⟩
theorem h_X6_takeQuarrel  {s : Sg} (hR : Rg rC s) : OQ (f_X6_takeQuarrel  s) (fun r9 s9 => JC 32140324030631488717474767360790945365811355565217705388670976 s s9 ∧ (0 ≤ r9.toInt ∧ r9.toInt ≤ 1) ∧ (r9 = 0 → True) ∧ (¬ r9 = 0 → (s.1 52 14).toInt ≤ 7 ∧ 0 ≤ (s9.1 7 7).toInt)) := by
  have hJ : JC 32140324030631488717474767360790945365811355565217705388670976 s s := j_refl hR
  unfold f_X6_takeQuarrel
  refine oq_b (h_X6_takeNew _ _ _ hJ.1 (by have f0 : (104 : Int32).toInt = 104 := rfl; omega) (by have f0 := j_rd hJ 52 14 0 8 rfl; omega) (by have f0 : (8 : Int32).toInt = 8 := rfl; omega)) (fun r1 s2 hs2 => ?_)
  have js2 : JC 32140324030631488717474767360790945365811355565217705388670976 s s2 := j_call hJ hs2.1 rfl
  refine oq_if (fun c1 => ?_) (fun c1 => ?_)
  · exact ⟨js2, (by have f0 : (0 : Int32).toInt = 0 := rfl; omega), fun _ => trivial, fun w9 => absurd rfl w9⟩
  · refine oq_b (h_X7_pass _ js2.1 (by have f0 : (105 : Int32).toInt = 105 := rfl; omega)) (fun r3 s4 hs4 => ?_)
    have js4 : JC 32140324030631488717474767360790945365811355565217705388670976 s s4 := j_call js2 hs4.1 rfl
    refine oq_if (fun c2 => ?_) (fun c2 => ?_)
    · exact ⟨js4, (by have f0 : (0 : Int32).toInt = 0 := rfl; omega), fun _ => trivial, fun w9 => absurd rfl w9⟩
    · refine oq_b (h_X6_takeEnd_58 _ _ _ js4.1 (by have f0 := j_rd hJ 52 14 0 8 rfl; have f1 := (hs2.2.2.2 c1).1; have f2 := (hs2.2.2.2 c1).2; have f3 : (8 : Int32).toInt = 8 := rfl; have f4 : (7 : Int32).toInt = 7 := rfl; omega) (by have f0 : ((-1) : Int32).toInt = (-1) := rfl; omega) (by have f0 : (0 : Int32).toInt = 0 := rfl; omega) (by have f0 := j_rd js4 52 14 0 8 rfl; have f1 : (s4.1 52 14).toInt = (s2.1 52 14).toInt := j_fr hs4.1 52 14 204 rfl rfl; have f2 := j_rd js2 52 14 0 8 rfl; have f3 : (s2.1 52 14).toInt = (s.1 52 14).toInt := j_fr hs2.1 52 14 204 rfl rfl; have f4 := j_rd hJ 52 14 0 8 rfl; have f5 := (hs2.2.2.2 c1).1; have f6 := (hs2.2.2.2 c1).2; have f7 : (8 : Int32).toInt = 8 := rfl; have f8 : (7 : Int32).toInt = 7 := rfl; omega)) (fun r5 s6 hs6 => ?_)
      have js6 : JC 32140324030631488717474767360790945365811355565217705388670976 s s6 := j_call js4 hs6.1 rfl
      refine oq_if (fun c3 => ?_) (fun c3 => ?_)
      · exact ⟨js6, (by have f0 : (0 : Int32).toInt = 0 := rfl; omega), fun _ => trivial, fun w9 => absurd rfl w9⟩
      · refine oq_b (h_X7_pass _ js6.1 (by have f0 : (106 : Int32).toInt = 106 := rfl; omega)) (fun r7 s8 hs8 => ?_)
        have js8 : JC 32140324030631488717474767360790945365811355565217705388670976 s s8 := j_call js6 hs8.1 rfl
        refine oq_if (fun c4 => ?_) (fun c4 => ?_)
        · exact ⟨js8, (by have f0 : (0 : Int32).toInt = 0 := rfl; omega), fun _ => trivial, fun w9 => absurd rfl w9⟩
        · refine oq_c (inr_of (by have f0 := j_rd hJ 52 14 0 8 rfl; have f1 := (hs2.2.2.2 c1).1; have f2 := (hs2.2.2.2 c1).2; have f3 : (8 : Int32).toInt = 8 := rfl; have f4 : (7 : Int32).toInt = 7 := rfl; omega)) ?_
          refine oq_b (h_X6_takeEnd_59 _ _ _ js8.1 (by have f0 := j_rd hJ 52 14 0 8 rfl; have f1 := (hs2.2.2.2 c1).1; have f2 := (hs2.2.2.2 c1).2; have f3 : (8 : Int32).toInt = 8 := rfl; have f4 : (7 : Int32).toInt = 7 := rfl; omega) (by have f0 := j_rd js8 58 ((s.1 52 14).toNatClampNeg) 0 7 rfl; omega) (by have f0 : (0 : Int32).toInt = 0 := rfl; omega) (by have f0 := j_rd js8 52 14 0 8 rfl; have f1 : (s8.1 52 14).toInt = (s6.1 52 14).toInt := j_fr hs8.1 52 14 204 rfl rfl; have f2 := j_rd js6 52 14 0 8 rfl; have f3 : (s6.1 52 14).toInt = (s4.1 52 14).toInt := j_fr hs6.1 52 14 204 rfl rfl; have f4 := j_rd js4 52 14 0 8 rfl; have f5 : (s4.1 52 14).toInt = (s2.1 52 14).toInt := j_fr hs4.1 52 14 204 rfl rfl; have f6 := j_rd js2 52 14 0 8 rfl; have f7 : (s2.1 52 14).toInt = (s.1 52 14).toInt := j_fr hs2.1 52 14 204 rfl rfl; have f8 := j_rd hJ 52 14 0 8 rfl; have f9 := (hs2.2.2.2 c1).1; have f10 := (hs2.2.2.2 c1).2; have f11 := (hs6.2.2.2 c3).1; have f12 : (8 : Int32).toInt = 8 := rfl; have f13 : (7 : Int32).toInt = 7 := rfl; omega)) (fun r10 s11 hs11 => ?_)
          have js11 : JC 32140324030631488717474767360790945365811355565217705388670976 s s11 := j_call js8 hs11.1 rfl
          refine oq_if (fun c5 => ?_) (fun c5 => ?_)
          · exact ⟨js11, (by have f0 : (0 : Int32).toInt = 0 := rfl; omega), fun _ => trivial, fun w9 => absurd rfl w9⟩
          · refine oq_b (h_X7_pass _ js11.1 (by have f0 : (107 : Int32).toInt = 107 := rfl; omega)) (fun r12 s13 hs13 => ?_)
            have js13 : JC 32140324030631488717474767360790945365811355565217705388670976 s s13 := j_call js11 hs13.1 rfl
            refine oq_if (fun c6 => ?_) (fun c6 => ?_)
            · exact ⟨js13, (by have f0 : (0 : Int32).toInt = 0 := rfl; omega), fun _ => trivial, fun w9 => absurd rfl w9⟩
            · refine oq_b (h_X7_passNumber _ _ js13.1 (by have f0 : (1 : Int32).toInt = 1 := rfl; omega) (by have f0 : (99 : Int32).toInt = 99 := rfl; omega)) (fun r14 s15 hs15 => ?_)
              have js15 : JC 32140324030631488717474767360790945365811355565217705388670976 s s15 := j_call js13 hs15.1 rfl
              refine oq_if (fun c7 => ?_) (fun c7 => ?_)
              · exact ⟨js15, (by have f0 : (0 : Int32).toInt = 0 := rfl; omega), fun _ => trivial, fun w9 => absurd rfl w9⟩
              · refine oq_n (fun s16 es16 => ?_)
                have js16 : JC 32140324030631488717474767360790945365811355565217705388670976 s s16 := by rw [es16]; exact (j_wf js15 rfl 60 rfl rfl)
                refine oq_b (h_X4_joinAt_52 _ js16.1 (by have f0 := j_rd hJ 52 14 0 8 rfl; have f1 := (hs2.2.2.2 c1).1; have f2 := (hs2.2.2.2 c1).2; have f3 : (8 : Int32).toInt = 8 := rfl; have f4 : (7 : Int32).toInt = 7 := rfl; omega) (by have f0 := j_rd js16 52 14 0 8 rfl; have f1 : (s16.1 52 14).toInt = (s15.1 52 14).toInt := (by rw [es16]; exact u_nc rfl); have f2 := j_rd js15 52 14 0 8 rfl; have f3 : (s15.1 52 14).toInt = (s13.1 52 14).toInt := j_fr hs15.1 52 14 204 rfl rfl; have f4 := j_rd js13 52 14 0 8 rfl; have f5 : (s13.1 52 14).toInt = (s11.1 52 14).toInt := j_fr hs13.1 52 14 204 rfl rfl; have f6 := j_rd js11 52 14 0 8 rfl; have f7 : (s11.1 52 14).toInt = (s8.1 52 14).toInt := j_fr hs11.1 52 14 204 rfl rfl; have f8 := j_rd js8 52 14 0 8 rfl; have f9 : (s8.1 52 14).toInt = (s6.1 52 14).toInt := j_fr hs8.1 52 14 204 rfl rfl; have f10 := j_rd js6 52 14 0 8 rfl; have f11 : (s6.1 52 14).toInt = (s4.1 52 14).toInt := j_fr hs6.1 52 14 204 rfl rfl; have f12 := j_rd js4 52 14 0 8 rfl; have f13 : (s4.1 52 14).toInt = (s2.1 52 14).toInt := j_fr hs4.1 52 14 204 rfl rfl; have f14 := j_rd js2 52 14 0 8 rfl; have f15 : (s2.1 52 14).toInt = (s.1 52 14).toInt := j_fr hs2.1 52 14 204 rfl rfl; have f16 := j_rd hJ 52 14 0 8 rfl; have f17 := (hs2.2.2.2 c1).1; have f18 := (hs2.2.2.2 c1).2; have f19 := (hs6.2.2.2 c3).1; have f20 := (hs11.2.2.2 c5).1; have f21 : (8 : Int32).toInt = 8 := rfl; have f22 : (7 : Int32).toInt = 7 := rfl; omega)) (fun u8 s18 hs18 => ?_)
                have js18 : JC 32140324030631488717474767360790945365811355565217705388670976 s s18 := j_call js16 hs18.1 rfl
                refine oq_n (fun s19 es19 => ?_)
                have js19 : JC 32140324030631488717474767360790945365811355565217705388670976 s s19 := by rw [es19]; exact (j_wr 0 8 js18 rfl 204 rfl rfl (by have f0 := i_add (s18.1 52 14) ((1 : Int32)); have f1 := j_rd js18 52 14 0 8 rfl; have f2 : (s18.1 52 14).toInt = (s16.1 52 14).toInt := j_fr hs18.1 52 14 204 rfl rfl; have f3 : (1 : Int32).toInt = 1 := rfl; have f4 := j_rd js16 52 14 0 8 rfl; have f5 : (s16.1 52 14).toInt = (s15.1 52 14).toInt := (by rw [es16]; exact u_nc rfl); have f6 := j_rd js15 52 14 0 8 rfl; have f7 : (s15.1 52 14).toInt = (s13.1 52 14).toInt := j_fr hs15.1 52 14 204 rfl rfl; have f8 := j_rd js13 52 14 0 8 rfl; have f9 : (s13.1 52 14).toInt = (s11.1 52 14).toInt := j_fr hs13.1 52 14 204 rfl rfl; have f10 := j_rd js11 52 14 0 8 rfl; have f11 : (s11.1 52 14).toInt = (s8.1 52 14).toInt := j_fr hs11.1 52 14 204 rfl rfl; have f12 := j_rd js8 52 14 0 8 rfl; have f13 : (s8.1 52 14).toInt = (s6.1 52 14).toInt := j_fr hs8.1 52 14 204 rfl rfl; have f14 := j_rd js6 52 14 0 8 rfl; have f15 : (s6.1 52 14).toInt = (s4.1 52 14).toInt := j_fr hs6.1 52 14 204 rfl rfl; have f16 := j_rd js4 52 14 0 8 rfl; have f17 : (s4.1 52 14).toInt = (s2.1 52 14).toInt := j_fr hs4.1 52 14 204 rfl rfl; have f18 := j_rd js2 52 14 0 8 rfl; have f19 : (s2.1 52 14).toInt = (s.1 52 14).toInt := j_fr hs2.1 52 14 204 rfl rfl; have f20 := j_rd hJ 52 14 0 8 rfl; have f21 := (hs2.2.2.2 c1).1; have f22 := (hs2.2.2.2 c1).2; have f23 := (hs6.2.2.2 c3).1; have f24 := (hs11.2.2.2 c5).1; have f25 : (8 : Int32).toInt = 8 := rfl; have f26 : (7 : Int32).toInt = 7 := rfl; omega))
                refine oq_b (h_X7_pass _ js19.1 (by have f0 : (59 : Int32).toInt = 59 := rfl; omega)) (fun r20 s21 hs21 => ?_)
                have js21 : JC 32140324030631488717474767360790945365811355565217705388670976 s s21 := j_call js19 hs21.1 rfl
                refine oq_c (b01_of (by have f0 := hs21.2.1; have f1 := i_rg r20; omega)) ?_
                exact ⟨js21, (by have f0 := hs21.2.1; have f1 := i_rg r20; omega), fun _ => trivial, fun w9 => ⟨(by have f0 := j_rd hJ 52 14 0 8 rfl; have f1 : (7 : Int32).toInt = 7 := rfl; have f2 := (hs2.2.2.2 c1).1; have f3 := (hs2.2.2.2 c1).2; have f4 : (8 : Int32).toInt = 8 := rfl; omega), (by have f0 : (0 : Int32).toInt = 0 := rfl; have f1 : (s21.1 7 7).toInt = (s19.1 7 7).toInt := j_fr hs21.1 7 7 187 rfl rfl; have f2 := i_rg (s21.1 7 7); have f3 : (s19.1 7 7).toInt = (s18.1 7 7).toInt := (by rw [es19]; exact u_nc rfl); have f4 := i_rg (s19.1 7 7); have f5 : (s18.1 7 7).toInt = (s16.1 7 7).toInt := j_fr hs18.1 7 7 187 rfl rfl; have f6 := i_rg (s18.1 7 7); have f7 : (s16.1 7 7).toInt = (s15.1 7 7).toInt := (by rw [es16]; exact u_nc rfl); have f8 := i_rg (s16.1 7 7); have f9 := i_rg (s15.1 7 7); have f10 := (hs15.2.2.2 c7); omega)⟩⟩
theorem h_X6_takeEnd_62 (a2 : Int32) (a3 : Int32) (a4 : Int32) {s : Sg} (hR : Rg rC s) (p_a2 : 0 ≤ a2.toInt ∧ a2.toInt ≤ 3) (p_a3 : (-1) ≤ a3.toInt ∧ a3.toInt ≤ (-1)) (z_52_15 : 0 ≤ (s.1 52 15).toInt ∧ (s.1 52 15).toInt ≤ 3) : OQ (f_X6_takeEnd_62 a2 a3 a4 s) (fun r9 s9 => JC 1563145451683206635525513967693315367295725590645701607424 s s9 ∧ (0 ≤ r9.toInt ∧ r9.toInt ≤ 1) ∧ (r9 = 0 → (s.1 52 15).toInt ≤ 3) ∧ (¬ r9 = 0 → (s.1 52 15).toInt ≤ 3 ∧ 0 ≤ (s9.1 7 7).toInt ∧ (s9.1 7 7).toInt ≤ 7)) := by
  have hJ : JC 1563145451683206635525513967693315367295725590645701607424 s s := j_refl hR
  unfold f_X6_takeEnd_62
  refine oq_b (h_X7_findName_52 _ hJ.1 (by have f0 : (100 : Int32).toInt = 100 := rfl; omega)) (fun r1 s2 hs2 => ?_)
  have js2 : JC 1563145451683206635525513967693315367295725590645701607424 s s2 := j_call hJ hs2.1 rfl
  refine oq_if (fun c1 => ?_) (fun c1 => ?_)
  · exact ⟨js2, (by have f0 : (0 : Int32).toInt = 0 := rfl; omega), fun w9 => (by have f0 := z_52_15; have f1 := j_rd hJ 52 15 0 4 rfl; have f2 : (3 : Int32).toInt = 3 := rfl; omega), fun w9 => absurd rfl w9⟩
  · refine oq_if (fun c2 => ?_) (fun c2 => ?_)
    · exact False.elim (by have f0 := i_rg (s2.1 7 7); have f1 := p_a3; have f2 := i_rg a3; have f3 := (hs2.2.2.2 c1).1; have f4 := (hs2.2.2.2 c1).2; have f5 := i_eq c2; have f6 : (0 : Int32).toInt = 0 := rfl; have f7 : (7 : Int32).toInt = 7 := rfl; omega)
    · refine oq_b (h_X11_has _ _ js2.1 (by have f0 := i_rg (s2.1 7 7); have f1 := (hs2.2.2.2 c1).1; have f2 := (hs2.2.2.2 c1).2; have f3 := i_ne c2; have f4 : (0 : Int32).toInt = 0 := rfl; have f5 : (7 : Int32).toInt = 7 := rfl; have f6 := p_a3; have f7 := i_rg a3; omega)) (fun r5 s6 hs6 => ?_)
      have js6 : JC 1563145451683206635525513967693315367295725590645701607424 s s6 := j_call js2 hs6.1 rfl
      refine oq_if (fun c3 => ?_) (fun c3 => ?_)
      · refine oq_c (inr_of (by have f0 := p_a2; have f1 := i_rg a2; omega)) ?_
        refine oq_n (fun s8 es8 => ?_)
        have js8 : JC 1563145451683206635525513967693315367295725590645701607424 s s8 := by rw [es8]; exact (j_wr 0 7 js6 rfl 62 rfl rfl (by have f0 : (s6.1 7 7).toInt = (s2.1 7 7).toInt := j_fr hs6.1 7 7 187 rfl rfl; have f1 := i_rg (s6.1 7 7); have f2 := i_rg (s2.1 7 7); have f3 := (hs2.2.2.2 c1).1; have f4 := (hs2.2.2.2 c1).2; have f5 := i_ne c2; have f6 : (0 : Int32).toInt = 0 := rfl; have f7 : (7 : Int32).toInt = 7 := rfl; have f8 := p_a3; have f9 := i_rg a3; omega))
        refine oq_b (h_X7_advance  js8.1) (fun u4 s10 hs10 => ?_)
        have js10 : JC 1563145451683206635525513967693315367295725590645701607424 s s10 := j_call js8 hs10.1 rfl
        exact ⟨js10, (by have f0 : (1 : Int32).toInt = 1 := rfl; omega), fun w9 => absurd w9 (by decide), fun w9 => ⟨(by have f0 := z_52_15; have f1 := j_rd hJ 52 15 0 4 rfl; have f2 : (3 : Int32).toInt = 3 := rfl; omega), (by have f0 : (0 : Int32).toInt = 0 := rfl; have f1 : (s10.1 7 7).toInt = (s8.1 7 7).toInt := j_fr hs10.1 7 7 187 rfl rfl; have f2 := i_rg (s10.1 7 7); have f3 : (s8.1 7 7).toInt = (s6.1 7 7).toInt := (by rw [es8]; exact u_nc rfl); have f4 := i_rg (s8.1 7 7); have f5 : (s6.1 7 7).toInt = (s2.1 7 7).toInt := j_fr hs6.1 7 7 187 rfl rfl; have f6 := i_rg (s6.1 7 7); have f7 := i_rg (s2.1 7 7); have f8 := (hs2.2.2.2 c1).1; have f9 := (hs2.2.2.2 c1).2; have f10 := i_ne c2; have f11 : (7 : Int32).toInt = 7 := rfl; have f12 := p_a3; have f13 := i_rg a3; omega), (by have f0 : (s10.1 7 7).toInt = (s8.1 7 7).toInt := j_fr hs10.1 7 7 187 rfl rfl; have f1 := i_rg (s10.1 7 7); have f2 : (7 : Int32).toInt = 7 := rfl; have f3 : (s8.1 7 7).toInt = (s6.1 7 7).toInt := (by rw [es8]; exact u_nc rfl); have f4 := i_rg (s8.1 7 7); have f5 : (s6.1 7 7).toInt = (s2.1 7 7).toInt := j_fr hs6.1 7 7 187 rfl rfl; have f6 := i_rg (s6.1 7 7); have f7 := i_rg (s2.1 7 7); have f8 := (hs2.2.2.2 c1).1; have f9 := (hs2.2.2.2 c1).2; have f10 := i_ne c2; have f11 : (0 : Int32).toInt = 0 := rfl; have f12 := p_a3; have f13 := i_rg a3; omega)⟩⟩
      · refine oq_b (h_X7_wrong _ js6.1 (by have f0 : (5 : Int32).toInt = 5 := rfl; omega)) (fun r11 s12 hs12 => ?_)
        have js12 : JC 1563145451683206635525513967693315367295725590645701607424 s s12 := j_call js6 hs12.1 rfl
        refine oq_c (b01_of (by have f0 := hs12.2.1; have f1 := i_rg r11; omega)) ?_
        exact ⟨js12, (by have f0 := hs12.2.1; have f1 := i_rg r11; omega), fun w9 => (by have f0 := z_52_15; have f1 := j_rd hJ 52 15 0 4 rfl; have f2 : (3 : Int32).toInt = 3 := rfl; omega), fun w9 => False.elim (by have f0 := hs12.2.1; have f1 := i_rg r11; have f2 := i_ne w9; have f3 : (0 : Int32).toInt = 0 := rfl; omega)⟩
theorem h_X6_takeEnd_63 (a2 : Int32) (a3 : Int32) (a4 : Int32) {s : Sg} (hR : Rg rC s) (p_a2 : 0 ≤ a2.toInt ∧ a2.toInt ≤ 3) (p_a3 : 0 ≤ a3.toInt ∧ a3.toInt ≤ 7) (z_52_15 : 0 ≤ (s.1 52 15).toInt ∧ (s.1 52 15).toInt ≤ 3) : OQ (f_X6_takeEnd_63 a2 a3 a4 s) (fun r9 s9 => JC 1563145451683206635525513967693315367300337276664128995328 s s9 ∧ (0 ≤ r9.toInt ∧ r9.toInt ≤ 1) ∧ (r9 = 0 → (s.1 52 15).toInt ≤ 3) ∧ (¬ r9 = 0 → (s.1 52 15).toInt ≤ 3 ∧ 0 ≤ (s9.1 7 7).toInt ∧ (s9.1 7 7).toInt ≤ 7)) := by
  have hJ : JC 1563145451683206635525513967693315367300337276664128995328 s s := j_refl hR
  unfold f_X6_takeEnd_63
  refine oq_b (h_X7_findName_52 _ hJ.1 (by have f0 : (100 : Int32).toInt = 100 := rfl; omega)) (fun r1 s2 hs2 => ?_)
  have js2 : JC 1563145451683206635525513967693315367300337276664128995328 s s2 := j_call hJ hs2.1 rfl
  refine oq_if (fun c1 => ?_) (fun c1 => ?_)
  · exact ⟨js2, (by have f0 : (0 : Int32).toInt = 0 := rfl; omega), fun w9 => (by have f0 := z_52_15; have f1 := j_rd hJ 52 15 0 4 rfl; have f2 : (3 : Int32).toInt = 3 := rfl; omega), fun w9 => absurd rfl w9⟩
  · refine oq_if (fun c2 => ?_) (fun c2 => ?_)
    · refine oq_b (h_X7_wrong _ js2.1 (by have f0 : (5 : Int32).toInt = 5 := rfl; omega)) (fun r3 s4 hs4 => ?_)
      have js4 : JC 1563145451683206635525513967693315367300337276664128995328 s s4 := j_call js2 hs4.1 rfl
      refine oq_c (b01_of (by have f0 := hs4.2.1; have f1 := i_rg r3; omega)) ?_
      exact ⟨js4, (by have f0 := hs4.2.1; have f1 := i_rg r3; omega), fun w9 => (by have f0 := z_52_15; have f1 := j_rd hJ 52 15 0 4 rfl; have f2 : (3 : Int32).toInt = 3 := rfl; omega), fun w9 => False.elim (by have f0 := hs4.2.1; have f1 := i_rg r3; have f2 := i_ne w9; have f3 : (0 : Int32).toInt = 0 := rfl; omega)⟩
    · refine oq_b (h_X11_has _ _ js2.1 (by have f0 := i_rg (s2.1 7 7); have f1 := (hs2.2.2.2 c1).1; have f2 := (hs2.2.2.2 c1).2; have f3 := i_ne c2; have f4 : (0 : Int32).toInt = 0 := rfl; have f5 : (7 : Int32).toInt = 7 := rfl; have f6 := p_a3; have f7 := i_rg a3; omega)) (fun r5 s6 hs6 => ?_)
      have js6 : JC 1563145451683206635525513967693315367300337276664128995328 s s6 := j_call js2 hs6.1 rfl
      refine oq_if (fun c3 => ?_) (fun c3 => ?_)
      · refine oq_c (inr_of (by have f0 := p_a2; have f1 := i_rg a2; omega)) ?_
        refine oq_n (fun s8 es8 => ?_)
        have js8 : JC 1563145451683206635525513967693315367300337276664128995328 s s8 := by rw [es8]; exact (j_wr 0 7 js6 rfl 63 rfl rfl (by have f0 : (s6.1 7 7).toInt = (s2.1 7 7).toInt := j_fr hs6.1 7 7 187 rfl rfl; have f1 := i_rg (s6.1 7 7); have f2 := i_rg (s2.1 7 7); have f3 := (hs2.2.2.2 c1).1; have f4 := (hs2.2.2.2 c1).2; have f5 := i_ne c2; have f6 : (0 : Int32).toInt = 0 := rfl; have f7 : (7 : Int32).toInt = 7 := rfl; have f8 := p_a3; have f9 := i_rg a3; omega))
        refine oq_b (h_X7_advance  js8.1) (fun u4 s10 hs10 => ?_)
        have js10 : JC 1563145451683206635525513967693315367300337276664128995328 s s10 := j_call js8 hs10.1 rfl
        exact ⟨js10, (by have f0 : (1 : Int32).toInt = 1 := rfl; omega), fun w9 => absurd w9 (by decide), fun w9 => ⟨(by have f0 := z_52_15; have f1 := j_rd hJ 52 15 0 4 rfl; have f2 : (3 : Int32).toInt = 3 := rfl; omega), (by have f0 : (0 : Int32).toInt = 0 := rfl; have f1 : (s10.1 7 7).toInt = (s8.1 7 7).toInt := j_fr hs10.1 7 7 187 rfl rfl; have f2 := i_rg (s10.1 7 7); have f3 : (s8.1 7 7).toInt = (s6.1 7 7).toInt := (by rw [es8]; exact u_nc rfl); have f4 := i_rg (s8.1 7 7); have f5 : (s6.1 7 7).toInt = (s2.1 7 7).toInt := j_fr hs6.1 7 7 187 rfl rfl; have f6 := i_rg (s6.1 7 7); have f7 := i_rg (s2.1 7 7); have f8 := (hs2.2.2.2 c1).1; have f9 := (hs2.2.2.2 c1).2; have f10 := i_ne c2; have f11 : (7 : Int32).toInt = 7 := rfl; have f12 := p_a3; have f13 := i_rg a3; omega), (by have f0 : (s10.1 7 7).toInt = (s8.1 7 7).toInt := j_fr hs10.1 7 7 187 rfl rfl; have f1 := i_rg (s10.1 7 7); have f2 : (7 : Int32).toInt = 7 := rfl; have f3 : (s8.1 7 7).toInt = (s6.1 7 7).toInt := (by rw [es8]; exact u_nc rfl); have f4 := i_rg (s8.1 7 7); have f5 : (s6.1 7 7).toInt = (s2.1 7 7).toInt := j_fr hs6.1 7 7 187 rfl rfl; have f6 := i_rg (s6.1 7 7); have f7 := i_rg (s2.1 7 7); have f8 := (hs2.2.2.2 c1).1; have f9 := (hs2.2.2.2 c1).2; have f10 := i_ne c2; have f11 : (0 : Int32).toInt = 0 := rfl; have f12 := p_a3; have f13 := i_rg a3; omega)⟩⟩
      · refine oq_b (h_X7_wrong _ js6.1 (by have f0 : (5 : Int32).toInt = 5 := rfl; omega)) (fun r11 s12 hs12 => ?_)
        have js12 : JC 1563145451683206635525513967693315367300337276664128995328 s s12 := j_call js6 hs12.1 rfl
        refine oq_c (b01_of (by have f0 := hs12.2.1; have f1 := i_rg r11; omega)) ?_
        exact ⟨js12, (by have f0 := hs12.2.1; have f1 := i_rg r11; omega), fun w9 => (by have f0 := z_52_15; have f1 := j_rd hJ 52 15 0 4 rfl; have f2 : (3 : Int32).toInt = 3 := rfl; omega), fun w9 => False.elim (by have f0 := hs12.2.1; have f1 := i_rg r11; have f2 := i_ne w9; have f3 : (0 : Int32).toInt = 0 := rfl; omega)⟩
theorem h_X6_takeCat  {s : Sg} (hR : Rg rC s) : OQ (f_X6_takeCat  s) (fun r9 s9 => JC 57851332738775333126146160838249547006166631424088877469532160 s s9 ∧ (0 ≤ r9.toInt ∧ r9.toInt ≤ 1) ∧ (r9 = 0 → True) ∧ (¬ r9 = 0 → (s.1 52 15).toInt ≤ 3 ∧ 0 ≤ (s9.1 7 7).toInt)) := by
  have hJ : JC 57851332738775333126146160838249547006166631424088877469532160 s s := j_refl hR
  unfold f_X6_takeCat
  refine oq_b (h_X6_takeNew _ _ _ hJ.1 (by have f0 : (108 : Int32).toInt = 108 := rfl; omega) (by have f0 := j_rd hJ 52 15 0 4 rfl; omega) (by have f0 : (4 : Int32).toInt = 4 := rfl; omega)) (fun r1 s2 hs2 => ?_)
  have js2 : JC 57851332738775333126146160838249547006166631424088877469532160 s s2 := j_call hJ hs2.1 rfl
  refine oq_if (fun c1 => ?_) (fun c1 => ?_)
  · exact ⟨js2, (by have f0 : (0 : Int32).toInt = 0 := rfl; omega), fun _ => trivial, fun w9 => absurd rfl w9⟩
  · refine oq_b (h_X7_pass _ js2.1 (by have f0 : (109 : Int32).toInt = 109 := rfl; omega)) (fun r3 s4 hs4 => ?_)
    have js4 : JC 57851332738775333126146160838249547006166631424088877469532160 s s4 := j_call js2 hs4.1 rfl
    refine oq_if (fun c2 => ?_) (fun c2 => ?_)
    · exact ⟨js4, (by have f0 : (0 : Int32).toInt = 0 := rfl; omega), fun _ => trivial, fun w9 => absurd rfl w9⟩
    · refine oq_b (h_X6_takeEnd_62 _ _ _ js4.1 (by have f0 := j_rd hJ 52 15 0 4 rfl; have f1 := (hs2.2.2.2 c1).1; have f2 := (hs2.2.2.2 c1).2; have f3 : (4 : Int32).toInt = 4 := rfl; have f4 : (7 : Int32).toInt = 7 := rfl; omega) (by have f0 : ((-1) : Int32).toInt = (-1) := rfl; omega) (by have f0 := j_rd js4 52 15 0 4 rfl; have f1 : (s4.1 52 15).toInt = (s2.1 52 15).toInt := j_fr hs4.1 52 15 205 rfl rfl; have f2 := j_rd js2 52 15 0 4 rfl; have f3 : (s2.1 52 15).toInt = (s.1 52 15).toInt := j_fr hs2.1 52 15 205 rfl rfl; have f4 := j_rd hJ 52 15 0 4 rfl; have f5 := (hs2.2.2.2 c1).1; have f6 := (hs2.2.2.2 c1).2; have f7 : (4 : Int32).toInt = 4 := rfl; have f8 : (7 : Int32).toInt = 7 := rfl; omega)) (fun r5 s6 hs6 => ?_)
      have js6 : JC 57851332738775333126146160838249547006166631424088877469532160 s s6 := j_call js4 hs6.1 rfl
      refine oq_if (fun c3 => ?_) (fun c3 => ?_)
      · exact ⟨js6, (by have f0 : (0 : Int32).toInt = 0 := rfl; omega), fun _ => trivial, fun w9 => absurd rfl w9⟩
      · refine oq_b (h_X7_pass _ js6.1 (by have f0 : (110 : Int32).toInt = 110 := rfl; omega)) (fun r7 s8 hs8 => ?_)
        have js8 : JC 57851332738775333126146160838249547006166631424088877469532160 s s8 := j_call js6 hs8.1 rfl
        refine oq_if (fun c4 => ?_) (fun c4 => ?_)
        · exact ⟨js8, (by have f0 : (0 : Int32).toInt = 0 := rfl; omega), fun _ => trivial, fun w9 => absurd rfl w9⟩
        · refine oq_c (inr_of (by have f0 := j_rd hJ 52 15 0 4 rfl; have f1 := (hs2.2.2.2 c1).1; have f2 := (hs2.2.2.2 c1).2; have f3 : (4 : Int32).toInt = 4 := rfl; have f4 : (7 : Int32).toInt = 7 := rfl; omega)) ?_
          refine oq_b (h_X6_takeEnd_63 _ _ _ js8.1 (by have f0 := j_rd hJ 52 15 0 4 rfl; have f1 := (hs2.2.2.2 c1).1; have f2 := (hs2.2.2.2 c1).2; have f3 : (4 : Int32).toInt = 4 := rfl; have f4 : (7 : Int32).toInt = 7 := rfl; omega) (by have f0 := j_rd js8 62 ((s.1 52 15).toNatClampNeg) 0 7 rfl; omega) (by have f0 := j_rd js8 52 15 0 4 rfl; have f1 : (s8.1 52 15).toInt = (s6.1 52 15).toInt := j_fr hs8.1 52 15 205 rfl rfl; have f2 := j_rd js6 52 15 0 4 rfl; have f3 : (s6.1 52 15).toInt = (s4.1 52 15).toInt := j_fr hs6.1 52 15 205 rfl rfl; have f4 := j_rd js4 52 15 0 4 rfl; have f5 : (s4.1 52 15).toInt = (s2.1 52 15).toInt := j_fr hs4.1 52 15 205 rfl rfl; have f6 := j_rd js2 52 15 0 4 rfl; have f7 : (s2.1 52 15).toInt = (s.1 52 15).toInt := j_fr hs2.1 52 15 205 rfl rfl; have f8 := j_rd hJ 52 15 0 4 rfl; have f9 := (hs2.2.2.2 c1).1; have f10 := (hs2.2.2.2 c1).2; have f11 := (hs6.2.2.2 c3).1; have f12 : (4 : Int32).toInt = 4 := rfl; have f13 : (7 : Int32).toInt = 7 := rfl; have f14 : (3 : Int32).toInt = 3 := rfl; omega)) (fun r10 s11 hs11 => ?_)
          have js11 : JC 57851332738775333126146160838249547006166631424088877469532160 s s11 := j_call js8 hs11.1 rfl
          refine oq_if (fun c5 => ?_) (fun c5 => ?_)
          · exact ⟨js11, (by have f0 : (0 : Int32).toInt = 0 := rfl; omega), fun _ => trivial, fun w9 => absurd rfl w9⟩
          · refine oq_b (h_X7_pass _ js11.1 (by have f0 : (111 : Int32).toInt = 111 := rfl; omega)) (fun r12 s13 hs13 => ?_)
            have js13 : JC 57851332738775333126146160838249547006166631424088877469532160 s s13 := j_call js11 hs13.1 rfl
            refine oq_if (fun c6 => ?_) (fun c6 => ?_)
            · exact ⟨js13, (by have f0 : (0 : Int32).toInt = 0 := rfl; omega), fun _ => trivial, fun w9 => absurd rfl w9⟩
            · refine oq_b (h_X7_passNumber _ _ js13.1 (by have f0 : (1 : Int32).toInt = 1 := rfl; omega) (by have f0 : (99 : Int32).toInt = 99 := rfl; omega)) (fun r14 s15 hs15 => ?_)
              have js15 : JC 57851332738775333126146160838249547006166631424088877469532160 s s15 := j_call js13 hs15.1 rfl
              refine oq_if (fun c7 => ?_) (fun c7 => ?_)
              · exact ⟨js15, (by have f0 : (0 : Int32).toInt = 0 := rfl; omega), fun _ => trivial, fun w9 => absurd rfl w9⟩
              · refine oq_n (fun s16 es16 => ?_)
                have js16 : JC 57851332738775333126146160838249547006166631424088877469532160 s s16 := by rw [es16]; exact (j_wf js15 rfl 64 rfl rfl)
                refine oq_n (fun s17 es17 => ?_)
                have js17 : JC 57851332738775333126146160838249547006166631424088877469532160 s s17 := by rw [es17]; exact (j_wr 0 4 js16 rfl 205 rfl rfl (by have f0 := i_add (s16.1 52 15) ((1 : Int32)); have f1 := j_rd js16 52 15 0 4 rfl; have f2 : (s16.1 52 15).toInt = (s15.1 52 15).toInt := (by rw [es16]; exact u_nc rfl); have f3 : (1 : Int32).toInt = 1 := rfl; have f4 := j_rd js15 52 15 0 4 rfl; have f5 : (s15.1 52 15).toInt = (s13.1 52 15).toInt := j_fr hs15.1 52 15 205 rfl rfl; have f6 := j_rd js13 52 15 0 4 rfl; have f7 : (s13.1 52 15).toInt = (s11.1 52 15).toInt := j_fr hs13.1 52 15 205 rfl rfl; have f8 := j_rd js11 52 15 0 4 rfl; have f9 : (s11.1 52 15).toInt = (s8.1 52 15).toInt := j_fr hs11.1 52 15 205 rfl rfl; have f10 := j_rd js8 52 15 0 4 rfl; have f11 : (s8.1 52 15).toInt = (s6.1 52 15).toInt := j_fr hs8.1 52 15 205 rfl rfl; have f12 := j_rd js6 52 15 0 4 rfl; have f13 : (s6.1 52 15).toInt = (s4.1 52 15).toInt := j_fr hs6.1 52 15 205 rfl rfl; have f14 := j_rd js4 52 15 0 4 rfl; have f15 : (s4.1 52 15).toInt = (s2.1 52 15).toInt := j_fr hs4.1 52 15 205 rfl rfl; have f16 := j_rd js2 52 15 0 4 rfl; have f17 : (s2.1 52 15).toInt = (s.1 52 15).toInt := j_fr hs2.1 52 15 205 rfl rfl; have f18 := j_rd hJ 52 15 0 4 rfl; have f19 := (hs2.2.2.2 c1).1; have f20 := (hs2.2.2.2 c1).2; have f21 := (hs6.2.2.2 c3).1; have f22 := (hs11.2.2.2 c5).1; have f23 : (4 : Int32).toInt = 4 := rfl; have f24 : (7 : Int32).toInt = 7 := rfl; have f25 : (3 : Int32).toInt = 3 := rfl; omega))
                refine oq_b (h_X7_pass _ js17.1 (by have f0 : (59 : Int32).toInt = 59 := rfl; omega)) (fun r18 s19 hs19 => ?_)
                have js19 : JC 57851332738775333126146160838249547006166631424088877469532160 s s19 := j_call js17 hs19.1 rfl
                refine oq_c (b01_of (by have f0 := hs19.2.1; have f1 := i_rg r18; omega)) ?_
                exact ⟨js19, (by have f0 := hs19.2.1; have f1 := i_rg r18; omega), fun _ => trivial, fun w9 => ⟨(by have f0 := j_rd hJ 52 15 0 4 rfl; have f1 : (3 : Int32).toInt = 3 := rfl; have f2 := (hs2.2.2.2 c1).1; have f3 := (hs2.2.2.2 c1).2; have f4 : (4 : Int32).toInt = 4 := rfl; have f5 : (7 : Int32).toInt = 7 := rfl; omega), (by have f0 : (0 : Int32).toInt = 0 := rfl; have f1 : (s19.1 7 7).toInt = (s17.1 7 7).toInt := j_fr hs19.1 7 7 187 rfl rfl; have f2 := i_rg (s19.1 7 7); have f3 : (s17.1 7 7).toInt = (s16.1 7 7).toInt := (by rw [es17]; exact u_nc rfl); have f4 := i_rg (s17.1 7 7); have f5 : (s16.1 7 7).toInt = (s15.1 7 7).toInt := (by rw [es16]; exact u_nc rfl); have f6 := i_rg (s16.1 7 7); have f7 := i_rg (s15.1 7 7); have f8 := (hs15.2.2.2 c7); omega)⟩⟩
theorem h_X6_takeGrocer_b171 {s0 : Sg}  (s : Sg) (hJ : JC 109273350155063021943488947793166750286879566807041996287377408 s0 s) (z_52_16 : 0 ≤ (s.1 52 16).toInt ∧ (s.1 52 16).toInt ≤ 3) : OQ (f_X6_takeGrocer_b171  s) (fun r9 s9 => JC 109273350155063021943488947793166750286879566807041996287377408 s0 s9 ∧ (0 ≤ r9.toInt ∧ r9.toInt ≤ 1) ∧ (r9 = 0 → True) ∧ (¬ r9 = 0 → True)) := by
  unfold f_X6_takeGrocer_b171
  refine oq_b (h_X7_pass _ ((j_wr 0 4 hJ rfl 206 rfl rfl (by have f0 := i_add (s.1 52 16) ((1 : Int32)); have f1 := z_52_16; have f2 := j_rd hJ 52 16 0 4 rfl; have f3 : (1 : Int32).toInt = 1 := rfl; omega)) : JC 109273350155063021943488947793166750286879566807041996287377408 s0 (pI s 52 16 ((s.1 52 16) + 1))).1 (by have f0 : (59 : Int32).toInt = 59 := rfl; omega)) (fun r20 s21 hs21 => ?_)
  have js21 : JC 109273350155063021943488947793166750286879566807041996287377408 s0 s21 := j_call ((j_wr 0 4 hJ rfl 206 rfl rfl (by have f0 := i_add (s.1 52 16) ((1 : Int32)); have f1 := z_52_16; have f2 := j_rd hJ 52 16 0 4 rfl; have f3 : (1 : Int32).toInt = 1 := rfl; omega)) : JC 109273350155063021943488947793166750286879566807041996287377408 s0 (pI s 52 16 ((s.1 52 16) + 1))) hs21.1 rfl
  refine oq_c (b01_of (by have f0 := hs21.2.1; have f1 := i_rg r20; omega)) ?_
  exact ⟨js21, (by have f0 := hs21.2.1; have f1 := i_rg r20; omega), fun _ => trivial, fun _ => trivial⟩
theorem h_X6_takeGrocer  {s : Sg} (hR : Rg rC s) : OQ (f_X6_takeGrocer  s) (fun r9 s9 => JC 109273350155063021943488947793166750286879566807041996287377408 s s9 ∧ (0 ≤ r9.toInt ∧ r9.toInt ≤ 1) ∧ (r9 = 0 → True) ∧ (¬ r9 = 0 → True)) := by
  have hJ : JC 109273350155063021943488947793166750286879566807041996287377408 s s := j_refl hR
  unfold f_X6_takeGrocer
  refine oq_b (h_X6_takeNew _ _ _ hJ.1 (by have f0 : (112 : Int32).toInt = 112 := rfl; omega) (by have f0 := j_rd hJ 52 16 0 4 rfl; omega) (by have f0 : (4 : Int32).toInt = 4 := rfl; omega)) (fun r1 s2 hs2 => ?_)
  have js2 : JC 109273350155063021943488947793166750286879566807041996287377408 s s2 := j_call hJ hs2.1 rfl
  refine oq_if (fun c1 => ?_) (fun c1 => ?_)
  · exact ⟨js2, (by have f0 : (0 : Int32).toInt = 0 := rfl; omega), fun _ => trivial, fun w9 => absurd rfl w9⟩
  · refine oq_b (h_X7_pass _ js2.1 (by have f0 : (113 : Int32).toInt = 113 := rfl; omega)) (fun r3 s4 hs4 => ?_)
    have js4 : JC 109273350155063021943488947793166750286879566807041996287377408 s s4 := j_call js2 hs4.1 rfl
    refine oq_if (fun c2 => ?_) (fun c2 => ?_)
    · exact ⟨js4, (by have f0 : (0 : Int32).toInt = 0 := rfl; omega), fun _ => trivial, fun w9 => absurd rfl w9⟩
    · refine oq_b (h_X7_passNumber _ _ js4.1 (by have f0 : (0 : Int32).toInt = 0 := rfl; omega) (by have f0 : (999 : Int32).toInt = 999 := rfl; omega)) (fun r5 s6 hs6 => ?_)
      have js6 : JC 109273350155063021943488947793166750286879566807041996287377408 s s6 := j_call js4 hs6.1 rfl
      refine oq_if (fun c3 => ?_) (fun c3 => ?_)
      · exact ⟨js6, (by have f0 : (0 : Int32).toInt = 0 := rfl; omega), fun _ => trivial, fun w9 => absurd rfl w9⟩
      · refine oq_c (inr_of (by have f0 := j_rd hJ 52 16 0 4 rfl; have f1 := (hs2.2.2.2 c1).1; have f2 := (hs2.2.2.2 c1).2; have f3 : (4 : Int32).toInt = 4 := rfl; have f4 : (7 : Int32).toInt = 7 := rfl; omega)) ?_
        refine oq_n (fun s8 es8 => ?_)
        have js8 : JC 109273350155063021943488947793166750286879566807041996287377408 s s8 := by rw [es8]; exact (j_wf js6 rfl 71 rfl rfl)
        refine oq_b (h_X7_pass _ js8.1 (by have f0 : (114 : Int32).toInt = 114 := rfl; omega)) (fun r9 s10 hs10 => ?_)
        have js10 : JC 109273350155063021943488947793166750286879566807041996287377408 s s10 := j_call js8 hs10.1 rfl
        refine oq_if (fun c4 => ?_) (fun c4 => ?_)
        · exact ⟨js10, (by have f0 : (0 : Int32).toInt = 0 := rfl; omega), fun _ => trivial, fun w9 => absurd rfl w9⟩
        · refine oq_b (h_X7_passNumber _ _ js10.1 (by have f0 : (1 : Int32).toInt = 1 := rfl; omega) (by have f0 : (99 : Int32).toInt = 99 := rfl; omega)) (fun r11 s12 hs12 => ?_)
          have js12 : JC 109273350155063021943488947793166750286879566807041996287377408 s s12 := j_call js10 hs12.1 rfl
          refine oq_if (fun c5 => ?_) (fun c5 => ?_)
          · exact ⟨js12, (by have f0 : (0 : Int32).toInt = 0 := rfl; omega), fun _ => trivial, fun w9 => absurd rfl w9⟩
          · refine oq_n (fun s13 es13 => ?_)
            have js13 : JC 109273350155063021943488947793166750286879566807041996287377408 s s13 := by rw [es13]; exact (j_wf js12 rfl 65 rfl rfl)
            refine oq_n (fun s14 es14 => ?_)
            have js14 : JC 109273350155063021943488947793166750286879566807041996287377408 s s14 := by rw [es14]; exact (j_wf js13 rfl 66 rfl rfl)
            refine oq_if (fun c6 => ?_) (fun c6 => ?_)
            · refine oq_b (h_X7_advance  js14.1) (fun u7 s16 hs16 => ?_)
              have js16 : JC 109273350155063021943488947793166750286879566807041996287377408 s s16 := j_call js14 hs16.1 rfl
              refine oq_b (h_X7_passNumber _ _ js16.1 (by have f0 : (0 : Int32).toInt = 0 := rfl; omega) (by have f0 : (16 : Int32).toInt = 16 := rfl; omega)) (fun r17 s18 hs18 => ?_)
              have js18 : JC 109273350155063021943488947793166750286879566807041996287377408 s s18 := j_call js16 hs18.1 rfl
              refine oq_if (fun c8 => ?_) (fun c8 => ?_)
              · exact ⟨js18, (by have f0 : (0 : Int32).toInt = 0 := rfl; omega), fun _ => trivial, fun w9 => absurd rfl w9⟩
              · refine oq_n (fun s19 es19 => ?_)
                have js19 : JC 109273350155063021943488947793166750286879566807041996287377408 s s19 := by rw [es19]; exact (j_wf js18 rfl 66 rfl rfl)
                exact h_X6_takeGrocer_b171  _ js19 (by have f0 := j_rd js19 52 16 0 4 rfl; have f1 : (s19.1 52 16).toInt = (s18.1 52 16).toInt := (by rw [es19]; exact u_nc rfl); have f2 := j_rd js18 52 16 0 4 rfl; have f3 : (s18.1 52 16).toInt = (s16.1 52 16).toInt := j_fr hs18.1 52 16 206 rfl rfl; have f4 := j_rd js16 52 16 0 4 rfl; have f5 : (s16.1 52 16).toInt = (s14.1 52 16).toInt := j_fr hs16.1 52 16 206 rfl rfl; have f6 := j_rd js14 52 16 0 4 rfl; have f7 : (s14.1 52 16).toInt = (s13.1 52 16).toInt := (by rw [es14]; exact u_nc rfl); have f8 := j_rd js13 52 16 0 4 rfl; have f9 : (s13.1 52 16).toInt = (s12.1 52 16).toInt := (by rw [es13]; exact u_nc rfl); have f10 := j_rd js12 52 16 0 4 rfl; have f11 : (s12.1 52 16).toInt = (s10.1 52 16).toInt := j_fr hs12.1 52 16 206 rfl rfl; have f12 := j_rd js10 52 16 0 4 rfl; have f13 : (s10.1 52 16).toInt = (s8.1 52 16).toInt := j_fr hs10.1 52 16 206 rfl rfl; have f14 := j_rd js8 52 16 0 4 rfl; have f15 : (s8.1 52 16).toInt = (s6.1 52 16).toInt := (by rw [es8]; exact u_nc rfl); have f16 := j_rd js6 52 16 0 4 rfl; have f17 : (s6.1 52 16).toInt = (s4.1 52 16).toInt := j_fr hs6.1 52 16 206 rfl rfl; have f18 := j_rd js4 52 16 0 4 rfl; have f19 : (s4.1 52 16).toInt = (s2.1 52 16).toInt := j_fr hs4.1 52 16 206 rfl rfl; have f20 := j_rd js2 52 16 0 4 rfl; have f21 : (s2.1 52 16).toInt = (s.1 52 16).toInt := j_fr hs2.1 52 16 206 rfl rfl; have f22 := j_rd hJ 52 16 0 4 rfl; have f23 := (hs2.2.2.2 c1).1; have f24 := (hs2.2.2.2 c1).2; have f25 : (4 : Int32).toInt = 4 := rfl; have f26 : (7 : Int32).toInt = 7 := rfl; omega)
            · exact h_X6_takeGrocer_b171  _ js14 (by have f0 := j_rd js14 52 16 0 4 rfl; have f1 : (s14.1 52 16).toInt = (s13.1 52 16).toInt := (by rw [es14]; exact u_nc rfl); have f2 := j_rd js13 52 16 0 4 rfl; have f3 : (s13.1 52 16).toInt = (s12.1 52 16).toInt := (by rw [es13]; exact u_nc rfl); have f4 := j_rd js12 52 16 0 4 rfl; have f5 : (s12.1 52 16).toInt = (s10.1 52 16).toInt := j_fr hs12.1 52 16 206 rfl rfl; have f6 := j_rd js10 52 16 0 4 rfl; have f7 : (s10.1 52 16).toInt = (s8.1 52 16).toInt := j_fr hs10.1 52 16 206 rfl rfl; have f8 := j_rd js8 52 16 0 4 rfl; have f9 : (s8.1 52 16).toInt = (s6.1 52 16).toInt := (by rw [es8]; exact u_nc rfl); have f10 := j_rd js6 52 16 0 4 rfl; have f11 : (s6.1 52 16).toInt = (s4.1 52 16).toInt := j_fr hs6.1 52 16 206 rfl rfl; have f12 := j_rd js4 52 16 0 4 rfl; have f13 : (s4.1 52 16).toInt = (s2.1 52 16).toInt := j_fr hs4.1 52 16 206 rfl rfl; have f14 := j_rd js2 52 16 0 4 rfl; have f15 : (s2.1 52 16).toInt = (s.1 52 16).toInt := j_fr hs2.1 52 16 206 rfl rfl; have f16 := j_rd hJ 52 16 0 4 rfl; have f17 := (hs2.2.2.2 c1).1; have f18 := (hs2.2.2.2 c1).2; have f19 : (4 : Int32).toInt = 4 := rfl; have f20 : (7 : Int32).toInt = 7 := rfl; omega)
theorem h_X6_takeWashes_b35 {s0 : Sg}  (s : Sg) (hJ : JC 411377702475753193745377821153305319561051257522299593111372032 s0 s) : OQ (f_X6_takeWashes_b35  s) (fun r9 s9 => JC 411377702475753193745377821153305319561051257522299593111372032 s0 s9 ∧ (0 ≤ r9.toInt ∧ r9.toInt ≤ 1) ∧ (r9 = 0 → True) ∧ (¬ r9 = 0 → 0 ≤ (s9.1 7 7).toInt)) := by
  unfold f_X6_takeWashes_b35
  refine oq_b (h_X7_pass _ hJ.1 (by have f0 : (117 : Int32).toInt = 117 := rfl; omega)) (fun r3 s4 hs4 => ?_)
  have js4 : JC 411377702475753193745377821153305319561051257522299593111372032 s0 s4 := j_call hJ hs4.1 rfl
  refine oq_if (fun c1 => ?_) (fun c1 => ?_)
  · exact ⟨js4, (by have f0 : (0 : Int32).toInt = 0 := rfl; omega), fun _ => trivial, fun w9 => absurd rfl w9⟩
  · refine oq_b (h_X7_passNumber _ _ js4.1 (by have f0 : (0 : Int32).toInt = 0 := rfl; omega) (by have f0 : (99 : Int32).toInt = 99 := rfl; omega)) (fun r5 s6 hs6 => ?_)
    have js6 : JC 411377702475753193745377821153305319561051257522299593111372032 s0 s6 := j_call js4 hs6.1 rfl
    refine oq_if (fun c2 => ?_) (fun c2 => ?_)
    · exact ⟨js6, (by have f0 : (0 : Int32).toInt = 0 := rfl; omega), fun _ => trivial, fun w9 => absurd rfl w9⟩
    · refine oq_n (fun s7 es7 => ?_)
      have js7 : JC 411377702475753193745377821153305319561051257522299593111372032 s0 s7 := by rw [es7]; exact (j_wf (j_wr 0 1 js6 rfl 8 rfl rfl (by have f0 : (1 : Int32).toInt = 1 := rfl; omega)) rfl 208 rfl rfl)
      refine oq_b (h_X7_pass _ js7.1 (by have f0 : (59 : Int32).toInt = 59 := rfl; omega)) (fun r8 s9 hs9 => ?_)
      have js9 : JC 411377702475753193745377821153305319561051257522299593111372032 s0 s9 := j_call js7 hs9.1 rfl
      refine oq_c (b01_of (by have f0 := hs9.2.1; have f1 := i_rg r8; omega)) ?_
      exact ⟨js9, (by have f0 := hs9.2.1; have f1 := i_rg r8; omega), fun _ => trivial, fun w9 => (by have f0 : (0 : Int32).toInt = 0 := rfl; have f1 : (s9.1 7 7).toInt = (s7.1 7 7).toInt := j_fr hs9.1 7 7 187 rfl rfl; have f2 := i_rg (s9.1 7 7); have f3 : (s7.1 7 7).toInt = ((pI s6 8 3 1).1 7 7).toInt := (by rw [es7]; exact u_nc rfl); have f4 := i_rg (s7.1 7 7); have f5 : ((pI s6 8 3 1).1 7 7).toInt = (s6.1 7 7).toInt := u_nc rfl; have f6 := i_rg ((pI s6 8 3 1).1 7 7); have f7 := i_rg (s6.1 7 7); have f8 := (hs6.2.2.2 c2); omega)⟩
theorem h_X6_takeWashes  {s : Sg} (hR : Rg rC s) : OQ (f_X6_takeWashes  s) (fun r9 s9 => JC 411377702475753193745377821153305319561051257522299593111372032 s s9 ∧ (0 ≤ r9.toInt ∧ r9.toInt ≤ 1) ∧ (r9 = 0 → True) ∧ (¬ r9 = 0 → 0 ≤ (s9.1 7 7).toInt)) := by
  have hJ : JC 411377702475753193745377821153305319561051257522299593111372032 s s := j_refl hR
  unfold f_X6_takeWashes
  refine oq_b (h_X7_advance  hJ.1) (fun u1 s2 hs2 => ?_)
  have js2 : JC 411377702475753193745377821153305319561051257522299593111372032 s s2 := j_call hJ hs2.1 rfl
  refine oq_if (fun c2 => ?_) (fun c2 => ?_)
  · refine oq_if (fun c3 => ?_) (fun c3 => ?_)
    · exact h_X6_takeWashes_b35  _ js2
    · refine oq_b (h_X7_wrong _ js2.1 (by have f0 : (5 : Int32).toInt = 5 := rfl; omega)) (fun r10 s11 hs11 => ?_)
      have js11 : JC 411377702475753193745377821153305319561051257522299593111372032 s s11 := j_call js2 hs11.1 rfl
      refine oq_c (b01_of (by have f0 := hs11.2.1; have f1 := i_rg r10; omega)) ?_
      exact ⟨js11, (by have f0 := hs11.2.1; have f1 := i_rg r10; omega), fun _ => trivial, fun w9 => False.elim (by have f0 := hs11.2.1; have f1 := i_rg r10; have f2 := i_ne w9; have f3 : (0 : Int32).toInt = 0 := rfl; omega)⟩
  · exact h_X6_takeWashes_b35  _ js2
theorem h_X6_takeText_b21 {s0 : Sg} (n : Nat) : ∀ (v1 : Int32) (v2 : Int32) (s : Sg), JC 2950383245087890849305964212002474058476950690282486929711869985024 s0 s → 0 ≤ v1.toInt ∧ v1.toInt ≤ 1 → 0 ≤ v2.toInt ∧ v2.toInt ≤ 901 → 901 - v2.toInt < (n : Int) → OQ (f_X6_takeText_b21 n v1 v2 s) (fun r9 s9 => JC 2950383245087890849305964212002474058476950690282486929711869985024 s0 s9 ∧ (0 ≤ r9.toInt ∧ r9.toInt ≤ 1) ∧ (r9 = 0 → True) ∧ (¬ r9 = 0 → True)) := by
  induction n with
  | zero => intro v1 v2 s hJ p_v1 p_v2 hn; exact False.elim (by have g0 := hn; have g1 := p_v1; have g2 := p_v2; have g3 := i_rg v1; have g4 := i_rg v2; omega)
  | succ n ih =>
    intro v1 v2 s hJ p_v1 p_v2 hn
    unfold f_X6_takeText_b21
    refine oq_if (fun c1 => ?_) (fun c1 => ?_)
    · refine oq_c (b01_of (by have f0 := p_v1; have f1 := i_rg v1; omega)) ?_
      exact ⟨hJ, (by have f0 := p_v1; have f1 := i_rg v1; omega), fun _ => trivial, fun _ => trivial⟩
    · refine oq_if (fun c2 => ?_) (fun c2 => ?_)
      · refine oq_c (b01_of (by have f0 := p_v1; have f1 := i_rg v1; have f2 := i_eq c2; have f3 : (0 : Int32).toInt = 0 := rfl; omega)) ?_
        exact ⟨hJ, (by have f0 := p_v1; have f1 := i_rg v1; have f2 := i_eq c2; have f3 : (0 : Int32).toInt = 0 := rfl; omega), fun _ => trivial, fun w9 => False.elim (by have f0 := p_v1; have f1 := i_rg v1; have f2 := i_eq c2; have f3 := i_ne w9; have f4 : (0 : Int32).toInt = 0 := rfl; omega)⟩
      · refine oq_if (fun c3 => ?_) (fun c3 => ?_)
        · refine oq_c (b01_of (by have f0 := p_v1; have f1 := i_rg v1; have f2 := i_ne c2; have f3 : (0 : Int32).toInt = 0 := rfl; omega)) ?_
          exact ⟨hJ, (by have f0 := p_v1; have f1 := i_rg v1; have f2 := i_ne c2; have f3 : (0 : Int32).toInt = 0 := rfl; omega), fun w9 => False.elim (by have f0 := p_v1; have f1 := i_rg v1; have f2 := i_ne c2; have f3 := i_eq w9; have f4 : (0 : Int32).toInt = 0 := rfl; omega), fun _ => trivial⟩
        · refine oq_if (fun c4 => ?_) (fun c4 => ?_)
          · refine oq_b (h_X6_takeHouse  hJ.1) (fun r3 s4 hs4 => ?_)
            have js4 : JC 2950383245087890849305964212002474058476950690282486929711869985024 s0 s4 := j_call hJ hs4.1 rfl
            exact ih _ _ _ js4 (by have f0 := hs4.2.1; have f1 := i_rg r3; omega) (by have f0 := i_add (v2) ((1 : Int32)); have f1 := p_v2; have f2 := i_rg v2; have f3 : (1 : Int32).toInt = 1 := rfl; have f4 := i_nlt c1; have f5 : (900 : Int32).toInt = 900 := rfl; omega) (by have g0 := i_add (v2) ((1 : Int32)); have g1 := hs4.2.1; have g2 := i_rg r3; have g3 := p_v2; have g4 := i_rg v2; have g5 : (1 : Int32).toInt = 1 := rfl; have g6 := i_nlt c1; have g7 : (900 : Int32).toInt = 900 := rfl; have g8 := hn; omega)
          · refine oq_if (fun c5 => ?_) (fun c5 => ?_)
            · refine oq_b (h_X7_wrong _ hJ.1 (by have f0 : (2 : Int32).toInt = 2 := rfl; omega)) (fun r5 s6 hs6 => ?_)
              have js6 : JC 2950383245087890849305964212002474058476950690282486929711869985024 s0 s6 := j_call hJ hs6.1 rfl
              exact ih _ _ _ js6 (by have f0 := hs6.2.1; have f1 := i_rg r5; omega) (by have f0 := i_add (v2) ((1 : Int32)); have f1 := p_v2; have f2 := i_rg v2; have f3 : (1 : Int32).toInt = 1 := rfl; have f4 := i_nlt c1; have f5 : (900 : Int32).toInt = 900 := rfl; omega) (by have g0 := i_add (v2) ((1 : Int32)); have g1 := hs6.2.1; have g2 := i_rg r5; have g3 := p_v2; have g4 := i_rg v2; have g5 : (1 : Int32).toInt = 1 := rfl; have g6 := i_nlt c1; have g7 : (900 : Int32).toInt = 900 := rfl; have g8 := hn; omega)
            · refine oq_if (fun c6 => ?_) (fun c6 => ?_)
              · refine oq_b (h_X7_wrong _ hJ.1 (by have f0 : (2 : Int32).toInt = 2 := rfl; omega)) (fun r7 s8 hs8 => ?_)
                have js8 : JC 2950383245087890849305964212002474058476950690282486929711869985024 s0 s8 := j_call hJ hs8.1 rfl
                exact ih _ _ _ js8 (by have f0 := hs8.2.1; have f1 := i_rg r7; omega) (by have f0 := i_add (v2) ((1 : Int32)); have f1 := p_v2; have f2 := i_rg v2; have f3 : (1 : Int32).toInt = 1 := rfl; have f4 := i_nlt c1; have f5 : (900 : Int32).toInt = 900 := rfl; omega) (by have g0 := i_add (v2) ((1 : Int32)); have g1 := hs8.2.1; have g2 := i_rg r7; have g3 := p_v2; have g4 := i_rg v2; have g5 : (1 : Int32).toInt = 1 := rfl; have g6 := i_nlt c1; have g7 : (900 : Int32).toInt = 900 := rfl; have g8 := hn; omega)
              · refine oq_if (fun c7 => ?_) (fun c7 => ?_)
                · refine oq_b (h_X6_takeCounts  hJ.1) (fun r9 s10 hs10 => ?_)
                  have js10 : JC 2950383245087890849305964212002474058476950690282486929711869985024 s0 s10 := j_call hJ hs10.1 rfl
                  exact ih _ _ _ js10 (by have f0 := hs10.2.1; have f1 := i_rg r9; omega) (by have f0 := i_add (v2) ((1 : Int32)); have f1 := p_v2; have f2 := i_rg v2; have f3 : (1 : Int32).toInt = 1 := rfl; have f4 := i_nlt c1; have f5 : (900 : Int32).toInt = 900 := rfl; omega) (by have g0 := i_add (v2) ((1 : Int32)); have g1 := hs10.2.1; have g2 := i_rg r9; have g3 := p_v2; have g4 := i_rg v2; have g5 : (1 : Int32).toInt = 1 := rfl; have g6 := i_nlt c1; have g7 : (900 : Int32).toInt = 900 := rfl; have g8 := hn; omega)
                · refine oq_if (fun c8 => ?_) (fun c8 => ?_)
                  · refine oq_b (h_X6_takeQuarrel  hJ.1) (fun r11 s12 hs12 => ?_)
                    have js12 : JC 2950383245087890849305964212002474058476950690282486929711869985024 s0 s12 := j_call hJ hs12.1 rfl
                    exact ih _ _ _ js12 (by have f0 := hs12.2.1; have f1 := i_rg r11; omega) (by have f0 := i_add (v2) ((1 : Int32)); have f1 := p_v2; have f2 := i_rg v2; have f3 : (1 : Int32).toInt = 1 := rfl; have f4 := i_nlt c1; have f5 : (900 : Int32).toInt = 900 := rfl; omega) (by have g0 := i_add (v2) ((1 : Int32)); have g1 := hs12.2.1; have g2 := i_rg r11; have g3 := p_v2; have g4 := i_rg v2; have g5 : (1 : Int32).toInt = 1 := rfl; have g6 := i_nlt c1; have g7 : (900 : Int32).toInt = 900 := rfl; have g8 := hn; omega)
                  · refine oq_if (fun c9 => ?_) (fun c9 => ?_)
                    · refine oq_b (h_X7_wrong _ hJ.1 (by have f0 : (2 : Int32).toInt = 2 := rfl; omega)) (fun r13 s14 hs14 => ?_)
                      have js14 : JC 2950383245087890849305964212002474058476950690282486929711869985024 s0 s14 := j_call hJ hs14.1 rfl
                      exact ih _ _ _ js14 (by have f0 := hs14.2.1; have f1 := i_rg r13; omega) (by have f0 := i_add (v2) ((1 : Int32)); have f1 := p_v2; have f2 := i_rg v2; have f3 : (1 : Int32).toInt = 1 := rfl; have f4 := i_nlt c1; have f5 : (900 : Int32).toInt = 900 := rfl; omega) (by have g0 := i_add (v2) ((1 : Int32)); have g1 := hs14.2.1; have g2 := i_rg r13; have g3 := p_v2; have g4 := i_rg v2; have g5 : (1 : Int32).toInt = 1 := rfl; have g6 := i_nlt c1; have g7 : (900 : Int32).toInt = 900 := rfl; have g8 := hn; omega)
                    · refine oq_if (fun c10 => ?_) (fun c10 => ?_)
                      · refine oq_b (h_X7_wrong _ hJ.1 (by have f0 : (2 : Int32).toInt = 2 := rfl; omega)) (fun r15 s16 hs16 => ?_)
                        have js16 : JC 2950383245087890849305964212002474058476950690282486929711869985024 s0 s16 := j_call hJ hs16.1 rfl
                        exact ih _ _ _ js16 (by have f0 := hs16.2.1; have f1 := i_rg r15; omega) (by have f0 := i_add (v2) ((1 : Int32)); have f1 := p_v2; have f2 := i_rg v2; have f3 : (1 : Int32).toInt = 1 := rfl; have f4 := i_nlt c1; have f5 : (900 : Int32).toInt = 900 := rfl; omega) (by have g0 := i_add (v2) ((1 : Int32)); have g1 := hs16.2.1; have g2 := i_rg r15; have g3 := p_v2; have g4 := i_rg v2; have g5 : (1 : Int32).toInt = 1 := rfl; have g6 := i_nlt c1; have g7 : (900 : Int32).toInt = 900 := rfl; have g8 := hn; omega)
                      · refine oq_if (fun c11 => ?_) (fun c11 => ?_)
                        · refine oq_b (h_X7_wrong _ hJ.1 (by have f0 : (2 : Int32).toInt = 2 := rfl; omega)) (fun r17 s18 hs18 => ?_)
                          have js18 : JC 2950383245087890849305964212002474058476950690282486929711869985024 s0 s18 := j_call hJ hs18.1 rfl
                          exact ih _ _ _ js18 (by have f0 := hs18.2.1; have f1 := i_rg r17; omega) (by have f0 := i_add (v2) ((1 : Int32)); have f1 := p_v2; have f2 := i_rg v2; have f3 : (1 : Int32).toInt = 1 := rfl; have f4 := i_nlt c1; have f5 : (900 : Int32).toInt = 900 := rfl; omega) (by have g0 := i_add (v2) ((1 : Int32)); have g1 := hs18.2.1; have g2 := i_rg r17; have g3 := p_v2; have g4 := i_rg v2; have g5 : (1 : Int32).toInt = 1 := rfl; have g6 := i_nlt c1; have g7 : (900 : Int32).toInt = 900 := rfl; have g8 := hn; omega)
                        · refine oq_if (fun c12 => ?_) (fun c12 => ?_)
                          · refine oq_b (h_X6_takeCat  hJ.1) (fun r19 s20 hs20 => ?_)
                            have js20 : JC 2950383245087890849305964212002474058476950690282486929711869985024 s0 s20 := j_call hJ hs20.1 rfl
                            exact ih _ _ _ js20 (by have f0 := hs20.2.1; have f1 := i_rg r19; omega) (by have f0 := i_add (v2) ((1 : Int32)); have f1 := p_v2; have f2 := i_rg v2; have f3 : (1 : Int32).toInt = 1 := rfl; have f4 := i_nlt c1; have f5 : (900 : Int32).toInt = 900 := rfl; omega) (by have g0 := i_add (v2) ((1 : Int32)); have g1 := hs20.2.1; have g2 := i_rg r19; have g3 := p_v2; have g4 := i_rg v2; have g5 : (1 : Int32).toInt = 1 := rfl; have g6 := i_nlt c1; have g7 : (900 : Int32).toInt = 900 := rfl; have g8 := hn; omega)
                          · refine oq_if (fun c13 => ?_) (fun c13 => ?_)
                            · refine oq_b (h_X7_wrong _ hJ.1 (by have f0 : (2 : Int32).toInt = 2 := rfl; omega)) (fun r21 s22 hs22 => ?_)
                              have js22 : JC 2950383245087890849305964212002474058476950690282486929711869985024 s0 s22 := j_call hJ hs22.1 rfl
                              exact ih _ _ _ js22 (by have f0 := hs22.2.1; have f1 := i_rg r21; omega) (by have f0 := i_add (v2) ((1 : Int32)); have f1 := p_v2; have f2 := i_rg v2; have f3 : (1 : Int32).toInt = 1 := rfl; have f4 := i_nlt c1; have f5 : (900 : Int32).toInt = 900 := rfl; omega) (by have g0 := i_add (v2) ((1 : Int32)); have g1 := hs22.2.1; have g2 := i_rg r21; have g3 := p_v2; have g4 := i_rg v2; have g5 : (1 : Int32).toInt = 1 := rfl; have g6 := i_nlt c1; have g7 : (900 : Int32).toInt = 900 := rfl; have g8 := hn; omega)
                            · refine oq_if (fun c14 => ?_) (fun c14 => ?_)
                              · refine oq_b (h_X7_wrong _ hJ.1 (by have f0 : (2 : Int32).toInt = 2 := rfl; omega)) (fun r23 s24 hs24 => ?_)
                                have js24 : JC 2950383245087890849305964212002474058476950690282486929711869985024 s0 s24 := j_call hJ hs24.1 rfl
                                exact ih _ _ _ js24 (by have f0 := hs24.2.1; have f1 := i_rg r23; omega) (by have f0 := i_add (v2) ((1 : Int32)); have f1 := p_v2; have f2 := i_rg v2; have f3 : (1 : Int32).toInt = 1 := rfl; have f4 := i_nlt c1; have f5 : (900 : Int32).toInt = 900 := rfl; omega) (by have g0 := i_add (v2) ((1 : Int32)); have g1 := hs24.2.1; have g2 := i_rg r23; have g3 := p_v2; have g4 := i_rg v2; have g5 : (1 : Int32).toInt = 1 := rfl; have g6 := i_nlt c1; have g7 : (900 : Int32).toInt = 900 := rfl; have g8 := hn; omega)
                              · refine oq_if (fun c15 => ?_) (fun c15 => ?_)
                                · refine oq_b (h_X7_wrong _ hJ.1 (by have f0 : (2 : Int32).toInt = 2 := rfl; omega)) (fun r25 s26 hs26 => ?_)
                                  have js26 : JC 2950383245087890849305964212002474058476950690282486929711869985024 s0 s26 := j_call hJ hs26.1 rfl
                                  exact ih _ _ _ js26 (by have f0 := hs26.2.1; have f1 := i_rg r25; omega) (by have f0 := i_add (v2) ((1 : Int32)); have f1 := p_v2; have f2 := i_rg v2; have f3 : (1 : Int32).toInt = 1 := rfl; have f4 := i_nlt c1; have f5 : (900 : Int32).toInt = 900 := rfl; omega) (by have g0 := i_add (v2) ((1 : Int32)); have g1 := hs26.2.1; have g2 := i_rg r25; have g3 := p_v2; have g4 := i_rg v2; have g5 : (1 : Int32).toInt = 1 := rfl; have g6 := i_nlt c1; have g7 : (900 : Int32).toInt = 900 := rfl; have g8 := hn; omega)
                                · refine oq_if (fun c16 => ?_) (fun c16 => ?_)
                                  · refine oq_b (h_X6_takeGrocer  hJ.1) (fun r27 s28 hs28 => ?_)
                                    have js28 : JC 2950383245087890849305964212002474058476950690282486929711869985024 s0 s28 := j_call hJ hs28.1 rfl
                                    exact ih _ _ _ js28 (by have f0 := hs28.2.1; have f1 := i_rg r27; omega) (by have f0 := i_add (v2) ((1 : Int32)); have f1 := p_v2; have f2 := i_rg v2; have f3 : (1 : Int32).toInt = 1 := rfl; have f4 := i_nlt c1; have f5 : (900 : Int32).toInt = 900 := rfl; omega) (by have g0 := i_add (v2) ((1 : Int32)); have g1 := hs28.2.1; have g2 := i_rg r27; have g3 := p_v2; have g4 := i_rg v2; have g5 : (1 : Int32).toInt = 1 := rfl; have g6 := i_nlt c1; have g7 : (900 : Int32).toInt = 900 := rfl; have g8 := hn; omega)
                                  · refine oq_if (fun c17 => ?_) (fun c17 => ?_)
                                    · refine oq_b (h_X7_wrong _ hJ.1 (by have f0 : (2 : Int32).toInt = 2 := rfl; omega)) (fun r29 s30 hs30 => ?_)
                                      have js30 : JC 2950383245087890849305964212002474058476950690282486929711869985024 s0 s30 := j_call hJ hs30.1 rfl
                                      exact ih _ _ _ js30 (by have f0 := hs30.2.1; have f1 := i_rg r29; omega) (by have f0 := i_add (v2) ((1 : Int32)); have f1 := p_v2; have f2 := i_rg v2; have f3 : (1 : Int32).toInt = 1 := rfl; have f4 := i_nlt c1; have f5 : (900 : Int32).toInt = 900 := rfl; omega) (by have g0 := i_add (v2) ((1 : Int32)); have g1 := hs30.2.1; have g2 := i_rg r29; have g3 := p_v2; have g4 := i_rg v2; have g5 : (1 : Int32).toInt = 1 := rfl; have g6 := i_nlt c1; have g7 : (900 : Int32).toInt = 900 := rfl; have g8 := hn; omega)
                                    · refine oq_if (fun c18 => ?_) (fun c18 => ?_)
                                      · refine oq_b (h_X7_wrong _ hJ.1 (by have f0 : (2 : Int32).toInt = 2 := rfl; omega)) (fun r31 s32 hs32 => ?_)
                                        have js32 : JC 2950383245087890849305964212002474058476950690282486929711869985024 s0 s32 := j_call hJ hs32.1 rfl
                                        exact ih _ _ _ js32 (by have f0 := hs32.2.1; have f1 := i_rg r31; omega) (by have f0 := i_add (v2) ((1 : Int32)); have f1 := p_v2; have f2 := i_rg v2; have f3 : (1 : Int32).toInt = 1 := rfl; have f4 := i_nlt c1; have f5 : (900 : Int32).toInt = 900 := rfl; omega) (by have g0 := i_add (v2) ((1 : Int32)); have g1 := hs32.2.1; have g2 := i_rg r31; have g3 := p_v2; have g4 := i_rg v2; have g5 : (1 : Int32).toInt = 1 := rfl; have g6 := i_nlt c1; have g7 : (900 : Int32).toInt = 900 := rfl; have g8 := hn; omega)
                                      · refine oq_if (fun c19 => ?_) (fun c19 => ?_)
                                        · refine oq_b (h_X7_wrong _ hJ.1 (by have f0 : (2 : Int32).toInt = 2 := rfl; omega)) (fun r33 s34 hs34 => ?_)
                                          have js34 : JC 2950383245087890849305964212002474058476950690282486929711869985024 s0 s34 := j_call hJ hs34.1 rfl
                                          exact ih _ _ _ js34 (by have f0 := hs34.2.1; have f1 := i_rg r33; omega) (by have f0 := i_add (v2) ((1 : Int32)); have f1 := p_v2; have f2 := i_rg v2; have f3 : (1 : Int32).toInt = 1 := rfl; have f4 := i_nlt c1; have f5 : (900 : Int32).toInt = 900 := rfl; omega) (by have g0 := i_add (v2) ((1 : Int32)); have g1 := hs34.2.1; have g2 := i_rg r33; have g3 := p_v2; have g4 := i_rg v2; have g5 : (1 : Int32).toInt = 1 := rfl; have g6 := i_nlt c1; have g7 : (900 : Int32).toInt = 900 := rfl; have g8 := hn; omega)
                                        · refine oq_if (fun c20 => ?_) (fun c20 => ?_)
                                          · refine oq_b (h_X6_takeWashes  hJ.1) (fun r35 s36 hs36 => ?_)
                                            have js36 : JC 2950383245087890849305964212002474058476950690282486929711869985024 s0 s36 := j_call hJ hs36.1 rfl
                                            exact ih _ _ _ js36 (by have f0 := hs36.2.1; have f1 := i_rg r35; omega) (by have f0 := i_add (v2) ((1 : Int32)); have f1 := p_v2; have f2 := i_rg v2; have f3 : (1 : Int32).toInt = 1 := rfl; have f4 := i_nlt c1; have f5 : (900 : Int32).toInt = 900 := rfl; omega) (by have g0 := i_add (v2) ((1 : Int32)); have g1 := hs36.2.1; have g2 := i_rg r35; have g3 := p_v2; have g4 := i_rg v2; have g5 : (1 : Int32).toInt = 1 := rfl; have g6 := i_nlt c1; have g7 : (900 : Int32).toInt = 900 := rfl; have g8 := hn; omega)
                                          · refine oq_b (h_X7_wrong _ hJ.1 (by have f0 : (2 : Int32).toInt = 2 := rfl; omega)) (fun r37 s38 hs38 => ?_)
                                            have js38 : JC 2950383245087890849305964212002474058476950690282486929711869985024 s0 s38 := j_call hJ hs38.1 rfl
                                            exact ih _ _ _ js38 (by have f0 := hs38.2.1; have f1 := i_rg r37; omega) (by have f0 := i_add (v2) ((1 : Int32)); have f1 := p_v2; have f2 := i_rg v2; have f3 : (1 : Int32).toInt = 1 := rfl; have f4 := i_nlt c1; have f5 : (900 : Int32).toInt = 900 := rfl; omega) (by have g0 := i_add (v2) ((1 : Int32)); have g1 := hs38.2.1; have g2 := i_rg r37; have g3 := p_v2; have g4 := i_rg v2; have g5 : (1 : Int32).toInt = 1 := rfl; have g6 := i_nlt c1; have g7 : (900 : Int32).toInt = 900 := rfl; have g8 := hn; omega)
theorem h_X6_takeText  {s : Sg} (hR : Rg rC s) : OQ (f_X6_takeText  s) (fun r9 s9 => JC 2950383245087890849305964212002474058476950690282486929711869985024 s s9 ∧ (0 ≤ r9.toInt ∧ r9.toInt ≤ 1) ∧ (r9 = 0 → True) ∧ (¬ r9 = 0 → True)) := by
  have hJ : JC 2950383245087890849305964212002474058476950690282486929711869985024 s s := j_refl hR
  unfold f_X6_takeText
  refine oq_b (h_X10_clear_51  hJ.1) (fun u1 s2 hs2 => ?_)
  have js2 : JC 2950383245087890849305964212002474058476950690282486929711869985024 s s2 := j_call hJ hs2.1 rfl
  exact h_X6_takeText_b21 BIG _ _ _ (j_wr 0 1 (j_wr 0 1 js2 rfl 8 rfl rfl (by have f0 : (0 : Int32).toInt = 0 := rfl; omega)) rfl 8 rfl rfl (by have f0 : (0 : Int32).toInt = 0 := rfl; omega)) (by have f0 : (1 : Int32).toInt = 1 := rfl; omega) (by have f0 : (0 : Int32).toInt = 0 := rfl; omega) (by have g0 : (1 : Int32).toInt = 1 := rfl; have g1 : (0 : Int32).toInt = 0 := rfl; have g2 : BIG = 4294967296 := rfl; omega)
theorem h_X11_closeText  {s : Sg} (hR : Rg rC s) : OQ (f_X11_closeText  s) (fun _ s9 => JC 1161344277062431400474684856512343678211075741029761024 s s9 ∧ True) := by
  have hJ : JC 1161344277062431400474684856512343678211075741029761024 s s := j_refl hR
  unfold f_X11_closeText
  refine oq_n (fun s1 es1 => ?_)
  have js1 : JC 1161344277062431400474684856512343678211075741029761024 s s1 := by rw [es1]; exact (j_wf (j_wr 0 900 hJ rfl 173 rfl rfl (by have f0 : (0 : Int32).toInt = 0 := rfl; omega)) rfl 178 rfl rfl)
  exact ⟨(j_wf js1 rfl 179 rfl rfl), trivial⟩
theorem h_X11_copyRow_29_56  {s : Sg} (hR : Rg rC s) : OQ (f_X11_copyRow_29_56  s) (fun _ s9 => JC 536870912 s s9 ∧ True) := by
  have hJ : JC 536870912 s s := j_refl hR
  unfold f_X11_copyRow_29_56
  refine oq_c ⟨(nlt_of (by have f0 : (0 : Int32).toInt = 0 := rfl; omega)), (nlt_of (by have f0 : (0 : Int32).toInt = 0 := rfl; omega)), (nlt_of (by have f0 := ite_lt ((24 : Int32)) ((24 : Int32)) ((24 : Int32)) ((24 : Int32)); have f1 : (24 : Int32).toInt = 24 := rfl; omega)), (by have f0 := ite_lt ((24 : Int32)) ((24 : Int32)) ((24 : Int32)) ((24 : Int32)); have f1 : (24 : Int32).toInt = 24 := rfl; have f2 := cl_nat (if 24 < (24 : Int32) then 24 else (24 : Int32)); omega), (by have f0 := ite_lt ((24 : Int32)) ((24 : Int32)) ((24 : Int32)) ((24 : Int32)); have f1 : (24 : Int32).toInt = 24 := rfl; have f2 := cl_nat (if 24 < (24 : Int32) then 24 else (24 : Int32)); omega)⟩ ?_
  exact ⟨(j_cp hJ (fun _ _ => rfl) 29 (fun _ => rfl) rfl), trivial⟩
theorem h_X11_copyRow_30_57  {s : Sg} (hR : Rg rC s) : OQ (f_X11_copyRow_30_57  s) (fun _ s9 => JC 1073741824 s s9 ∧ True) := by
  have hJ : JC 1073741824 s s := j_refl hR
  unfold f_X11_copyRow_30_57
  refine oq_c ⟨(nlt_of (by have f0 : (0 : Int32).toInt = 0 := rfl; omega)), (nlt_of (by have f0 : (0 : Int32).toInt = 0 := rfl; omega)), (nlt_of (by have f0 := ite_lt ((24 : Int32)) ((24 : Int32)) ((24 : Int32)) ((24 : Int32)); have f1 : (24 : Int32).toInt = 24 := rfl; omega)), (by have f0 := ite_lt ((24 : Int32)) ((24 : Int32)) ((24 : Int32)) ((24 : Int32)); have f1 : (24 : Int32).toInt = 24 := rfl; have f2 := cl_nat (if 24 < (24 : Int32) then 24 else (24 : Int32)); omega), (by have f0 := ite_lt ((24 : Int32)) ((24 : Int32)) ((24 : Int32)) ((24 : Int32)); have f1 : (24 : Int32).toInt = 24 := rfl; have f2 := cl_nat (if 24 < (24 : Int32) then 24 else (24 : Int32)); omega)⟩ ?_
  exact ⟨(j_cp hJ (fun _ _ => rfl) 30 (fun _ => rfl) rfl), trivial⟩
theorem h_X11_copyRow_31_58  {s : Sg} (hR : Rg rC s) : OQ (f_X11_copyRow_31_58  s) (fun _ s9 => JC 2147483648 s s9 ∧ True) := by
  have hJ : JC 2147483648 s s := j_refl hR
  unfold f_X11_copyRow_31_58
  refine oq_c ⟨(nlt_of (by have f0 : (0 : Int32).toInt = 0 := rfl; omega)), (nlt_of (by have f0 : (0 : Int32).toInt = 0 := rfl; omega)), (nlt_of (by have f0 := ite_lt ((8 : Int32)) ((8 : Int32)) ((8 : Int32)) ((8 : Int32)); have f1 : (8 : Int32).toInt = 8 := rfl; omega)), (by have f0 := ite_lt ((8 : Int32)) ((8 : Int32)) ((8 : Int32)) ((8 : Int32)); have f1 : (8 : Int32).toInt = 8 := rfl; have f2 := cl_nat (if 8 < (8 : Int32) then 8 else (8 : Int32)); omega), (by have f0 := ite_lt ((8 : Int32)) ((8 : Int32)) ((8 : Int32)) ((8 : Int32)); have f1 : (8 : Int32).toInt = 8 := rfl; have f2 := cl_nat (if 8 < (8 : Int32) then 8 else (8 : Int32)); omega)⟩ ?_
  exact ⟨(j_cp hJ (fun _ _ => rfl) 31 (fun _ => rfl) rfl), trivial⟩
theorem h_X11_copyRow_32_59  {s : Sg} (hR : Rg rC s) : OQ (f_X11_copyRow_32_59  s) (fun _ s9 => JC 4294967296 s s9 ∧ True) := by
  have hJ : JC 4294967296 s s := j_refl hR
  unfold f_X11_copyRow_32_59
  refine oq_c ⟨(nlt_of (by have f0 : (0 : Int32).toInt = 0 := rfl; omega)), (nlt_of (by have f0 : (0 : Int32).toInt = 0 := rfl; omega)), (nlt_of (by have f0 := ite_lt ((8 : Int32)) ((8 : Int32)) ((8 : Int32)) ((8 : Int32)); have f1 : (8 : Int32).toInt = 8 := rfl; omega)), (by have f0 := ite_lt ((8 : Int32)) ((8 : Int32)) ((8 : Int32)) ((8 : Int32)); have f1 : (8 : Int32).toInt = 8 := rfl; have f2 := cl_nat (if 8 < (8 : Int32) then 8 else (8 : Int32)); omega), (by have f0 := ite_lt ((8 : Int32)) ((8 : Int32)) ((8 : Int32)) ((8 : Int32)); have f1 : (8 : Int32).toInt = 8 := rfl; have f2 := cl_nat (if 8 < (8 : Int32) then 8 else (8 : Int32)); omega)⟩ ?_
  exact ⟨(j_cp hJ (fun _ _ => rfl) 32 (fun _ => rfl) rfl), trivial⟩
theorem h_X11_copyRow_33_60  {s : Sg} (hR : Rg rC s) : OQ (f_X11_copyRow_33_60  s) (fun _ s9 => JC 8589934592 s s9 ∧ True) := by
  have hJ : JC 8589934592 s s := j_refl hR
  unfold f_X11_copyRow_33_60
  refine oq_c ⟨(nlt_of (by have f0 : (0 : Int32).toInt = 0 := rfl; omega)), (nlt_of (by have f0 : (0 : Int32).toInt = 0 := rfl; omega)), (nlt_of (by have f0 := ite_lt ((8 : Int32)) ((8 : Int32)) ((8 : Int32)) ((8 : Int32)); have f1 : (8 : Int32).toInt = 8 := rfl; omega)), (by have f0 := ite_lt ((8 : Int32)) ((8 : Int32)) ((8 : Int32)) ((8 : Int32)); have f1 : (8 : Int32).toInt = 8 := rfl; have f2 := cl_nat (if 8 < (8 : Int32) then 8 else (8 : Int32)); omega), (by have f0 := ite_lt ((8 : Int32)) ((8 : Int32)) ((8 : Int32)) ((8 : Int32)); have f1 : (8 : Int32).toInt = 8 := rfl; have f2 := cl_nat (if 8 < (8 : Int32) then 8 else (8 : Int32)); omega)⟩ ?_
  exact ⟨(j_cp hJ (fun _ _ => rfl) 33 (fun _ => rfl) rfl), trivial⟩
theorem h_X11_copyRow_34_61  {s : Sg} (hR : Rg rC s) : OQ (f_X11_copyRow_34_61  s) (fun _ s9 => JC 17179869184 s s9 ∧ True) := by
  have hJ : JC 17179869184 s s := j_refl hR
  unfold f_X11_copyRow_34_61
  refine oq_c ⟨(nlt_of (by have f0 : (0 : Int32).toInt = 0 := rfl; omega)), (nlt_of (by have f0 : (0 : Int32).toInt = 0 := rfl; omega)), (nlt_of (by have f0 := ite_lt ((8 : Int32)) ((8 : Int32)) ((8 : Int32)) ((8 : Int32)); have f1 : (8 : Int32).toInt = 8 := rfl; omega)), (by have f0 := ite_lt ((8 : Int32)) ((8 : Int32)) ((8 : Int32)) ((8 : Int32)); have f1 : (8 : Int32).toInt = 8 := rfl; have f2 := cl_nat (if 8 < (8 : Int32) then 8 else (8 : Int32)); omega), (by have f0 := ite_lt ((8 : Int32)) ((8 : Int32)) ((8 : Int32)) ((8 : Int32)); have f1 : (8 : Int32).toInt = 8 := rfl; have f2 := cl_nat (if 8 < (8 : Int32) then 8 else (8 : Int32)); omega)⟩ ?_
  exact ⟨(j_cp hJ (fun _ _ => rfl) 34 (fun _ => rfl) rfl), trivial⟩
theorem h_X11_copyRow_35_62  {s : Sg} (hR : Rg rC s) : OQ (f_X11_copyRow_35_62  s) (fun _ s9 => JC 34359738368 s s9 ∧ True) := by
  have hJ : JC 34359738368 s s := j_refl hR
  unfold f_X11_copyRow_35_62
  refine oq_c ⟨(nlt_of (by have f0 : (0 : Int32).toInt = 0 := rfl; omega)), (nlt_of (by have f0 : (0 : Int32).toInt = 0 := rfl; omega)), (nlt_of (by have f0 := ite_lt ((4 : Int32)) ((4 : Int32)) ((4 : Int32)) ((4 : Int32)); have f1 : (4 : Int32).toInt = 4 := rfl; omega)), (by have f0 := ite_lt ((4 : Int32)) ((4 : Int32)) ((4 : Int32)) ((4 : Int32)); have f1 : (4 : Int32).toInt = 4 := rfl; have f2 := cl_nat (if 4 < (4 : Int32) then 4 else (4 : Int32)); omega), (by have f0 := ite_lt ((4 : Int32)) ((4 : Int32)) ((4 : Int32)) ((4 : Int32)); have f1 : (4 : Int32).toInt = 4 := rfl; have f2 := cl_nat (if 4 < (4 : Int32) then 4 else (4 : Int32)); omega)⟩ ?_
  exact ⟨(j_cp hJ (fun _ _ => rfl) 35 (fun _ => rfl) rfl), trivial⟩
theorem h_X11_copyRow_36_63  {s : Sg} (hR : Rg rC s) : OQ (f_X11_copyRow_36_63  s) (fun _ s9 => JC 68719476736 s s9 ∧ True) := by
  have hJ : JC 68719476736 s s := j_refl hR
  unfold f_X11_copyRow_36_63
  refine oq_c ⟨(nlt_of (by have f0 : (0 : Int32).toInt = 0 := rfl; omega)), (nlt_of (by have f0 : (0 : Int32).toInt = 0 := rfl; omega)), (nlt_of (by have f0 := ite_lt ((4 : Int32)) ((4 : Int32)) ((4 : Int32)) ((4 : Int32)); have f1 : (4 : Int32).toInt = 4 := rfl; omega)), (by have f0 := ite_lt ((4 : Int32)) ((4 : Int32)) ((4 : Int32)) ((4 : Int32)); have f1 : (4 : Int32).toInt = 4 := rfl; have f2 := cl_nat (if 4 < (4 : Int32) then 4 else (4 : Int32)); omega), (by have f0 := ite_lt ((4 : Int32)) ((4 : Int32)) ((4 : Int32)) ((4 : Int32)); have f1 : (4 : Int32).toInt = 4 := rfl; have f2 := cl_nat (if 4 < (4 : Int32) then 4 else (4 : Int32)); omega)⟩ ?_
  exact ⟨(j_cp hJ (fun _ _ => rfl) 36 (fun _ => rfl) rfl), trivial⟩
theorem h_X11_copyRow_37_64  {s : Sg} (hR : Rg rC s) : OQ (f_X11_copyRow_37_64  s) (fun _ s9 => JC 137438953472 s s9 ∧ True) := by
  have hJ : JC 137438953472 s s := j_refl hR
  unfold f_X11_copyRow_37_64
  refine oq_c ⟨(nlt_of (by have f0 : (0 : Int32).toInt = 0 := rfl; omega)), (nlt_of (by have f0 : (0 : Int32).toInt = 0 := rfl; omega)), (nlt_of (by have f0 := ite_lt ((4 : Int32)) ((4 : Int32)) ((4 : Int32)) ((4 : Int32)); have f1 : (4 : Int32).toInt = 4 := rfl; omega)), (by have f0 := ite_lt ((4 : Int32)) ((4 : Int32)) ((4 : Int32)) ((4 : Int32)); have f1 : (4 : Int32).toInt = 4 := rfl; have f2 := cl_nat (if 4 < (4 : Int32) then 4 else (4 : Int32)); omega), (by have f0 := ite_lt ((4 : Int32)) ((4 : Int32)) ((4 : Int32)) ((4 : Int32)); have f1 : (4 : Int32).toInt = 4 := rfl; have f2 := cl_nat (if 4 < (4 : Int32) then 4 else (4 : Int32)); omega)⟩ ?_
  exact ⟨(j_cp hJ (fun _ _ => rfl) 37 (fun _ => rfl) rfl), trivial⟩
theorem h_X11_copyRow_38_65  {s : Sg} (hR : Rg rC s) : OQ (f_X11_copyRow_38_65  s) (fun _ s9 => JC 274877906944 s s9 ∧ True) := by
  have hJ : JC 274877906944 s s := j_refl hR
  unfold f_X11_copyRow_38_65
  refine oq_c ⟨(nlt_of (by have f0 : (0 : Int32).toInt = 0 := rfl; omega)), (nlt_of (by have f0 : (0 : Int32).toInt = 0 := rfl; omega)), (nlt_of (by have f0 := ite_lt ((4 : Int32)) ((4 : Int32)) ((4 : Int32)) ((4 : Int32)); have f1 : (4 : Int32).toInt = 4 := rfl; omega)), (by have f0 := ite_lt ((4 : Int32)) ((4 : Int32)) ((4 : Int32)) ((4 : Int32)); have f1 : (4 : Int32).toInt = 4 := rfl; have f2 := cl_nat (if 4 < (4 : Int32) then 4 else (4 : Int32)); omega), (by have f0 := ite_lt ((4 : Int32)) ((4 : Int32)) ((4 : Int32)) ((4 : Int32)); have f1 : (4 : Int32).toInt = 4 := rfl; have f2 := cl_nat (if 4 < (4 : Int32) then 4 else (4 : Int32)); omega)⟩ ?_
  exact ⟨(j_cp hJ (fun _ _ => rfl) 38 (fun _ => rfl) rfl), trivial⟩
theorem h_X11_copyRow_39_66  {s : Sg} (hR : Rg rC s) : OQ (f_X11_copyRow_39_66  s) (fun _ s9 => JC 549755813888 s s9 ∧ True) := by
  have hJ : JC 549755813888 s s := j_refl hR
  unfold f_X11_copyRow_39_66
  refine oq_c ⟨(nlt_of (by have f0 : (0 : Int32).toInt = 0 := rfl; omega)), (nlt_of (by have f0 : (0 : Int32).toInt = 0 := rfl; omega)), (nlt_of (by have f0 := ite_lt ((4 : Int32)) ((4 : Int32)) ((4 : Int32)) ((4 : Int32)); have f1 : (4 : Int32).toInt = 4 := rfl; omega)), (by have f0 := ite_lt ((4 : Int32)) ((4 : Int32)) ((4 : Int32)) ((4 : Int32)); have f1 : (4 : Int32).toInt = 4 := rfl; have f2 := cl_nat (if 4 < (4 : Int32) then 4 else (4 : Int32)); omega), (by have f0 := ite_lt ((4 : Int32)) ((4 : Int32)) ((4 : Int32)) ((4 : Int32)); have f1 : (4 : Int32).toInt = 4 := rfl; have f2 := cl_nat (if 4 < (4 : Int32) then 4 else (4 : Int32)); omega)⟩ ?_
  exact ⟨(j_cp hJ (fun _ _ => rfl) 39 (fun _ => rfl) rfl), trivial⟩
theorem h_X4_copyFrom_52  {s : Sg} (hR : Rg rC s) : OQ (f_X4_copyFrom_52  s) (fun _ s9 => JC 1099276746752 s s9 ∧ True) := by
  have hJ : JC 1099276746752 s s := j_refl hR
  unfold f_X4_copyFrom_52
  refine oq_b (h_X11_copyRow_29_56  ((j_cb hJ 28 (fun _ => rfl) rfl) : JC 1099276746752 s (pB s 28 (va_cpy (s.2 55) (s.2 28) 0 0 24))).1) (fun u1 s2 hs2 => ?_)
  have js2 : JC 1099276746752 s s2 := j_call ((j_cb hJ 28 (fun _ => rfl) rfl) : JC 1099276746752 s (pB s 28 (va_cpy (s.2 55) (s.2 28) 0 0 24))) hs2.1 rfl
  refine oq_b (h_X11_copyRow_30_57  js2.1) (fun u2 s4 hs4 => ?_)
  have js4 : JC 1099276746752 s s4 := j_call js2 hs4.1 rfl
  refine oq_b (h_X11_copyRow_31_58  js4.1) (fun u3 s6 hs6 => ?_)
  have js6 : JC 1099276746752 s s6 := j_call js4 hs6.1 rfl
  refine oq_b (h_X11_copyRow_32_59  js6.1) (fun u4 s8 hs8 => ?_)
  have js8 : JC 1099276746752 s s8 := j_call js6 hs8.1 rfl
  refine oq_b (h_X11_copyRow_33_60  js8.1) (fun u5 s10 hs10 => ?_)
  have js10 : JC 1099276746752 s s10 := j_call js8 hs10.1 rfl
  refine oq_b (h_X11_copyRow_34_61  js10.1) (fun u6 s12 hs12 => ?_)
  have js12 : JC 1099276746752 s s12 := j_call js10 hs12.1 rfl
  refine oq_b (h_X11_copyRow_35_62  js12.1) (fun u7 s14 hs14 => ?_)
  have js14 : JC 1099276746752 s s14 := j_call js12 hs14.1 rfl
  refine oq_b (h_X11_copyRow_36_63  js14.1) (fun u8 s16 hs16 => ?_)
  have js16 : JC 1099276746752 s s16 := j_call js14 hs16.1 rfl
  refine oq_b (h_X11_copyRow_37_64  js16.1) (fun u9 s18 hs18 => ?_)
  have js18 : JC 1099276746752 s s18 := j_call js16 hs18.1 rfl
  refine oq_b (h_X11_copyRow_38_65  js18.1) (fun u10 s20 hs20 => ?_)
  have js20 : JC 1099276746752 s s20 := j_call js18 hs20.1 rfl
  refine oq_b (h_X11_copyRow_39_66  js20.1) (fun u11 s22 hs22 => ?_)
  have js22 : JC 1099276746752 s s22 := j_call js20 hs22.1 rfl
  refine oq_n (fun s23 es23 => ?_)
  have js23 : JC 1099276746752 s s23 := by rw [es23]; exact (j_wr 0 8 (j_wr 0 24 js22 rfl 25 rfl rfl (by have f0 := j_rd js22 52 12 0 24 rfl; omega)) rfl 25 rfl rfl (by have f0 := j_rd ((j_wr 0 24 js22 rfl 25 rfl rfl (by have f0 := j_rd js22 52 12 0 24 rfl; omega)) : JC 1099276746752 s (pI s22 25 12 (s22.1 52 12))) 52 13 0 8 rfl; omega))
  refine oq_n (fun s24 es24 => ?_)
  have js24 : JC 1099276746752 s s24 := by rw [es24]; exact (j_wr 0 4 (j_wr 0 8 js23 rfl 25 rfl rfl (by have f0 := j_rd js23 52 14 0 8 rfl; omega)) rfl 25 rfl rfl (by have f0 := j_rd ((j_wr 0 8 js23 rfl 25 rfl rfl (by have f0 := j_rd js23 52 14 0 8 rfl; omega)) : JC 1099276746752 s (pI s23 25 14 (s23.1 52 14))) 52 15 0 4 rfl; omega))
  refine oq_n (fun s25 es25 => ?_)
  have js25 : JC 1099276746752 s s25 := by rw [es25]; exact (j_wf (j_wr 0 4 js24 rfl 25 rfl rfl (by have f0 := j_rd js24 52 16 0 4 rfl; omega)) rfl 25 rfl rfl)
  refine oq_c (b01_of (by have f0 := j_rd ((j_wf js25 rfl 25 rfl rfl) : JC 1099276746752 s (pI s25 25 18 (s25.1 52 18))) 52 19 0 1 rfl; omega)) ?_
  exact ⟨(j_wr 0 1 (j_wf js25 rfl 25 rfl rfl) rfl 25 rfl rfl (by have f0 := j_rd ((j_wf js25 rfl 25 rfl rfl) : JC 1099276746752 s (pI s25 25 18 (s25.1 52 18))) 52 19 0 1 rfl; omega)), trivial⟩
theorem h_X11_copyRow_40_67  {s : Sg} (hR : Rg rC s) : OQ (f_X11_copyRow_40_67  s) (fun _ s9 => JC 1099511627776 s s9 ∧ True) := by
  have hJ : JC 1099511627776 s s := j_refl hR
  unfold f_X11_copyRow_40_67
  refine oq_c ⟨(nlt_of (by have f0 : (0 : Int32).toInt = 0 := rfl; omega)), (nlt_of (by have f0 : (0 : Int32).toInt = 0 := rfl; omega)), (nlt_of (by have f0 := ite_lt ((8 : Int32)) ((8 : Int32)) ((8 : Int32)) ((8 : Int32)); have f1 : (8 : Int32).toInt = 8 := rfl; omega)), (by have f0 := ite_lt ((8 : Int32)) ((8 : Int32)) ((8 : Int32)) ((8 : Int32)); have f1 : (8 : Int32).toInt = 8 := rfl; have f2 := cl_nat (if 8 < (8 : Int32) then 8 else (8 : Int32)); omega), (by have f0 := ite_lt ((8 : Int32)) ((8 : Int32)) ((8 : Int32)) ((8 : Int32)); have f1 : (8 : Int32).toInt = 8 := rfl; have f2 := cl_nat (if 8 < (8 : Int32) then 8 else (8 : Int32)); omega)⟩ ?_
  exact ⟨(j_cp hJ (fun _ _ => rfl) 40 (fun _ => rfl) rfl), trivial⟩
theorem h_X11_copyRow_41_68  {s : Sg} (hR : Rg rC s) : OQ (f_X11_copyRow_41_68  s) (fun _ s9 => JC 2199023255552 s s9 ∧ True) := by
  have hJ : JC 2199023255552 s s := j_refl hR
  unfold f_X11_copyRow_41_68
  refine oq_c ⟨(nlt_of (by have f0 : (0 : Int32).toInt = 0 := rfl; omega)), (nlt_of (by have f0 : (0 : Int32).toInt = 0 := rfl; omega)), (nlt_of (by have f0 := ite_lt ((8 : Int32)) ((8 : Int32)) ((8 : Int32)) ((8 : Int32)); have f1 : (8 : Int32).toInt = 8 := rfl; omega)), (by have f0 := ite_lt ((8 : Int32)) ((8 : Int32)) ((8 : Int32)) ((8 : Int32)); have f1 : (8 : Int32).toInt = 8 := rfl; have f2 := cl_nat (if 8 < (8 : Int32) then 8 else (8 : Int32)); omega), (by have f0 := ite_lt ((8 : Int32)) ((8 : Int32)) ((8 : Int32)) ((8 : Int32)); have f1 : (8 : Int32).toInt = 8 := rfl; have f2 := cl_nat (if 8 < (8 : Int32) then 8 else (8 : Int32)); omega)⟩ ?_
  exact ⟨(j_cp hJ (fun _ _ => rfl) 41 (fun _ => rfl) rfl), trivial⟩
theorem h_X11_copyRow_42_69  {s : Sg} (hR : Rg rC s) : OQ (f_X11_copyRow_42_69  s) (fun _ s9 => JC 4398046511104 s s9 ∧ True) := by
  have hJ : JC 4398046511104 s s := j_refl hR
  unfold f_X11_copyRow_42_69
  refine oq_c ⟨(nlt_of (by have f0 : (0 : Int32).toInt = 0 := rfl; omega)), (nlt_of (by have f0 : (0 : Int32).toInt = 0 := rfl; omega)), (nlt_of (by have f0 := ite_lt ((8 : Int32)) ((8 : Int32)) ((8 : Int32)) ((8 : Int32)); have f1 : (8 : Int32).toInt = 8 := rfl; omega)), (by have f0 := ite_lt ((8 : Int32)) ((8 : Int32)) ((8 : Int32)) ((8 : Int32)); have f1 : (8 : Int32).toInt = 8 := rfl; have f2 := cl_nat (if 8 < (8 : Int32) then 8 else (8 : Int32)); omega), (by have f0 := ite_lt ((8 : Int32)) ((8 : Int32)) ((8 : Int32)) ((8 : Int32)); have f1 : (8 : Int32).toInt = 8 := rfl; have f2 := cl_nat (if 8 < (8 : Int32) then 8 else (8 : Int32)); omega)⟩ ?_
  exact ⟨(j_cp hJ (fun _ _ => rfl) 42 (fun _ => rfl) rfl), trivial⟩
theorem h_X11_copyRow_43_70  {s : Sg} (hR : Rg rC s) : OQ (f_X11_copyRow_43_70  s) (fun _ s9 => JC 8796093022208 s s9 ∧ True) := by
  have hJ : JC 8796093022208 s s := j_refl hR
  unfold f_X11_copyRow_43_70
  refine oq_c ⟨(nlt_of (by have f0 : (0 : Int32).toInt = 0 := rfl; omega)), (nlt_of (by have f0 : (0 : Int32).toInt = 0 := rfl; omega)), (nlt_of (by have f0 := ite_lt ((8 : Int32)) ((8 : Int32)) ((8 : Int32)) ((8 : Int32)); have f1 : (8 : Int32).toInt = 8 := rfl; omega)), (by have f0 := ite_lt ((8 : Int32)) ((8 : Int32)) ((8 : Int32)) ((8 : Int32)); have f1 : (8 : Int32).toInt = 8 := rfl; have f2 := cl_nat (if 8 < (8 : Int32) then 8 else (8 : Int32)); omega), (by have f0 := ite_lt ((8 : Int32)) ((8 : Int32)) ((8 : Int32)) ((8 : Int32)); have f1 : (8 : Int32).toInt = 8 := rfl; have f2 := cl_nat (if 8 < (8 : Int32) then 8 else (8 : Int32)); omega)⟩ ?_
  exact ⟨(j_cp hJ (fun _ _ => rfl) 43 (fun _ => rfl) rfl), trivial⟩
theorem h_X11_copyRow_44_71  {s : Sg} (hR : Rg rC s) : OQ (f_X11_copyRow_44_71  s) (fun _ s9 => JC 17592186044416 s s9 ∧ True) := by
  have hJ : JC 17592186044416 s s := j_refl hR
  unfold f_X11_copyRow_44_71
  refine oq_c ⟨(nlt_of (by have f0 : (0 : Int32).toInt = 0 := rfl; omega)), (nlt_of (by have f0 : (0 : Int32).toInt = 0 := rfl; omega)), (nlt_of (by have f0 := ite_lt ((4 : Int32)) ((4 : Int32)) ((4 : Int32)) ((4 : Int32)); have f1 : (4 : Int32).toInt = 4 := rfl; omega)), (by have f0 := ite_lt ((4 : Int32)) ((4 : Int32)) ((4 : Int32)) ((4 : Int32)); have f1 : (4 : Int32).toInt = 4 := rfl; have f2 := cl_nat (if 4 < (4 : Int32) then 4 else (4 : Int32)); omega), (by have f0 := ite_lt ((4 : Int32)) ((4 : Int32)) ((4 : Int32)) ((4 : Int32)); have f1 : (4 : Int32).toInt = 4 := rfl; have f2 := cl_nat (if 4 < (4 : Int32) then 4 else (4 : Int32)); omega)⟩ ?_
  exact ⟨(j_cp hJ (fun _ _ => rfl) 44 (fun _ => rfl) rfl), trivial⟩
theorem h_X2_copyFrom_53  {s : Sg} (hR : Rg rC s) : OQ (f_X2_copyFrom_53  s) (fun _ s9 => JC 34084927569920 s s9 ∧ True) := by
  have hJ : JC 34084927569920 s s := j_refl hR
  unfold f_X2_copyFrom_53
  refine oq_b (h_X11_copyRow_40_67  hJ.1) (fun u1 s2 hs2 => ?_)
  have js2 : JC 34084927569920 s s2 := j_call hJ hs2.1 rfl
  refine oq_b (h_X11_copyRow_41_68  js2.1) (fun u2 s4 hs4 => ?_)
  have js4 : JC 34084927569920 s s4 := j_call js2 hs4.1 rfl
  refine oq_b (h_X11_copyRow_42_69  js4.1) (fun u3 s6 hs6 => ?_)
  have js6 : JC 34084927569920 s s6 := j_call js4 hs6.1 rfl
  refine oq_b (h_X11_copyRow_43_70  js6.1) (fun u4 s8 hs8 => ?_)
  have js8 : JC 34084927569920 s s8 := j_call js6 hs8.1 rfl
  refine oq_b (h_X11_copyRow_44_71  js8.1) (fun u5 s10 hs10 => ?_)
  have js10 : JC 34084927569920 s s10 := j_call js8 hs10.1 rfl
  refine oq_n (fun s11 es11 => ?_)
  have js11 : JC 34084927569920 s s11 := by rw [es11]; exact (j_wf (j_wf js10 rfl 26 rfl rfl) rfl 26 rfl rfl)
  refine oq_c (b01_of (by have f0 := j_rd js11 53 7 0 1 rfl; omega)) ?_
  refine oq_n (fun s13 es13 => ?_)
  have js13 : JC 34084927569920 s s13 := by rw [es13]; exact (j_wf (j_wr 0 1 js11 rfl 26 rfl rfl (by have f0 := j_rd js11 53 7 0 1 rfl; omega)) rfl 26 rfl rfl)
  refine oq_n (fun s14 es14 => ?_)
  have js14 : JC 34084927569920 s s14 := by rw [es14]; exact (j_wf (j_wf js13 rfl 26 rfl rfl) rfl 26 rfl rfl)
  refine oq_n (fun s15 es15 => ?_)
  have js15 : JC 34084927569920 s s15 := by rw [es15]; exact (j_wf (j_wf js14 rfl 26 rfl rfl) rfl 26 rfl rfl)
  exact ⟨js15, trivial⟩
theorem h_X11_copyRow_45_72  {s : Sg} (hR : Rg rC s) : OQ (f_X11_copyRow_45_72  s) (fun _ s9 => JC 35184372088832 s s9 ∧ True) := by
  have hJ : JC 35184372088832 s s := j_refl hR
  unfold f_X11_copyRow_45_72
  refine oq_c ⟨(nlt_of (by have f0 : (0 : Int32).toInt = 0 := rfl; omega)), (nlt_of (by have f0 : (0 : Int32).toInt = 0 := rfl; omega)), (nlt_of (by have f0 := ite_lt ((60 : Int32)) ((60 : Int32)) ((60 : Int32)) ((60 : Int32)); have f1 : (60 : Int32).toInt = 60 := rfl; omega)), (by have f0 := ite_lt ((60 : Int32)) ((60 : Int32)) ((60 : Int32)) ((60 : Int32)); have f1 : (60 : Int32).toInt = 60 := rfl; have f2 := cl_nat (if 60 < (60 : Int32) then 60 else (60 : Int32)); omega), (by have f0 := ite_lt ((60 : Int32)) ((60 : Int32)) ((60 : Int32)) ((60 : Int32)); have f1 : (60 : Int32).toInt = 60 := rfl; have f2 := cl_nat (if 60 < (60 : Int32) then 60 else (60 : Int32)); omega)⟩ ?_
  exact ⟨(j_cp hJ (fun _ _ => rfl) 45 (fun _ => rfl) rfl), trivial⟩
theorem h_X11_copyRow_46_73  {s : Sg} (hR : Rg rC s) : OQ (f_X11_copyRow_46_73  s) (fun _ s9 => JC 70368744177664 s s9 ∧ True) := by
  have hJ : JC 70368744177664 s s := j_refl hR
  unfold f_X11_copyRow_46_73
  refine oq_c ⟨(nlt_of (by have f0 : (0 : Int32).toInt = 0 := rfl; omega)), (nlt_of (by have f0 : (0 : Int32).toInt = 0 := rfl; omega)), (nlt_of (by have f0 := ite_lt ((60 : Int32)) ((60 : Int32)) ((60 : Int32)) ((60 : Int32)); have f1 : (60 : Int32).toInt = 60 := rfl; omega)), (by have f0 := ite_lt ((60 : Int32)) ((60 : Int32)) ((60 : Int32)) ((60 : Int32)); have f1 : (60 : Int32).toInt = 60 := rfl; have f2 := cl_nat (if 60 < (60 : Int32) then 60 else (60 : Int32)); omega), (by have f0 := ite_lt ((60 : Int32)) ((60 : Int32)) ((60 : Int32)) ((60 : Int32)); have f1 : (60 : Int32).toInt = 60 := rfl; have f2 := cl_nat (if 60 < (60 : Int32) then 60 else (60 : Int32)); omega)⟩ ?_
  exact ⟨(j_cp hJ (fun _ _ => rfl) 46 (fun _ => rfl) rfl), trivial⟩
theorem h_X11_copyRow_47_74  {s : Sg} (hR : Rg rC s) : OQ (f_X11_copyRow_47_74  s) (fun _ s9 => JC 140737488355328 s s9 ∧ True) := by
  have hJ : JC 140737488355328 s s := j_refl hR
  unfold f_X11_copyRow_47_74
  refine oq_c ⟨(nlt_of (by have f0 : (0 : Int32).toInt = 0 := rfl; omega)), (nlt_of (by have f0 : (0 : Int32).toInt = 0 := rfl; omega)), (nlt_of (by have f0 := ite_lt ((60 : Int32)) ((60 : Int32)) ((60 : Int32)) ((60 : Int32)); have f1 : (60 : Int32).toInt = 60 := rfl; omega)), (by have f0 := ite_lt ((60 : Int32)) ((60 : Int32)) ((60 : Int32)) ((60 : Int32)); have f1 : (60 : Int32).toInt = 60 := rfl; have f2 := cl_nat (if 60 < (60 : Int32) then 60 else (60 : Int32)); omega), (by have f0 := ite_lt ((60 : Int32)) ((60 : Int32)) ((60 : Int32)) ((60 : Int32)); have f1 : (60 : Int32).toInt = 60 := rfl; have f2 := cl_nat (if 60 < (60 : Int32) then 60 else (60 : Int32)); omega)⟩ ?_
  exact ⟨(j_cp hJ (fun _ _ => rfl) 47 (fun _ => rfl) rfl), trivial⟩
theorem h_X11_copyRow_48_75  {s : Sg} (hR : Rg rC s) : OQ (f_X11_copyRow_48_75  s) (fun _ s9 => JC 281474976710656 s s9 ∧ True) := by
  have hJ : JC 281474976710656 s s := j_refl hR
  unfold f_X11_copyRow_48_75
  refine oq_c ⟨(nlt_of (by have f0 : (0 : Int32).toInt = 0 := rfl; omega)), (nlt_of (by have f0 : (0 : Int32).toInt = 0 := rfl; omega)), (nlt_of (by have f0 := ite_lt ((60 : Int32)) ((60 : Int32)) ((60 : Int32)) ((60 : Int32)); have f1 : (60 : Int32).toInt = 60 := rfl; omega)), (by have f0 := ite_lt ((60 : Int32)) ((60 : Int32)) ((60 : Int32)) ((60 : Int32)); have f1 : (60 : Int32).toInt = 60 := rfl; have f2 := cl_nat (if 60 < (60 : Int32) then 60 else (60 : Int32)); omega), (by have f0 := ite_lt ((60 : Int32)) ((60 : Int32)) ((60 : Int32)) ((60 : Int32)); have f1 : (60 : Int32).toInt = 60 := rfl; have f2 := cl_nat (if 60 < (60 : Int32) then 60 else (60 : Int32)); omega)⟩ ?_
  exact ⟨(j_cp hJ (fun _ _ => rfl) 48 (fun _ => rfl) rfl), trivial⟩
theorem h_X11_copyRow_49_76  {s : Sg} (hR : Rg rC s) : OQ (f_X11_copyRow_49_76  s) (fun _ s9 => JC 562949953421312 s s9 ∧ True) := by
  have hJ : JC 562949953421312 s s := j_refl hR
  unfold f_X11_copyRow_49_76
  refine oq_c ⟨(nlt_of (by have f0 : (0 : Int32).toInt = 0 := rfl; omega)), (nlt_of (by have f0 : (0 : Int32).toInt = 0 := rfl; omega)), (nlt_of (by have f0 := ite_lt ((60 : Int32)) ((60 : Int32)) ((60 : Int32)) ((60 : Int32)); have f1 : (60 : Int32).toInt = 60 := rfl; omega)), (by have f0 := ite_lt ((60 : Int32)) ((60 : Int32)) ((60 : Int32)) ((60 : Int32)); have f1 : (60 : Int32).toInt = 60 := rfl; have f2 := cl_nat (if 60 < (60 : Int32) then 60 else (60 : Int32)); omega), (by have f0 := ite_lt ((60 : Int32)) ((60 : Int32)) ((60 : Int32)) ((60 : Int32)); have f1 : (60 : Int32).toInt = 60 := rfl; have f2 := cl_nat (if 60 < (60 : Int32) then 60 else (60 : Int32)); omega)⟩ ?_
  exact ⟨(j_cp hJ (fun _ _ => rfl) 49 (fun _ => rfl) rfl), trivial⟩
theorem h_X11_copyRow_50_77  {s : Sg} (hR : Rg rC s) : OQ (f_X11_copyRow_50_77  s) (fun _ s9 => JC 1125899906842624 s s9 ∧ True) := by
  have hJ : JC 1125899906842624 s s := j_refl hR
  unfold f_X11_copyRow_50_77
  refine oq_c ⟨(nlt_of (by have f0 : (0 : Int32).toInt = 0 := rfl; omega)), (nlt_of (by have f0 : (0 : Int32).toInt = 0 := rfl; omega)), (nlt_of (by have f0 := ite_lt ((60 : Int32)) ((60 : Int32)) ((60 : Int32)) ((60 : Int32)); have f1 : (60 : Int32).toInt = 60 := rfl; omega)), (by have f0 := ite_lt ((60 : Int32)) ((60 : Int32)) ((60 : Int32)) ((60 : Int32)); have f1 : (60 : Int32).toInt = 60 := rfl; have f2 := cl_nat (if 60 < (60 : Int32) then 60 else (60 : Int32)); omega), (by have f0 := ite_lt ((60 : Int32)) ((60 : Int32)) ((60 : Int32)) ((60 : Int32)); have f1 : (60 : Int32).toInt = 60 := rfl; have f2 := cl_nat (if 60 < (60 : Int32) then 60 else (60 : Int32)); omega)⟩ ?_
  exact ⟨(j_cp hJ (fun _ _ => rfl) 50 (fun _ => rfl) rfl), trivial⟩
theorem h_X5_copyFrom_54  {s : Sg} (hR : Rg rC s) : OQ (f_X5_copyFrom_54  s) (fun _ s9 => JC 2216615575814144 s s9 ∧ True) := by
  have hJ : JC 2216615575814144 s s := j_refl hR
  unfold f_X5_copyFrom_54
  refine oq_b (h_X11_copyRow_45_72  hJ.1) (fun u1 s2 hs2 => ?_)
  have js2 : JC 2216615575814144 s s2 := j_call hJ hs2.1 rfl
  refine oq_b (h_X11_copyRow_46_73  js2.1) (fun u2 s4 hs4 => ?_)
  have js4 : JC 2216615575814144 s s4 := j_call js2 hs4.1 rfl
  refine oq_b (h_X11_copyRow_47_74  js4.1) (fun u3 s6 hs6 => ?_)
  have js6 : JC 2216615575814144 s s6 := j_call js4 hs6.1 rfl
  refine oq_b (h_X11_copyRow_48_75  js6.1) (fun u4 s8 hs8 => ?_)
  have js8 : JC 2216615575814144 s s8 := j_call js6 hs8.1 rfl
  refine oq_b (h_X11_copyRow_49_76  js8.1) (fun u5 s10 hs10 => ?_)
  have js10 : JC 2216615575814144 s s10 := j_call js8 hs10.1 rfl
  refine oq_b (h_X11_copyRow_50_77  js10.1) (fun u6 s12 hs12 => ?_)
  have js12 : JC 2216615575814144 s s12 := j_call js10 hs12.1 rfl
  refine oq_c (b01_of (by have f0 := j_rd js12 54 6 0 1 rfl; omega)) ?_
  refine oq_n (fun s14 es14 => ?_)
  have js14 : JC 2216615575814144 s s14 := by rw [es14]; exact (j_wr 0 60 (j_wr 0 1 js12 rfl 27 rfl rfl (by have f0 := j_rd js12 54 6 0 1 rfl; omega)) rfl 27 rfl rfl (by have f0 := j_rd ((j_wr 0 1 js12 rfl 27 rfl rfl (by have f0 := j_rd js12 54 6 0 1 rfl; omega)) : JC 2216615575814144 s (pI s12 27 6 (s12.1 54 6))) 54 7 0 60 rfl; omega))
  exact ⟨(j_wf js14 rfl 27 rfl rfl), trivial⟩
theorem h_X10_copyFrom_51  {s : Sg} (hR : Rg rC s) : OQ (f_X10_copyFrom_51  s) (fun _ s9 => JC 2251799780130816 s s9 ∧ True) := by
  have hJ : JC 2251799780130816 s s := j_refl hR
  unfold f_X10_copyFrom_51
  refine oq_b (h_X4_copyFrom_52  hJ.1) (fun u1 s2 hs2 => ?_)
  have js2 : JC 2251799780130816 s s2 := j_call hJ hs2.1 rfl
  refine oq_b (h_X2_copyFrom_53  js2.1) (fun u2 s4 hs4 => ?_)
  have js4 : JC 2251799780130816 s s4 := j_call js2 hs4.1 rfl
  refine oq_b (h_X5_copyFrom_54  js4.1) (fun u3 s6 hs6 => ?_)
  have js6 : JC 2251799780130816 s s6 := j_call js4 hs6.1 rfl
  exact ⟨js6, trivial⟩
theorem h_X11_answer (a1 : Int32) {s : Sg} (hR : Rg rC s) : OQ (f_X11_answer a1 s) (fun r9 s9 => JC 47890485652059026823698344598447161988085597568237568 s s9 ∧ True ∧ (r9 = 0 → 0 ≤ (a1).toInt ∧ (a1).toInt ≤ 0) ∧ (¬ r9 = 0 → True)) := by
  have hJ : JC 47890485652059026823698344598447161988085597568237568 s s := j_refl hR
  unfold f_X11_answer
  exact ⟨(j_wf hJ rfl 175 rfl rfl), trivial, fun w9 => ⟨(by have f0 : (0 : Int32).toInt = 0 := rfl; have f1 := i_rg a1; have f2 := i_eq w9; omega), (by have f0 := i_rg a1; have f1 : (0 : Int32).toInt = 0 := rfl; have f2 := i_eq w9; omega)⟩, fun _ => trivial⟩
theorem h_X11_street (a1 : Int32) {s : Sg} (hR : Rg rC s) : OQ (f_X11_street a1 s) (fun r9 s9 => JC 2950383245092165075150410480146489135732362099489925821094615318784 s s9 ∧ True ∧ (r9 = 0 → 0 ≤ (a1).toInt ∧ (a1).toInt ≤ 900) ∧ (¬ r9 = 0 → True)) := by
  have hJ : JC 2950383245092165075150410480146489135732362099489925821094615318784 s s := j_refl hR
  unfold f_X11_street
  refine oq_b (h_X11_within _ _ _ hJ.1 (by have f0 : (0 : Int32).toInt = 0 := rfl; omega) (by have f0 := j_rd hJ 0 13 0 900 rfl; omega)) (fun r1 s2 hs2 => ?_)
  have js2 : JC 2950383245092165075150410480146489135732362099489925821094615318784 s s2 := j_call hJ hs2.1 rfl
  refine oq_if (fun c1 => ?_) (fun c1 => ?_)
  · refine oq_b (h_X11_refuse _ js2.1 (by have f0 : (1 : Int32).toInt = 1 := rfl; omega)) (fun r3 s4 hs4 => ?_)
    have js4 : JC 2950383245092165075150410480146489135732362099489925821094615318784 s s4 := j_call js2 hs4.1 rfl
    exact ⟨js4, trivial, fun w9 => False.elim (by have f0 := hs4.2.1; have f1 := i_rg r3; have f2 := i_eq w9; have f3 : (0 : Int32).toInt = 0 := rfl; omega), fun _ => trivial⟩
  · refine oq_b (h_X7_begin _ js2.1 (by have f0 := i_rg a1; have f1 := (hs2.2.2.2 c1).1; have f2 := (hs2.2.2.2 c1).2.1; have f3 := (hs2.2.2.2 c1).2.2.1; have f4 := (hs2.2.2.2 c1).2.2.2; have f5 : (0 : Int32).toInt = 0 := rfl; have f6 := j_rd hJ 0 13 0 900 rfl; omega)) (fun u2 s6 hs6 => ?_)
    have js6 : JC 2950383245092165075150410480146489135732362099489925821094615318784 s s6 := j_call js2 hs6.1 rfl
    refine oq_b (h_X6_takeText  js6.1) (fun r7 s8 hs8 => ?_)
    have js8 : JC 2950383245092165075150410480146489135732362099489925821094615318784 s s8 := j_call js6 hs8.1 rfl
    refine oq_b (h_X11_closeText  js8.1) (fun u3 s10 hs10 => ?_)
    have js10 : JC 2950383245092165075150410480146489135732362099489925821094615318784 s s10 := j_call js8 hs10.1 rfl
    refine oq_if (fun c4 => ?_) (fun c4 => ?_)
    · refine oq_b (h_X11_refuse _ js10.1 (by have f0 : (9 : Int32).toInt = 9 := rfl; omega)) (fun r11 s12 hs12 => ?_)
      have js12 : JC 2950383245092165075150410480146489135732362099489925821094615318784 s s12 := j_call js10 hs12.1 rfl
      exact ⟨js12, trivial, fun w9 => False.elim (by have f0 := hs12.2.1; have f1 := i_rg r11; have f2 := i_eq w9; have f3 : (0 : Int32).toInt = 0 := rfl; omega), fun _ => trivial⟩
    · refine oq_b (h_X10_copyFrom_51  js10.1) (fun u5 s14 hs14 => ?_)
      have js14 : JC 2950383245092165075150410480146489135732362099489925821094615318784 s s14 := j_call js10 hs14.1 rfl
      refine oq_b (h_X11_answer _ js14.1) (fun r15 s16 hs16 => ?_)
      have js16 : JC 2950383245092165075150410480146489135732362099489925821094615318784 s s16 := j_call js14 hs16.1 rfl
      exact ⟨js16, trivial, fun w9 => ⟨(by have f0 : (0 : Int32).toInt = 0 := rfl; have f1 := i_rg a1; have f2 := (hs2.2.2.2 c1).1; have f3 := (hs2.2.2.2 c1).2.1; have f4 := (hs2.2.2.2 c1).2.2.1; have f5 := (hs2.2.2.2 c1).2.2.2; have f6 := j_rd hJ 0 13 0 900 rfl; omega), (by have f0 := i_rg a1; have f1 : (900 : Int32).toInt = 900 := rfl; have f2 := (hs2.2.2.2 c1).1; have f3 := (hs2.2.2.2 c1).2.1; have f4 := (hs2.2.2.2 c1).2.2.1; have f5 := (hs2.2.2.2 c1).2.2.2; have f6 : (0 : Int32).toInt = 0 := rfl; have f7 := j_rd hJ 0 13 0 900 rfl; omega)⟩, fun _ => trivial⟩
theorem h_X1_takeEnd  {s : Sg} (hR : Rg rC s) : OQ (f_X1_takeEnd  s) (fun r9 s9 => JC 432201645009125680230707958475439099784963547471479561819378317000704 s s9 ∧ (0 ≤ r9.toInt ∧ r9.toInt ≤ 1) ∧ (r9 = 0 → True) ∧ (¬ r9 = 0 → (s.1 54 7).toInt ≤ 59 ∧ 1 ≤ (s.1 9 4).toInt)) := by
  have hJ : JC 432201645009125680230707958475439099784963547471479561819378317000704 s s := j_refl hR
  unfold f_X1_takeEnd
  refine oq_if (fun c1 => ?_) (fun c1 => ?_)
  · refine oq_b (h_X7_wrong _ hJ.1 (by have f0 : (2 : Int32).toInt = 2 := rfl; omega)) (fun r1 s2 hs2 => ?_)
    have js2 : JC 432201645009125680230707958475439099784963547471479561819378317000704 s s2 := j_call hJ hs2.1 rfl
    refine oq_c (b01_of (by have f0 := hs2.2.1; have f1 := i_rg r1; omega)) ?_
    exact ⟨js2, (by have f0 := hs2.2.1; have f1 := i_rg r1; omega), fun _ => trivial, fun w9 => False.elim (by have f0 := hs2.2.1; have f1 := i_rg r1; have f2 := i_ne w9; have f3 : (0 : Int32).toInt = 0 := rfl; omega)⟩
  · refine oq_if (fun c2 => ?_) (fun c2 => ?_)
    · refine oq_c (inr_of (by have f0 := j_rd ((j_wr 0 3 hJ rfl 228 rfl rfl (by have f0 := i_sub (s.1 9 4) ((1 : Int32)); have f1 := j_rd hJ 9 4 0 3 rfl; have f2 : (1 : Int32).toInt = 1 := rfl; have f3 := i_ne c1; have f4 : (0 : Int32).toInt = 0 := rfl; omega)) : JC 432201645009125680230707958475439099784963547471479561819378317000704 s (pI s 9 4 ((s.1 9 4) - 1))) 9 4 0 3 rfl; have f1 : ((pI s 9 4 ((s.1 9 4) - 1)).1 9 4).toInt = ((s.1 9 4) - 1).toInt := u_eq; have f2 := i_sub (s.1 9 4) ((1 : Int32)); have f3 := j_rd hJ 9 4 0 3 rfl; have f4 : (1 : Int32).toInt = 1 := rfl; have f5 := i_ne c1; have f6 : (0 : Int32).toInt = 0 := rfl; omega)) ?_
      refine oq_n (fun x4 ex4 => ?_)
      refine oq_c (inr_of (by have f0 := j_rd ((j_wr 0 3 hJ rfl 228 rfl rfl (by have f0 := i_sub (s.1 9 4) ((1 : Int32)); have f1 := j_rd hJ 9 4 0 3 rfl; have f2 : (1 : Int32).toInt = 1 := rfl; have f3 := i_ne c1; have f4 : (0 : Int32).toInt = 0 := rfl; omega)) : JC 432201645009125680230707958475439099784963547471479561819378317000704 s (pI s 9 4 ((s.1 9 4) - 1))) 54 7 0 60 rfl; have f1 : ((pI s 9 4 ((s.1 9 4) - 1)).1 54 7).toInt = (s.1 54 7).toInt := u_nc rfl; have f2 := j_rd hJ 54 7 0 60 rfl; have f3 := i_lt c2; have f4 : (60 : Int32).toInt = 60 := rfl; omega)) ?_
      refine oq_n (fun s6 es6 => ?_)
      have js6 : JC 432201645009125680230707958475439099784963547471479561819378317000704 s s6 := by rw [es6]; exact (j_wf (j_wr 0 3 hJ rfl 228 rfl rfl (by have f0 := i_sub (s.1 9 4) ((1 : Int32)); have f1 := j_rd hJ 9 4 0 3 rfl; have f2 : (1 : Int32).toInt = 1 := rfl; have f3 := i_ne c1; have f4 : (0 : Int32).toInt = 0 := rfl; omega)) rfl 72 rfl rfl)
      refine oq_c (inr_of (by have f0 := j_rd js6 54 7 0 60 rfl; have f1 : (s6.1 54 7).toInt = ((pI s 9 4 ((s.1 9 4) - 1)).1 54 7).toInt := (by rw [es6]; exact u_nc rfl); have f2 := j_rd ((j_wr 0 3 hJ rfl 228 rfl rfl (by have f0 := i_sub (s.1 9 4) ((1 : Int32)); have f1 := j_rd hJ 9 4 0 3 rfl; have f2 : (1 : Int32).toInt = 1 := rfl; have f3 := i_ne c1; have f4 : (0 : Int32).toInt = 0 := rfl; omega)) : JC 432201645009125680230707958475439099784963547471479561819378317000704 s (pI s 9 4 ((s.1 9 4) - 1))) 54 7 0 60 rfl; have f3 : ((pI s 9 4 ((s.1 9 4) - 1)).1 54 7).toInt = (s.1 54 7).toInt := u_nc rfl; have f4 := j_rd hJ 54 7 0 60 rfl; have f5 := i_lt c2; have f6 : (60 : Int32).toInt = 60 := rfl; omega)) ?_
      refine oq_n (fun s8 es8 => ?_)
      have js8 : JC 432201645009125680230707958475439099784963547471479561819378317000704 s s8 := by rw [es8]; exact (j_wr 0 59 js6 rfl 77 rfl rfl (by have f0 := i_eq ex4; have f1 := i_rg x4; have f2 := j_rd ((j_wr 0 3 hJ rfl 228 rfl rfl (by have f0 := i_sub (s.1 9 4) ((1 : Int32)); have f1 := j_rd hJ 9 4 0 3 rfl; have f2 : (1 : Int32).toInt = 1 := rfl; have f3 := i_ne c1; have f4 : (0 : Int32).toInt = 0 := rfl; omega)) : JC 432201645009125680230707958475439099784963547471479561819378317000704 s (pI s 9 4 ((s.1 9 4) - 1))) 23 (((pI s 9 4 ((s.1 9 4) - 1)).1 9 4).toNatClampNeg) 0 59 rfl; omega))
      refine oq_c (inr_of (by have f0 := i_eq ex4; have f1 := i_rg x4; have f2 := j_rd ((j_wr 0 3 hJ rfl 228 rfl rfl (by have f0 := i_sub (s.1 9 4) ((1 : Int32)); have f1 := j_rd hJ 9 4 0 3 rfl; have f2 : (1 : Int32).toInt = 1 := rfl; have f3 := i_ne c1; have f4 : (0 : Int32).toInt = 0 := rfl; omega)) : JC 432201645009125680230707958475439099784963547471479561819378317000704 s (pI s 9 4 ((s.1 9 4) - 1))) 23 (((pI s 9 4 ((s.1 9 4) - 1)).1 9 4).toNatClampNeg) 0 59 rfl; omega)) ?_
      refine oq_n (fun s10 es10 => ?_)
      have js10 : JC 432201645009125680230707958475439099784963547471479561819378317000704 s s10 := by rw [es10]; exact (j_wr 0 59 js8 rfl 77 rfl rfl (by have f0 := j_rd js8 54 7 0 60 rfl; have f1 : (s8.1 54 7).toInt = (s6.1 54 7).toInt := (by rw [es8]; exact u_nc rfl); have f2 := j_rd js6 54 7 0 60 rfl; have f3 : (s6.1 54 7).toInt = ((pI s 9 4 ((s.1 9 4) - 1)).1 54 7).toInt := (by rw [es6]; exact u_nc rfl); have f4 := j_rd ((j_wr 0 3 hJ rfl 228 rfl rfl (by have f0 := i_sub (s.1 9 4) ((1 : Int32)); have f1 := j_rd hJ 9 4 0 3 rfl; have f2 : (1 : Int32).toInt = 1 := rfl; have f3 := i_ne c1; have f4 : (0 : Int32).toInt = 0 := rfl; omega)) : JC 432201645009125680230707958475439099784963547471479561819378317000704 s (pI s 9 4 ((s.1 9 4) - 1))) 54 7 0 60 rfl; have f5 : ((pI s 9 4 ((s.1 9 4) - 1)).1 54 7).toInt = (s.1 54 7).toInt := u_nc rfl; have f6 := j_rd hJ 54 7 0 60 rfl; have f7 := i_lt c2; have f8 : (60 : Int32).toInt = 60 := rfl; omega))
      refine oq_b (h_X7_advance  ((j_wr 0 60 js10 rfl 219 rfl rfl (by have f0 := i_add (s10.1 54 7) ((1 : Int32)); have f1 := j_rd js10 54 7 0 60 rfl; have f2 : (s10.1 54 7).toInt = (s8.1 54 7).toInt := (by rw [es10]; exact u_nc rfl); have f3 : (1 : Int32).toInt = 1 := rfl; have f4 := j_rd js8 54 7 0 60 rfl; have f5 : (s8.1 54 7).toInt = (s6.1 54 7).toInt := (by rw [es8]; exact u_nc rfl); have f6 := j_rd js6 54 7 0 60 rfl; have f7 : (s6.1 54 7).toInt = ((pI s 9 4 ((s.1 9 4) - 1)).1 54 7).toInt := (by rw [es6]; exact u_nc rfl); have f8 := j_rd ((j_wr 0 3 hJ rfl 228 rfl rfl (by have f0 := i_sub (s.1 9 4) ((1 : Int32)); have f1 := j_rd hJ 9 4 0 3 rfl; have f2 : (1 : Int32).toInt = 1 := rfl; have f3 := i_ne c1; have f4 : (0 : Int32).toInt = 0 := rfl; omega)) : JC 432201645009125680230707958475439099784963547471479561819378317000704 s (pI s 9 4 ((s.1 9 4) - 1))) 54 7 0 60 rfl; have f9 : ((pI s 9 4 ((s.1 9 4) - 1)).1 54 7).toInt = (s.1 54 7).toInt := u_nc rfl; have f10 := j_rd hJ 54 7 0 60 rfl; have f11 := i_lt c2; have f12 : (60 : Int32).toInt = 60 := rfl; omega)) : JC 432201645009125680230707958475439099784963547471479561819378317000704 s (pI s10 54 7 ((s10.1 54 7) + 1))).1) (fun u3 s12 hs12 => ?_)
      have js12 : JC 432201645009125680230707958475439099784963547471479561819378317000704 s s12 := j_call ((j_wr 0 60 js10 rfl 219 rfl rfl (by have f0 := i_add (s10.1 54 7) ((1 : Int32)); have f1 := j_rd js10 54 7 0 60 rfl; have f2 : (s10.1 54 7).toInt = (s8.1 54 7).toInt := (by rw [es10]; exact u_nc rfl); have f3 : (1 : Int32).toInt = 1 := rfl; have f4 := j_rd js8 54 7 0 60 rfl; have f5 : (s8.1 54 7).toInt = (s6.1 54 7).toInt := (by rw [es8]; exact u_nc rfl); have f6 := j_rd js6 54 7 0 60 rfl; have f7 : (s6.1 54 7).toInt = ((pI s 9 4 ((s.1 9 4) - 1)).1 54 7).toInt := (by rw [es6]; exact u_nc rfl); have f8 := j_rd ((j_wr 0 3 hJ rfl 228 rfl rfl (by have f0 := i_sub (s.1 9 4) ((1 : Int32)); have f1 := j_rd hJ 9 4 0 3 rfl; have f2 : (1 : Int32).toInt = 1 := rfl; have f3 := i_ne c1; have f4 : (0 : Int32).toInt = 0 := rfl; omega)) : JC 432201645009125680230707958475439099784963547471479561819378317000704 s (pI s 9 4 ((s.1 9 4) - 1))) 54 7 0 60 rfl; have f9 : ((pI s 9 4 ((s.1 9 4) - 1)).1 54 7).toInt = (s.1 54 7).toInt := u_nc rfl; have f10 := j_rd hJ 54 7 0 60 rfl; have f11 := i_lt c2; have f12 : (60 : Int32).toInt = 60 := rfl; omega)) : JC 432201645009125680230707958475439099784963547471479561819378317000704 s (pI s10 54 7 ((s10.1 54 7) + 1))) hs12.1 rfl
      refine oq_b (h_X7_pass _ js12.1 (by have f0 : (59 : Int32).toInt = 59 := rfl; omega)) (fun r13 s14 hs14 => ?_)
      have js14 : JC 432201645009125680230707958475439099784963547471479561819378317000704 s s14 := j_call js12 hs14.1 rfl
      refine oq_c (b01_of (by have f0 := hs14.2.1; have f1 := i_rg r13; omega)) ?_
      exact ⟨js14, (by have f0 := hs14.2.1; have f1 := i_rg r13; omega), fun _ => trivial, fun w9 => ⟨(by have f0 := j_rd hJ 54 7 0 60 rfl; have f1 : (59 : Int32).toInt = 59 := rfl; have f2 := i_lt c2; have f3 : (60 : Int32).toInt = 60 := rfl; omega), (by have f0 : (1 : Int32).toInt = 1 := rfl; have f1 := j_rd hJ 9 4 0 3 rfl; have f2 := i_ne c1; have f3 : (0 : Int32).toInt = 0 := rfl; omega)⟩⟩
    · refine oq_b (h_X7_wrong _ hJ.1 (by have f0 : (2 : Int32).toInt = 2 := rfl; omega)) (fun r15 s16 hs16 => ?_)
      have js16 : JC 432201645009125680230707958475439099784963547471479561819378317000704 s s16 := j_call hJ hs16.1 rfl
      refine oq_c (b01_of (by have f0 := hs16.2.1; have f1 := i_rg r15; omega)) ?_
      exact ⟨js16, (by have f0 := hs16.2.1; have f1 := i_rg r15; omega), fun _ => trivial, fun w9 => False.elim (by have f0 := hs16.2.1; have f1 := i_rg r15; have f2 := i_ne w9; have f3 : (0 : Int32).toInt = 0 := rfl; omega)⟩
theorem h_X1_isStepWord (a0 : Int32) {s : Sg} (hR : Rg rC s) : OQ (f_X1_isStepWord a0 s) (fun r9 s9 => JC 0 s s9 ∧ (0 ≤ r9.toInt ∧ r9.toInt ≤ 1) ∧ (r9 = 0 → True) ∧ (¬ r9 = 0 → 116 ≤ (a0).toInt ∧ (a0).toInt ≤ 167)) := by
  have hJ : JC 0 s s := j_refl hR
  unfold f_X1_isStepWord
  refine oq_if (fun c1 => ?_) (fun c1 => ?_)
  · exact ⟨hJ, (by have f0 : (1 : Int32).toInt = 1 := rfl; omega), fun w9 => absurd w9 (by decide), fun w9 => ⟨(by have f0 : (116 : Int32).toInt = 116 := rfl; have f1 := i_rg a0; have f2 := i_eq c1; omega), (by have f0 := i_rg a0; have f1 : (167 : Int32).toInt = 167 := rfl; have f2 := i_eq c1; have f3 : (116 : Int32).toInt = 116 := rfl; omega)⟩⟩
  · refine oq_if (fun c2 => ?_) (fun c2 => ?_)
    · exact ⟨hJ, (by have f0 : (1 : Int32).toInt = 1 := rfl; omega), fun w9 => absurd w9 (by decide), fun w9 => ⟨(by have f0 : (116 : Int32).toInt = 116 := rfl; have f1 := i_rg a0; have f2 := i_ne c1; have f3 := i_eq c2; have f4 : (130 : Int32).toInt = 130 := rfl; omega), (by have f0 := i_rg a0; have f1 : (167 : Int32).toInt = 167 := rfl; have f2 := i_ne c1; have f3 := i_eq c2; have f4 : (116 : Int32).toInt = 116 := rfl; have f5 : (130 : Int32).toInt = 130 := rfl; omega)⟩⟩
    · refine oq_if (fun c3 => ?_) (fun c3 => ?_)
      · exact ⟨hJ, (by have f0 : (1 : Int32).toInt = 1 := rfl; omega), fun w9 => absurd w9 (by decide), fun w9 => ⟨(by have f0 : (116 : Int32).toInt = 116 := rfl; have f1 := i_rg a0; have f2 := i_ne c1; have f3 := i_ne c2; have f4 := i_eq c3; have f5 : (130 : Int32).toInt = 130 := rfl; have f6 : (128 : Int32).toInt = 128 := rfl; omega), (by have f0 := i_rg a0; have f1 : (167 : Int32).toInt = 167 := rfl; have f2 := i_ne c1; have f3 := i_ne c2; have f4 := i_eq c3; have f5 : (116 : Int32).toInt = 116 := rfl; have f6 : (130 : Int32).toInt = 130 := rfl; have f7 : (128 : Int32).toInt = 128 := rfl; omega)⟩⟩
      · refine oq_b (h_X11_within _ _ _ hJ.1 (by have f0 : (119 : Int32).toInt = 119 := rfl; omega) (by have f0 : (124 : Int32).toInt = 124 := rfl; omega)) (fun r1 s2 hs2 => ?_)
        have js2 : JC 0 s s2 := j_call hJ hs2.1 rfl
        refine oq_if (fun c4 => ?_) (fun c4 => ?_)
        · exact ⟨js2, (by have f0 : (0 : Int32).toInt = 0 := rfl; omega), fun _ => trivial, fun w9 => absurd rfl w9⟩
        · exact ⟨js2, (by have f0 : (1 : Int32).toInt = 1 := rfl; have f1 := (hs2.2.2.2 c4).2.2.2; have f2 : (0 : Int32).toInt = 0 := rfl; have f3 : (124 : Int32).toInt = 124 := rfl; omega), fun w9 => absurd w9 (by decide), fun w9 => ⟨(by have f0 : (116 : Int32).toInt = 116 := rfl; have f1 := i_rg a0; have f2 := i_ne c1; have f3 := i_ne c2; have f4 := i_ne c3; have f5 := (hs2.2.2.2 c4).1; have f6 := (hs2.2.2.2 c4).2.1; have f7 := (hs2.2.2.2 c4).2.2.1; have f8 := (hs2.2.2.2 c4).2.2.2; have f9 : (130 : Int32).toInt = 130 := rfl; have f10 : (128 : Int32).toInt = 128 := rfl; have f11 : (119 : Int32).toInt = 119 := rfl; have f12 : (124 : Int32).toInt = 124 := rfl; have f13 : (0 : Int32).toInt = 0 := rfl; omega), (by have f0 := i_rg a0; have f1 : (167 : Int32).toInt = 167 := rfl; have f2 := i_ne c1; have f3 := i_ne c2; have f4 := i_ne c3; have f5 := (hs2.2.2.2 c4).1; have f6 := (hs2.2.2.2 c4).2.1; have f7 := (hs2.2.2.2 c4).2.2.1; have f8 := (hs2.2.2.2 c4).2.2.2; have f9 : (116 : Int32).toInt = 116 := rfl; have f10 : (130 : Int32).toInt = 130 := rfl; have f11 : (128 : Int32).toInt = 128 := rfl; have f12 : (119 : Int32).toInt = 119 := rfl; have f13 : (124 : Int32).toInt = 124 := rfl; have f14 : (0 : Int32).toInt = 0 := rfl; omega)⟩⟩
theorem h_X1_beginStep_b129 {s0 : Sg} (v1 : Int32) (s : Sg) (hJ : JC 433886641675822595217874646918377826702065868846772620147618654191616 s0 s) (p_v1 : 116 ≤ v1.toInt ∧ v1.toInt ≤ 167) (z_54_7 : 0 ≤ (s.1 54 7).toInt ∧ (s.1 54 7).toInt ≤ 59) (y_54_7 : s.1 54 7 = s0.1 54 7) : OQ (f_X1_beginStep_b129 v1 s) (fun r9 s9 => JC 433886641675822595217874646918377826702065868846772620147618654191616 s0 s9 ∧ (0 ≤ r9.toInt ∧ r9.toInt ≤ 1) ∧ (r9 = 0 → True) ∧ (¬ r9 = 0 → (s0.1 54 7).toInt ≤ 59)) := by
  unfold f_X1_beginStep_b129
  refine oq_c (inr_of (by have f0 := z_54_7; have f1 := j_rd hJ 54 7 0 60 rfl; omega)) ?_
  refine oq_n (fun s8 es8 => ?_)
  have js8 : JC 433886641675822595217874646918377826702065868846772620147618654191616 s0 s8 := by rw [es8]; exact (j_wf hJ rfl 72 rfl rfl)
  refine oq_n (fun s9 es9 => ?_)
  have js9 : JC 433886641675822595217874646918377826702065868846772620147618654191616 s0 s9 := by rw [es9]; exact (j_wf (j_wr 0 60 js8 rfl 219 rfl rfl (by have f0 := i_add (s8.1 54 7) ((1 : Int32)); have f1 := j_rd js8 54 7 0 60 rfl; have f2 : (s8.1 54 7).toInt = (s.1 54 7).toInt := (by rw [es8]; exact u_nc rfl); have f3 : (1 : Int32).toInt = 1 := rfl; have f4 := z_54_7; have f5 := j_rd hJ 54 7 0 60 rfl; have f6 : (s.1 54 7).toInt = (s0.1 54 7).toInt := i_eq y_54_7; have f7 := i_eq y_54_7; omega)) rfl 220 rfl rfl)
  refine oq_b (h_X7_advance  js9.1) (fun u1 s11 hs11 => ?_)
  have js11 : JC 433886641675822595217874646918377826702065868846772620147618654191616 s0 s11 := j_call js9 hs11.1 rfl
  exact ⟨js11, (by have f0 : (1 : Int32).toInt = 1 := rfl; omega), fun w9 => absurd w9 (by decide), fun w9 => (by have f0 := i_eq y_54_7; have f1 : (59 : Int32).toInt = 59 := rfl; have f2 := z_54_7; have f3 := j_rd hJ 54 7 0 60 rfl; omega)⟩
theorem h_X1_beginStep_b99 {s0 : Sg} (v1 : Int32) (v2 : Int32) (s : Sg) (hJ : JC 433886641675822595217874646918377826702065868846772620147618654191616 s0 s) (p_v1 : 116 ≤ v1.toInt ∧ v1.toInt ≤ 167) (p_v2 : 0 ≤ v2.toInt ∧ v2.toInt ≤ 1) (z_54_7 : 0 ≤ (s.1 54 7).toInt ∧ (s.1 54 7).toInt ≤ 59) (x_1 : (v2.toInt = 0 ∨ (s.1 9 4).toInt ≤ 2)) (y_54_7 : s.1 54 7 = s0.1 54 7) : OQ (f_X1_beginStep_b99 v1 v2 s) (fun r9 s9 => JC 433886641675822595217874646918377826702065868846772620147618654191616 s0 s9 ∧ (0 ≤ r9.toInt ∧ r9.toInt ≤ 1) ∧ (r9 = 0 → True) ∧ (¬ r9 = 0 → (s0.1 54 7).toInt ≤ 59)) := by
  unfold f_X1_beginStep_b99
  refine oq_if (fun c1 => ?_) (fun c1 => ?_)
  · exact h_X1_beginStep_b129 _ _ hJ (by have f0 := p_v1; have f1 := i_rg v1; omega) (by have f0 := z_54_7; have f1 := j_rd hJ 54 7 0 60 rfl; omega) (Int32.toInt_inj.mp (by have f0 : (s.1 54 7).toInt = (s0.1 54 7).toInt := i_eq y_54_7; omega))
  · refine oq_c (inr_of (by have f0 := j_rd hJ 9 4 0 3 rfl; have f1 := x_1; have f2 := i_ne c1; have f3 := p_v2; have f4 := i_rg v2; have f5 : (0 : Int32).toInt = 0 := rfl; omega)) ?_
    refine oq_n (fun s13 es13 => ?_)
    have js13 : JC 433886641675822595217874646918377826702065868846772620147618654191616 s0 s13 := by rw [es13]; exact (j_wr 0 59 hJ rfl 23 rfl rfl (by have f0 := z_54_7; have f1 := j_rd hJ 54 7 0 60 rfl; omega))
    exact h_X1_beginStep_b129 _ _ (j_wr 0 3 js13 rfl 228 rfl rfl (by have f0 := i_add (s13.1 9 4) ((1 : Int32)); have f1 := j_rd js13 9 4 0 3 rfl; have f2 : (s13.1 9 4).toInt = (s.1 9 4).toInt := (by rw [es13]; exact u_nc rfl); have f3 : (1 : Int32).toInt = 1 := rfl; have f4 := j_rd hJ 9 4 0 3 rfl; have f5 := x_1; have f6 := i_ne c1; have f7 := p_v2; have f8 := i_rg v2; have f9 : (0 : Int32).toInt = 0 := rfl; omega)) (by have f0 := p_v1; have f1 := i_rg v1; omega) (by have f0 := j_rd ((j_wr 0 3 js13 rfl 228 rfl rfl (by have f0 := i_add (s13.1 9 4) ((1 : Int32)); have f1 := j_rd js13 9 4 0 3 rfl; have f2 : (s13.1 9 4).toInt = (s.1 9 4).toInt := (by rw [es13]; exact u_nc rfl); have f3 : (1 : Int32).toInt = 1 := rfl; have f4 := j_rd hJ 9 4 0 3 rfl; have f5 := x_1; have f6 := i_ne c1; have f7 := p_v2; have f8 := i_rg v2; have f9 : (0 : Int32).toInt = 0 := rfl; omega)) : JC 433886641675822595217874646918377826702065868846772620147618654191616 s0 (pI s13 9 4 ((s13.1 9 4) + 1))) 54 7 0 60 rfl; have f1 : ((pI s13 9 4 ((s13.1 9 4) + 1)).1 54 7).toInt = (s13.1 54 7).toInt := u_nc rfl; have f2 := j_rd js13 54 7 0 60 rfl; have f3 : (s13.1 54 7).toInt = (s.1 54 7).toInt := (by rw [es13]; exact u_nc rfl); have f4 := z_54_7; have f5 := j_rd hJ 54 7 0 60 rfl; have f6 : (s.1 54 7).toInt = (s0.1 54 7).toInt := i_eq y_54_7; have f7 := i_eq y_54_7; omega) (Int32.toInt_inj.mp (by have f0 := j_rd ((j_wr 0 3 js13 rfl 228 rfl rfl (by have f0 := i_add (s13.1 9 4) ((1 : Int32)); have f1 := j_rd js13 9 4 0 3 rfl; have f2 : (s13.1 9 4).toInt = (s.1 9 4).toInt := (by rw [es13]; exact u_nc rfl); have f3 : (1 : Int32).toInt = 1 := rfl; have f4 := j_rd hJ 9 4 0 3 rfl; have f5 := x_1; have f6 := i_ne c1; have f7 := p_v2; have f8 := i_rg v2; have f9 : (0 : Int32).toInt = 0 := rfl; omega)) : JC 433886641675822595217874646918377826702065868846772620147618654191616 s0 (pI s13 9 4 ((s13.1 9 4) + 1))) 54 7 0 60 rfl; have f1 : ((pI s13 9 4 ((s13.1 9 4) + 1)).1 54 7).toInt = (s13.1 54 7).toInt := u_nc rfl; have f2 : (s13.1 54 7).toInt = (s.1 54 7).toInt := (by rw [es13]; exact u_nc rfl); have f3 : (s.1 54 7).toInt = (s0.1 54 7).toInt := i_eq y_54_7; omega))
theorem h_X1_beginStep_b26 {s0 : Sg} (v1 : Int32) (t0 : Int32) (s : Sg) (hJ : JC 433886641675822595217874646918377826702065868846772620147618654191616 s0 s) (p_t0 : 0 ≤ t0.toInt ∧ t0.toInt ≤ 1) (y_54_7 : s.1 54 7 = s0.1 54 7) : OQ (f_X1_beginStep_b26 v1 t0 s) (fun r9 s9 => JC 433886641675822595217874646918377826702065868846772620147618654191616 s0 s9 ∧ (0 ≤ r9.toInt ∧ r9.toInt ≤ 1) ∧ (r9 = 0 → True) ∧ (¬ r9 = 0 → (s0.1 54 7).toInt ≤ 59)) := by
  unfold f_X1_beginStep_b26
  refine oq_b (h_X1_isStepWord _ hJ.1) (fun r1 s2 hs2 => ?_)
  have js2 : JC 433886641675822595217874646918377826702065868846772620147618654191616 s0 s2 := j_call hJ hs2.1 rfl
  refine oq_if (fun c1 => ?_) (fun c1 => ?_)
  · refine oq_b (h_X7_wrong _ js2.1 (by have f0 : (2 : Int32).toInt = 2 := rfl; omega)) (fun r3 s4 hs4 => ?_)
    have js4 : JC 433886641675822595217874646918377826702065868846772620147618654191616 s0 s4 := j_call js2 hs4.1 rfl
    refine oq_c (b01_of (by have f0 := hs4.2.1; have f1 := i_rg r3; omega)) ?_
    exact ⟨js4, (by have f0 := hs4.2.1; have f1 := i_rg r3; omega), fun _ => trivial, fun w9 => False.elim (by have f0 := hs4.2.1; have f1 := i_rg r3; have f2 := i_ne w9; have f3 : (0 : Int32).toInt = 0 := rfl; omega)⟩
  · refine oq_if (fun c2 => ?_) (fun c2 => ?_)
    · refine oq_b (h_X7_wrong _ js2.1 (by have f0 : (6 : Int32).toInt = 6 := rfl; omega)) (fun r5 s6 hs6 => ?_)
      have js6 : JC 433886641675822595217874646918377826702065868846772620147618654191616 s0 s6 := j_call js2 hs6.1 rfl
      refine oq_c (b01_of (by have f0 := hs6.2.1; have f1 := i_rg r5; omega)) ?_
      exact ⟨js6, (by have f0 := hs6.2.1; have f1 := i_rg r5; omega), fun _ => trivial, fun w9 => False.elim (by have f0 := hs6.2.1; have f1 := i_rg r5; have f2 := i_ne w9; have f3 : (0 : Int32).toInt = 0 := rfl; omega)⟩
    · refine oq_if (fun c3 => ?_) (fun c3 => ?_)
      · refine oq_if (fun c4 => ?_) (fun c4 => ?_)
        · exact h_X1_beginStep_b99 _ _ _ js2 (by have f0 := i_rg v1; have f1 := (hs2.2.2.2 c1).1; have f2 := (hs2.2.2.2 c1).2; have f3 : (116 : Int32).toInt = 116 := rfl; have f4 : (167 : Int32).toInt = 167 := rfl; omega) (by have f0 := p_t0; have f1 := i_rg t0; have f2 := i_eq c4; have f3 : (0 : Int32).toInt = 0 := rfl; omega) (by have f0 := j_rd js2 54 7 0 60 rfl; have f1 := i_lt c3; have f2 : (60 : Int32).toInt = 60 := rfl; omega) (by have g0 := p_t0; have g1 := i_rg t0; have g2 := j_rd js2 9 4 0 3 rfl; have g3 : (s2.1 9 4).toInt = (s.1 9 4).toInt := j_fr hs2.1 9 4 228 rfl rfl; have g4 := j_rd hJ 9 4 0 3 rfl; have g5 := i_eq c4; have g6 : (0 : Int32).toInt = 0 := rfl; omega) (Int32.toInt_inj.mp (by have f0 : (s2.1 54 7).toInt = (s.1 54 7).toInt := j_fr hs2.1 54 7 219 rfl rfl; have f1 : (s.1 54 7).toInt = (s0.1 54 7).toInt := i_eq y_54_7; omega))
        · refine oq_if (fun c5 => ?_) (fun c5 => ?_)
          · exact h_X1_beginStep_b99 _ _ _ js2 (by have f0 := i_rg v1; have f1 := (hs2.2.2.2 c1).1; have f2 := (hs2.2.2.2 c1).2; have f3 : (116 : Int32).toInt = 116 := rfl; have f4 : (167 : Int32).toInt = 167 := rfl; omega) (by have f0 := p_t0; have f1 := i_rg t0; have f2 := i_ne c4; have f3 : (0 : Int32).toInt = 0 := rfl; omega) (by have f0 := j_rd js2 54 7 0 60 rfl; have f1 := i_lt c3; have f2 : (60 : Int32).toInt = 60 := rfl; omega) (by have g0 := p_t0; have g1 := i_rg t0; have g2 := j_rd js2 9 4 0 3 rfl; have g3 : (s2.1 9 4).toInt = (s.1 9 4).toInt := j_fr hs2.1 9 4 228 rfl rfl; have g4 := j_rd hJ 9 4 0 3 rfl; have g5 := i_ne c4; have g6 := i_lt c5; have g7 : (0 : Int32).toInt = 0 := rfl; have g8 : (3 : Int32).toInt = 3 := rfl; omega) (Int32.toInt_inj.mp (by have f0 : (s2.1 54 7).toInt = (s.1 54 7).toInt := j_fr hs2.1 54 7 219 rfl rfl; have f1 : (s.1 54 7).toInt = (s0.1 54 7).toInt := i_eq y_54_7; omega))
          · refine oq_b (h_X7_wrong _ js2.1 (by have f0 : (7 : Int32).toInt = 7 := rfl; omega)) (fun r14 s15 hs15 => ?_)
            have js15 : JC 433886641675822595217874646918377826702065868846772620147618654191616 s0 s15 := j_call js2 hs15.1 rfl
            refine oq_c (b01_of (by have f0 := hs15.2.1; have f1 := i_rg r14; omega)) ?_
            exact ⟨js15, (by have f0 := hs15.2.1; have f1 := i_rg r14; omega), fun _ => trivial, fun w9 => False.elim (by have f0 := hs15.2.1; have f1 := i_rg r14; have f2 := i_ne w9; have f3 : (0 : Int32).toInt = 0 := rfl; omega)⟩
      · refine oq_b (h_X7_wrong _ js2.1 (by have f0 : (6 : Int32).toInt = 6 := rfl; omega)) (fun r16 s17 hs17 => ?_)
        have js17 : JC 433886641675822595217874646918377826702065868846772620147618654191616 s0 s17 := j_call js2 hs17.1 rfl
        refine oq_c (b01_of (by have f0 := hs17.2.1; have f1 := i_rg r16; omega)) ?_
        exact ⟨js17, (by have f0 := hs17.2.1; have f1 := i_rg r16; omega), fun _ => trivial, fun w9 => False.elim (by have f0 := hs17.2.1; have f1 := i_rg r16; have f2 := i_ne w9; have f3 : (0 : Int32).toInt = 0 := rfl; omega)⟩
theorem h_X1_beginStep_b21 {s0 : Sg} (v1 : Int32) (s : Sg) (hJ : JC 433886641675822595217874646918377826702065868846772620147618654191616 s0 s) (p_v1 : 124 ≤ v1.toInt ∧ v1.toInt ≤ 167) (y_54_7 : s.1 54 7 = s0.1 54 7) : OQ (f_X1_beginStep_b21 v1 s) (fun r9 s9 => JC 433886641675822595217874646918377826702065868846772620147618654191616 s0 s9 ∧ (0 ≤ r9.toInt ∧ r9.toInt ≤ 1) ∧ (r9 = 0 → True) ∧ (¬ r9 = 0 → (s0.1 54 7).toInt ≤ 59)) := by
  unfold f_X1_beginStep_b21
  exact h_X1_beginStep_b26 _ _ _ hJ (by have f0 : (1 : Int32).toInt = 1 := rfl; omega) (Int32.toInt_inj.mp (by have f0 : (s.1 54 7).toInt = (s0.1 54 7).toInt := i_eq y_54_7; omega))
theorem h_X1_beginStep  {s : Sg} (hR : Rg rC s) : OQ (f_X1_beginStep  s) (fun r9 s9 => JC 433886641675822595217874646918377826702065868846772620147618654191616 s s9 ∧ (0 ≤ r9.toInt ∧ r9.toInt ≤ 1) ∧ (r9 = 0 → True) ∧ (¬ r9 = 0 → (s.1 54 7).toInt ≤ 59)) := by
  have hJ : JC 433886641675822595217874646918377826702065868846772620147618654191616 s s := j_refl hR
  unfold f_X1_beginStep
  refine oq_if (fun c1 => ?_) (fun c1 => ?_)
  · exact h_X1_beginStep_b21 _ _ hJ (by have f0 := i_rg (s.1 7 3); have f1 := i_eq c1; have f2 : (124 : Int32).toInt = 124 := rfl; omega) (Int32.toInt_inj.mp (by omega))
  · refine oq_if (fun c2 => ?_) (fun c2 => ?_)
    · exact h_X1_beginStep_b21 _ _ hJ (by have f0 := i_rg (s.1 7 3); have f1 := i_ne c1; have f2 := i_eq c2; have f3 : (124 : Int32).toInt = 124 := rfl; have f4 : (128 : Int32).toInt = 128 := rfl; omega) (Int32.toInt_inj.mp (by omega))
    · exact h_X1_beginStep_b26 _ _ _ hJ (by have f0 : (0 : Int32).toInt = 0 := rfl; omega) (Int32.toInt_inj.mp (by omega))
theorem h_X1_takeNumber (a1 : Int32) (a2 : Int32) (a3 : Int32) {s : Sg} (hR : Rg rC s) (p_a1 : 0 ≤ a1.toInt ∧ a1.toInt ≤ 59) (p_a2 : 0 ≤ a2.toInt ∧ a2.toInt ≤ 1) (p_a3 : 16 ≤ a3.toInt ∧ a3.toInt ≤ 999) : OQ (f_X1_takeNumber a1 a2 a3 s) (fun r9 s9 => JC 1563145451683206635525513967693315386180579836105855074304 s s9 ∧ (0 ≤ r9.toInt ∧ r9.toInt ≤ 1) ∧ (r9 = 0 → True) ∧ (¬ r9 = 0 → 0 ≤ (s9.1 7 7).toInt)) := by
  have hJ : JC 1563145451683206635525513967693315386180579836105855074304 s s := j_refl hR
  unfold f_X1_takeNumber
  refine oq_b (h_X7_passNumber _ _ hJ.1 (by have f0 := p_a2; have f1 := i_rg a2; omega) (by have f0 := p_a3; have f1 := i_rg a3; omega)) (fun r1 s2 hs2 => ?_)
  have js2 : JC 1563145451683206635525513967693315386180579836105855074304 s s2 := j_call hJ hs2.1 rfl
  refine oq_if (fun c1 => ?_) (fun c1 => ?_)
  · exact ⟨js2, (by have f0 : (0 : Int32).toInt = 0 := rfl; omega), fun _ => trivial, fun w9 => absurd rfl w9⟩
  · refine oq_c (inr_of (by have f0 := p_a1; have f1 := i_rg a1; omega)) ?_
    refine oq_n (fun s4 es4 => ?_)
    have js4 : JC 1563145451683206635525513967693315386180579836105855074304 s s4 := by rw [es4]; exact (j_wf js2 rfl 74 rfl rfl)
    exact ⟨js4, (by have f0 : (1 : Int32).toInt = 1 := rfl; omega), fun w9 => absurd w9 (by decide), fun w9 => (by have f0 : (0 : Int32).toInt = 0 := rfl; have f1 : (s4.1 7 7).toInt = (s2.1 7 7).toInt := (by rw [es4]; exact u_nc rfl); have f2 := i_rg (s4.1 7 7); have f3 := i_rg (s2.1 7 7); have f4 := (hs2.2.2.2 c1); omega)⟩
theorem h_X4_numberOf_b3 {s0 : Sg} (n : Nat) : ∀ (v1 : Int64) (v3 : Int32) (v4 : Int32) (s : Sg), JC 0 s0 s → 99 ≤ v3.toInt ∧ v3.toInt ≤ 167 → 0 ≤ v4.toInt ∧ v4.toInt ≤ 24 → 24 - v4.toInt < (n : Int) → OQ (f_X4_numberOf_b3 n v1 v3 v4 s) (fun r9 s9 => JC 0 s0 s9 ∧ ((-1) ≤ r9.toInt ∧ r9.toInt ≤ 7) ∧ (r9 = 0 → True) ∧ (¬ r9 = 0 → True)) := by
  induction n with
  | zero => intro v1 v3 v4 s hJ p_v3 p_v4 hn; exact False.elim (by have g0 := hn; have g1 := p_v3; have g2 := p_v4; have g3 := i_rg v3; have g4 := i_rg v4; omega)
  | succ n ih =>
    intro v1 v3 v4 s hJ p_v3 p_v4 hn
    unfold f_X4_numberOf_b3
    refine oq_if (fun c1 => ?_) (fun c1 => ?_)
    · exact ⟨hJ, (by have f0 : ((-1) : Int32).toInt = (-1) := rfl; omega), fun w9 => absurd w9 (by decide), fun _ => trivial⟩
    · refine oq_c (inr_of (by have f0 := p_v4; have f1 := i_rg v4; have f2 := i_nle c1; have f3 := j_rd hJ 25 12 0 24 rfl; omega)) ?_
      refine oq_if (fun c2 => ?_) (fun c2 => ?_)
      · refine oq_if (fun c3 => ?_) (fun c3 => ?_)
        · exact ⟨hJ, (by have f0 := j_rd hJ 30 v4.toNatClampNeg 0 7 rfl; omega), fun _ => trivial, fun _ => trivial⟩
        · exact ih _ _ _ _ hJ (by have f0 := p_v3; have f1 := i_rg v3; have f2 := i_ne c3; have f3 := i_rg (s.1 29 v4.toNatClampNeg); omega) (by have f0 := i_add (v4) ((1 : Int32)); have f1 := p_v4; have f2 := i_rg v4; have f3 : (1 : Int32).toInt = 1 := rfl; have f4 := i_nle c1; have f5 := j_rd hJ 25 12 0 24 rfl; omega) (by have g0 := i_add (v4) ((1 : Int32)); have g1 := p_v3; have g2 := i_rg v3; have g3 := p_v4; have g4 := i_rg v4; have g5 : (1 : Int32).toInt = 1 := rfl; have g6 := i_nle c1; have g7 := i_ne c3; have g8 := j_rd hJ 25 12 0 24 rfl; have g9 := i_rg (s.1 29 v4.toNatClampNeg); have g10 := hn; omega)
      · exact ih _ _ _ _ hJ (by have f0 := p_v3; have f1 := i_rg v3; omega) (by have f0 := i_add (v4) ((1 : Int32)); have f1 := p_v4; have f2 := i_rg v4; have f3 : (1 : Int32).toInt = 1 := rfl; have f4 := i_nle c1; have f5 := j_rd hJ 25 12 0 24 rfl; omega) (by have g0 := i_add (v4) ((1 : Int32)); have g1 := p_v3; have g2 := i_rg v3; have g3 := p_v4; have g4 := i_rg v4; have g5 : (1 : Int32).toInt = 1 := rfl; have g6 := i_nle c1; have g7 := j_rd hJ 25 12 0 24 rfl; have g8 := hn; omega)
theorem h_X4_numberOf (a1 : Int64) (a2 : Int32) {s : Sg} (hR : Rg rC s) (p_a2 : 99 ≤ a2.toInt ∧ a2.toInt ≤ 167) : OQ (f_X4_numberOf a1 a2 s) (fun r9 s9 => JC 0 s s9 ∧ ((-1) ≤ r9.toInt ∧ r9.toInt ≤ 7) ∧ (r9 = 0 → True) ∧ (¬ r9 = 0 → True)) := by
  have hJ : JC 0 s s := j_refl hR
  unfold f_X4_numberOf
  exact h_X4_numberOf_b3 BIG _ _ _ _ hJ (by have f0 := p_a2; have f1 := i_rg a2; omega) (by have f0 : (0 : Int32).toInt = 0 := rfl; omega) (by have g0 := p_a2; have g1 := i_rg a2; have g2 : (0 : Int32).toInt = 0 := rfl; have g3 : BIG = 4294967296 := rfl; omega)
theorem h_X7_findName_25 (a2 : Int32) {s : Sg} (hR : Rg rC s) (p_a2 : 99 ≤ a2.toInt ∧ a2.toInt ≤ 167) : OQ (f_X7_findName_25 a2 s) (fun r9 s9 => JC 1373116004615836417089078936326677028522390253476507549696 s s9 ∧ (0 ≤ r9.toInt ∧ r9.toInt ≤ 1) ∧ (r9 = 0 → True) ∧ (¬ r9 = 0 → 0 ≤ (s9.1 7 7).toInt ∧ (s9.1 7 7).toInt ≤ 7)) := by
  have hJ : JC 1373116004615836417089078936326677028522390253476507549696 s s := j_refl hR
  unfold f_X7_findName_25
  refine oq_if (fun c1 => ?_) (fun c1 => ?_)
  · refine oq_b (h_X4_numberOf _ _ hJ.1 (by have f0 := p_a2; have f1 := i_rg a2; omega)) (fun r1 s2 hs2 => ?_)
    have js2 : JC 1373116004615836417089078936326677028522390253476507549696 s s2 := j_call hJ hs2.1 rfl
    refine oq_if (fun c2 => ?_) (fun c2 => ?_)
    · refine oq_b (h_X7_wrong _ ((j_wf js2 rfl 187 rfl rfl) : JC 1373116004615836417089078936326677028522390253476507549696 s (pI s2 7 7 r1)).1 (by have f0 : (3 : Int32).toInt = 3 := rfl; omega)) (fun r3 s4 hs4 => ?_)
      have js4 : JC 1373116004615836417089078936326677028522390253476507549696 s s4 := j_call ((j_wf js2 rfl 187 rfl rfl) : JC 1373116004615836417089078936326677028522390253476507549696 s (pI s2 7 7 r1)) hs4.1 rfl
      refine oq_if (fun c3 => ?_) (fun c3 => ?_)
      · exact ⟨js4, (by have f0 : (0 : Int32).toInt = 0 := rfl; omega), fun _ => trivial, fun w9 => absurd rfl w9⟩
      · exact False.elim (by have f0 := hs4.2.1; have f1 := i_rg r3; have f2 : (0 : Int32).toInt = 0 := rfl; have f3 := i_ne c3; omega)
    · exact ⟨(j_wf js2 rfl 187 rfl rfl), (by have f0 : (1 : Int32).toInt = 1 := rfl; omega), fun w9 => absurd w9 (by decide), fun w9 => ⟨(by have f0 : (0 : Int32).toInt = 0 := rfl; have f1 : ((pI s2 7 7 r1).1 7 7).toInt = (r1).toInt := u_eq; have f2 := i_rg ((pI s2 7 7 r1).1 7 7); have f3 := hs2.2.1; have f4 := i_rg r1; have f5 := i_ne c2; have f6 : ((-1) : Int32).toInt = (-1) := rfl; omega), (by have f0 : ((pI s2 7 7 r1).1 7 7).toInt = (r1).toInt := u_eq; have f1 := i_rg ((pI s2 7 7 r1).1 7 7); have f2 : (7 : Int32).toInt = 7 := rfl; have f3 := hs2.2.1; have f4 := i_rg r1; have f5 := i_ne c2; have f6 : ((-1) : Int32).toInt = (-1) := rfl; omega)⟩⟩
  · refine oq_b (h_X7_wrong _ hJ.1 (by have f0 : (2 : Int32).toInt = 2 := rfl; omega)) (fun r5 s6 hs6 => ?_)
    have js6 : JC 1373116004615836417089078936326677028522390253476507549696 s s6 := j_call hJ hs6.1 rfl
    refine oq_c (b01_of (by have f0 := hs6.2.1; have f1 := i_rg r5; omega)) ?_
    exact ⟨js6, (by have f0 := hs6.2.1; have f1 := i_rg r5; omega), fun _ => trivial, fun w9 => False.elim (by have f0 := hs6.2.1; have f1 := i_rg r5; have f2 := i_ne w9; have f3 : (0 : Int32).toInt = 0 := rfl; omega)⟩
theorem h_X1_takeGrocer (a1 : Int32) {s : Sg} (hR : Rg rC s) (p_a1 : 0 ≤ a1.toInt ∧ a1.toInt ≤ 59) : OQ (f_X1_takeGrocer a1 s) (fun r9 s9 => JC 1563145451683206635525513967693315376735846870366564646912 s s9 ∧ (0 ≤ r9.toInt ∧ r9.toInt ≤ 1) ∧ (r9 = 0 → True) ∧ (¬ r9 = 0 → 0 ≤ (s9.1 7 7).toInt ∧ (s9.1 7 7).toInt ≤ 7)) := by
  have hJ : JC 1563145451683206635525513967693315376735846870366564646912 s s := j_refl hR
  unfold f_X1_takeGrocer
  refine oq_b (h_X7_findName_25 _ hJ.1 (by have f0 : (112 : Int32).toInt = 112 := rfl; omega)) (fun r1 s2 hs2 => ?_)
  have js2 : JC 1563145451683206635525513967693315376735846870366564646912 s s2 := j_call hJ hs2.1 rfl
  refine oq_if (fun c1 => ?_) (fun c1 => ?_)
  · exact ⟨js2, (by have f0 : (0 : Int32).toInt = 0 := rfl; omega), fun _ => trivial, fun w9 => absurd rfl w9⟩
  · refine oq_c (inr_of (by have f0 := p_a1; have f1 := i_rg a1; omega)) ?_
    refine oq_n (fun s4 es4 => ?_)
    have js4 : JC 1563145451683206635525513967693315376735846870366564646912 s s4 := by rw [es4]; exact (j_wr 0 7 js2 rfl 73 rfl rfl (by have f0 := i_rg (s2.1 7 7); have f1 := (hs2.2.2.2 c1).1; have f2 := (hs2.2.2.2 c1).2; have f3 : (0 : Int32).toInt = 0 := rfl; have f4 : (7 : Int32).toInt = 7 := rfl; omega))
    refine oq_b (h_X7_advance  js4.1) (fun u2 s6 hs6 => ?_)
    have js6 : JC 1563145451683206635525513967693315376735846870366564646912 s s6 := j_call js4 hs6.1 rfl
    exact ⟨js6, (by have f0 : (1 : Int32).toInt = 1 := rfl; omega), fun w9 => absurd w9 (by decide), fun w9 => ⟨(by have f0 : (0 : Int32).toInt = 0 := rfl; have f1 : (s6.1 7 7).toInt = (s4.1 7 7).toInt := j_fr hs6.1 7 7 187 rfl rfl; have f2 := i_rg (s6.1 7 7); have f3 : (s4.1 7 7).toInt = (s2.1 7 7).toInt := (by rw [es4]; exact u_nc rfl); have f4 := i_rg (s4.1 7 7); have f5 := i_rg (s2.1 7 7); have f6 := (hs2.2.2.2 c1).1; have f7 := (hs2.2.2.2 c1).2; have f8 : (7 : Int32).toInt = 7 := rfl; omega), (by have f0 : (s6.1 7 7).toInt = (s4.1 7 7).toInt := j_fr hs6.1 7 7 187 rfl rfl; have f1 := i_rg (s6.1 7 7); have f2 : (7 : Int32).toInt = 7 := rfl; have f3 : (s4.1 7 7).toInt = (s2.1 7 7).toInt := (by rw [es4]; exact u_nc rfl); have f4 := i_rg (s4.1 7 7); have f5 := i_rg (s2.1 7 7); have f6 := (hs2.2.2.2 c1).1; have f7 := (hs2.2.2.2 c1).2; have f8 : (0 : Int32).toInt = 0 := rfl; omega)⟩⟩
theorem h_X4_isGone (a1 : Int32) {s : Sg} (hR : Rg rC s) (p_a1 : 0 ≤ a1.toInt ∧ a1.toInt ≤ 7) : OQ (f_X4_isGone a1 s) (fun r9 s9 => JC 0 s s9 ∧ (0 ≤ r9.toInt ∧ r9.toInt ≤ 1) ∧ (r9 = 0 → True) ∧ (¬ r9 = 0 → True)) := by
  have hJ : JC 0 s s := j_refl hR
  unfold f_X4_isGone
  refine oq_if (fun c1 => ?_) (fun c1 => ?_)
  · exact ⟨hJ, (by have f0 : (0 : Int32).toInt = 0 := rfl; omega), fun _ => trivial, fun w9 => absurd rfl w9⟩
  · exact ⟨hJ, (by have f0 : (1 : Int32).toInt = 1 := rfl; omega), fun w9 => absurd w9 (by decide), fun _ => trivial⟩
theorem h_X1_takeHouse_75 (a2 : Int32) {s : Sg} (hR : Rg rC s) (p_a2 : 0 ≤ a2.toInt ∧ a2.toInt ≤ 59) : OQ (f_X1_takeHouse_75 a2 s) (fun r9 s9 => JC 1563145451683206635525513967693315405070045767584435929088 s s9 ∧ (0 ≤ r9.toInt ∧ r9.toInt ≤ 1) ∧ (r9 = 0 → True) ∧ (¬ r9 = 0 → 0 ≤ (s9.1 7 7).toInt ∧ (s9.1 7 7).toInt ≤ 7)) := by
  have hJ : JC 1563145451683206635525513967693315405070045767584435929088 s s := j_refl hR
  unfold f_X1_takeHouse_75
  refine oq_b (h_X7_findName_25 _ hJ.1 (by have f0 : (100 : Int32).toInt = 100 := rfl; omega)) (fun r1 s2 hs2 => ?_)
  have js2 : JC 1563145451683206635525513967693315405070045767584435929088 s s2 := j_call hJ hs2.1 rfl
  refine oq_if (fun c1 => ?_) (fun c1 => ?_)
  · exact ⟨js2, (by have f0 : (0 : Int32).toInt = 0 := rfl; omega), fun _ => trivial, fun w9 => absurd rfl w9⟩
  · refine oq_b (h_X4_isGone _ js2.1 (by have f0 := i_rg (s2.1 7 7); have f1 := (hs2.2.2.2 c1).1; have f2 := (hs2.2.2.2 c1).2; have f3 : (0 : Int32).toInt = 0 := rfl; have f4 : (7 : Int32).toInt = 7 := rfl; omega)) (fun r3 s4 hs4 => ?_)
    have js4 : JC 1563145451683206635525513967693315405070045767584435929088 s s4 := j_call js2 hs4.1 rfl
    refine oq_if (fun c2 => ?_) (fun c2 => ?_)
    · refine oq_c (inr_of (by have f0 := p_a2; have f1 := i_rg a2; omega)) ?_
      refine oq_n (fun s6 es6 => ?_)
      have js6 : JC 1563145451683206635525513967693315405070045767584435929088 s s6 := by rw [es6]; exact (j_wr 0 7 js4 rfl 75 rfl rfl (by have f0 : (s4.1 7 7).toInt = (s2.1 7 7).toInt := j_fr hs4.1 7 7 187 rfl rfl; have f1 := i_rg (s4.1 7 7); have f2 := i_rg (s2.1 7 7); have f3 := (hs2.2.2.2 c1).1; have f4 := (hs2.2.2.2 c1).2; have f5 : (0 : Int32).toInt = 0 := rfl; have f6 : (7 : Int32).toInt = 7 := rfl; omega))
      refine oq_b (h_X7_advance  js6.1) (fun u3 s8 hs8 => ?_)
      have js8 : JC 1563145451683206635525513967693315405070045767584435929088 s s8 := j_call js6 hs8.1 rfl
      exact ⟨js8, (by have f0 : (1 : Int32).toInt = 1 := rfl; omega), fun w9 => absurd w9 (by decide), fun w9 => ⟨(by have f0 : (0 : Int32).toInt = 0 := rfl; have f1 : (s8.1 7 7).toInt = (s6.1 7 7).toInt := j_fr hs8.1 7 7 187 rfl rfl; have f2 := i_rg (s8.1 7 7); have f3 : (s6.1 7 7).toInt = (s4.1 7 7).toInt := (by rw [es6]; exact u_nc rfl); have f4 := i_rg (s6.1 7 7); have f5 : (s4.1 7 7).toInt = (s2.1 7 7).toInt := j_fr hs4.1 7 7 187 rfl rfl; have f6 := i_rg (s4.1 7 7); have f7 := i_rg (s2.1 7 7); have f8 := (hs2.2.2.2 c1).1; have f9 := (hs2.2.2.2 c1).2; have f10 : (7 : Int32).toInt = 7 := rfl; omega), (by have f0 : (s8.1 7 7).toInt = (s6.1 7 7).toInt := j_fr hs8.1 7 7 187 rfl rfl; have f1 := i_rg (s8.1 7 7); have f2 : (7 : Int32).toInt = 7 := rfl; have f3 : (s6.1 7 7).toInt = (s4.1 7 7).toInt := (by rw [es6]; exact u_nc rfl); have f4 := i_rg (s6.1 7 7); have f5 : (s4.1 7 7).toInt = (s2.1 7 7).toInt := j_fr hs4.1 7 7 187 rfl rfl; have f6 := i_rg (s4.1 7 7); have f7 := i_rg (s2.1 7 7); have f8 := (hs2.2.2.2 c1).1; have f9 := (hs2.2.2.2 c1).2; have f10 : (0 : Int32).toInt = 0 := rfl; omega)⟩⟩
    · refine oq_b (h_X7_wrong _ js4.1 (by have f0 : (5 : Int32).toInt = 5 := rfl; omega)) (fun r9 s10 hs10 => ?_)
      have js10 : JC 1563145451683206635525513967693315405070045767584435929088 s s10 := j_call js4 hs10.1 rfl
      refine oq_c (b01_of (by have f0 := hs10.2.1; have f1 := i_rg r9; omega)) ?_
      exact ⟨js10, (by have f0 := hs10.2.1; have f1 := i_rg r9; omega), fun _ => trivial, fun w9 => False.elim (by have f0 := hs10.2.1; have f1 := i_rg r9; have f2 := i_ne w9; have f3 : (0 : Int32).toInt = 0 := rfl; omega)⟩
theorem h_X1_takeHouse_73 (a2 : Int32) {s : Sg} (hR : Rg rC s) (p_a2 : 0 ≤ a2.toInt ∧ a2.toInt ≤ 59) : OQ (f_X1_takeHouse_73 a2 s) (fun r9 s9 => JC 1563145451683206635525513967693315376735846870366564646912 s s9 ∧ (0 ≤ r9.toInt ∧ r9.toInt ≤ 1) ∧ (r9 = 0 → True) ∧ (¬ r9 = 0 → 0 ≤ (s9.1 7 7).toInt ∧ (s9.1 7 7).toInt ≤ 7)) := by
  have hJ : JC 1563145451683206635525513967693315376735846870366564646912 s s := j_refl hR
  unfold f_X1_takeHouse_73
  refine oq_b (h_X7_findName_25 _ hJ.1 (by have f0 : (100 : Int32).toInt = 100 := rfl; omega)) (fun r1 s2 hs2 => ?_)
  have js2 : JC 1563145451683206635525513967693315376735846870366564646912 s s2 := j_call hJ hs2.1 rfl
  refine oq_if (fun c1 => ?_) (fun c1 => ?_)
  · exact ⟨js2, (by have f0 : (0 : Int32).toInt = 0 := rfl; omega), fun _ => trivial, fun w9 => absurd rfl w9⟩
  · refine oq_b (h_X4_isGone _ js2.1 (by have f0 := i_rg (s2.1 7 7); have f1 := (hs2.2.2.2 c1).1; have f2 := (hs2.2.2.2 c1).2; have f3 : (0 : Int32).toInt = 0 := rfl; have f4 : (7 : Int32).toInt = 7 := rfl; omega)) (fun r3 s4 hs4 => ?_)
    have js4 : JC 1563145451683206635525513967693315376735846870366564646912 s s4 := j_call js2 hs4.1 rfl
    refine oq_if (fun c2 => ?_) (fun c2 => ?_)
    · refine oq_c (inr_of (by have f0 := p_a2; have f1 := i_rg a2; omega)) ?_
      refine oq_n (fun s6 es6 => ?_)
      have js6 : JC 1563145451683206635525513967693315376735846870366564646912 s s6 := by rw [es6]; exact (j_wr 0 7 js4 rfl 73 rfl rfl (by have f0 : (s4.1 7 7).toInt = (s2.1 7 7).toInt := j_fr hs4.1 7 7 187 rfl rfl; have f1 := i_rg (s4.1 7 7); have f2 := i_rg (s2.1 7 7); have f3 := (hs2.2.2.2 c1).1; have f4 := (hs2.2.2.2 c1).2; have f5 : (0 : Int32).toInt = 0 := rfl; have f6 : (7 : Int32).toInt = 7 := rfl; omega))
      refine oq_b (h_X7_advance  js6.1) (fun u3 s8 hs8 => ?_)
      have js8 : JC 1563145451683206635525513967693315376735846870366564646912 s s8 := j_call js6 hs8.1 rfl
      exact ⟨js8, (by have f0 : (1 : Int32).toInt = 1 := rfl; omega), fun w9 => absurd w9 (by decide), fun w9 => ⟨(by have f0 : (0 : Int32).toInt = 0 := rfl; have f1 : (s8.1 7 7).toInt = (s6.1 7 7).toInt := j_fr hs8.1 7 7 187 rfl rfl; have f2 := i_rg (s8.1 7 7); have f3 : (s6.1 7 7).toInt = (s4.1 7 7).toInt := (by rw [es6]; exact u_nc rfl); have f4 := i_rg (s6.1 7 7); have f5 : (s4.1 7 7).toInt = (s2.1 7 7).toInt := j_fr hs4.1 7 7 187 rfl rfl; have f6 := i_rg (s4.1 7 7); have f7 := i_rg (s2.1 7 7); have f8 := (hs2.2.2.2 c1).1; have f9 := (hs2.2.2.2 c1).2; have f10 : (7 : Int32).toInt = 7 := rfl; omega), (by have f0 : (s8.1 7 7).toInt = (s6.1 7 7).toInt := j_fr hs8.1 7 7 187 rfl rfl; have f1 := i_rg (s8.1 7 7); have f2 : (7 : Int32).toInt = 7 := rfl; have f3 : (s6.1 7 7).toInt = (s4.1 7 7).toInt := (by rw [es6]; exact u_nc rfl); have f4 := i_rg (s6.1 7 7); have f5 : (s4.1 7 7).toInt = (s2.1 7 7).toInt := j_fr hs4.1 7 7 187 rfl rfl; have f6 := i_rg (s4.1 7 7); have f7 := i_rg (s2.1 7 7); have f8 := (hs2.2.2.2 c1).1; have f9 := (hs2.2.2.2 c1).2; have f10 : (0 : Int32).toInt = 0 := rfl; omega)⟩⟩
    · refine oq_b (h_X7_wrong _ js4.1 (by have f0 : (5 : Int32).toInt = 5 := rfl; omega)) (fun r9 s10 hs10 => ?_)
      have js10 : JC 1563145451683206635525513967693315376735846870366564646912 s s10 := j_call js4 hs10.1 rfl
      refine oq_c (b01_of (by have f0 := hs10.2.1; have f1 := i_rg r9; omega)) ?_
      exact ⟨js10, (by have f0 := hs10.2.1; have f1 := i_rg r9; omega), fun _ => trivial, fun w9 => False.elim (by have f0 := hs10.2.1; have f1 := i_rg r9; have f2 := i_ne w9; have f3 : (0 : Int32).toInt = 0 := rfl; omega)⟩
theorem h_X1_takeTest_b40 {s0 : Sg} (v1 : Int32) (s : Sg) (hJ : JC 1563145451683206635525513967693315471183176527759468920832 s0 s) (p_v1 : 0 ≤ v1.toInt ∧ v1.toInt ≤ 59) : OQ (f_X1_takeTest_b40 v1 s) (fun r9 s9 => JC 1563145451683206635525513967693315471183176527759468920832 s0 s9 ∧ (0 ≤ r9.toInt ∧ r9.toInt ≤ 1) ∧ (r9 = 0 → True) ∧ (¬ r9 = 0 → 0 ≤ (s9.1 7 7).toInt)) := by
  unfold f_X1_takeTest_b40
  refine oq_b (h_X7_advance  hJ.1) (fun u1 s4 hs4 => ?_)
  have js4 : JC 1563145451683206635525513967693315471183176527759468920832 s0 s4 := j_call hJ hs4.1 rfl
  refine oq_b (h_X7_findName_25 _ js4.1 (by have f0 : (104 : Int32).toInt = 104 := rfl; omega)) (fun r5 s6 hs6 => ?_)
  have js6 : JC 1563145451683206635525513967693315471183176527759468920832 s0 s6 := j_call js4 hs6.1 rfl
  refine oq_if (fun c2 => ?_) (fun c2 => ?_)
  · exact ⟨js6, (by have f0 : (0 : Int32).toInt = 0 := rfl; omega), fun _ => trivial, fun w9 => absurd rfl w9⟩
  · refine oq_c (inr_of (by have f0 := p_v1; have f1 := i_rg v1; omega)) ?_
    refine oq_n (fun s8 es8 => ?_)
    have js8 : JC 1563145451683206635525513967693315471183176527759468920832 s0 s8 := by rw [es8]; exact (j_wr 0 7 js6 rfl 73 rfl rfl (by have f0 := i_rg (s6.1 7 7); have f1 := (hs6.2.2.2 c2).1; have f2 := (hs6.2.2.2 c2).2; have f3 : (0 : Int32).toInt = 0 := rfl; have f4 : (7 : Int32).toInt = 7 := rfl; omega))
    refine oq_b (h_X7_advance  js8.1) (fun u3 s10 hs10 => ?_)
    have js10 : JC 1563145451683206635525513967693315471183176527759468920832 s0 s10 := j_call js8 hs10.1 rfl
    exact ⟨js10, (by have f0 : (1 : Int32).toInt = 1 := rfl; omega), fun w9 => absurd w9 (by decide), fun w9 => (by have f0 : (0 : Int32).toInt = 0 := rfl; have f1 : (s10.1 7 7).toInt = (s8.1 7 7).toInt := j_fr hs10.1 7 7 187 rfl rfl; have f2 := i_rg (s10.1 7 7); have f3 : (s8.1 7 7).toInt = (s6.1 7 7).toInt := (by rw [es8]; exact u_nc rfl); have f4 := i_rg (s8.1 7 7); have f5 := i_rg (s6.1 7 7); have f6 := (hs6.2.2.2 c2).1; have f7 := (hs6.2.2.2 c2).2; have f8 : (7 : Int32).toInt = 7 := rfl; omega)⟩
theorem h_X1_takeTest_b180 {s0 : Sg} (v1 : Int32) (s : Sg) (hJ : JC 1563145451683206635525513967693315471183176527759468920832 s0 s) (p_v1 : 0 ≤ v1.toInt ∧ v1.toInt ≤ 59) : OQ (f_X1_takeTest_b180 v1 s) (fun r9 s9 => JC 1563145451683206635525513967693315471183176527759468920832 s0 s9 ∧ (0 ≤ r9.toInt ∧ r9.toInt ≤ 1) ∧ (r9 = 0 → True) ∧ (¬ r9 = 0 → 0 ≤ (s9.1 7 7).toInt)) := by
  unfold f_X1_takeTest_b180
  refine oq_b (h_X7_advance  hJ.1) (fun u1 s17 hs17 => ?_)
  have js17 : JC 1563145451683206635525513967693315471183176527759468920832 s0 s17 := j_call hJ hs17.1 rfl
  refine oq_b (h_X7_passNumber _ _ js17.1 (by have f0 : (0 : Int32).toInt = 0 := rfl; omega) (by have f0 : (9999 : Int32).toInt = 9999 := rfl; omega)) (fun r18 s19 hs19 => ?_)
  have js19 : JC 1563145451683206635525513967693315471183176527759468920832 s0 s19 := j_call js17 hs19.1 rfl
  refine oq_c (inr_of (by have f0 := p_v1; have f1 := i_rg v1; omega)) ?_
  refine oq_n (fun s21 es21 => ?_)
  have js21 : JC 1563145451683206635525513967693315471183176527759468920832 s0 s21 := by rw [es21]; exact (j_wf js19 rfl 74 rfl rfl)
  refine oq_c (b01_of (by have f0 := hs19.2.1; have f1 := i_rg r18; omega)) ?_
  exact ⟨js21, (by have f0 := hs19.2.1; have f1 := i_rg r18; omega), fun _ => trivial, fun w9 => (by have f0 : (0 : Int32).toInt = 0 := rfl; have f1 : (s21.1 7 7).toInt = (s19.1 7 7).toInt := (by rw [es21]; exact u_nc rfl); have f2 := i_rg (s21.1 7 7); have f3 := i_rg (s19.1 7 7); have f4 := (hs19.2.2.2 w9); omega)⟩
theorem h_X1_takeTest (a1 : Int32) {s : Sg} (hR : Rg rC s) (p_a1 : 0 ≤ a1.toInt ∧ a1.toInt ≤ 59) : OQ (f_X1_takeTest a1 s) (fun r9 s9 => JC 1563145451683206635525513967693315471183176527759468920832 s s9 ∧ (0 ≤ r9.toInt ∧ r9.toInt ≤ 1) ∧ (r9 = 0 → True) ∧ (¬ r9 = 0 → 0 ≤ (s9.1 7 7).toInt)) := by
  have hJ : JC 1563145451683206635525513967693315471183176527759468920832 s s := j_refl hR
  unfold f_X1_takeTest
  refine oq_c (inr_of (by have f0 := p_a1; have f1 := i_rg a1; omega)) ?_
  refine oq_n (fun s2 es2 => ?_)
  have js2 : JC 1563145451683206635525513967693315471183176527759468920832 s s2 := by rw [es2]; exact (j_wf hJ rfl 76 rfl rfl)
  refine oq_if (fun c1 => ?_) (fun c1 => ?_)
  · exact h_X1_takeTest_b40 _ _ js2 (by have f0 := p_a1; have f1 := i_rg a1; omega)
  · refine oq_if (fun c2 => ?_) (fun c2 => ?_)
    · exact h_X1_takeTest_b40 _ _ js2 (by have f0 := p_a1; have f1 := i_rg a1; omega)
    · refine oq_b (h_X7_pass _ js2.1 (by have f0 : (127 : Int32).toInt = 127 := rfl; omega)) (fun r11 s12 hs12 => ?_)
      have js12 : JC 1563145451683206635525513967693315471183176527759468920832 s s12 := j_call js2 hs12.1 rfl
      refine oq_if (fun c3 => ?_) (fun c3 => ?_)
      · exact ⟨js12, (by have f0 : (0 : Int32).toInt = 0 := rfl; omega), fun _ => trivial, fun w9 => absurd rfl w9⟩
      · refine oq_b (h_X1_takeHouse_73 _ js12.1 (by have f0 := p_a1; have f1 := i_rg a1; omega)) (fun r13 s14 hs14 => ?_)
        have js14 : JC 1563145451683206635525513967693315471183176527759468920832 s s14 := j_call js12 hs14.1 rfl
        refine oq_if (fun c4 => ?_) (fun c4 => ?_)
        · exact ⟨js14, (by have f0 : (0 : Int32).toInt = 0 := rfl; omega), fun _ => trivial, fun w9 => absurd rfl w9⟩
        · refine oq_n (fun s15 es15 => ?_)
          have js15 : JC 1563145451683206635525513967693315471183176527759468920832 s s15 := by rw [es15]; exact (j_wf js14 rfl 76 rfl rfl)
          refine oq_if (fun c5 => ?_) (fun c5 => ?_)
          · exact h_X1_takeTest_b180 _ _ js15 (by have f0 := p_a1; have f1 := i_rg a1; omega)
          · refine oq_if (fun c6 => ?_) (fun c6 => ?_)
            · exact h_X1_takeTest_b180 _ _ js15 (by have f0 := p_a1; have f1 := i_rg a1; omega)
            · refine oq_if (fun c7 => ?_) (fun c7 => ?_)
              · exact h_X1_takeTest_b180 _ _ js15 (by have f0 := p_a1; have f1 := i_rg a1; omega)
              · refine oq_b (h_X7_wrong _ js15.1 (by have f0 : (2 : Int32).toInt = 2 := rfl; omega)) (fun r22 s23 hs23 => ?_)
                have js23 : JC 1563145451683206635525513967693315471183176527759468920832 s s23 := j_call js15 hs23.1 rfl
                refine oq_c (b01_of (by have f0 := hs23.2.1; have f1 := i_rg r22; omega)) ?_
                exact ⟨js23, (by have f0 := hs23.2.1; have f1 := i_rg r22; omega), fun _ => trivial, fun w9 => False.elim (by have f0 := hs23.2.1; have f1 := i_rg r22; have f2 := i_ne w9; have f3 : (0 : Int32).toInt = 0 := rfl; omega)⟩
theorem h_X1_takeStep_b249 {s0 : Sg} (v2 : Int32) (s : Sg) (hJ : JC 433886641676018754647105480692247695121541108563946813241347511681024 s0 s) (p_v2 : 0 ≤ v2.toInt ∧ v2.toInt ≤ 1) : OQ (f_X1_takeStep_b249 v2 s) (fun r9 s9 => JC 433886641676018754647105480692247695121541108563946813241347511681024 s0 s9 ∧ (0 ≤ r9.toInt ∧ r9.toInt ≤ 1) ∧ (r9 = 0 → True) ∧ (¬ r9 = 0 → True)) := by
  unfold f_X1_takeStep_b249
  refine oq_if (fun c1 => ?_) (fun c1 => ?_)
  · exact ⟨hJ, (by have f0 : (0 : Int32).toInt = 0 := rfl; omega), fun _ => trivial, fun w9 => absurd rfl w9⟩
  · refine oq_b (h_X7_pass _ hJ.1 (by have f0 : (59 : Int32).toInt = 59 := rfl; omega)) (fun r6 s7 hs7 => ?_)
    have js7 : JC 433886641676018754647105480692247695121541108563946813241347511681024 s0 s7 := j_call hJ hs7.1 rfl
    refine oq_if (fun c2 => ?_) (fun c2 => ?_)
    · exact ⟨js7, (by have f0 : (0 : Int32).toInt = 0 := rfl; omega), fun _ => trivial, fun w9 => absurd rfl w9⟩
    · exact ⟨js7, (by have f0 : (1 : Int32).toInt = 1 := rfl; omega), fun w9 => absurd w9 (by decide), fun _ => trivial⟩
theorem h_X1_takeStep_b184 {s0 : Sg} (t0 : Int32) (s : Sg) (hJ : JC 433886641676018754647105480692247695121541108563946813241347511681024 s0 s) (p_t0 : 0 ≤ t0.toInt ∧ t0.toInt ≤ 1) : OQ (f_X1_takeStep_b184 t0 s) (fun r9 s9 => JC 433886641676018754647105480692247695121541108563946813241347511681024 s0 s9 ∧ (0 ≤ r9.toInt ∧ r9.toInt ≤ 1) ∧ (r9 = 0 → True) ∧ (¬ r9 = 0 → True)) := by
  unfold f_X1_takeStep_b184
  exact h_X1_takeStep_b249 _ _ hJ (by have f0 := p_t0; have f1 := i_rg t0; omega)
theorem h_X1_takeStep_b183 {s0 : Sg}  (s : Sg) (hJ : JC 433886641676018754647105480692247695121541108563946813241347511681024 s0 s) : OQ (f_X1_takeStep_b183  s) (fun r9 s9 => JC 433886641676018754647105480692247695121541108563946813241347511681024 s0 s9 ∧ (0 ≤ r9.toInt ∧ r9.toInt ≤ 1) ∧ (r9 = 0 → True) ∧ (¬ r9 = 0 → True)) := by
  unfold f_X1_takeStep_b183
  exact h_X1_takeStep_b184 _ _ hJ (by have f0 : (0 : Int32).toInt = 0 := rfl; omega)
theorem h_X1_takeStep_b128 {s0 : Sg} (t0 : Int32) (s : Sg) (hJ : JC 433886641676018754647105480692247695121541108563946813241347511681024 s0 s) (p_t0 : 0 ≤ t0.toInt ∧ t0.toInt ≤ 1) : OQ (f_X1_takeStep_b128 t0 s) (fun r9 s9 => JC 433886641676018754647105480692247695121541108563946813241347511681024 s0 s9 ∧ (0 ≤ r9.toInt ∧ r9.toInt ≤ 1) ∧ (r9 = 0 → True) ∧ (¬ r9 = 0 → True)) := by
  unfold f_X1_takeStep_b128
  exact h_X1_takeStep_b249 _ _ hJ (by have f0 := p_t0; have f1 := i_rg t0; omega)
theorem h_X1_takeStep_b127 {s0 : Sg}  (s : Sg) (hJ : JC 433886641676018754647105480692247695121541108563946813241347511681024 s0 s) : OQ (f_X1_takeStep_b127  s) (fun r9 s9 => JC 433886641676018754647105480692247695121541108563946813241347511681024 s0 s9 ∧ (0 ≤ r9.toInt ∧ r9.toInt ≤ 1) ∧ (r9 = 0 → True) ∧ (¬ r9 = 0 → True)) := by
  unfold f_X1_takeStep_b127
  exact h_X1_takeStep_b128 _ _ hJ (by have f0 : (0 : Int32).toInt = 0 := rfl; omega)
theorem h_X1_takeStep  {s : Sg} (hR : Rg rC s) : OQ (f_X1_takeStep  s) (fun r9 s9 => JC 433886641676018754647105480692247695121541108563946813241347511681024 s s9 ∧ (0 ≤ r9.toInt ∧ r9.toInt ≤ 1) ∧ (r9 = 0 → True) ∧ (¬ r9 = 0 → True)) := by
  have hJ : JC 433886641676018754647105480692247695121541108563946813241347511681024 s s := j_refl hR
  unfold f_X1_takeStep
  refine oq_b (h_X1_beginStep  hJ.1) (fun r1 s2 hs2 => ?_)
  have js2 : JC 433886641676018754647105480692247695121541108563946813241347511681024 s s2 := j_call hJ hs2.1 rfl
  refine oq_if (fun c1 => ?_) (fun c1 => ?_)
  · exact ⟨js2, (by have f0 : (0 : Int32).toInt = 0 := rfl; omega), fun _ => trivial, fun w9 => absurd rfl w9⟩
  · refine oq_c (inr_of (by have f0 := j_rd hJ 54 7 0 60 rfl; have f1 := (hs2.2.2.2 c1); have f2 : (59 : Int32).toInt = 59 := rfl; omega)) ?_
    refine oq_if (fun c2 => ?_) (fun c2 => ?_)
    · refine oq_b (h_X1_takeNumber _ _ _ js2.1 (by have f0 := j_rd hJ 54 7 0 60 rfl; have f1 := (hs2.2.2.2 c1); have f2 : (59 : Int32).toInt = 59 := rfl; omega) (by have f0 : (0 : Int32).toInt = 0 := rfl; omega) (by have f0 : (16 : Int32).toInt = 16 := rfl; omega)) (fun r4 s5 hs5 => ?_)
      have js5 : JC 433886641676018754647105480692247695121541108563946813241347511681024 s s5 := j_call js2 hs5.1 rfl
      exact h_X1_takeStep_b249 _ _ js5 (by have f0 := hs5.2.1; have f1 := i_rg r4; omega)
    · refine oq_if (fun c3 => ?_) (fun c3 => ?_)
      · exact h_X1_takeStep_b249 _ _ js2 (by have f0 : (1 : Int32).toInt = 1 := rfl; omega)
      · refine oq_if (fun c4 => ?_) (fun c4 => ?_)
        · exact h_X1_takeStep_b249 _ _ js2 (by have f0 : (1 : Int32).toInt = 1 := rfl; omega)
        · refine oq_if (fun c5 => ?_) (fun c5 => ?_)
          · refine oq_b (h_X1_takeGrocer _ js2.1 (by have f0 := j_rd hJ 54 7 0 60 rfl; have f1 := (hs2.2.2.2 c1); have f2 : (59 : Int32).toInt = 59 := rfl; omega)) (fun r8 s9 hs9 => ?_)
            have js9 : JC 433886641676018754647105480692247695121541108563946813241347511681024 s s9 := j_call js2 hs9.1 rfl
            refine oq_if (fun c6 => ?_) (fun c6 => ?_)
            · exact h_X1_takeStep_b183  _ js9
            · refine oq_b (h_X1_takeNumber _ _ _ js9.1 (by have f0 := j_rd hJ 54 7 0 60 rfl; have f1 := (hs2.2.2.2 c1); have f2 : (59 : Int32).toInt = 59 := rfl; omega) (by have f0 : (1 : Int32).toInt = 1 := rfl; omega) (by have f0 : (999 : Int32).toInt = 999 := rfl; omega)) (fun r10 s11 hs11 => ?_)
              have js11 : JC 433886641676018754647105480692247695121541108563946813241347511681024 s s11 := j_call js9 hs11.1 rfl
              refine oq_if (fun c7 => ?_) (fun c7 => ?_)
              · exact h_X1_takeStep_b183  _ js11
              · refine oq_b (h_X7_pass _ js11.1 (by have f0 : (110 : Int32).toInt = 110 := rfl; omega)) (fun r12 s13 hs13 => ?_)
                have js13 : JC 433886641676018754647105480692247695121541108563946813241347511681024 s s13 := j_call js11 hs13.1 rfl
                refine oq_if (fun c8 => ?_) (fun c8 => ?_)
                · exact h_X1_takeStep_b183  _ js13
                · refine oq_b (h_X1_takeHouse_75 _ js13.1 (by have f0 := j_rd hJ 54 7 0 60 rfl; have f1 := (hs2.2.2.2 c1); have f2 : (59 : Int32).toInt = 59 := rfl; omega)) (fun r14 s15 hs15 => ?_)
                  have js15 : JC 433886641676018754647105480692247695121541108563946813241347511681024 s s15 := j_call js13 hs15.1 rfl
                  refine oq_if (fun c9 => ?_) (fun c9 => ?_)
                  · exact h_X1_takeStep_b183  _ js15
                  · exact h_X1_takeStep_b184 _ _ js15 (by have f0 : (1 : Int32).toInt = 1 := rfl; omega)
          · refine oq_if (fun c10 => ?_) (fun c10 => ?_)
            · refine oq_b (h_X1_takeHouse_73 _ js2.1 (by have f0 := j_rd hJ 54 7 0 60 rfl; have f1 := (hs2.2.2.2 c1); have f2 : (59 : Int32).toInt = 59 := rfl; omega)) (fun r16 s17 hs17 => ?_)
              have js17 : JC 433886641676018754647105480692247695121541108563946813241347511681024 s s17 := j_call js2 hs17.1 rfl
              refine oq_if (fun c11 => ?_) (fun c11 => ?_)
              · exact h_X1_takeStep_b127  _ js17
              · refine oq_b (h_X1_takeNumber _ _ _ js17.1 (by have f0 := j_rd hJ 54 7 0 60 rfl; have f1 := (hs2.2.2.2 c1); have f2 : (59 : Int32).toInt = 59 := rfl; omega) (by have f0 : (1 : Int32).toInt = 1 := rfl; omega) (by have f0 : (999 : Int32).toInt = 999 := rfl; omega)) (fun r18 s19 hs19 => ?_)
                have js19 : JC 433886641676018754647105480692247695121541108563946813241347511681024 s s19 := j_call js17 hs19.1 rfl
                refine oq_if (fun c12 => ?_) (fun c12 => ?_)
                · exact h_X1_takeStep_b127  _ js19
                · exact h_X1_takeStep_b128 _ _ js19 (by have f0 : (1 : Int32).toInt = 1 := rfl; omega)
            · refine oq_if (fun c13 => ?_) (fun c13 => ?_)
              · refine oq_b (h_X1_takeHouse_73 _ js2.1 (by have f0 := j_rd hJ 54 7 0 60 rfl; have f1 := (hs2.2.2.2 c1); have f2 : (59 : Int32).toInt = 59 := rfl; omega)) (fun r20 s21 hs21 => ?_)
                have js21 : JC 433886641676018754647105480692247695121541108563946813241347511681024 s s21 := j_call js2 hs21.1 rfl
                exact h_X1_takeStep_b249 _ _ js21 (by have f0 := hs21.2.1; have f1 := i_rg r20; omega)
              · refine oq_if (fun c14 => ?_) (fun c14 => ?_)
                · refine oq_b (h_X1_takeNumber _ _ _ js2.1 (by have f0 := j_rd hJ 54 7 0 60 rfl; have f1 := (hs2.2.2.2 c1); have f2 : (59 : Int32).toInt = 59 := rfl; omega) (by have f0 : (0 : Int32).toInt = 0 := rfl; omega) (by have f0 : (99 : Int32).toInt = 99 := rfl; omega)) (fun r22 s23 hs23 => ?_)
                  have js23 : JC 433886641676018754647105480692247695121541108563946813241347511681024 s s23 := j_call js2 hs23.1 rfl
                  exact h_X1_takeStep_b249 _ _ js23 (by have f0 := hs23.2.1; have f1 := i_rg r22; omega)
                · refine oq_if (fun c15 => ?_) (fun c15 => ?_)
                  · exact h_X1_takeStep_b249 _ _ js2 (by have f0 : (1 : Int32).toInt = 1 := rfl; omega)
                  · refine oq_if (fun c16 => ?_) (fun c16 => ?_)
                    · refine oq_b (h_X1_takeTest _ js2.1 (by have f0 := j_rd hJ 54 7 0 60 rfl; have f1 := (hs2.2.2.2 c1); have f2 : (59 : Int32).toInt = 59 := rfl; omega)) (fun r24 s25 hs25 => ?_)
                      have js25 : JC 433886641676018754647105480692247695121541108563946813241347511681024 s s25 := j_call js2 hs25.1 rfl
                      exact h_X1_takeStep_b249 _ _ js25 (by have f0 := hs25.2.1; have f1 := i_rg r24; omega)
                    · refine oq_if (fun c17 => ?_) (fun c17 => ?_)
                      · exact h_X1_takeStep_b249 _ _ js2 (by have f0 : (1 : Int32).toInt = 1 := rfl; omega)
                      · refine oq_if (fun c18 => ?_) (fun c18 => ?_)
                        · exact h_X1_takeStep_b249 _ _ js2 (by have f0 : (1 : Int32).toInt = 1 := rfl; omega)
                        · refine oq_if (fun c19 => ?_) (fun c19 => ?_)
                          · exact h_X1_takeStep_b249 _ _ js2 (by have f0 : (1 : Int32).toInt = 1 := rfl; omega)
                          · refine oq_if (fun c20 => ?_) (fun c20 => ?_)
                            · refine oq_b (h_X1_takeNumber _ _ _ js2.1 (by have f0 := j_rd hJ 54 7 0 60 rfl; have f1 := (hs2.2.2.2 c1); have f2 : (59 : Int32).toInt = 59 := rfl; omega) (by have f0 : (1 : Int32).toInt = 1 := rfl; omega) (by have f0 : (99 : Int32).toInt = 99 := rfl; omega)) (fun r26 s27 hs27 => ?_)
                              have js27 : JC 433886641676018754647105480692247695121541108563946813241347511681024 s s27 := j_call js2 hs27.1 rfl
                              exact h_X1_takeStep_b249 _ _ js27 (by have f0 := hs27.2.1; have f1 := i_rg r26; omega)
                            · exact h_X1_takeStep_b249 _ _ js2 (by have f0 : (1 : Int32).toInt = 1 := rfl; omega)
theorem h_X1_takeText_b22 {s0 : Sg} (n : Nat) : ∀ (v1 : Int32) (s : Sg), JC 434307890842692983393897152802982376850816689096664737138193402429440 s0 s → 0 ≤ v1.toInt ∧ v1.toInt ≤ 899 → 899 - v1.toInt < (n : Int) → OQ (f_X1_takeText_b22 n v1 s) (fun r9 s9 => JC 434307890842692983393897152802982376850816689096664737138193402429440 s0 s9 ∧ (0 ≤ r9.toInt ∧ r9.toInt ≤ 1) ∧ (r9 = 0 → True) ∧ (¬ r9 = 0 → True)) := by
  induction n with
  | zero => intro v1 s hJ p_v1 hn; exact False.elim (by have g0 := hn; have g1 := p_v1; have g2 := i_rg v1; omega)
  | succ n ih =>
    intro v1 s hJ p_v1 hn
    unfold f_X1_takeText_b22
    refine oq_if (fun c1 => ?_) (fun c1 => ?_)
    · refine oq_b (h_X7_wrong _ hJ.1 (by have f0 : (2 : Int32).toInt = 2 := rfl; omega)) (fun r3 s4 hs4 => ?_)
      have js4 : JC 434307890842692983393897152802982376850816689096664737138193402429440 s0 s4 := j_call hJ hs4.1 rfl
      refine oq_c (b01_of (by have f0 := hs4.2.1; have f1 := i_rg r3; omega)) ?_
      exact ⟨js4, (by have f0 := hs4.2.1; have f1 := i_rg r3; omega), fun _ => trivial, fun w9 => False.elim (by have f0 := hs4.2.1; have f1 := i_rg r3; have f2 := i_ne w9; have f3 : (0 : Int32).toInt = 0 := rfl; omega)⟩
    · refine oq_if (fun c2 => ?_) (fun c2 => ?_)
      · refine oq_if (fun c3 => ?_) (fun c3 => ?_)
        · exact ⟨hJ, (by have f0 : (1 : Int32).toInt = 1 := rfl; omega), fun w9 => absurd w9 (by decide), fun _ => trivial⟩
        · refine oq_b (h_X7_wrong _ hJ.1 (by have f0 : (2 : Int32).toInt = 2 := rfl; omega)) (fun r5 s6 hs6 => ?_)
          have js6 : JC 434307890842692983393897152802982376850816689096664737138193402429440 s0 s6 := j_call hJ hs6.1 rfl
          refine oq_if (fun c4 => ?_) (fun c4 => ?_)
          · exact ⟨js6, (by have f0 : (0 : Int32).toInt = 0 := rfl; omega), fun _ => trivial, fun w9 => absurd rfl w9⟩
          · exact False.elim (by have f0 := hs6.2.1; have f1 := i_rg r5; have f2 : (0 : Int32).toInt = 0 := rfl; have f3 := i_ne c4; omega)
      · refine oq_if (fun c5 => ?_) (fun c5 => ?_)
        · refine oq_b (h_X1_takeEnd  hJ.1) (fun r7 s8 hs8 => ?_)
          have js8 : JC 434307890842692983393897152802982376850816689096664737138193402429440 s0 s8 := j_call hJ hs8.1 rfl
          refine oq_if (fun c6 => ?_) (fun c6 => ?_)
          · exact ⟨js8, (by have f0 : (0 : Int32).toInt = 0 := rfl; omega), fun _ => trivial, fun w9 => absurd rfl w9⟩
          · exact ih _ _ js8 (by have f0 := i_add (v1) ((1 : Int32)); have f1 := p_v1; have f2 := i_rg v1; have f3 : (1 : Int32).toInt = 1 := rfl; have f4 := i_nlt c1; have f5 : (300 : Int32).toInt = 300 := rfl; omega) (by have g0 := i_add (v1) ((1 : Int32)); have g1 := p_v1; have g2 := i_rg v1; have g3 : (1 : Int32).toInt = 1 := rfl; have g4 := i_nlt c1; have g5 : (300 : Int32).toInt = 300 := rfl; have g6 := hn; omega)
        · refine oq_b (h_X1_takeStep  hJ.1) (fun r9 s10 hs10 => ?_)
          have js10 : JC 434307890842692983393897152802982376850816689096664737138193402429440 s0 s10 := j_call hJ hs10.1 rfl
          refine oq_if (fun c7 => ?_) (fun c7 => ?_)
          · exact ⟨js10, (by have f0 : (0 : Int32).toInt = 0 := rfl; omega), fun _ => trivial, fun w9 => absurd rfl w9⟩
          · exact ih _ _ js10 (by have f0 := i_add (v1) ((1 : Int32)); have f1 := p_v1; have f2 := i_rg v1; have f3 : (1 : Int32).toInt = 1 := rfl; have f4 := i_nlt c1; have f5 : (300 : Int32).toInt = 300 := rfl; omega) (by have g0 := i_add (v1) ((1 : Int32)); have g1 := p_v1; have g2 := i_rg v1; have g3 : (1 : Int32).toInt = 1 := rfl; have g4 := i_nlt c1; have g5 : (300 : Int32).toInt = 300 := rfl; have g6 := hn; omega)
theorem h_X1_takeText  {s : Sg} (hR : Rg rC s) : OQ (f_X1_takeText  s) (fun r9 s9 => JC 434307890842692983393897152802982376850816689096664737138193402429440 s s9 ∧ (0 ≤ r9.toInt ∧ r9.toInt ≤ 1) ∧ (r9 = 0 → True) ∧ (¬ r9 = 0 → True)) := by
  have hJ : JC 434307890842692983393897152802982376850816689096664737138193402429440 s s := j_refl hR
  unfold f_X1_takeText
  refine oq_b (h_X5_clear_54  hJ.1) (fun u1 s2 hs2 => ?_)
  have js2 : JC 434307890842692983393897152802982376850816689096664737138193402429440 s s2 := j_call hJ hs2.1 rfl
  exact h_X1_takeText_b22 BIG _ _ (j_wr 0 3 (j_wr 0 1 js2 rfl 218 rfl rfl (by have f0 : (1 : Int32).toInt = 1 := rfl; omega)) rfl 228 rfl rfl (by have f0 : (0 : Int32).toInt = 0 := rfl; omega)) (by have f0 : (0 : Int32).toInt = 0 := rfl; omega) (by have g0 : (0 : Int32).toInt = 0 := rfl; have g1 : BIG = 4294967296 := rfl; omega)
theorem h_X11_days (a1 : Int32) {s : Sg} (hR : Rg rC s) : OQ (f_X11_days a1 s) (fun r9 s9 => JC 434307890842697257619741599071126391928072100505872175994391943446528 s s9 ∧ True ∧ (r9 = 0 → 0 ≤ (a1).toInt ∧ (a1).toInt ≤ 300) ∧ (¬ r9 = 0 → True)) := by
  have hJ : JC 434307890842697257619741599071126391928072100505872175994391943446528 s s := j_refl hR
  unfold f_X11_days
  refine oq_b (h_X11_within _ _ _ hJ.1 (by have f0 : (0 : Int32).toInt = 0 := rfl; omega) (by have f0 := j_rd hJ 0 13 0 900 rfl; omega)) (fun r1 s2 hs2 => ?_)
  have js2 : JC 434307890842697257619741599071126391928072100505872175994391943446528 s s2 := j_call hJ hs2.1 rfl
  refine oq_if (fun c1 => ?_) (fun c1 => ?_)
  · refine oq_b (h_X11_refuse _ js2.1 (by have f0 : (1 : Int32).toInt = 1 := rfl; omega)) (fun r3 s4 hs4 => ?_)
    have js4 : JC 434307890842697257619741599071126391928072100505872175994391943446528 s s4 := j_call js2 hs4.1 rfl
    exact ⟨js4, trivial, fun w9 => False.elim (by have f0 := hs4.2.1; have f1 := i_rg r3; have f2 := i_eq w9; have f3 : (0 : Int32).toInt = 0 := rfl; omega), fun _ => trivial⟩
  · refine oq_if (fun c2 => ?_) (fun c2 => ?_)
    · refine oq_b (h_X7_begin _ js2.1 (by have f0 := i_rg a1; have f1 := (hs2.2.2.2 c1).1; have f2 := (hs2.2.2.2 c1).2.1; have f3 := (hs2.2.2.2 c1).2.2.1; have f4 := (hs2.2.2.2 c1).2.2.2; have f5 := i_le c2; have f6 : (0 : Int32).toInt = 0 := rfl; have f7 := j_rd hJ 0 13 0 900 rfl; have f8 : (300 : Int32).toInt = 300 := rfl; omega)) (fun u3 s6 hs6 => ?_)
      have js6 : JC 434307890842697257619741599071126391928072100505872175994391943446528 s s6 := j_call js2 hs6.1 rfl
      refine oq_b (h_X1_takeText  js6.1) (fun r7 s8 hs8 => ?_)
      have js8 : JC 434307890842697257619741599071126391928072100505872175994391943446528 s s8 := j_call js6 hs8.1 rfl
      refine oq_b (h_X11_closeText  js8.1) (fun u4 s10 hs10 => ?_)
      have js10 : JC 434307890842697257619741599071126391928072100505872175994391943446528 s s10 := j_call js8 hs10.1 rfl
      refine oq_if (fun c5 => ?_) (fun c5 => ?_)
      · refine oq_b (h_X11_refuse _ js10.1 (by have f0 : (9 : Int32).toInt = 9 := rfl; omega)) (fun r11 s12 hs12 => ?_)
        have js12 : JC 434307890842697257619741599071126391928072100505872175994391943446528 s s12 := j_call js10 hs12.1 rfl
        exact ⟨js12, trivial, fun w9 => False.elim (by have f0 := hs12.2.1; have f1 := i_rg r11; have f2 := i_eq w9; have f3 : (0 : Int32).toInt = 0 := rfl; omega), fun _ => trivial⟩
      · refine oq_b (h_X5_copyFrom_54  js10.1) (fun u6 s14 hs14 => ?_)
        have js14 : JC 434307890842697257619741599071126391928072100505872175994391943446528 s s14 := j_call js10 hs14.1 rfl
        refine oq_b (h_X11_answer _ js14.1) (fun r15 s16 hs16 => ?_)
        have js16 : JC 434307890842697257619741599071126391928072100505872175994391943446528 s s16 := j_call js14 hs16.1 rfl
        exact ⟨js16, trivial, fun w9 => ⟨(by have f0 : (0 : Int32).toInt = 0 := rfl; have f1 := i_rg a1; have f2 := (hs2.2.2.2 c1).1; have f3 := (hs2.2.2.2 c1).2.1; have f4 := (hs2.2.2.2 c1).2.2.1; have f5 := (hs2.2.2.2 c1).2.2.2; have f6 := i_le c2; have f7 := j_rd hJ 0 13 0 900 rfl; have f8 : (300 : Int32).toInt = 300 := rfl; omega), (by have f0 := i_rg a1; have f1 : (300 : Int32).toInt = 300 := rfl; have f2 := (hs2.2.2.2 c1).1; have f3 := (hs2.2.2.2 c1).2.1; have f4 := (hs2.2.2.2 c1).2.2.1; have f5 := (hs2.2.2.2 c1).2.2.2; have f6 := i_le c2; have f7 : (0 : Int32).toInt = 0 := rfl; have f8 := j_rd hJ 0 13 0 900 rfl; omega)⟩, fun _ => trivial⟩
    · refine oq_b (h_X11_refuse _ js2.1 (by have f0 : (1 : Int32).toInt = 1 := rfl; omega)) (fun r17 s18 hs18 => ?_)
      have js18 : JC 434307890842697257619741599071126391928072100505872175994391943446528 s s18 := j_call js2 hs18.1 rfl
      exact ⟨js18, trivial, fun w9 => False.elim (by have f0 := hs18.2.1; have f1 := i_rg r17; have f2 := i_eq w9; have f3 : (0 : Int32).toInt = 0 := rfl; omega), fun _ => trivial⟩
theorem h_X11_fault (a1 : Int32) {s : Sg} (hR : Rg rC s) : OQ (f_X11_fault a1 s) (fun r9 s9 => JC 0 s s9 ∧ True ∧ (r9 = 0 → 0 ≤ (a1).toInt ∧ (a1).toInt ≤ 1) ∧ (¬ r9 = 0 → True)) := by
  have hJ : JC 0 s s := j_refl hR
  unfold f_X11_fault
  refine oq_if (fun c1 => ?_) (fun c1 => ?_)
  · exact ⟨hJ, trivial, fun w9 => ⟨(by have f0 : (0 : Int32).toInt = 0 := rfl; have f1 := i_rg a1; have f2 := i_eq c1; omega), (by have f0 := i_rg a1; have f1 : (1 : Int32).toInt = 1 := rfl; have f2 := i_eq c1; have f3 : (0 : Int32).toInt = 0 := rfl; omega)⟩, fun _ => trivial⟩
  · refine oq_if (fun c2 => ?_) (fun c2 => ?_)
    · exact ⟨hJ, trivial, fun w9 => ⟨(by have f0 : (0 : Int32).toInt = 0 := rfl; have f1 := i_rg a1; have f2 := i_ne c1; have f3 := i_eq c2; have f4 : (1 : Int32).toInt = 1 := rfl; omega), (by have f0 := i_rg a1; have f1 : (1 : Int32).toInt = 1 := rfl; have f2 := i_ne c1; have f3 := i_eq c2; have f4 : (0 : Int32).toInt = 0 := rfl; omega)⟩, fun _ => trivial⟩
    · exact ⟨hJ, trivial, fun w9 => absurd w9 (by decide), fun _ => trivial⟩
theorem h_X11_told (a1 : Int32) {s : Sg} (hR : Rg rC s) : OQ (f_X11_told a1 s) (fun r9 s9 => JC 47890485652059026823698344598447161988085597568237568 s s9 ∧ True ∧ (r9 = 0 → 0 ≤ (a1).toInt ∧ (a1).toInt ≤ 10) ∧ (¬ r9 = 0 → True)) := by
  have hJ : JC 47890485652059026823698344598447161988085597568237568 s s := j_refl hR
  unfold f_X11_told
  refine oq_if (fun c1 => ?_) (fun c1 => ?_)
  · refine oq_b (h_X11_answer _ hJ.1) (fun r1 s2 hs2 => ?_)
    have js2 : JC 47890485652059026823698344598447161988085597568237568 s s2 := j_call hJ hs2.1 rfl
    exact ⟨js2, trivial, fun w9 => ⟨(by have f0 : (0 : Int32).toInt = 0 := rfl; have f1 := i_rg a1; have f2 := i_eq c1; omega), (by have f0 := i_rg a1; have f1 : (10 : Int32).toInt = 10 := rfl; have f2 := i_eq c1; have f3 : (0 : Int32).toInt = 0 := rfl; omega)⟩, fun _ => trivial⟩
  · refine oq_if (fun c2 => ?_) (fun c2 => ?_)
    · refine oq_b (h_X11_answer _ hJ.1) (fun r3 s4 hs4 => ?_)
      have js4 : JC 47890485652059026823698344598447161988085597568237568 s s4 := j_call hJ hs4.1 rfl
      exact ⟨js4, trivial, fun w9 => ⟨(by have f0 : (0 : Int32).toInt = 0 := rfl; have f1 := i_rg a1; have f2 := i_ne c1; have f3 := i_eq c2; have f4 : (1 : Int32).toInt = 1 := rfl; omega), (by have f0 := i_rg a1; have f1 : (10 : Int32).toInt = 10 := rfl; have f2 := i_ne c1; have f3 := i_eq c2; have f4 : (0 : Int32).toInt = 0 := rfl; have f5 : (1 : Int32).toInt = 1 := rfl; omega)⟩, fun _ => trivial⟩
    · refine oq_if (fun c3 => ?_) (fun c3 => ?_)
      · refine oq_b (h_X11_answer _ hJ.1) (fun r5 s6 hs6 => ?_)
        have js6 : JC 47890485652059026823698344598447161988085597568237568 s s6 := j_call hJ hs6.1 rfl
        exact ⟨js6, trivial, fun w9 => ⟨(by have f0 : (0 : Int32).toInt = 0 := rfl; have f1 := i_rg a1; have f2 := i_ne c1; have f3 := i_ne c2; have f4 := i_eq c3; have f5 : (1 : Int32).toInt = 1 := rfl; have f6 : (2 : Int32).toInt = 2 := rfl; omega), (by have f0 := i_rg a1; have f1 : (10 : Int32).toInt = 10 := rfl; have f2 := i_ne c1; have f3 := i_ne c2; have f4 := i_eq c3; have f5 : (0 : Int32).toInt = 0 := rfl; have f6 : (1 : Int32).toInt = 1 := rfl; have f7 : (2 : Int32).toInt = 2 := rfl; omega)⟩, fun _ => trivial⟩
      · refine oq_if (fun c4 => ?_) (fun c4 => ?_)
        · refine oq_b (h_X11_answer _ hJ.1) (fun r7 s8 hs8 => ?_)
          have js8 : JC 47890485652059026823698344598447161988085597568237568 s s8 := j_call hJ hs8.1 rfl
          exact ⟨js8, trivial, fun w9 => ⟨(by have f0 : (0 : Int32).toInt = 0 := rfl; have f1 := i_rg a1; have f2 := i_ne c1; have f3 := i_ne c2; have f4 := i_ne c3; have f5 := i_eq c4; have f6 : (1 : Int32).toInt = 1 := rfl; have f7 : (2 : Int32).toInt = 2 := rfl; have f8 : (3 : Int32).toInt = 3 := rfl; omega), (by have f0 := i_rg a1; have f1 : (10 : Int32).toInt = 10 := rfl; have f2 := i_ne c1; have f3 := i_ne c2; have f4 := i_ne c3; have f5 := i_eq c4; have f6 : (0 : Int32).toInt = 0 := rfl; have f7 : (1 : Int32).toInt = 1 := rfl; have f8 : (2 : Int32).toInt = 2 := rfl; have f9 : (3 : Int32).toInt = 3 := rfl; omega)⟩, fun _ => trivial⟩
        · refine oq_if (fun c5 => ?_) (fun c5 => ?_)
          · refine oq_b (h_X11_answer _ hJ.1) (fun r9 s10 hs10 => ?_)
            have js10 : JC 47890485652059026823698344598447161988085597568237568 s s10 := j_call hJ hs10.1 rfl
            exact ⟨js10, trivial, fun w9 => ⟨(by have f0 : (0 : Int32).toInt = 0 := rfl; have f1 := i_rg a1; have f2 := i_ne c1; have f3 := i_ne c2; have f4 := i_ne c3; have f5 := i_ne c4; have f6 := i_eq c5; have f7 : (1 : Int32).toInt = 1 := rfl; have f8 : (2 : Int32).toInt = 2 := rfl; have f9 : (3 : Int32).toInt = 3 := rfl; have f10 : (4 : Int32).toInt = 4 := rfl; omega), (by have f0 := i_rg a1; have f1 : (10 : Int32).toInt = 10 := rfl; have f2 := i_ne c1; have f3 := i_ne c2; have f4 := i_ne c3; have f5 := i_ne c4; have f6 := i_eq c5; have f7 : (0 : Int32).toInt = 0 := rfl; have f8 : (1 : Int32).toInt = 1 := rfl; have f9 : (2 : Int32).toInt = 2 := rfl; have f10 : (3 : Int32).toInt = 3 := rfl; have f11 : (4 : Int32).toInt = 4 := rfl; omega)⟩, fun _ => trivial⟩
          · refine oq_if (fun c6 => ?_) (fun c6 => ?_)
            · refine oq_b (h_X11_answer _ hJ.1) (fun r11 s12 hs12 => ?_)
              have js12 : JC 47890485652059026823698344598447161988085597568237568 s s12 := j_call hJ hs12.1 rfl
              exact ⟨js12, trivial, fun w9 => ⟨(by have f0 : (0 : Int32).toInt = 0 := rfl; have f1 := i_rg a1; have f2 := i_ne c1; have f3 := i_ne c2; have f4 := i_ne c3; have f5 := i_ne c4; have f6 := i_ne c5; have f7 := i_eq c6; have f8 : (1 : Int32).toInt = 1 := rfl; have f9 : (2 : Int32).toInt = 2 := rfl; have f10 : (3 : Int32).toInt = 3 := rfl; have f11 : (4 : Int32).toInt = 4 := rfl; have f12 : (5 : Int32).toInt = 5 := rfl; omega), (by have f0 := i_rg a1; have f1 : (10 : Int32).toInt = 10 := rfl; have f2 := i_ne c1; have f3 := i_ne c2; have f4 := i_ne c3; have f5 := i_ne c4; have f6 := i_ne c5; have f7 := i_eq c6; have f8 : (0 : Int32).toInt = 0 := rfl; have f9 : (1 : Int32).toInt = 1 := rfl; have f10 : (2 : Int32).toInt = 2 := rfl; have f11 : (3 : Int32).toInt = 3 := rfl; have f12 : (4 : Int32).toInt = 4 := rfl; have f13 : (5 : Int32).toInt = 5 := rfl; omega)⟩, fun _ => trivial⟩
            · refine oq_if (fun c7 => ?_) (fun c7 => ?_)
              · refine oq_b (h_X11_answer _ hJ.1) (fun r13 s14 hs14 => ?_)
                have js14 : JC 47890485652059026823698344598447161988085597568237568 s s14 := j_call hJ hs14.1 rfl
                exact ⟨js14, trivial, fun w9 => ⟨(by have f0 : (0 : Int32).toInt = 0 := rfl; have f1 := i_rg a1; have f2 := i_ne c1; have f3 := i_ne c2; have f4 := i_ne c3; have f5 := i_ne c4; have f6 := i_ne c5; have f7 := i_ne c6; have f8 := i_eq c7; have f9 : (1 : Int32).toInt = 1 := rfl; have f10 : (2 : Int32).toInt = 2 := rfl; have f11 : (3 : Int32).toInt = 3 := rfl; have f12 : (4 : Int32).toInt = 4 := rfl; have f13 : (5 : Int32).toInt = 5 := rfl; have f14 : (6 : Int32).toInt = 6 := rfl; omega), (by have f0 := i_rg a1; have f1 : (10 : Int32).toInt = 10 := rfl; have f2 := i_ne c1; have f3 := i_ne c2; have f4 := i_ne c3; have f5 := i_ne c4; have f6 := i_ne c5; have f7 := i_ne c6; have f8 := i_eq c7; have f9 : (0 : Int32).toInt = 0 := rfl; have f10 : (1 : Int32).toInt = 1 := rfl; have f11 : (2 : Int32).toInt = 2 := rfl; have f12 : (3 : Int32).toInt = 3 := rfl; have f13 : (4 : Int32).toInt = 4 := rfl; have f14 : (5 : Int32).toInt = 5 := rfl; have f15 : (6 : Int32).toInt = 6 := rfl; omega)⟩, fun _ => trivial⟩
              · refine oq_if (fun c8 => ?_) (fun c8 => ?_)
                · refine oq_b (h_X11_answer _ hJ.1) (fun r15 s16 hs16 => ?_)
                  have js16 : JC 47890485652059026823698344598447161988085597568237568 s s16 := j_call hJ hs16.1 rfl
                  exact ⟨js16, trivial, fun w9 => ⟨(by have f0 : (0 : Int32).toInt = 0 := rfl; have f1 := i_rg a1; have f2 := i_ne c1; have f3 := i_ne c2; have f4 := i_ne c3; have f5 := i_ne c4; have f6 := i_ne c5; have f7 := i_ne c6; have f8 := i_ne c7; have f9 := i_eq c8; have f10 : (1 : Int32).toInt = 1 := rfl; have f11 : (2 : Int32).toInt = 2 := rfl; have f12 : (3 : Int32).toInt = 3 := rfl; have f13 : (4 : Int32).toInt = 4 := rfl; have f14 : (5 : Int32).toInt = 5 := rfl; have f15 : (6 : Int32).toInt = 6 := rfl; have f16 : (7 : Int32).toInt = 7 := rfl; omega), (by have f0 := i_rg a1; have f1 : (10 : Int32).toInt = 10 := rfl; have f2 := i_ne c1; have f3 := i_ne c2; have f4 := i_ne c3; have f5 := i_ne c4; have f6 := i_ne c5; have f7 := i_ne c6; have f8 := i_ne c7; have f9 := i_eq c8; have f10 : (0 : Int32).toInt = 0 := rfl; have f11 : (1 : Int32).toInt = 1 := rfl; have f12 : (2 : Int32).toInt = 2 := rfl; have f13 : (3 : Int32).toInt = 3 := rfl; have f14 : (4 : Int32).toInt = 4 := rfl; have f15 : (5 : Int32).toInt = 5 := rfl; have f16 : (6 : Int32).toInt = 6 := rfl; have f17 : (7 : Int32).toInt = 7 := rfl; omega)⟩, fun _ => trivial⟩
                · refine oq_if (fun c9 => ?_) (fun c9 => ?_)
                  · refine oq_b (h_X11_answer _ hJ.1) (fun r17 s18 hs18 => ?_)
                    have js18 : JC 47890485652059026823698344598447161988085597568237568 s s18 := j_call hJ hs18.1 rfl
                    exact ⟨js18, trivial, fun w9 => ⟨(by have f0 : (0 : Int32).toInt = 0 := rfl; have f1 := i_rg a1; have f2 := i_ne c1; have f3 := i_ne c2; have f4 := i_ne c3; have f5 := i_ne c4; have f6 := i_ne c5; have f7 := i_ne c6; have f8 := i_ne c7; have f9 := i_ne c8; have f10 := i_eq c9; have f11 : (1 : Int32).toInt = 1 := rfl; have f12 : (2 : Int32).toInt = 2 := rfl; have f13 : (3 : Int32).toInt = 3 := rfl; have f14 : (4 : Int32).toInt = 4 := rfl; have f15 : (5 : Int32).toInt = 5 := rfl; have f16 : (6 : Int32).toInt = 6 := rfl; have f17 : (7 : Int32).toInt = 7 := rfl; have f18 : (8 : Int32).toInt = 8 := rfl; omega), (by have f0 := i_rg a1; have f1 : (10 : Int32).toInt = 10 := rfl; have f2 := i_ne c1; have f3 := i_ne c2; have f4 := i_ne c3; have f5 := i_ne c4; have f6 := i_ne c5; have f7 := i_ne c6; have f8 := i_ne c7; have f9 := i_ne c8; have f10 := i_eq c9; have f11 : (0 : Int32).toInt = 0 := rfl; have f12 : (1 : Int32).toInt = 1 := rfl; have f13 : (2 : Int32).toInt = 2 := rfl; have f14 : (3 : Int32).toInt = 3 := rfl; have f15 : (4 : Int32).toInt = 4 := rfl; have f16 : (5 : Int32).toInt = 5 := rfl; have f17 : (6 : Int32).toInt = 6 := rfl; have f18 : (7 : Int32).toInt = 7 := rfl; have f19 : (8 : Int32).toInt = 8 := rfl; omega)⟩, fun _ => trivial⟩
                  · refine oq_if (fun c10 => ?_) (fun c10 => ?_)
                    · refine oq_b (h_X11_answer _ hJ.1) (fun r19 s20 hs20 => ?_)
                      have js20 : JC 47890485652059026823698344598447161988085597568237568 s s20 := j_call hJ hs20.1 rfl
                      exact ⟨js20, trivial, fun w9 => ⟨(by have f0 : (0 : Int32).toInt = 0 := rfl; have f1 := i_rg a1; have f2 := i_ne c1; have f3 := i_ne c2; have f4 := i_ne c3; have f5 := i_ne c4; have f6 := i_ne c5; have f7 := i_ne c6; have f8 := i_ne c7; have f9 := i_ne c8; have f10 := i_ne c9; have f11 := i_eq c10; have f12 : (1 : Int32).toInt = 1 := rfl; have f13 : (2 : Int32).toInt = 2 := rfl; have f14 : (3 : Int32).toInt = 3 := rfl; have f15 : (4 : Int32).toInt = 4 := rfl; have f16 : (5 : Int32).toInt = 5 := rfl; have f17 : (6 : Int32).toInt = 6 := rfl; have f18 : (7 : Int32).toInt = 7 := rfl; have f19 : (8 : Int32).toInt = 8 := rfl; have f20 : (9 : Int32).toInt = 9 := rfl; omega), (by have f0 := i_rg a1; have f1 : (10 : Int32).toInt = 10 := rfl; have f2 := i_ne c1; have f3 := i_ne c2; have f4 := i_ne c3; have f5 := i_ne c4; have f6 := i_ne c5; have f7 := i_ne c6; have f8 := i_ne c7; have f9 := i_ne c8; have f10 := i_ne c9; have f11 := i_eq c10; have f12 : (0 : Int32).toInt = 0 := rfl; have f13 : (1 : Int32).toInt = 1 := rfl; have f14 : (2 : Int32).toInt = 2 := rfl; have f15 : (3 : Int32).toInt = 3 := rfl; have f16 : (4 : Int32).toInt = 4 := rfl; have f17 : (5 : Int32).toInt = 5 := rfl; have f18 : (6 : Int32).toInt = 6 := rfl; have f19 : (7 : Int32).toInt = 7 := rfl; have f20 : (8 : Int32).toInt = 8 := rfl; have f21 : (9 : Int32).toInt = 9 := rfl; omega)⟩, fun _ => trivial⟩
                    · refine oq_if (fun c11 => ?_) (fun c11 => ?_)
                      · refine oq_if (fun c12 => ?_) (fun c12 => ?_)
                        · refine oq_b (h_X11_answer _ hJ.1) (fun r21 s22 hs22 => ?_)
                          have js22 : JC 47890485652059026823698344598447161988085597568237568 s s22 := j_call hJ hs22.1 rfl
                          exact ⟨js22, trivial, fun w9 => ⟨(by have f0 : (0 : Int32).toInt = 0 := rfl; have f1 := i_rg a1; have f2 := i_ne c1; have f3 := i_ne c2; have f4 := i_ne c3; have f5 := i_ne c4; have f6 := i_ne c5; have f7 := i_ne c6; have f8 := i_ne c7; have f9 := i_ne c8; have f10 := i_ne c9; have f11 := i_ne c10; have f12 := i_eq c11; have f13 := (hs22.2.2.1 w9).1; have f14 := (hs22.2.2.1 w9).2; have f15 : (1 : Int32).toInt = 1 := rfl; have f16 : (2 : Int32).toInt = 2 := rfl; have f17 : (3 : Int32).toInt = 3 := rfl; have f18 : (4 : Int32).toInt = 4 := rfl; have f19 : (5 : Int32).toInt = 5 := rfl; have f20 : (6 : Int32).toInt = 6 := rfl; have f21 : (7 : Int32).toInt = 7 := rfl; have f22 : (8 : Int32).toInt = 8 := rfl; have f23 : (9 : Int32).toInt = 9 := rfl; have f24 : (10 : Int32).toInt = 10 := rfl; omega), (by have f0 := i_rg a1; have f1 : (10 : Int32).toInt = 10 := rfl; have f2 := i_ne c1; have f3 := i_ne c2; have f4 := i_ne c3; have f5 := i_ne c4; have f6 := i_ne c5; have f7 := i_ne c6; have f8 := i_ne c7; have f9 := i_ne c8; have f10 := i_ne c9; have f11 := i_ne c10; have f12 := i_eq c11; have f13 := (hs22.2.2.1 w9).1; have f14 := (hs22.2.2.1 w9).2; have f15 : (0 : Int32).toInt = 0 := rfl; have f16 : (1 : Int32).toInt = 1 := rfl; have f17 : (2 : Int32).toInt = 2 := rfl; have f18 : (3 : Int32).toInt = 3 := rfl; have f19 : (4 : Int32).toInt = 4 := rfl; have f20 : (5 : Int32).toInt = 5 := rfl; have f21 : (6 : Int32).toInt = 6 := rfl; have f22 : (7 : Int32).toInt = 7 := rfl; have f23 : (8 : Int32).toInt = 8 := rfl; have f24 : (9 : Int32).toInt = 9 := rfl; omega)⟩, fun _ => trivial⟩
                        · refine oq_b (h_X11_answer _ hJ.1) (fun r23 s24 hs24 => ?_)
                          have js24 : JC 47890485652059026823698344598447161988085597568237568 s s24 := j_call hJ hs24.1 rfl
                          exact ⟨js24, trivial, fun w9 => False.elim (by have f0 := i_rg r23; have f1 := i_eq w9; have f2 := (hs24.2.2.1 w9).1; have f3 := (hs24.2.2.1 w9).2; have f4 : (0 : Int32).toInt = 0 := rfl; have f5 : (1 : Int32).toInt = 1 := rfl; omega), fun _ => trivial⟩
                      · refine oq_b (h_X11_refuse _ hJ.1 (by have f0 : (1 : Int32).toInt = 1 := rfl; omega)) (fun r25 s26 hs26 => ?_)
                        have js26 : JC 47890485652059026823698344598447161988085597568237568 s s26 := j_call hJ hs26.1 rfl
                        exact ⟨js26, trivial, fun w9 => False.elim (by have f0 := hs26.2.1; have f1 := i_rg r25; have f2 := i_eq w9; have f3 : (0 : Int32).toInt = 0 := rfl; omega), fun _ => trivial⟩
theorem h_X11_purse  {s : Sg} (hR : Rg rC s) : OQ (f_X11_purse  s) (fun r9 s9 => JC 47890485652059026823698344598447161988085597568237568 s s9 ∧ True ∧ (r9 = 0 → True) ∧ (¬ r9 = 0 → True)) := by
  have hJ : JC 47890485652059026823698344598447161988085597568237568 s s := j_refl hR
  unfold f_X11_purse
  refine oq_b (h_X11_answer _ hJ.1) (fun r1 s2 hs2 => ?_)
  have js2 : JC 47890485652059026823698344598447161988085597568237568 s s2 := j_call hJ hs2.1 rfl
  exact ⟨js2, trivial, fun _ => trivial, fun _ => trivial⟩
theorem h_X11_isHouse (a1 : Int32) {s : Sg} (hR : Rg rC s) : OQ (f_X11_isHouse a1 s) (fun r9 s9 => JC 0 s s9 ∧ (0 ≤ r9.toInt ∧ r9.toInt ≤ 1) ∧ (r9 = 0 → True) ∧ (¬ r9 = 0 → 0 ≤ (a1).toInt ∧ (a1).toInt ≤ 7)) := by
  have hJ : JC 0 s s := j_refl hR
  unfold f_X11_isHouse
  refine oq_b (h_X11_within _ _ _ hJ.1 (by have f0 : (0 : Int32).toInt = 0 := rfl; omega) (by have f0 := i_sub (s.1 25 13) ((1 : Int32)); have f1 := j_rd hJ 25 13 0 8 rfl; have f2 : (1 : Int32).toInt = 1 := rfl; omega)) (fun r1 s2 hs2 => ?_)
  have js2 : JC 0 s s2 := j_call hJ hs2.1 rfl
  refine oq_c (b01_of (by have f0 := hs2.2.1; have f1 := i_rg r1; omega)) ?_
  exact ⟨js2, (by have f0 := hs2.2.1; have f1 := i_rg r1; omega), fun _ => trivial, fun w9 => ⟨(by have f0 : (0 : Int32).toInt = 0 := rfl; have f1 := i_rg a1; have f2 := (hs2.2.2.2 w9).1; have f3 := (hs2.2.2.2 w9).2.1; have f4 := i_sub (s.1 25 13) ((1 : Int32)); have f5 := (hs2.2.2.2 w9).2.2.1; have f6 := (hs2.2.2.2 w9).2.2.2; have f7 := j_rd hJ 25 13 0 8 rfl; have f8 : (1 : Int32).toInt = 1 := rfl; omega), (by have f0 := i_rg a1; have f1 : (7 : Int32).toInt = 7 := rfl; have f2 := (hs2.2.2.2 w9).1; have f3 := (hs2.2.2.2 w9).2.1; have f4 := i_sub (s.1 25 13) ((1 : Int32)); have f5 := (hs2.2.2.2 w9).2.2.1; have f6 := (hs2.2.2.2 w9).2.2.2; have f7 : (0 : Int32).toInt = 0 := rfl; have f8 := j_rd hJ 25 13 0 8 rfl; have f9 : (1 : Int32).toInt = 1 := rfl; omega)⟩⟩
theorem h_X11_whyNoStep (a1 : Int32) (a2 : Int32) {s : Sg} (hR : Rg rC s) (p_a2 : 0 ≤ a2.toInt ∧ a2.toInt ≤ 1) : OQ (f_X11_whyNoStep a1 a2 s) (fun r9 s9 => JC 0 s s9 ∧ (0 ≤ r9.toInt ∧ r9.toInt ≤ 7) ∧ (r9 = 0 → 0 ≤ (a1).toInt ∧ (a1).toInt ≤ 7 ∧ 1 ≤ (a2).toInt) ∧ (¬ r9 = 0 → True)) := by
  have hJ : JC 0 s s := j_refl hR
  unfold f_X11_whyNoStep
  refine oq_b (h_X11_isHouse _ hJ.1) (fun r1 s2 hs2 => ?_)
  have js2 : JC 0 s s2 := j_call hJ hs2.1 rfl
  refine oq_if (fun c1 => ?_) (fun c1 => ?_)
  · exact ⟨js2, (by have f0 : (1 : Int32).toInt = 1 := rfl; omega), fun w9 => absurd w9 (by decide), fun _ => trivial⟩
  · refine oq_if (fun c2 => ?_) (fun c2 => ?_)
    · exact ⟨js2, (by have f0 : (1 : Int32).toInt = 1 := rfl; omega), fun w9 => absurd w9 (by decide), fun _ => trivial⟩
    · refine oq_b (h_X4_isGone _ js2.1 (by have f0 := i_rg a1; have f1 := (hs2.2.2.2 c1).1; have f2 := (hs2.2.2.2 c1).2; have f3 : (0 : Int32).toInt = 0 := rfl; have f4 : (7 : Int32).toInt = 7 := rfl; omega)) (fun r3 s4 hs4 => ?_)
      have js4 : JC 0 s s4 := j_call js2 hs4.1 rfl
      refine oq_if (fun c3 => ?_) (fun c3 => ?_)
      · exact ⟨js4, (by have f0 : (0 : Int32).toInt = 0 := rfl; omega), fun w9 => ⟨(by have f0 : (0 : Int32).toInt = 0 := rfl; have f1 := i_rg a1; have f2 := (hs2.2.2.2 c1).1; have f3 := (hs2.2.2.2 c1).2; have f4 : (7 : Int32).toInt = 7 := rfl; omega), (by have f0 := i_rg a1; have f1 : (7 : Int32).toInt = 7 := rfl; have f2 := (hs2.2.2.2 c1).1; have f3 := (hs2.2.2.2 c1).2; have f4 : (0 : Int32).toInt = 0 := rfl; omega), (by have f0 : (1 : Int32).toInt = 1 := rfl; have f1 := p_a2; have f2 := i_rg a2; have f3 := i_ne c2; have f4 : (0 : Int32).toInt = 0 := rfl; omega)⟩, fun w9 => absurd rfl w9⟩
      · exact ⟨js4, (by have f0 : (7 : Int32).toInt = 7 := rfl; omega), fun w9 => absurd w9 (by decide), fun _ => trivial⟩
theorem h_X11_step (a1 : Int32) (a2 : Int32) {s : Sg} (hR : Rg rC s) : OQ (f_X11_step a1 a2 s) (fun r9 s9 => JC 47890485652059026823698344598447161988085597568237568 s s9 ∧ True ∧ (r9 = 0 → 0 ≤ (a1).toInt ∧ (a1).toInt ≤ 7) ∧ (¬ r9 = 0 → True)) := by
  have hJ : JC 47890485652059026823698344598447161988085597568237568 s s := j_refl hR
  unfold f_X11_step
  refine oq_b (h_X11_within _ _ _ hJ.1 (by have f0 : (0 : Int32).toInt = 0 := rfl; omega) (by have f0 : (3 : Int32).toInt = 3 := rfl; omega)) (fun r1 s2 hs2 => ?_)
  have js2 : JC 47890485652059026823698344598447161988085597568237568 s s2 := j_call hJ hs2.1 rfl
  refine oq_b (h_X11_whyNoStep _ _ js2.1 (by have f0 := hs2.2.1; have f1 := i_rg r1; omega)) (fun r3 s4 hs4 => ?_)
  have js4 : JC 47890485652059026823698344598447161988085597568237568 s s4 := j_call js2 hs4.1 rfl
  refine oq_if (fun c1 => ?_) (fun c1 => ?_)
  · refine oq_if (fun c2 => ?_) (fun c2 => ?_)
    · refine oq_c (inr_of (by have f0 := i_rg a1; have f1 := (hs4.2.2.1 c1).1; have f2 := (hs4.2.2.1 c1).2.1; have f3 : (0 : Int32).toInt = 0 := rfl; have f4 : (7 : Int32).toInt = 7 := rfl; omega)) ?_
      refine oq_b (h_X11_answer _ js4.1) (fun r6 s7 hs7 => ?_)
      have js7 : JC 47890485652059026823698344598447161988085597568237568 s s7 := j_call js4 hs7.1 rfl
      exact ⟨js7, trivial, fun w9 => ⟨(by have f0 : (0 : Int32).toInt = 0 := rfl; have f1 := i_rg a1; have f2 := (hs4.2.2.1 c1).1; have f3 := (hs4.2.2.1 c1).2.1; have f4 : (7 : Int32).toInt = 7 := rfl; omega), (by have f0 := i_rg a1; have f1 : (7 : Int32).toInt = 7 := rfl; have f2 := (hs4.2.2.1 c1).1; have f3 := (hs4.2.2.1 c1).2.1; have f4 : (0 : Int32).toInt = 0 := rfl; omega)⟩, fun _ => trivial⟩
    · refine oq_if (fun c3 => ?_) (fun c3 => ?_)
      · refine oq_c (inr_of (by have f0 := i_rg a1; have f1 := (hs4.2.2.1 c1).1; have f2 := (hs4.2.2.1 c1).2.1; have f3 : (0 : Int32).toInt = 0 := rfl; have f4 : (7 : Int32).toInt = 7 := rfl; omega)) ?_
        refine oq_b (h_X11_answer _ js4.1) (fun r9 s10 hs10 => ?_)
        have js10 : JC 47890485652059026823698344598447161988085597568237568 s s10 := j_call js4 hs10.1 rfl
        exact ⟨js10, trivial, fun w9 => ⟨(by have f0 : (0 : Int32).toInt = 0 := rfl; have f1 := i_rg a1; have f2 := (hs4.2.2.1 c1).1; have f3 := (hs4.2.2.1 c1).2.1; have f4 : (7 : Int32).toInt = 7 := rfl; omega), (by have f0 := i_rg a1; have f1 : (7 : Int32).toInt = 7 := rfl; have f2 := (hs4.2.2.1 c1).1; have f3 := (hs4.2.2.1 c1).2.1; have f4 : (0 : Int32).toInt = 0 := rfl; omega)⟩, fun _ => trivial⟩
      · refine oq_if (fun c4 => ?_) (fun c4 => ?_)
        · refine oq_c (inr_of (by have f0 := i_rg a1; have f1 := (hs4.2.2.1 c1).1; have f2 := (hs4.2.2.1 c1).2.1; have f3 : (0 : Int32).toInt = 0 := rfl; have f4 : (7 : Int32).toInt = 7 := rfl; omega)) ?_
          refine oq_b (h_X11_answer _ js4.1) (fun r12 s13 hs13 => ?_)
          have js13 : JC 47890485652059026823698344598447161988085597568237568 s s13 := j_call js4 hs13.1 rfl
          exact ⟨js13, trivial, fun w9 => ⟨(by have f0 : (0 : Int32).toInt = 0 := rfl; have f1 := i_rg a1; have f2 := (hs4.2.2.1 c1).1; have f3 := (hs4.2.2.1 c1).2.1; have f4 : (7 : Int32).toInt = 7 := rfl; omega), (by have f0 := i_rg a1; have f1 : (7 : Int32).toInt = 7 := rfl; have f2 := (hs4.2.2.1 c1).1; have f3 := (hs4.2.2.1 c1).2.1; have f4 : (0 : Int32).toInt = 0 := rfl; omega)⟩, fun _ => trivial⟩
        · refine oq_c (inr_of (by have f0 := i_rg a1; have f1 := (hs4.2.2.1 c1).1; have f2 := (hs4.2.2.1 c1).2.1; have f3 : (0 : Int32).toInt = 0 := rfl; have f4 : (7 : Int32).toInt = 7 := rfl; omega)) ?_
          refine oq_b (h_X11_answer _ js4.1) (fun r15 s16 hs16 => ?_)
          have js16 : JC 47890485652059026823698344598447161988085597568237568 s s16 := j_call js4 hs16.1 rfl
          exact ⟨js16, trivial, fun w9 => ⟨(by have f0 : (0 : Int32).toInt = 0 := rfl; have f1 := i_rg a1; have f2 := (hs4.2.2.1 c1).1; have f3 := (hs4.2.2.1 c1).2.1; have f4 : (7 : Int32).toInt = 7 := rfl; omega), (by have f0 := i_rg a1; have f1 : (7 : Int32).toInt = 7 := rfl; have f2 := (hs4.2.2.1 c1).1; have f3 := (hs4.2.2.1 c1).2.1; have f4 : (0 : Int32).toInt = 0 := rfl; omega)⟩, fun _ => trivial⟩
  · refine oq_b (h_X11_refuse _ js4.1 (by have f0 := hs4.2.1; have f1 := i_rg r3; have f2 := i_ne c1; have f3 : (0 : Int32).toInt = 0 := rfl; omega)) (fun r17 s18 hs18 => ?_)
    have js18 : JC 47890485652059026823698344598447161988085597568237568 s s18 := j_call js4 hs18.1 rfl
    exact ⟨js18, trivial, fun w9 => False.elim (by have f0 := hs18.2.1; have f1 := i_rg r17; have f2 := i_eq w9; have f3 : (0 : Int32).toInt = 0 := rfl; omega), fun _ => trivial⟩
theorem h_X11_isQuarrel (a1 : Int32) {s : Sg} (hR : Rg rC s) : OQ (f_X11_isQuarrel a1 s) (fun r9 s9 => JC 0 s s9 ∧ (0 ≤ r9.toInt ∧ r9.toInt ≤ 1) ∧ (r9 = 0 → True) ∧ (¬ r9 = 0 → 0 ≤ (a1).toInt ∧ (a1).toInt ≤ 7)) := by
  have hJ : JC 0 s s := j_refl hR
  unfold f_X11_isQuarrel
  refine oq_b (h_X11_within _ _ _ hJ.1 (by have f0 : (0 : Int32).toInt = 0 := rfl; omega) (by have f0 := i_sub (s.1 25 14) ((1 : Int32)); have f1 := j_rd hJ 25 14 0 8 rfl; have f2 : (1 : Int32).toInt = 1 := rfl; omega)) (fun r1 s2 hs2 => ?_)
  have js2 : JC 0 s s2 := j_call hJ hs2.1 rfl
  refine oq_c (b01_of (by have f0 := hs2.2.1; have f1 := i_rg r1; omega)) ?_
  exact ⟨js2, (by have f0 := hs2.2.1; have f1 := i_rg r1; omega), fun _ => trivial, fun w9 => ⟨(by have f0 : (0 : Int32).toInt = 0 := rfl; have f1 := i_rg a1; have f2 := (hs2.2.2.2 w9).1; have f3 := (hs2.2.2.2 w9).2.1; have f4 := i_sub (s.1 25 14) ((1 : Int32)); have f5 := (hs2.2.2.2 w9).2.2.1; have f6 := (hs2.2.2.2 w9).2.2.2; have f7 := j_rd hJ 25 14 0 8 rfl; have f8 : (1 : Int32).toInt = 1 := rfl; omega), (by have f0 := i_rg a1; have f1 : (7 : Int32).toInt = 7 := rfl; have f2 := (hs2.2.2.2 w9).1; have f3 := (hs2.2.2.2 w9).2.1; have f4 := i_sub (s.1 25 14) ((1 : Int32)); have f5 := (hs2.2.2.2 w9).2.2.1; have f6 := (hs2.2.2.2 w9).2.2.2; have f7 : (0 : Int32).toInt = 0 := rfl; have f8 := j_rd hJ 25 14 0 8 rfl; have f9 : (1 : Int32).toInt = 1 := rfl; omega)⟩⟩
theorem h_X11_quarrel (a1 : Int32) (a2 : Int32) {s : Sg} (hR : Rg rC s) : OQ (f_X11_quarrel a1 a2 s) (fun r9 s9 => JC 47890485652059026823698344598447161988085597568237568 s s9 ∧ True ∧ (r9 = 0 → 0 ≤ (a1).toInt ∧ (a1).toInt ≤ 7 ∧ 0 ≤ (a2).toInt ∧ (a2).toInt ≤ 4) ∧ (¬ r9 = 0 → True)) := by
  have hJ : JC 47890485652059026823698344598447161988085597568237568 s s := j_refl hR
  unfold f_X11_quarrel
  refine oq_b (h_X11_isQuarrel _ hJ.1) (fun r1 s2 hs2 => ?_)
  have js2 : JC 47890485652059026823698344598447161988085597568237568 s s2 := j_call hJ hs2.1 rfl
  refine oq_if (fun c1 => ?_) (fun c1 => ?_)
  · refine oq_b (h_X11_refuse _ js2.1 (by have f0 : (1 : Int32).toInt = 1 := rfl; omega)) (fun r3 s4 hs4 => ?_)
    have js4 : JC 47890485652059026823698344598447161988085597568237568 s s4 := j_call js2 hs4.1 rfl
    exact ⟨js4, trivial, fun w9 => False.elim (by have f0 := hs4.2.1; have f1 := i_rg r3; have f2 := i_eq w9; have f3 : (0 : Int32).toInt = 0 := rfl; omega), fun _ => trivial⟩
  · refine oq_if (fun c2 => ?_) (fun c2 => ?_)
    · refine oq_c (inr_of (by have f0 := i_rg a1; have f1 := (hs2.2.2.2 c1).1; have f2 := (hs2.2.2.2 c1).2; have f3 : (0 : Int32).toInt = 0 := rfl; have f4 : (7 : Int32).toInt = 7 := rfl; omega)) ?_
      refine oq_b (h_X11_answer _ js2.1) (fun r6 s7 hs7 => ?_)
      have js7 : JC 47890485652059026823698344598447161988085597568237568 s s7 := j_call js2 hs7.1 rfl
      exact ⟨js7, trivial, fun w9 => ⟨(by have f0 : (0 : Int32).toInt = 0 := rfl; have f1 := i_rg a1; have f2 := (hs2.2.2.2 c1).1; have f3 := (hs2.2.2.2 c1).2; have f4 : (7 : Int32).toInt = 7 := rfl; omega), (by have f0 := i_rg a1; have f1 : (7 : Int32).toInt = 7 := rfl; have f2 := (hs2.2.2.2 c1).1; have f3 := (hs2.2.2.2 c1).2; have f4 : (0 : Int32).toInt = 0 := rfl; omega), (by have f0 : (0 : Int32).toInt = 0 := rfl; have f1 := i_rg a2; have f2 := i_eq c2; omega), (by have f0 := i_rg a2; have f1 : (4 : Int32).toInt = 4 := rfl; have f2 := i_eq c2; have f3 : (0 : Int32).toInt = 0 := rfl; omega)⟩, fun _ => trivial⟩
    · refine oq_if (fun c3 => ?_) (fun c3 => ?_)
      · refine oq_c (inr_of (by have f0 := i_rg a1; have f1 := (hs2.2.2.2 c1).1; have f2 := (hs2.2.2.2 c1).2; have f3 : (0 : Int32).toInt = 0 := rfl; have f4 : (7 : Int32).toInt = 7 := rfl; omega)) ?_
        refine oq_b (h_X11_answer _ js2.1) (fun r9 s10 hs10 => ?_)
        have js10 : JC 47890485652059026823698344598447161988085597568237568 s s10 := j_call js2 hs10.1 rfl
        exact ⟨js10, trivial, fun w9 => ⟨(by have f0 : (0 : Int32).toInt = 0 := rfl; have f1 := i_rg a1; have f2 := (hs2.2.2.2 c1).1; have f3 := (hs2.2.2.2 c1).2; have f4 : (7 : Int32).toInt = 7 := rfl; omega), (by have f0 := i_rg a1; have f1 : (7 : Int32).toInt = 7 := rfl; have f2 := (hs2.2.2.2 c1).1; have f3 := (hs2.2.2.2 c1).2; have f4 : (0 : Int32).toInt = 0 := rfl; omega), (by have f0 : (0 : Int32).toInt = 0 := rfl; have f1 := i_rg a2; have f2 := i_ne c2; have f3 := i_eq c3; have f4 : (1 : Int32).toInt = 1 := rfl; omega), (by have f0 := i_rg a2; have f1 : (4 : Int32).toInt = 4 := rfl; have f2 := i_ne c2; have f3 := i_eq c3; have f4 : (0 : Int32).toInt = 0 := rfl; have f5 : (1 : Int32).toInt = 1 := rfl; omega)⟩, fun _ => trivial⟩
      · refine oq_if (fun c4 => ?_) (fun c4 => ?_)
        · refine oq_c (inr_of (by have f0 := i_rg a1; have f1 := (hs2.2.2.2 c1).1; have f2 := (hs2.2.2.2 c1).2; have f3 : (0 : Int32).toInt = 0 := rfl; have f4 : (7 : Int32).toInt = 7 := rfl; omega)) ?_
          refine oq_b (h_X11_answer _ js2.1) (fun r12 s13 hs13 => ?_)
          have js13 : JC 47890485652059026823698344598447161988085597568237568 s s13 := j_call js2 hs13.1 rfl
          exact ⟨js13, trivial, fun w9 => ⟨(by have f0 : (0 : Int32).toInt = 0 := rfl; have f1 := i_rg a1; have f2 := (hs2.2.2.2 c1).1; have f3 := (hs2.2.2.2 c1).2; have f4 : (7 : Int32).toInt = 7 := rfl; omega), (by have f0 := i_rg a1; have f1 : (7 : Int32).toInt = 7 := rfl; have f2 := (hs2.2.2.2 c1).1; have f3 := (hs2.2.2.2 c1).2; have f4 : (0 : Int32).toInt = 0 := rfl; omega), (by have f0 : (0 : Int32).toInt = 0 := rfl; have f1 := i_rg a2; have f2 := i_ne c2; have f3 := i_ne c3; have f4 := i_eq c4; have f5 : (1 : Int32).toInt = 1 := rfl; have f6 : (2 : Int32).toInt = 2 := rfl; omega), (by have f0 := i_rg a2; have f1 : (4 : Int32).toInt = 4 := rfl; have f2 := i_ne c2; have f3 := i_ne c3; have f4 := i_eq c4; have f5 : (0 : Int32).toInt = 0 := rfl; have f6 : (1 : Int32).toInt = 1 := rfl; have f7 : (2 : Int32).toInt = 2 := rfl; omega)⟩, fun _ => trivial⟩
        · refine oq_if (fun c5 => ?_) (fun c5 => ?_)
          · refine oq_b (h_X11_answer _ js2.1) (fun r14 s15 hs15 => ?_)
            have js15 : JC 47890485652059026823698344598447161988085597568237568 s s15 := j_call js2 hs15.1 rfl
            exact ⟨js15, trivial, fun w9 => ⟨(by have f0 : (0 : Int32).toInt = 0 := rfl; have f1 := i_rg a1; have f2 := (hs2.2.2.2 c1).1; have f3 := (hs2.2.2.2 c1).2; have f4 := (hs15.2.2.1 w9).1; have f5 := i_and (a1) ((31 : Int32)) (by decide); have f6 := i_and ((s2.1 26 5) >>> (a1 &&& 31)) ((1 : Int32)) (by decide); have f7 := (hs15.2.2.1 w9).2; have f8 : (7 : Int32).toInt = 7 := rfl; have f9 := i_rg (s2.1 26 5); have f10 : (31 : Int32).toInt = 31 := rfl; have f11 : (1 : Int32).toInt = 1 := rfl; omega), (by have f0 := i_rg a1; have f1 : (7 : Int32).toInt = 7 := rfl; have f2 := (hs2.2.2.2 c1).1; have f3 := (hs2.2.2.2 c1).2; have f4 := (hs15.2.2.1 w9).1; have f5 := i_and (a1) ((31 : Int32)) (by decide); have f6 := i_and ((s2.1 26 5) >>> (a1 &&& 31)) ((1 : Int32)) (by decide); have f7 := (hs15.2.2.1 w9).2; have f8 : (0 : Int32).toInt = 0 := rfl; have f9 := i_rg (s2.1 26 5); have f10 : (31 : Int32).toInt = 31 := rfl; have f11 : (1 : Int32).toInt = 1 := rfl; omega), (by have f0 : (0 : Int32).toInt = 0 := rfl; have f1 := i_rg a2; have f2 := i_ne c2; have f3 := i_ne c3; have f4 := i_ne c4; have f5 := i_eq c5; have f6 : (1 : Int32).toInt = 1 := rfl; have f7 : (2 : Int32).toInt = 2 := rfl; have f8 : (3 : Int32).toInt = 3 := rfl; omega), (by have f0 := i_rg a2; have f1 : (4 : Int32).toInt = 4 := rfl; have f2 := i_ne c2; have f3 := i_ne c3; have f4 := i_ne c4; have f5 := i_eq c5; have f6 : (0 : Int32).toInt = 0 := rfl; have f7 : (1 : Int32).toInt = 1 := rfl; have f8 : (2 : Int32).toInt = 2 := rfl; have f9 : (3 : Int32).toInt = 3 := rfl; omega)⟩, fun _ => trivial⟩
          · refine oq_if (fun c6 => ?_) (fun c6 => ?_)
            · refine oq_c (inr_of (by have f0 := i_rg a1; have f1 := (hs2.2.2.2 c1).1; have f2 := (hs2.2.2.2 c1).2; have f3 : (0 : Int32).toInt = 0 := rfl; have f4 : (7 : Int32).toInt = 7 := rfl; omega)) ?_
              refine oq_b (h_X11_answer _ js2.1) (fun r17 s18 hs18 => ?_)
              have js18 : JC 47890485652059026823698344598447161988085597568237568 s s18 := j_call js2 hs18.1 rfl
              exact ⟨js18, trivial, fun w9 => ⟨(by have f0 : (0 : Int32).toInt = 0 := rfl; have f1 := i_rg a1; have f2 := (hs2.2.2.2 c1).1; have f3 := (hs2.2.2.2 c1).2; have f4 : (7 : Int32).toInt = 7 := rfl; omega), (by have f0 := i_rg a1; have f1 : (7 : Int32).toInt = 7 := rfl; have f2 := (hs2.2.2.2 c1).1; have f3 := (hs2.2.2.2 c1).2; have f4 : (0 : Int32).toInt = 0 := rfl; omega), (by have f0 : (0 : Int32).toInt = 0 := rfl; have f1 := i_rg a2; have f2 := i_ne c2; have f3 := i_ne c3; have f4 := i_ne c4; have f5 := i_ne c5; have f6 := i_eq c6; have f7 : (1 : Int32).toInt = 1 := rfl; have f8 : (2 : Int32).toInt = 2 := rfl; have f9 : (3 : Int32).toInt = 3 := rfl; have f10 : (4 : Int32).toInt = 4 := rfl; omega), (by have f0 := i_rg a2; have f1 : (4 : Int32).toInt = 4 := rfl; have f2 := i_ne c2; have f3 := i_ne c3; have f4 := i_ne c4; have f5 := i_ne c5; have f6 := i_eq c6; have f7 : (0 : Int32).toInt = 0 := rfl; have f8 : (1 : Int32).toInt = 1 := rfl; have f9 : (2 : Int32).toInt = 2 := rfl; have f10 : (3 : Int32).toInt = 3 := rfl; omega)⟩, fun _ => trivial⟩
            · refine oq_b (h_X11_refuse _ js2.1 (by have f0 : (1 : Int32).toInt = 1 := rfl; omega)) (fun r19 s20 hs20 => ?_)
              have js20 : JC 47890485652059026823698344598447161988085597568237568 s s20 := j_call js2 hs20.1 rfl
              exact ⟨js20, trivial, fun w9 => False.elim (by have f0 := hs20.2.1; have f1 := i_rg r19; have f2 := i_eq w9; have f3 : (0 : Int32).toInt = 0 := rfl; omega), fun _ => trivial⟩
theorem h_X11_isGrocer (a1 : Int32) {s : Sg} (hR : Rg rC s) : OQ (f_X11_isGrocer a1 s) (fun r9 s9 => JC 0 s s9 ∧ (0 ≤ r9.toInt ∧ r9.toInt ≤ 1) ∧ (r9 = 0 → True) ∧ (¬ r9 = 0 → 0 ≤ (a1).toInt ∧ (a1).toInt ≤ 3)) := by
  have hJ : JC 0 s s := j_refl hR
  unfold f_X11_isGrocer
  refine oq_b (h_X11_within _ _ _ hJ.1 (by have f0 : (0 : Int32).toInt = 0 := rfl; omega) (by have f0 := i_sub (s.1 25 16) ((1 : Int32)); have f1 := j_rd hJ 25 16 0 4 rfl; have f2 : (1 : Int32).toInt = 1 := rfl; omega)) (fun r1 s2 hs2 => ?_)
  have js2 : JC 0 s s2 := j_call hJ hs2.1 rfl
  refine oq_c (b01_of (by have f0 := hs2.2.1; have f1 := i_rg r1; omega)) ?_
  exact ⟨js2, (by have f0 := hs2.2.1; have f1 := i_rg r1; omega), fun _ => trivial, fun w9 => ⟨(by have f0 : (0 : Int32).toInt = 0 := rfl; have f1 := i_rg a1; have f2 := (hs2.2.2.2 w9).1; have f3 := (hs2.2.2.2 w9).2.1; have f4 := i_sub (s.1 25 16) ((1 : Int32)); have f5 := (hs2.2.2.2 w9).2.2.1; have f6 := (hs2.2.2.2 w9).2.2.2; have f7 := j_rd hJ 25 16 0 4 rfl; have f8 : (1 : Int32).toInt = 1 := rfl; omega), (by have f0 := i_rg a1; have f1 : (3 : Int32).toInt = 3 := rfl; have f2 := (hs2.2.2.2 w9).1; have f3 := (hs2.2.2.2 w9).2.1; have f4 := i_sub (s.1 25 16) ((1 : Int32)); have f5 := (hs2.2.2.2 w9).2.2.1; have f6 := (hs2.2.2.2 w9).2.2.2; have f7 : (0 : Int32).toInt = 0 := rfl; have f8 := j_rd hJ 25 16 0 4 rfl; have f9 : (1 : Int32).toInt = 1 := rfl; omega)⟩⟩
theorem h_X11_grocer (a1 : Int32) (a2 : Int32) {s : Sg} (hR : Rg rC s) : OQ (f_X11_grocer a1 a2 s) (fun r9 s9 => JC 47890485652059026823698344598447161988085597568237568 s s9 ∧ True ∧ (r9 = 0 → 0 ≤ (a1).toInt ∧ (a1).toInt ≤ 3 ∧ 0 ≤ (a2).toInt ∧ (a2).toInt ≤ 2) ∧ (¬ r9 = 0 → True)) := by
  have hJ : JC 47890485652059026823698344598447161988085597568237568 s s := j_refl hR
  unfold f_X11_grocer
  refine oq_b (h_X11_isGrocer _ hJ.1) (fun r1 s2 hs2 => ?_)
  have js2 : JC 47890485652059026823698344598447161988085597568237568 s s2 := j_call hJ hs2.1 rfl
  refine oq_if (fun c1 => ?_) (fun c1 => ?_)
  · refine oq_b (h_X11_refuse _ js2.1 (by have f0 : (1 : Int32).toInt = 1 := rfl; omega)) (fun r3 s4 hs4 => ?_)
    have js4 : JC 47890485652059026823698344598447161988085597568237568 s s4 := j_call js2 hs4.1 rfl
    exact ⟨js4, trivial, fun w9 => False.elim (by have f0 := hs4.2.1; have f1 := i_rg r3; have f2 := i_eq w9; have f3 : (0 : Int32).toInt = 0 := rfl; omega), fun _ => trivial⟩
  · refine oq_if (fun c2 => ?_) (fun c2 => ?_)
    · refine oq_c (inr_of (by have f0 := i_rg a1; have f1 := (hs2.2.2.2 c1).1; have f2 := (hs2.2.2.2 c1).2; have f3 : (0 : Int32).toInt = 0 := rfl; have f4 : (3 : Int32).toInt = 3 := rfl; omega)) ?_
      refine oq_b (h_X11_answer _ js2.1) (fun r6 s7 hs7 => ?_)
      have js7 : JC 47890485652059026823698344598447161988085597568237568 s s7 := j_call js2 hs7.1 rfl
      exact ⟨js7, trivial, fun w9 => ⟨(by have f0 : (0 : Int32).toInt = 0 := rfl; have f1 := i_rg a1; have f2 := (hs2.2.2.2 c1).1; have f3 := (hs2.2.2.2 c1).2; have f4 : (3 : Int32).toInt = 3 := rfl; omega), (by have f0 := i_rg a1; have f1 : (3 : Int32).toInt = 3 := rfl; have f2 := (hs2.2.2.2 c1).1; have f3 := (hs2.2.2.2 c1).2; have f4 : (0 : Int32).toInt = 0 := rfl; omega), (by have f0 : (0 : Int32).toInt = 0 := rfl; have f1 := i_rg a2; have f2 := i_eq c2; omega), (by have f0 := i_rg a2; have f1 : (2 : Int32).toInt = 2 := rfl; have f2 := i_eq c2; have f3 : (0 : Int32).toInt = 0 := rfl; omega)⟩, fun _ => trivial⟩
    · refine oq_if (fun c3 => ?_) (fun c3 => ?_)
      · refine oq_c (inr_of (by have f0 := i_rg a1; have f1 := (hs2.2.2.2 c1).1; have f2 := (hs2.2.2.2 c1).2; have f3 : (0 : Int32).toInt = 0 := rfl; have f4 : (3 : Int32).toInt = 3 := rfl; omega)) ?_
        refine oq_b (h_X11_answer _ js2.1) (fun r9 s10 hs10 => ?_)
        have js10 : JC 47890485652059026823698344598447161988085597568237568 s s10 := j_call js2 hs10.1 rfl
        exact ⟨js10, trivial, fun w9 => ⟨(by have f0 : (0 : Int32).toInt = 0 := rfl; have f1 := i_rg a1; have f2 := (hs2.2.2.2 c1).1; have f3 := (hs2.2.2.2 c1).2; have f4 : (3 : Int32).toInt = 3 := rfl; omega), (by have f0 := i_rg a1; have f1 : (3 : Int32).toInt = 3 := rfl; have f2 := (hs2.2.2.2 c1).1; have f3 := (hs2.2.2.2 c1).2; have f4 : (0 : Int32).toInt = 0 := rfl; omega), (by have f0 : (0 : Int32).toInt = 0 := rfl; have f1 := i_rg a2; have f2 := i_ne c2; have f3 := i_eq c3; have f4 : (1 : Int32).toInt = 1 := rfl; omega), (by have f0 := i_rg a2; have f1 : (2 : Int32).toInt = 2 := rfl; have f2 := i_ne c2; have f3 := i_eq c3; have f4 : (0 : Int32).toInt = 0 := rfl; have f5 : (1 : Int32).toInt = 1 := rfl; omega)⟩, fun _ => trivial⟩
      · refine oq_if (fun c4 => ?_) (fun c4 => ?_)
        · refine oq_c (inr_of (by have f0 := i_rg a1; have f1 := (hs2.2.2.2 c1).1; have f2 := (hs2.2.2.2 c1).2; have f3 : (0 : Int32).toInt = 0 := rfl; have f4 : (3 : Int32).toInt = 3 := rfl; omega)) ?_
          refine oq_b (h_X11_answer _ js2.1) (fun r12 s13 hs13 => ?_)
          have js13 : JC 47890485652059026823698344598447161988085597568237568 s s13 := j_call js2 hs13.1 rfl
          exact ⟨js13, trivial, fun w9 => ⟨(by have f0 : (0 : Int32).toInt = 0 := rfl; have f1 := i_rg a1; have f2 := (hs2.2.2.2 c1).1; have f3 := (hs2.2.2.2 c1).2; have f4 : (3 : Int32).toInt = 3 := rfl; omega), (by have f0 := i_rg a1; have f1 : (3 : Int32).toInt = 3 := rfl; have f2 := (hs2.2.2.2 c1).1; have f3 := (hs2.2.2.2 c1).2; have f4 : (0 : Int32).toInt = 0 := rfl; omega), (by have f0 : (0 : Int32).toInt = 0 := rfl; have f1 := i_rg a2; have f2 := i_ne c2; have f3 := i_ne c3; have f4 := i_eq c4; have f5 : (1 : Int32).toInt = 1 := rfl; have f6 : (2 : Int32).toInt = 2 := rfl; omega), (by have f0 := i_rg a2; have f1 : (2 : Int32).toInt = 2 := rfl; have f2 := i_ne c2; have f3 := i_ne c3; have f4 := i_eq c4; have f5 : (0 : Int32).toInt = 0 := rfl; have f6 : (1 : Int32).toInt = 1 := rfl; omega)⟩, fun _ => trivial⟩
        · refine oq_b (h_X11_refuse _ js2.1 (by have f0 : (1 : Int32).toInt = 1 := rfl; omega)) (fun r14 s15 hs15 => ?_)
          have js15 : JC 47890485652059026823698344598447161988085597568237568 s s15 := j_call js2 hs15.1 rfl
          exact ⟨js15, trivial, fun w9 => False.elim (by have f0 := hs15.2.1; have f1 := i_rg r14; have f2 := i_eq w9; have f3 : (0 : Int32).toInt = 0 := rfl; omega), fun _ => trivial⟩
theorem h_X2_lying (a1 : Int32) {s : Sg} (hR : Rg rC s) (p_a1 : 0 ≤ a1.toInt ∧ a1.toInt ≤ 7) : OQ (f_X2_lying a1 s) (fun r9 s9 => JC 0 s s9 ∧ True ∧ (r9 = 0 → True) ∧ (¬ r9 = 0 → True)) := by
  have hJ : JC 0 s s := j_refl hR
  unfold f_X2_lying
  refine oq_c (inr_of (by have f0 := p_a1; have f1 := i_rg a1; omega)) ?_
  exact ⟨hJ, trivial, fun _ => trivial, fun _ => trivial⟩
theorem h_X2_inSight (a1 : Int32) {s : Sg} (hR : Rg rC s) (p_a1 : 0 ≤ a1.toInt ∧ a1.toInt ≤ 7) : OQ (f_X2_inSight a1 s) (fun r9 s9 => JC 0 s s9 ∧ True ∧ (r9 = 0 → True) ∧ (¬ r9 = 0 → True)) := by
  have hJ : JC 0 s s := j_refl hR
  unfold f_X2_inSight
  refine oq_c (inr_of (by have f0 := p_a1; have f1 := i_rg a1; omega)) ?_
  refine oq_if (fun c1 => ?_) (fun c1 => ?_)
  · refine oq_b (h_X2_lying _ hJ.1 (by have f0 := p_a1; have f1 := i_rg a1; omega)) (fun r2 s3 hs3 => ?_)
    have js3 : JC 0 s s3 := j_call hJ hs3.1 rfl
    exact ⟨js3, trivial, fun _ => trivial, fun _ => trivial⟩
  · exact ⟨hJ, trivial, fun _ => trivial, fun w9 => absurd rfl w9⟩
theorem h_X4_isAt (a1 : Int32) (a2 : Int32) {s : Sg} (hR : Rg rC s) (p_a1 : 0 ≤ a1.toInt ∧ a1.toInt ≤ 7) (p_a2 : 0 ≤ a2.toInt ∧ a2.toInt ≤ 7) : OQ (f_X4_isAt a1 a2 s) (fun r9 s9 => JC 0 s s9 ∧ (0 ≤ r9.toInt ∧ r9.toInt ≤ 1) ∧ (r9 = 0 → True) ∧ (¬ r9 = 0 → True)) := by
  have hJ : JC 0 s s := j_refl hR
  unfold f_X4_isAt
  refine oq_c (inr_of (by have f0 := p_a2; have f1 := i_rg a2; omega)) ?_
  refine oq_if (fun c1 => ?_) (fun c1 => ?_)
  · exact ⟨hJ, (by have f0 : (0 : Int32).toInt = 0 := rfl; omega), fun _ => trivial, fun w9 => absurd rfl w9⟩
  · exact ⟨hJ, (by have f0 : (1 : Int32).toInt = 1 := rfl; omega), fun w9 => absurd w9 (by decide), fun _ => trivial⟩
theorem h_X9_shareOf_26_25_b10 {s0 : Sg} (n : Nat) : ∀ (v2 : Int32) (v3 : Int32) (v4 : Int32) (v5 : Int32) (s : Sg), JC 0 s0 s → 0 ≤ v2.toInt ∧ v2.toInt ≤ 7 → 0 ≤ v3.toInt ∧ v3.toInt ≤ 7 → 0 ≤ v5.toInt ∧ v5.toInt ≤ 7 → 7 - v5.toInt < (n : Int) → OQ (f_X9_shareOf_26_25_b10 n v2 v3 v4 v5 s) (fun r9 s9 => JC 0 s0 s9 ∧ True ∧ (r9 = 0 → True) ∧ (¬ r9 = 0 → True)) := by
  induction n with
  | zero => intro v2 v3 v4 v5 s hJ p_v2 p_v3 p_v5 hn; exact False.elim (by have g0 := hn; have g1 := p_v2; have g2 := p_v3; have g3 := p_v5; have g4 := i_rg v2; have g5 := i_rg v3; have g6 := i_rg v4; have g7 := i_rg v5; omega)
  | succ n ih =>
    intro v2 v3 v4 v5 s hJ p_v2 p_v3 p_v5 hn
    unfold f_X9_shareOf_26_25_b10
    refine oq_if (fun c1 => ?_) (fun c1 => ?_)
    · refine oq_c (inr_of (by have f0 := p_v2; have f1 := i_rg v2; have f2 := i_le c1; have f3 := p_v5; have f4 := i_rg v5; omega)) ?_
      exact ⟨hJ, trivial, fun _ => trivial, fun _ => trivial⟩
    · refine oq_b (h_X4_isAt _ _ hJ.1 (by have f0 := p_v5; have f1 := i_rg v5; have f2 := i_nle c1; have f3 := p_v2; have f4 := i_rg v2; omega) (by have f0 := p_v3; have f1 := i_rg v3; omega)) (fun r4 s5 hs5 => ?_)
      have js5 : JC 0 s0 s5 := j_call hJ hs5.1 rfl
      refine oq_if (fun c2 => ?_) (fun c2 => ?_)
      · exact ih _ _ _ _ _ js5 (by have f0 := p_v2; have f1 := i_rg v2; have f2 := i_nle c1; have f3 := p_v5; have f4 := i_rg v5; omega) (by have f0 := p_v3; have f1 := i_rg v3; omega) (by have f0 := i_add (v5) ((1 : Int32)); have f1 := p_v5; have f2 := i_rg v5; have f3 : (1 : Int32).toInt = 1 := rfl; have f4 := i_nle c1; have f5 := p_v2; have f6 := i_rg v2; omega) (by have g0 := i_add (v5) ((1 : Int32)); have g1 := p_v2; have g2 := i_rg v2; have g3 := p_v3; have g4 := i_rg v3; have g5 := i_rg v4; have g6 := p_v5; have g7 := i_rg v5; have g8 : (1 : Int32).toInt = 1 := rfl; have g9 := i_nle c1; have g10 := hn; omega)
      · refine oq_c (inr_of (by have f0 := p_v5; have f1 := i_rg v5; have f2 := i_nle c1; have f3 := p_v2; have f4 := i_rg v2; omega)) ?_
        refine oq_n (fun x7 ex7 => ?_)
        exact ih _ _ _ _ _ js5 (by have f0 := p_v2; have f1 := i_rg v2; have f2 := i_nle c1; have f3 := p_v5; have f4 := i_rg v5; omega) (by have f0 := p_v3; have f1 := i_rg v3; omega) (by have f0 := i_add (v5) ((1 : Int32)); have f1 := p_v5; have f2 := i_rg v5; have f3 : (1 : Int32).toInt = 1 := rfl; have f4 := i_nle c1; have f5 := p_v2; have f6 := i_rg v2; omega) (by have g0 := i_add (v5) ((1 : Int32)); have g1 := p_v2; have g2 := i_rg v2; have g3 := p_v3; have g4 := i_rg v3; have g5 := i_eq ex7; have g6 := ite_lt (s5.1 33 v5.toNatClampNeg) (v4) (s5.1 33 v5.toNatClampNeg) (v4); have g7 := i_sub (v4) (if (s5.1 33 v5.toNatClampNeg) < v4 then (s5.1 33 v5.toNatClampNeg) else v4); have g8 := i_rg x7; have g9 := p_v5; have g10 := i_rg v5; have g11 : (1 : Int32).toInt = 1 := rfl; have g12 := i_rg v4; have g13 : (s5.1 33 v5.toNatClampNeg).toInt = (s.1 33 v5.toNatClampNeg).toInt := j_fr hs5.1 33 v5.toNatClampNeg 33 rfl rfl; have g14 := i_rg (s5.1 33 v5.toNatClampNeg); have g15 := i_rg (s.1 33 v5.toNatClampNeg); have g16 := i_nle c1; have g17 := hn; omega)
theorem h_X9_shareOf_26_25 (a2 : Int32) (a3 : Int32) {s : Sg} (hR : Rg rC s) (p_a2 : 0 ≤ a2.toInt ∧ a2.toInt ≤ 7) (p_a3 : 0 ≤ a3.toInt ∧ a3.toInt ≤ 7) : OQ (f_X9_shareOf_26_25 a2 a3 s) (fun r9 s9 => JC 0 s s9 ∧ True ∧ (r9 = 0 → True) ∧ (¬ r9 = 0 → True)) := by
  have hJ : JC 0 s s := j_refl hR
  unfold f_X9_shareOf_26_25
  refine oq_b (h_X2_inSight _ hJ.1 (by have f0 := p_a3; have f1 := i_rg a3; omega)) (fun r1 s2 hs2 => ?_)
  have js2 : JC 0 s s2 := j_call hJ hs2.1 rfl
  exact h_X9_shareOf_26_25_b10 BIG _ _ _ _ _ js2 (by have f0 := p_a2; have f1 := i_rg a2; omega) (by have f0 := p_a3; have f1 := i_rg a3; omega) (by have f0 : (0 : Int32).toInt = 0 := rfl; omega) (by have g0 := p_a2; have g1 := i_rg a2; have g2 := p_a3; have g3 := i_rg a3; have g4 := i_rg r1; have g5 : (0 : Int32).toInt = 0 := rfl; have g6 : BIG = 4294967296 := rfl; omega)
theorem h_X11_share_b48 {s0 : Sg} (v1 : Int32) (t0 : Int32) (s : Sg) (hJ : JC 47890485652059026823698344598447161988085597568237568 s0 s) (p_v1 : 0 ≤ v1.toInt ∧ v1.toInt ≤ 7) (p_t0 : 0 ≤ t0.toInt ∧ t0.toInt ≤ 7) : OQ (f_X11_share_b48 v1 t0 s) (fun r9 s9 => JC 47890485652059026823698344598447161988085597568237568 s0 s9 ∧ True ∧ (r9 = 0 → True) ∧ (¬ r9 = 0 → True)) := by
  unfold f_X11_share_b48
  refine oq_b (h_X4_isGone _ hJ.1 (by have f0 := p_t0; have f1 := i_rg t0; omega)) (fun r10 s11 hs11 => ?_)
  have js11 : JC 47890485652059026823698344598447161988085597568237568 s0 s11 := j_call hJ hs11.1 rfl
  refine oq_if (fun c1 => ?_) (fun c1 => ?_)
  · refine oq_b (h_X9_shareOf_26_25 _ _ js11.1 (by have f0 := p_v1; have f1 := i_rg v1; omega) (by have f0 := p_t0; have f1 := i_rg t0; omega)) (fun r12 s13 hs13 => ?_)
    have js13 : JC 47890485652059026823698344598447161988085597568237568 s0 s13 := j_call js11 hs13.1 rfl
    refine oq_b (h_X11_answer _ js13.1) (fun r14 s15 hs15 => ?_)
    have js15 : JC 47890485652059026823698344598447161988085597568237568 s0 s15 := j_call js13 hs15.1 rfl
    exact ⟨js15, trivial, fun _ => trivial, fun _ => trivial⟩
  · refine oq_b (h_X11_refuse _ js11.1 (by have f0 : (7 : Int32).toInt = 7 := rfl; omega)) (fun r16 s17 hs17 => ?_)
    have js17 : JC 47890485652059026823698344598447161988085597568237568 s0 s17 := j_call js11 hs17.1 rfl
    exact ⟨js17, trivial, fun w9 => False.elim (by have f0 := hs17.2.1; have f1 := i_rg r16; have f2 := i_eq w9; have f3 : (0 : Int32).toInt = 0 := rfl; omega), fun _ => trivial⟩
theorem h_X11_share (a1 : Int32) (a2 : Int32) {s : Sg} (hR : Rg rC s) : OQ (f_X11_share a1 a2 s) (fun r9 s9 => JC 47890485652059026823698344598447161988085597568237568 s s9 ∧ True ∧ (r9 = 0 → True) ∧ (¬ r9 = 0 → True)) := by
  have hJ : JC 47890485652059026823698344598447161988085597568237568 s s := j_refl hR
  unfold f_X11_share
  refine oq_b (h_X11_isQuarrel _ hJ.1) (fun r1 s2 hs2 => ?_)
  have js2 : JC 47890485652059026823698344598447161988085597568237568 s s2 := j_call hJ hs2.1 rfl
  refine oq_if (fun c1 => ?_) (fun c1 => ?_)
  · refine oq_b (h_X11_refuse _ js2.1 (by have f0 : (1 : Int32).toInt = 1 := rfl; omega)) (fun r3 s4 hs4 => ?_)
    have js4 : JC 47890485652059026823698344598447161988085597568237568 s s4 := j_call js2 hs4.1 rfl
    exact ⟨js4, trivial, fun w9 => False.elim (by have f0 := hs4.2.1; have f1 := i_rg r3; have f2 := i_eq w9; have f3 : (0 : Int32).toInt = 0 := rfl; omega), fun _ => trivial⟩
  · refine oq_b (h_X11_within _ _ _ js2.1 (by have f0 : (0 : Int32).toInt = 0 := rfl; omega) (by have f0 : (1 : Int32).toInt = 1 := rfl; omega)) (fun r5 s6 hs6 => ?_)
    have js6 : JC 47890485652059026823698344598447161988085597568237568 s s6 := j_call js2 hs6.1 rfl
    refine oq_if (fun c2 => ?_) (fun c2 => ?_)
    · refine oq_b (h_X11_refuse _ js6.1 (by have f0 : (1 : Int32).toInt = 1 := rfl; omega)) (fun r7 s8 hs8 => ?_)
      have js8 : JC 47890485652059026823698344598447161988085597568237568 s s8 := j_call js6 hs8.1 rfl
      exact ⟨js8, trivial, fun w9 => False.elim (by have f0 := hs8.2.1; have f1 := i_rg r7; have f2 := i_eq w9; have f3 : (0 : Int32).toInt = 0 := rfl; omega), fun _ => trivial⟩
    · refine oq_if (fun c3 => ?_) (fun c3 => ?_)
      · refine oq_c (inr_of (by have f0 := i_rg a1; have f1 := (hs2.2.2.2 c1).1; have f2 := (hs2.2.2.2 c1).2; have f3 := (hs6.2.2.2 c2).2.2.2; have f4 : (0 : Int32).toInt = 0 := rfl; have f5 : (7 : Int32).toInt = 7 := rfl; have f6 : (1 : Int32).toInt = 1 := rfl; omega)) ?_
        exact h_X11_share_b48 _ _ _ js6 (by have f0 := i_rg a1; have f1 := (hs2.2.2.2 c1).1; have f2 := (hs2.2.2.2 c1).2; have f3 := (hs6.2.2.2 c2).2.2.2; have f4 : (0 : Int32).toInt = 0 := rfl; have f5 : (7 : Int32).toInt = 7 := rfl; have f6 : (1 : Int32).toInt = 1 := rfl; omega) (by have f0 := j_rd js6 31 a1.toNatClampNeg 0 7 rfl; have f1 := (hs6.2.2.2 c2).2.2.2; have f2 : (0 : Int32).toInt = 0 := rfl; have f3 : (1 : Int32).toInt = 1 := rfl; omega)
      · refine oq_c (inr_of (by have f0 := i_rg a1; have f1 := (hs2.2.2.2 c1).1; have f2 := (hs2.2.2.2 c1).2; have f3 := (hs6.2.2.2 c2).2.2.2; have f4 : (0 : Int32).toInt = 0 := rfl; have f5 : (7 : Int32).toInt = 7 := rfl; have f6 : (1 : Int32).toInt = 1 := rfl; omega)) ?_
        exact h_X11_share_b48 _ _ _ js6 (by have f0 := i_rg a1; have f1 := (hs2.2.2.2 c1).1; have f2 := (hs2.2.2.2 c1).2; have f3 := (hs6.2.2.2 c2).2.2.2; have f4 : (0 : Int32).toInt = 0 := rfl; have f5 : (7 : Int32).toInt = 7 := rfl; have f6 : (1 : Int32).toInt = 1 := rfl; omega) (by have f0 := j_rd js6 32 a1.toNatClampNeg 0 7 rfl; have f1 := (hs6.2.2.2 c2).2.2.2; have f2 : (0 : Int32).toInt = 0 := rfl; have f3 : (1 : Int32).toInt = 1 := rfl; omega)
theorem h_X9_ownerOf_26_25_b6 {s0 : Sg} (n : Nat) : ∀ (v2 : Int32) (v3 : Int32) (v4 : Int32) (v5 : Int32) (s : Sg), JC 0 s0 s → 0 ≤ v2.toInt ∧ v2.toInt ≤ 7 → 0 ≤ v5.toInt ∧ v5.toInt ≤ 8 → 8 - v5.toInt < (n : Int) → OQ (f_X9_ownerOf_26_25_b6 n v2 v3 v4 v5 s) (fun r9 s9 => JC 0 s0 s9 ∧ ((-1) ≤ r9.toInt ∧ r9.toInt ≤ 7) ∧ (r9 = 0 → True) ∧ (¬ r9 = 0 → True)) := by
  induction n with
  | zero => intro v2 v3 v4 v5 s hJ p_v2 p_v5 hn; exact False.elim (by have g0 := hn; have g1 := p_v2; have g2 := p_v5; have g3 := i_rg v2; have g4 := i_rg v3; have g5 := i_rg v4; have g6 := i_rg v5; omega)
  | succ n ih =>
    intro v2 v3 v4 v5 s hJ p_v2 p_v5 hn
    unfold f_X9_ownerOf_26_25_b6
    refine oq_if (fun c1 => ?_) (fun c1 => ?_)
    · exact ⟨hJ, (by have f0 : ((-1) : Int32).toInt = (-1) := rfl; omega), fun w9 => absurd w9 (by decide), fun _ => trivial⟩
    · refine oq_b (h_X4_isAt _ _ hJ.1 (by have f0 := p_v5; have f1 := i_rg v5; have f2 := i_nle c1; have f3 := j_rd hJ 25 14 0 8 rfl; omega) (by have f0 := p_v2; have f1 := i_rg v2; omega)) (fun r1 s2 hs2 => ?_)
      have js2 : JC 0 s0 s2 := j_call hJ hs2.1 rfl
      refine oq_if (fun c2 => ?_) (fun c2 => ?_)
      · exact ih _ _ _ _ _ js2 (by have f0 := p_v2; have f1 := i_rg v2; omega) (by have f0 := i_add (v5) ((1 : Int32)); have f1 := p_v5; have f2 := i_rg v5; have f3 : (1 : Int32).toInt = 1 := rfl; have f4 := i_nle c1; have f5 := j_rd hJ 25 14 0 8 rfl; omega) (by have g0 := i_add (v5) ((1 : Int32)); have g1 := p_v2; have g2 := i_rg v2; have g3 := i_rg v3; have g4 := i_rg v4; have g5 := p_v5; have g6 := i_rg v5; have g7 : (1 : Int32).toInt = 1 := rfl; have g8 := i_nle c1; have g9 := j_rd hJ 25 14 0 8 rfl; have g10 := hn; omega)
      · refine oq_b (h_X9_shareOf_26_25 _ _ js2.1 (by have f0 := p_v5; have f1 := i_rg v5; have f2 := i_nle c1; have f3 := j_rd hJ 25 14 0 8 rfl; omega) (by have f0 := p_v2; have f1 := i_rg v2; omega)) (fun r3 s4 hs4 => ?_)
        have js4 : JC 0 s0 s4 := j_call js2 hs4.1 rfl
        refine oq_if (fun c3 => ?_) (fun c3 => ?_)
        · exact ih _ _ _ _ _ js4 (by have f0 := p_v2; have f1 := i_rg v2; omega) (by have f0 := i_add (v5) ((1 : Int32)); have f1 := p_v5; have f2 := i_rg v5; have f3 : (1 : Int32).toInt = 1 := rfl; have f4 := i_nle c1; have f5 := j_rd hJ 25 14 0 8 rfl; omega) (by have g0 := i_add (v4) (r3); have g1 := i_add (v5) ((1 : Int32)); have g2 := p_v2; have g3 := i_rg v2; have g4 := i_rg v3; have g5 := i_rg v4; have g6 := i_rg r3; have g7 := p_v5; have g8 := i_rg v5; have g9 : (1 : Int32).toInt = 1 := rfl; have g10 := i_nle c1; have g11 := i_le c3; have g12 := j_rd hJ 25 14 0 8 rfl; have g13 := hn; omega)
        · exact ⟨js4, (by have f0 := p_v5; have f1 := i_rg v5; have f2 := i_nle c1; have f3 := j_rd hJ 25 14 0 8 rfl; omega), fun _ => trivial, fun _ => trivial⟩
theorem h_X9_ownerOf_26_25 (a2 : Int32) (a3 : Int32) {s : Sg} (hR : Rg rC s) (p_a2 : 0 ≤ a2.toInt ∧ a2.toInt ≤ 7) : OQ (f_X9_ownerOf_26_25 a2 a3 s) (fun r9 s9 => JC 0 s s9 ∧ ((-1) ≤ r9.toInt ∧ r9.toInt ≤ 7) ∧ (r9 = 0 → True) ∧ (¬ r9 = 0 → True)) := by
  have hJ : JC 0 s s := j_refl hR
  unfold f_X9_ownerOf_26_25
  exact h_X9_ownerOf_26_25_b6 BIG _ _ _ _ _ hJ (by have f0 := p_a2; have f1 := i_rg a2; omega) (by have f0 : (0 : Int32).toInt = 0 := rfl; omega) (by have g0 := p_a2; have g1 := i_rg a2; have g2 := i_rg a3; have g3 : (0 : Int32).toInt = 0 := rfl; have g4 : BIG = 4294967296 := rfl; omega)
theorem h_X11_answerIfAny (a1 : Int32) {s : Sg} (hR : Rg rC s) (p_a1 : (-1) ≤ a1.toInt ∧ a1.toInt ≤ 255) : OQ (f_X11_answerIfAny a1 s) (fun r9 s9 => JC 47890485652059026823698344598447161988085597568237568 s s9 ∧ True ∧ (r9 = 0 → 0 ≤ (a1).toInt ∧ (a1).toInt ≤ 0) ∧ (¬ r9 = 0 → True)) := by
  have hJ : JC 47890485652059026823698344598447161988085597568237568 s s := j_refl hR
  unfold f_X11_answerIfAny
  refine oq_if (fun c1 => ?_) (fun c1 => ?_)
  · refine oq_b (h_X11_refuse _ hJ.1 (by have f0 : (6 : Int32).toInt = 6 := rfl; omega)) (fun r1 s2 hs2 => ?_)
    have js2 : JC 47890485652059026823698344598447161988085597568237568 s s2 := j_call hJ hs2.1 rfl
    exact ⟨js2, trivial, fun w9 => False.elim (by have f0 := hs2.2.1; have f1 := i_rg r1; have f2 := i_eq w9; have f3 : (0 : Int32).toInt = 0 := rfl; omega), fun _ => trivial⟩
  · refine oq_b (h_X11_answer _ hJ.1) (fun r3 s4 hs4 => ?_)
    have js4 : JC 47890485652059026823698344598447161988085597568237568 s s4 := j_call hJ hs4.1 rfl
    exact ⟨js4, trivial, fun w9 => ⟨(by have f0 : (0 : Int32).toInt = 0 := rfl; have f1 := p_a1; have f2 := i_rg a1; have f3 := i_ne c1; have f4 := (hs4.2.2.1 w9).1; have f5 := (hs4.2.2.1 w9).2; have f6 : ((-1) : Int32).toInt = (-1) := rfl; omega), (by have f0 := p_a1; have f1 := i_rg a1; have f2 : (0 : Int32).toInt = 0 := rfl; have f3 := i_ne c1; have f4 := (hs4.2.2.1 w9).1; have f5 := (hs4.2.2.1 w9).2; have f6 : ((-1) : Int32).toInt = (-1) := rfl; omega)⟩, fun _ => trivial⟩
theorem h_X11_whose_b11 {s0 : Sg} (v1 : Int32) (v2 : Int32) (t0 : Int32) (t1 : Int32) (s : Sg) (hJ : JC 47890485652059026823698344598447161988085597568237568 s0 s) (p_t0 : 0 ≤ t0.toInt ∧ t0.toInt ≤ 1) (q_v1_t1 : v1 = t1) : OQ (f_X11_whose_b11 v1 v2 t0 t1 s) (fun r9 s9 => JC 47890485652059026823698344598447161988085597568237568 s0 s9 ∧ True ∧ (r9 = 0 → True) ∧ (¬ r9 = 0 → True)) := by
  unfold f_X11_whose_b11
  refine oq_b (h_X11_whyNoStep _ _ hJ.1 (by have f0 := p_t0; have f1 := i_rg t0; omega)) (fun r1 s2 hs2 => ?_)
  have js2 : JC 47890485652059026823698344598447161988085597568237568 s0 s2 := j_call hJ hs2.1 rfl
  refine oq_if (fun c1 => ?_) (fun c1 => ?_)
  · refine oq_b (h_X9_ownerOf_26_25 _ _ js2.1 (by have f0 := i_rg v1; have f1 := i_eq q_v1_t1; have f2 := (hs2.2.2.1 c1).1; have f3 := (hs2.2.2.1 c1).2.1; have f4 := i_rg t1; have f5 : (0 : Int32).toInt = 0 := rfl; have f6 : (7 : Int32).toInt = 7 := rfl; omega)) (fun r3 s4 hs4 => ?_)
    have js4 : JC 47890485652059026823698344598447161988085597568237568 s0 s4 := j_call js2 hs4.1 rfl
    refine oq_b (h_X11_answerIfAny _ js4.1 (by have f0 := hs4.2.1; have f1 := i_rg r3; omega)) (fun r5 s6 hs6 => ?_)
    have js6 : JC 47890485652059026823698344598447161988085597568237568 s0 s6 := j_call js4 hs6.1 rfl
    exact ⟨js6, trivial, fun _ => trivial, fun _ => trivial⟩
  · refine oq_b (h_X11_refuse _ js2.1 (by have f0 := hs2.2.1; have f1 := i_rg r1; have f2 := i_ne c1; have f3 : (0 : Int32).toInt = 0 := rfl; omega)) (fun r7 s8 hs8 => ?_)
    have js8 : JC 47890485652059026823698344598447161988085597568237568 s0 s8 := j_call js2 hs8.1 rfl
    exact ⟨js8, trivial, fun w9 => False.elim (by have f0 := hs8.2.1; have f1 := i_rg r7; have f2 := i_eq w9; have f3 : (0 : Int32).toInt = 0 := rfl; omega), fun _ => trivial⟩
theorem h_X11_whose (a1 : Int32) (a2 : Int32) {s : Sg} (hR : Rg rC s) : OQ (f_X11_whose a1 a2 s) (fun r9 s9 => JC 47890485652059026823698344598447161988085597568237568 s s9 ∧ True ∧ (r9 = 0 → True) ∧ (¬ r9 = 0 → True)) := by
  have hJ : JC 47890485652059026823698344598447161988085597568237568 s s := j_refl hR
  unfold f_X11_whose
  refine oq_if (fun c1 => ?_) (fun c1 => ?_)
  · exact h_X11_whose_b11 _ _ _ _ _ hJ (by have f0 : (0 : Int32).toInt = 0 := rfl; omega) rfl
  · exact h_X11_whose_b11 _ _ _ _ _ hJ (by have f0 : (1 : Int32).toInt = 1 := rfl; omega) rfl
theorem h_X9_leftOver_26_25_b9 {s0 : Sg} (n : Nat) : ∀ (v2 : Int32) (v3 : Int32) (v4 : Int32) (s : Sg), JC 0 s0 s → 0 ≤ v2.toInt ∧ v2.toInt ≤ 7 → 0 ≤ v4.toInt ∧ v4.toInt ≤ 8 → 8 - v4.toInt < (n : Int) → OQ (f_X9_leftOver_26_25_b9 n v2 v3 v4 s) (fun r9 s9 => JC 0 s0 s9 ∧ True ∧ (r9 = 0 → True) ∧ (¬ r9 = 0 → True)) := by
  induction n with
  | zero => intro v2 v3 v4 s hJ p_v2 p_v4 hn; exact False.elim (by have g0 := hn; have g1 := p_v2; have g2 := p_v4; have g3 := i_rg v2; have g4 := i_rg v3; have g5 := i_rg v4; omega)
  | succ n ih =>
    intro v2 v3 v4 s hJ p_v2 p_v4 hn
    unfold f_X9_leftOver_26_25_b9
    refine oq_if (fun c1 => ?_) (fun c1 => ?_)
    · exact ⟨hJ, trivial, fun _ => trivial, fun _ => trivial⟩
    · refine oq_b (h_X4_isAt _ _ hJ.1 (by have f0 := p_v4; have f1 := i_rg v4; have f2 := i_nle c1; have f3 := j_rd hJ 25 14 0 8 rfl; omega) (by have f0 := p_v2; have f1 := i_rg v2; omega)) (fun r3 s4 hs4 => ?_)
      have js4 : JC 0 s0 s4 := j_call hJ hs4.1 rfl
      refine oq_if (fun c2 => ?_) (fun c2 => ?_)
      · exact ih _ _ _ _ js4 (by have f0 := p_v2; have f1 := i_rg v2; omega) (by have f0 := i_add (v4) ((1 : Int32)); have f1 := p_v4; have f2 := i_rg v4; have f3 : (1 : Int32).toInt = 1 := rfl; have f4 := i_nle c1; have f5 := j_rd hJ 25 14 0 8 rfl; omega) (by have g0 := i_add (v4) ((1 : Int32)); have g1 := p_v2; have g2 := i_rg v2; have g3 := i_rg v3; have g4 := p_v4; have g5 := i_rg v4; have g6 : (1 : Int32).toInt = 1 := rfl; have g7 := i_nle c1; have g8 := j_rd hJ 25 14 0 8 rfl; have g9 := hn; omega)
      · refine oq_b (h_X9_shareOf_26_25 _ _ js4.1 (by have f0 := p_v4; have f1 := i_rg v4; have f2 := i_nle c1; have f3 := j_rd hJ 25 14 0 8 rfl; omega) (by have f0 := p_v2; have f1 := i_rg v2; omega)) (fun r5 s6 hs6 => ?_)
        have js6 : JC 0 s0 s6 := j_call js4 hs6.1 rfl
        exact ih _ _ _ _ js6 (by have f0 := p_v2; have f1 := i_rg v2; omega) (by have f0 := i_add (v4) ((1 : Int32)); have f1 := p_v4; have f2 := i_rg v4; have f3 : (1 : Int32).toInt = 1 := rfl; have f4 := i_nle c1; have f5 := j_rd hJ 25 14 0 8 rfl; omega) (by have g0 := i_sub (v3) (r5); have g1 := i_add (v4) ((1 : Int32)); have g2 := p_v2; have g3 := i_rg v2; have g4 := i_rg v3; have g5 := i_rg r5; have g6 := p_v4; have g7 := i_rg v4; have g8 : (1 : Int32).toInt = 1 := rfl; have g9 := i_nle c1; have g10 := j_rd hJ 25 14 0 8 rfl; have g11 := hn; omega)
theorem h_X9_leftOver_26_25 (a2 : Int32) {s : Sg} (hR : Rg rC s) (p_a2 : 0 ≤ a2.toInt ∧ a2.toInt ≤ 7) : OQ (f_X9_leftOver_26_25 a2 s) (fun r9 s9 => JC 0 s s9 ∧ True ∧ (r9 = 0 → True) ∧ (¬ r9 = 0 → True)) := by
  have hJ : JC 0 s s := j_refl hR
  unfold f_X9_leftOver_26_25
  refine oq_b (h_X2_lying _ hJ.1 (by have f0 := p_a2; have f1 := i_rg a2; omega)) (fun r1 s2 hs2 => ?_)
  have js2 : JC 0 s s2 := j_call hJ hs2.1 rfl
  exact h_X9_leftOver_26_25_b9 BIG _ _ _ _ js2 (by have f0 := p_a2; have f1 := i_rg a2; omega) (by have f0 : (0 : Int32).toInt = 0 := rfl; omega) (by have g0 := p_a2; have g1 := i_rg a2; have g2 := i_rg r1; have g3 : (0 : Int32).toInt = 0 := rfl; have g4 : BIG = 4294967296 := rfl; omega)
theorem h_X11_nobodys (a1 : Int32) {s : Sg} (hR : Rg rC s) : OQ (f_X11_nobodys a1 s) (fun r9 s9 => JC 47890485652059026823698344598447161988085597568237568 s s9 ∧ True ∧ (r9 = 0 → 0 ≤ (a1).toInt ∧ (a1).toInt ≤ 7) ∧ (¬ r9 = 0 → True)) := by
  have hJ : JC 47890485652059026823698344598447161988085597568237568 s s := j_refl hR
  unfold f_X11_nobodys
  refine oq_b (h_X11_whyNoStep _ _ hJ.1 (by have f0 : (1 : Int32).toInt = 1 := rfl; omega)) (fun r1 s2 hs2 => ?_)
  have js2 : JC 47890485652059026823698344598447161988085597568237568 s s2 := j_call hJ hs2.1 rfl
  refine oq_if (fun c1 => ?_) (fun c1 => ?_)
  · refine oq_b (h_X9_leftOver_26_25 _ js2.1 (by have f0 := i_rg a1; have f1 := (hs2.2.2.1 c1).1; have f2 := (hs2.2.2.1 c1).2.1; have f3 := (hs2.2.2.1 c1).2.2; have f4 : (0 : Int32).toInt = 0 := rfl; have f5 : (7 : Int32).toInt = 7 := rfl; have f6 : (1 : Int32).toInt = 1 := rfl; omega)) (fun r3 s4 hs4 => ?_)
    have js4 : JC 47890485652059026823698344598447161988085597568237568 s s4 := j_call js2 hs4.1 rfl
    refine oq_b (h_X11_answer _ js4.1) (fun r5 s6 hs6 => ?_)
    have js6 : JC 47890485652059026823698344598447161988085597568237568 s s6 := j_call js4 hs6.1 rfl
    exact ⟨js6, trivial, fun w9 => ⟨(by have f0 : (0 : Int32).toInt = 0 := rfl; have f1 := i_rg a1; have f2 := (hs2.2.2.1 c1).1; have f3 := (hs2.2.2.1 c1).2.1; have f4 := (hs2.2.2.1 c1).2.2; have f5 : (7 : Int32).toInt = 7 := rfl; have f6 : (1 : Int32).toInt = 1 := rfl; omega), (by have f0 := i_rg a1; have f1 : (7 : Int32).toInt = 7 := rfl; have f2 := (hs2.2.2.1 c1).1; have f3 := (hs2.2.2.1 c1).2.1; have f4 := (hs2.2.2.1 c1).2.2; have f5 : (0 : Int32).toInt = 0 := rfl; have f6 : (1 : Int32).toInt = 1 := rfl; omega)⟩, fun _ => trivial⟩
  · refine oq_b (h_X11_refuse _ js2.1 (by have f0 := hs2.2.1; have f1 := i_rg r1; have f2 := i_ne c1; have f3 : (0 : Int32).toInt = 0 := rfl; omega)) (fun r7 s8 hs8 => ?_)
    have js8 : JC 47890485652059026823698344598447161988085597568237568 s s8 := j_call js2 hs8.1 rfl
    exact ⟨js8, trivial, fun w9 => False.elim (by have f0 := hs8.2.1; have f1 := i_rg r7; have f2 := i_eq w9; have f3 : (0 : Int32).toInt = 0 := rfl; omega), fun _ => trivial⟩
theorem h_X4_allQuarrels  {s : Sg} (hR : Rg rC s) : OQ (f_X4_allQuarrels  s) (fun r9 s9 => JC 0 s s9 ∧ (0 ≤ r9.toInt ∧ r9.toInt ≤ 255) ∧ (r9 = 0 → True) ∧ (¬ r9 = 0 → True)) := by
  have hJ : JC 0 s s := j_refl hR
  unfold f_X4_allQuarrels
  exact ⟨hJ, (by have f0 := i_and (s.1 25 14) ((31 : Int32)) (by decide); have f1 := i_sh (s.1 25 14) (by have f0 := j_rd hJ 25 14 0 8 rfl; omega); have f2 := i_sub ((1 : Int32) <<< ((s.1 25 14) &&& 31)) ((1 : Int32)); have f3 : (1 : Int32).toInt = 1 := rfl; have f4 := j_rd hJ 25 14 0 8 rfl; have f5 : (31 : Int32).toInt = 31 := rfl; omega), fun _ => trivial, fun _ => trivial⟩
theorem h_X9_contentAt_25_b71 {s0 : Sg} (k_35 : Int32 → Int32 → Int32 → Int32 → Int32 → Sg → Option (Int32 × Sg)) (m_35 : Nat) (hk_35 : ∀ (v1 : Int32) (v3 : Int32) (v4 : Int32) (v5 : Int32) (v6 : Int32) (s : Sg), JC 0 s0 s → 0 ≤ v1.toInt ∧ v1.toInt ≤ 7 → (-1) ≤ v3.toInt ∧ v3.toInt ≤ 7 → 0 ≤ v6.toInt ∧ v6.toInt ≤ 8 → 8 - v6.toInt < (m_35 : Int) → OQ (k_35 v1 v3 v4 v5 v6 s) (fun r9 s9 => JC 0 s0 s9 ∧ True ∧ (r9 = 0 → True) ∧ (¬ r9 = 0 → True))) (v1 : Int32) (v3 : Int32) (v4 : Int32) (v5 : Int32) (v6 : Int32) (t0 : Int32) (s : Sg) (hJ : JC 0 s0 s) (p_v1 : 0 ≤ v1.toInt ∧ v1.toInt ≤ 7) (p_v3 : (-1) ≤ v3.toInt ∧ v3.toInt ≤ 7) (p_v6 : 0 ≤ v6.toInt ∧ v6.toInt ≤ 7) (hm_35 : 8 - v6.toInt < (m_35 : Int) + 1) : OQ (f_X9_contentAt_25_b71 k_35 v1 v3 v4 v5 v6 t0 s) (fun r9 s9 => JC 0 s0 s9 ∧ True ∧ (r9 = 0 → True) ∧ (¬ r9 = 0 → True)) := by
  unfold f_X9_contentAt_25_b71
  refine oq_if (fun c1 => ?_) (fun c1 => ?_)
  · refine oq_n (fun x5 ex5 => ?_)
    exact hk_35 _ _ _ _ _ _ hJ (by have f0 := p_v1; have f1 := i_rg v1; omega) (by have f0 := p_v3; have f1 := i_rg v3; omega) (by have f0 := i_add (v6) ((1 : Int32)); have f1 := p_v6; have f2 := i_rg v6; have f3 : (1 : Int32).toInt = 1 := rfl; omega) (by have g0 := i_add (v6) ((1 : Int32)); have g1 := p_v1; have g2 := i_rg v1; have g3 := p_v3; have g4 := i_rg v3; have g5 := i_rg v4; have g6 := i_eq ex5; have g7 := ite_lt (t0) (v5) (t0) (v5); have g8 := i_sub (v5) (if t0 < v5 then t0 else v5); have g9 := i_rg x5; have g10 := p_v6; have g11 := i_rg v6; have g12 : (1 : Int32).toInt = 1 := rfl; have g13 := i_rg v5; have g14 := i_rg t0; have g15 := i_lt c1; have g16 := hm_35; omega)
  · refine oq_n (fun x6 ex6 => ?_)
    refine oq_n (fun x7 ex7 => ?_)
    exact hk_35 _ _ _ _ _ _ hJ (by have f0 := p_v1; have f1 := i_rg v1; omega) (by have f0 := p_v3; have f1 := i_rg v3; omega) (by have f0 := i_add (v6) ((1 : Int32)); have f1 := p_v6; have f2 := i_rg v6; have f3 : (1 : Int32).toInt = 1 := rfl; omega) (by have g0 := i_add (v6) ((1 : Int32)); have g1 := p_v1; have g2 := i_rg v1; have g3 := p_v3; have g4 := i_rg v3; have g5 := i_eq ex6; have g6 := i_and (v6) ((31 : Int32)) (by decide); have g7 := i_sh (v6) (by have f0 := p_v6; have f1 := i_rg v6; omega); have g8 := i_rg x6; have g9 := i_eq ex7; have g10 := ite_lt (t0) (v5) (t0) (v5); have g11 := i_sub (v5) (if t0 < v5 then t0 else v5); have g12 := i_rg x7; have g13 := p_v6; have g14 := i_rg v6; have g15 : (1 : Int32).toInt = 1 := rfl; have g16 := i_rg v4; have g17 : (31 : Int32).toInt = 31 := rfl; have g18 := i_rg v5; have g19 := i_rg t0; have g20 := i_nlt c1; have g21 := hm_35; omega)
theorem h_X9_contentAt_25_b35 {s0 : Sg} (n : Nat) : ∀ (v1 : Int32) (v3 : Int32) (v4 : Int32) (v5 : Int32) (v6 : Int32) (s : Sg), JC 0 s0 s → 0 ≤ v1.toInt ∧ v1.toInt ≤ 7 → (-1) ≤ v3.toInt ∧ v3.toInt ≤ 7 → 0 ≤ v6.toInt ∧ v6.toInt ≤ 8 → 8 - v6.toInt < (n : Int) → OQ (f_X9_contentAt_25_b35 n v1 v3 v4 v5 v6 s) (fun r9 s9 => JC 0 s0 s9 ∧ True ∧ (r9 = 0 → True) ∧ (¬ r9 = 0 → True)) := by
  induction n with
  | zero => intro v1 v3 v4 v5 v6 s hJ p_v1 p_v3 p_v6 hn; exact False.elim (by have g0 := hn; have g1 := p_v1; have g2 := p_v3; have g3 := p_v6; have g4 := i_rg v1; have g5 := i_rg v3; have g6 := i_rg v4; have g7 := i_rg v5; have g8 := i_rg v6; omega)
  | succ n ih =>
    intro v1 v3 v4 v5 v6 s hJ p_v1 p_v3 p_v6 hn
    unfold f_X9_contentAt_25_b35
    refine oq_if (fun c1 => ?_) (fun c1 => ?_)
    · exact ⟨hJ, trivial, fun _ => trivial, fun _ => trivial⟩
    · refine oq_b (h_X4_isAt _ _ hJ.1 (by have f0 := p_v6; have f1 := i_rg v6; have f2 := i_nle c1; have f3 := j_rd hJ 25 14 0 8 rfl; omega) (by have f0 := p_v1; have f1 := i_rg v1; omega)) (fun r3 s4 hs4 => ?_)
      have js4 : JC 0 s0 s4 := j_call hJ hs4.1 rfl
      refine oq_if (fun c2 => ?_) (fun c2 => ?_)
      · exact ih _ _ _ _ _ _ js4 (by have f0 := p_v1; have f1 := i_rg v1; omega) (by have f0 := p_v3; have f1 := i_rg v3; omega) (by have f0 := i_add (v6) ((1 : Int32)); have f1 := p_v6; have f2 := i_rg v6; have f3 : (1 : Int32).toInt = 1 := rfl; have f4 := i_nle c1; have f5 := j_rd hJ 25 14 0 8 rfl; omega) (by have g0 := i_add (v6) ((1 : Int32)); have g1 := p_v1; have g2 := i_rg v1; have g3 := p_v3; have g4 := i_rg v3; have g5 := i_rg v4; have g6 := i_rg v5; have g7 := p_v6; have g8 := i_rg v6; have g9 : (1 : Int32).toInt = 1 := rfl; have g10 := i_nle c1; have g11 := j_rd hJ 25 14 0 8 rfl; have g12 := hn; omega)
      · refine oq_if (fun c3 => ?_) (fun c3 => ?_)
        · exact h_X9_contentAt_25_b71 _ n ih _ _ _ _ _ _ _ js4 (by have f0 := p_v1; have f1 := i_rg v1; omega) (by have f0 := p_v3; have f1 := i_rg v3; have f2 := i_eq c3; have f3 := p_v6; have f4 := i_rg v6; have f5 := i_nle c1; have f6 := j_rd hJ 25 14 0 8 rfl; omega) (by have f0 := p_v6; have f1 := i_rg v6; have f2 := i_nle c1; have f3 := i_eq c3; have f4 := j_rd hJ 25 14 0 8 rfl; have f5 := p_v3; have f6 := i_rg v3; omega) (by have g0 := p_v1; have g1 := i_rg v1; have g2 := p_v3; have g3 := i_rg v3; have g4 := i_rg v4; have g5 := i_rg v5; have g6 := p_v6; have g7 := i_rg v6; have g8 : (0 : Int32).toInt = 0 := rfl; have g9 := i_nle c1; have g10 := i_eq c3; have g11 := j_rd hJ 25 14 0 8 rfl; have g12 := hn; omega)
        · refine oq_c (inr_of (by have f0 := p_v6; have f1 := i_rg v6; have f2 := i_nle c1; have f3 := i_ne c3; have f4 := j_rd hJ 25 14 0 8 rfl; have f5 := p_v3; have f6 := i_rg v3; omega)) ?_
          exact h_X9_contentAt_25_b71 _ n ih _ _ _ _ _ _ _ js4 (by have f0 := p_v1; have f1 := i_rg v1; omega) (by have f0 := p_v3; have f1 := i_rg v3; have f2 := i_ne c3; have f3 := p_v6; have f4 := i_rg v6; have f5 := i_nle c1; have f6 := j_rd hJ 25 14 0 8 rfl; omega) (by have f0 := p_v6; have f1 := i_rg v6; have f2 := i_nle c1; have f3 := i_ne c3; have f4 := j_rd hJ 25 14 0 8 rfl; have f5 := p_v3; have f6 := i_rg v3; omega) (by have g0 := p_v1; have g1 := i_rg v1; have g2 := p_v3; have g3 := i_rg v3; have g4 := i_rg v4; have g5 := i_rg v5; have g6 := p_v6; have g7 := i_rg v6; have g8 : (s4.1 33 v6.toNatClampNeg).toInt = (s.1 33 v6.toNatClampNeg).toInt := j_fr hs4.1 33 v6.toNatClampNeg 33 rfl rfl; have g9 := i_rg (s4.1 33 v6.toNatClampNeg); have g10 := i_rg (s.1 33 v6.toNatClampNeg); have g11 := i_nle c1; have g12 := i_ne c3; have g13 := j_rd hJ 25 14 0 8 rfl; have g14 := hn; omega)
theorem h_X9_contentAt_25 (a1 : Int32) (a2 : Int32) (a3 : Int32) {s : Sg} (hR : Rg rC s) (p_a1 : 0 ≤ a1.toInt ∧ a1.toInt ≤ 7) (p_a3 : (-1) ≤ a3.toInt ∧ a3.toInt ≤ 7) : OQ (f_X9_contentAt_25 a1 a2 a3 s) (fun r9 s9 => JC 0 s s9 ∧ True ∧ (r9 = 0 → True) ∧ (¬ r9 = 0 → True)) := by
  have hJ : JC 0 s s := j_refl hR
  unfold f_X9_contentAt_25
  refine oq_b (h_X4_isGone _ hJ.1 (by have f0 := p_a1; have f1 := i_rg a1; omega)) (fun r1 s2 hs2 => ?_)
  have js2 : JC 0 s s2 := j_call hJ hs2.1 rfl
  refine oq_if (fun c1 => ?_) (fun c1 => ?_)
  · exact h_X9_contentAt_25_b35 BIG _ _ _ _ _ _ js2 (by have f0 := p_a1; have f1 := i_rg a1; omega) (by have f0 := p_a3; have f1 := i_rg a3; omega) (by have f0 : (0 : Int32).toInt = 0 := rfl; omega) (by have g0 := p_a1; have g1 := i_rg a1; have g2 := p_a3; have g3 := i_rg a3; have g4 : (0 : Int32).toInt = 0 := rfl; have g5 := i_rg a2; have g6 : BIG = 4294967296 := rfl; omega)
  · refine oq_if (fun c2 => ?_) (fun c2 => ?_)
    · exact ⟨js2, trivial, fun _ => trivial, fun w9 => absurd rfl w9⟩
    · refine oq_c (inr_of (by have f0 := p_a1; have f1 := i_rg a1; omega)) ?_
      exact ⟨js2, trivial, fun _ => trivial, fun _ => trivial⟩
theorem h_X9_atPeace_26_25_b8 {s0 : Sg} (n : Nat) : ∀ (v2 : Int32) (v3 : Int32) (v4 : Int32) (s : Sg), JC 0 s0 s → (-1) ≤ v2.toInt ∧ v2.toInt ≤ 7 → 0 ≤ v4.toInt ∧ v4.toInt ≤ 8 → 8 - v4.toInt < (n : Int) → OQ (f_X9_atPeace_26_25_b8 n v2 v3 v4 s) (fun r9 s9 => JC 0 s0 s9 ∧ True ∧ (r9 = 0 → True) ∧ (¬ r9 = 0 → True)) := by
  induction n with
  | zero => intro v2 v3 v4 s hJ p_v2 p_v4 hn; exact False.elim (by have g0 := hn; have g1 := p_v2; have g2 := p_v4; have g3 := i_rg v2; have g4 := i_rg v3; have g5 := i_rg v4; omega)
  | succ n ih =>
    intro v2 v3 v4 s hJ p_v2 p_v4 hn
    unfold f_X9_atPeace_26_25_b8
    refine oq_if (fun c1 => ?_) (fun c1 => ?_)
    · exact ⟨hJ, trivial, fun _ => trivial, fun _ => trivial⟩
    · refine oq_c (inr_of (by have f0 := p_v4; have f1 := i_rg v4; have f2 := i_nle c1; have f3 := j_rd hJ 25 13 0 8 rfl; omega)) ?_
      refine oq_b (h_X2_inSight _ hJ.1 (by have f0 := p_v4; have f1 := i_rg v4; have f2 := i_nle c1; have f3 := j_rd hJ 25 13 0 8 rfl; omega)) (fun r4 s5 hs5 => ?_)
      have js5 : JC 0 s0 s5 := j_call hJ hs5.1 rfl
      refine oq_b (h_X9_contentAt_25 _ _ _ js5.1 (by have f0 := p_v4; have f1 := i_rg v4; have f2 := i_nle c1; have f3 := j_rd hJ 25 13 0 8 rfl; omega) (by have f0 := p_v2; have f1 := i_rg v2; omega)) (fun r6 s7 hs7 => ?_)
      have js7 : JC 0 s0 s7 := j_call js5 hs7.1 rfl
      refine oq_n (fun x8 ex8 => ?_)
      exact ih _ _ _ _ js7 (by have f0 := p_v2; have f1 := i_rg v2; omega) (by have f0 := i_add (v4) ((1 : Int32)); have f1 := p_v4; have f2 := i_rg v4; have f3 : (1 : Int32).toInt = 1 := rfl; have f4 := i_nle c1; have f5 := j_rd hJ 25 13 0 8 rfl; omega) (by have g0 := i_add (v4) ((1 : Int32)); have g1 := p_v2; have g2 := i_rg v2; have g3 := i_eq ex8; have g4 := i_rg x8; have g5 := p_v4; have g6 := i_rg v4; have g7 : (1 : Int32).toInt = 1 := rfl; have g8 := i_rg v3; have g9 := i_rg (s.1 34 v4.toNatClampNeg); have g10 : ((-1) : Int32).toInt = (-1) := rfl; have g11 := i_rg r6; have g12 := i_nle c1; have g13 := j_rd hJ 25 13 0 8 rfl; have g14 := hn; omega)
theorem h_X9_atPeace_26_25 (a2 : Int32) {s : Sg} (hR : Rg rC s) (p_a2 : (-1) ≤ a2.toInt ∧ a2.toInt ≤ 7) : OQ (f_X9_atPeace_26_25 a2 s) (fun r9 s9 => JC 0 s s9 ∧ True ∧ (r9 = 0 → True) ∧ (¬ r9 = 0 → True)) := by
  have hJ : JC 0 s s := j_refl hR
  unfold f_X9_atPeace_26_25
  refine oq_b (h_X4_allQuarrels  hJ.1) (fun r1 s2 hs2 => ?_)
  have js2 : JC 0 s s2 := j_call hJ hs2.1 rfl
  exact h_X9_atPeace_26_25_b8 BIG _ _ _ _ js2 (by have f0 := p_a2; have f1 := i_rg a2; omega) (by have f0 : (0 : Int32).toInt = 0 := rfl; omega) (by have g0 := p_a2; have g1 := i_rg a2; have g2 := hs2.2.1; have g3 := i_rg r1; have g4 : (0 : Int32).toInt = 0 := rfl; have g5 : BIG = 4294967296 := rfl; omega)
theorem h_X11_peace  {s : Sg} (hR : Rg rC s) : OQ (f_X11_peace  s) (fun r9 s9 => JC 47890485652059026823698344598447161988085597568237568 s s9 ∧ True ∧ (r9 = 0 → True) ∧ (¬ r9 = 0 → True)) := by
  have hJ : JC 47890485652059026823698344598447161988085597568237568 s s := j_refl hR
  unfold f_X11_peace
  refine oq_b (h_X9_atPeace_26_25 _ hJ.1 (by have f0 : ((-1) : Int32).toInt = (-1) := rfl; omega)) (fun r1 s2 hs2 => ?_)
  have js2 : JC 47890485652059026823698344598447161988085597568237568 s s2 := j_call hJ hs2.1 rfl
  refine oq_b (h_X11_answer _ js2.1) (fun r3 s4 hs4 => ?_)
  have js4 : JC 47890485652059026823698344598447161988085597568237568 s s4 := j_call js2 hs4.1 rfl
  exact ⟨js4, trivial, fun _ => trivial, fun _ => trivial⟩
theorem h_X9_calmAt_25_b34 {s0 : Sg} (n : Nat) : ∀ (v1 : Int32) (v3 : Int32) (v4 : Int32) (v5 : Int32) (s : Sg), JC 0 s0 s → 0 ≤ v1.toInt ∧ v1.toInt ≤ 7 → 0 ≤ v5.toInt ∧ v5.toInt ≤ 8 → 8 - v5.toInt < (n : Int) → OQ (f_X9_calmAt_25_b34 n v1 v3 v4 v5 s) (fun r9 s9 => JC 0 s0 s9 ∧ True ∧ (r9 = 0 → True) ∧ (¬ r9 = 0 → True)) := by
  induction n with
  | zero => intro v1 v3 v4 v5 s hJ p_v1 p_v5 hn; exact False.elim (by have g0 := hn; have g1 := p_v1; have g2 := p_v5; have g3 := i_rg v1; have g4 := i_rg v3; have g5 := i_rg v4; have g6 := i_rg v5; omega)
  | succ n ih =>
    intro v1 v3 v4 v5 s hJ p_v1 p_v5 hn
    unfold f_X9_calmAt_25_b34
    refine oq_if (fun c1 => ?_) (fun c1 => ?_)
    · exact ⟨hJ, trivial, fun _ => trivial, fun _ => trivial⟩
    · refine oq_if (fun c2 => ?_) (fun c2 => ?_)
      · exact ⟨hJ, trivial, fun _ => trivial, fun _ => trivial⟩
      · refine oq_b (h_X4_isAt _ _ hJ.1 (by have f0 := p_v5; have f1 := i_rg v5; have f2 := i_nle c1; have f3 := j_rd hJ 25 14 0 8 rfl; omega) (by have f0 := p_v1; have f1 := i_rg v1; omega)) (fun r3 s4 hs4 => ?_)
        have js4 : JC 0 s0 s4 := j_call hJ hs4.1 rfl
        refine oq_if (fun c3 => ?_) (fun c3 => ?_)
        · exact ih _ _ _ _ _ js4 (by have f0 := p_v1; have f1 := i_rg v1; omega) (by have f0 := i_add (v5) ((1 : Int32)); have f1 := p_v5; have f2 := i_rg v5; have f3 : (1 : Int32).toInt = 1 := rfl; have f4 := i_nle c1; have f5 := j_rd hJ 25 14 0 8 rfl; omega) (by have g0 := i_add (v5) ((1 : Int32)); have g1 := p_v1; have g2 := i_rg v1; have g3 := i_rg v3; have g4 := i_rg v4; have g5 := p_v5; have g6 := i_rg v5; have g7 : (1 : Int32).toInt = 1 := rfl; have g8 := i_nle c1; have g9 := i_nle c2; have g10 := j_rd hJ 25 14 0 8 rfl; have g11 : (0 : Int32).toInt = 0 := rfl; have g12 := hn; omega)
        · refine oq_n (fun x5 ex5 => ?_)
          refine oq_c (inr_of (by have f0 := p_v5; have f1 := i_rg v5; have f2 := i_nle c1; have f3 := j_rd hJ 25 14 0 8 rfl; omega)) ?_
          refine oq_n (fun x7 ex7 => ?_)
          exact ih _ _ _ _ _ js4 (by have f0 := p_v1; have f1 := i_rg v1; omega) (by have f0 := i_add (v5) ((1 : Int32)); have f1 := p_v5; have f2 := i_rg v5; have f3 : (1 : Int32).toInt = 1 := rfl; have f4 := i_nle c1; have f5 := j_rd hJ 25 14 0 8 rfl; omega) (by have g0 := i_add (v5) ((1 : Int32)); have g1 := p_v1; have g2 := i_rg v1; have g3 := i_eq ex5; have g4 := i_and (v5) ((31 : Int32)) (by decide); have g5 := i_sh (v5) (by have f0 := p_v5; have f1 := i_rg v5; have f2 := i_nle c1; have f3 := j_rd hJ 25 14 0 8 rfl; omega); have g6 := i_rg x5; have g7 := i_eq ex7; have g8 := i_sub (v4) (s4.1 33 v5.toNatClampNeg); have g9 := i_rg x7; have g10 := p_v5; have g11 := i_rg v5; have g12 : (1 : Int32).toInt = 1 := rfl; have g13 := i_rg v3; have g14 : (31 : Int32).toInt = 31 := rfl; have g15 := i_rg v4; have g16 : (s4.1 33 v5.toNatClampNeg).toInt = (s.1 33 v5.toNatClampNeg).toInt := j_fr hs4.1 33 v5.toNatClampNeg 33 rfl rfl; have g17 := i_rg (s4.1 33 v5.toNatClampNeg); have g18 := i_rg (s.1 33 v5.toNatClampNeg); have g19 := i_nle c1; have g20 := i_nle c2; have g21 := j_rd hJ 25 14 0 8 rfl; have g22 : (0 : Int32).toInt = 0 := rfl; have g23 := hn; omega)
theorem h_X9_calmAt_25 (a1 : Int32) (a2 : Int32) {s : Sg} (hR : Rg rC s) (p_a1 : 0 ≤ a1.toInt ∧ a1.toInt ≤ 7) : OQ (f_X9_calmAt_25 a1 a2 s) (fun r9 s9 => JC 0 s s9 ∧ True ∧ (r9 = 0 → True) ∧ (¬ r9 = 0 → True)) := by
  have hJ : JC 0 s s := j_refl hR
  unfold f_X9_calmAt_25
  refine oq_b (h_X4_isGone _ hJ.1 (by have f0 := p_a1; have f1 := i_rg a1; omega)) (fun r1 s2 hs2 => ?_)
  have js2 : JC 0 s s2 := j_call hJ hs2.1 rfl
  refine oq_if (fun c1 => ?_) (fun c1 => ?_)
  · exact h_X9_calmAt_25_b34 BIG _ _ _ _ _ js2 (by have f0 := p_a1; have f1 := i_rg a1; omega) (by have f0 : (0 : Int32).toInt = 0 := rfl; omega) (by have g0 := p_a1; have g1 := i_rg a1; have g2 : (0 : Int32).toInt = 0 := rfl; have g3 := i_rg a2; have g4 : BIG = 4294967296 := rfl; omega)
  · refine oq_if (fun c2 => ?_) (fun c2 => ?_)
    · exact ⟨js2, trivial, fun _ => trivial, fun w9 => absurd rfl w9⟩
    · refine oq_c (inr_of (by have f0 := p_a1; have f1 := i_rg a1; omega)) ?_
      exact ⟨js2, trivial, fun _ => trivial, fun _ => trivial⟩
theorem h_X9_inTruce_26_25_b7 {s0 : Sg} (n : Nat) : ∀ (v2 : Int32) (v3 : Int32) (s : Sg), JC 0 s0 s → 0 ≤ v3.toInt ∧ v3.toInt ≤ 8 → 8 - v3.toInt < (n : Int) → OQ (f_X9_inTruce_26_25_b7 n v2 v3 s) (fun r9 s9 => JC 0 s0 s9 ∧ True ∧ (r9 = 0 → True) ∧ (¬ r9 = 0 → True)) := by
  induction n with
  | zero => intro v2 v3 s hJ p_v3 hn; exact False.elim (by have g0 := hn; have g1 := p_v3; have g2 := i_rg v2; have g3 := i_rg v3; omega)
  | succ n ih =>
    intro v2 v3 s hJ p_v3 hn
    unfold f_X9_inTruce_26_25_b7
    refine oq_if (fun c1 => ?_) (fun c1 => ?_)
    · exact ⟨hJ, trivial, fun _ => trivial, fun _ => trivial⟩
    · refine oq_c (inr_of (by have f0 := p_v3; have f1 := i_rg v3; have f2 := i_nle c1; have f3 := j_rd hJ 25 13 0 8 rfl; omega)) ?_
      refine oq_b (h_X2_inSight _ hJ.1 (by have f0 := p_v3; have f1 := i_rg v3; have f2 := i_nle c1; have f3 := j_rd hJ 25 13 0 8 rfl; omega)) (fun r4 s5 hs5 => ?_)
      have js5 : JC 0 s0 s5 := j_call hJ hs5.1 rfl
      refine oq_b (h_X9_calmAt_25 _ _ js5.1 (by have f0 := p_v3; have f1 := i_rg v3; have f2 := i_nle c1; have f3 := j_rd hJ 25 13 0 8 rfl; omega)) (fun r6 s7 hs7 => ?_)
      have js7 : JC 0 s0 s7 := j_call js5 hs7.1 rfl
      refine oq_n (fun x8 ex8 => ?_)
      exact ih _ _ _ js7 (by have f0 := i_add (v3) ((1 : Int32)); have f1 := p_v3; have f2 := i_rg v3; have f3 : (1 : Int32).toInt = 1 := rfl; have f4 := i_nle c1; have f5 := j_rd hJ 25 13 0 8 rfl; omega) (by have g0 := i_add (v3) ((1 : Int32)); have g1 := i_eq ex8; have g2 := i_rg x8; have g3 := p_v3; have g4 := i_rg v3; have g5 : (1 : Int32).toInt = 1 := rfl; have g6 := i_rg v2; have g7 := i_rg (s.1 34 v3.toNatClampNeg); have g8 : ((-1) : Int32).toInt = (-1) := rfl; have g9 := i_rg r6; have g10 := i_nle c1; have g11 := j_rd hJ 25 13 0 8 rfl; have g12 := hn; omega)
theorem h_X9_inTruce_26_25  {s : Sg} (hR : Rg rC s) : OQ (f_X9_inTruce_26_25  s) (fun r9 s9 => JC 0 s s9 ∧ True ∧ (r9 = 0 → True) ∧ (¬ r9 = 0 → True)) := by
  have hJ : JC 0 s s := j_refl hR
  unfold f_X9_inTruce_26_25
  refine oq_b (h_X4_allQuarrels  hJ.1) (fun r1 s2 hs2 => ?_)
  have js2 : JC 0 s s2 := j_call hJ hs2.1 rfl
  exact h_X9_inTruce_26_25_b7 BIG _ _ _ js2 (by have f0 : (0 : Int32).toInt = 0 := rfl; omega) (by have g0 := hs2.2.1; have g1 := i_rg r1; have g2 : (0 : Int32).toInt = 0 := rfl; have g3 : BIG = 4294967296 := rfl; omega)
theorem h_X11_truce  {s : Sg} (hR : Rg rC s) : OQ (f_X11_truce  s) (fun r9 s9 => JC 47890485652059026823698344598447161988085597568237568 s s9 ∧ True ∧ (r9 = 0 → True) ∧ (¬ r9 = 0 → True)) := by
  have hJ : JC 47890485652059026823698344598447161988085597568237568 s s := j_refl hR
  unfold f_X11_truce
  refine oq_b (h_X9_inTruce_26_25  hJ.1) (fun r1 s2 hs2 => ?_)
  have js2 : JC 47890485652059026823698344598447161988085597568237568 s s2 := j_call hJ hs2.1 rfl
  refine oq_b (h_X11_answer _ js2.1) (fun r3 s4 hs4 => ?_)
  have js4 : JC 47890485652059026823698344598447161988085597568237568 s s4 := j_call js2 hs4.1 rfl
  exact ⟨js4, trivial, fun _ => trivial, fun _ => trivial⟩
theorem h_X11_over  {s : Sg} (hR : Rg rC s) : OQ (f_X11_over  s) (fun r9 s9 => JC 47890485652059026823698344598447161988085597568237568 s s9 ∧ True ∧ (r9 = 0 → True) ∧ (¬ r9 = 0 → True)) := by
  have hJ : JC 47890485652059026823698344598447161988085597568237568 s s := j_refl hR
  unfold f_X11_over
  refine oq_b (h_X11_answer _ hJ.1) (fun r1 s2 hs2 => ?_)
  have js2 : JC 47890485652059026823698344598447161988085597568237568 s s2 := j_call hJ hs2.1 rfl
  exact ⟨js2, trivial, fun _ => trivial, fun _ => trivial⟩
theorem h_X4_withoutHope_b4 {s0 : Sg} (n : Nat) : ∀ (v1 : Int32) (v2 : Int32) (s : Sg), JC 0 s0 s → 0 ≤ v2.toInt ∧ v2.toInt ≤ 8 → 8 - v2.toInt < (n : Int) → OQ (f_X4_withoutHope_b4 n v1 v2 s) (fun r9 s9 => JC 0 s0 s9 ∧ True ∧ (r9 = 0 → True) ∧ (¬ r9 = 0 → True)) := by
  induction n with
  | zero => intro v1 v2 s hJ p_v2 hn; exact False.elim (by have g0 := hn; have g1 := p_v2; have g2 := i_rg v1; have g3 := i_rg v2; omega)
  | succ n ih =>
    intro v1 v2 s hJ p_v2 hn
    unfold f_X4_withoutHope_b4
    refine oq_if (fun c1 => ?_) (fun c1 => ?_)
    · exact ⟨hJ, trivial, fun _ => trivial, fun _ => trivial⟩
    · refine oq_if (fun c2 => ?_) (fun c2 => ?_)
      · refine oq_b (h_X4_isGone _ hJ.1 (by have f0 := p_v2; have f1 := i_rg v2; have f2 := i_nle c1; have f3 := j_rd hJ 25 13 0 8 rfl; omega)) (fun r1 s2 hs2 => ?_)
        have js2 : JC 0 s0 s2 := j_call hJ hs2.1 rfl
        refine oq_if (fun c3 => ?_) (fun c3 => ?_)
        · exact ih _ _ _ js2 (by have f0 := i_add (v2) ((1 : Int32)); have f1 := p_v2; have f2 := i_rg v2; have f3 : (1 : Int32).toInt = 1 := rfl; have f4 := i_nle c1; have f5 := j_rd hJ 25 13 0 8 rfl; omega) (by have g0 := i_add (v2) ((1 : Int32)); have g1 := i_rg v1; have g2 := p_v2; have g3 := i_rg v2; have g4 : (1 : Int32).toInt = 1 := rfl; have g5 := i_nle c1; have g6 := j_rd hJ 25 13 0 8 rfl; have g7 := hn; omega)
        · refine oq_c (inr_of (by have f0 := p_v2; have f1 := i_rg v2; have f2 := i_nle c1; have f3 := j_rd hJ 25 13 0 8 rfl; omega)) ?_
          refine oq_n (fun x4 ex4 => ?_)
          exact ih _ _ _ js2 (by have f0 := i_add (v2) ((1 : Int32)); have f1 := p_v2; have f2 := i_rg v2; have f3 : (1 : Int32).toInt = 1 := rfl; have f4 := i_nle c1; have f5 := j_rd hJ 25 13 0 8 rfl; omega) (by have g0 := i_add (v2) ((1 : Int32)); have g1 := i_eq ex4; have g2 := i_rg x4; have g3 := p_v2; have g4 := i_rg v2; have g5 : (1 : Int32).toInt = 1 := rfl; have g6 := i_rg v1; have g7 : (s2.1 34 v2.toNatClampNeg).toInt = (s.1 34 v2.toNatClampNeg).toInt := j_fr hs2.1 34 v2.toNatClampNeg 34 rfl rfl; have g8 := i_rg (s2.1 34 v2.toNatClampNeg); have g9 := i_rg (s.1 34 v2.toNatClampNeg); have g10 := i_nle c1; have g11 := j_rd hJ 25 13 0 8 rfl; have g12 := hn; omega)
      · exact ⟨hJ, trivial, fun _ => trivial, fun _ => trivial⟩
theorem h_X4_withoutHope  {s : Sg} (hR : Rg rC s) : OQ (f_X4_withoutHope  s) (fun r9 s9 => JC 0 s s9 ∧ True ∧ (r9 = 0 → True) ∧ (¬ r9 = 0 → True)) := by
  have hJ : JC 0 s s := j_refl hR
  unfold f_X4_withoutHope
  exact h_X4_withoutHope_b4 BIG _ _ _ hJ (by have f0 : (0 : Int32).toInt = 0 := rfl; omega) (by have g0 : (0 : Int32).toInt = 0 := rfl; have g1 : BIG = 4294967296 := rfl; omega)
theorem h_X11_hopeless  {s : Sg} (hR : Rg rC s) : OQ (f_X11_hopeless  s) (fun r9 s9 => JC 47890485652059026823698344598447161988085597568237568 s s9 ∧ True ∧ (r9 = 0 → True) ∧ (¬ r9 = 0 → True)) := by
  have hJ : JC 47890485652059026823698344598447161988085597568237568 s s := j_refl hR
  unfold f_X11_hopeless
  refine oq_b (h_X4_withoutHope  hJ.1) (fun r1 s2 hs2 => ?_)
  have js2 : JC 47890485652059026823698344598447161988085597568237568 s s2 := j_call hJ hs2.1 rfl
  refine oq_b (h_X11_answer _ js2.1) (fun r3 s4 hs4 => ?_)
  have js4 : JC 47890485652059026823698344598447161988085597568237568 s s4 := j_call js2 hs4.1 rfl
  exact ⟨js4, trivial, fun _ => trivial, fun _ => trivial⟩
theorem h_X2_hasRoom (a1 : Int32) (a2 : Int32) {s : Sg} (hR : Rg rC s) (p_a1 : 0 ≤ a1.toInt ∧ a1.toInt ≤ 7) : OQ (f_X2_hasRoom a1 a2 s) (fun r9 s9 => JC 0 s s9 ∧ (0 ≤ r9.toInt ∧ r9.toInt ≤ 1) ∧ (r9 = 0 → True) ∧ (¬ r9 = 0 → True)) := by
  have hJ : JC 0 s s := j_refl hR
  unfold f_X2_hasRoom
  refine oq_b (h_X2_lying _ hJ.1 (by have f0 := p_a1; have f1 := i_rg a1; omega)) (fun r1 s2 hs2 => ?_)
  have js2 : JC 0 s s2 := j_call hJ hs2.1 rfl
  refine oq_if (fun c1 => ?_) (fun c1 => ?_)
  · exact ⟨js2, (by have f0 : (0 : Int32).toInt = 0 := rfl; omega), fun _ => trivial, fun w9 => absurd rfl w9⟩
  · exact ⟨js2, (by have f0 : (1 : Int32).toInt = 1 := rfl; omega), fun w9 => absurd w9 (by decide), fun _ => trivial⟩
theorem h_X2_addSalt (a1 : Int32) (a2 : Int32) {s : Sg} (hR : Rg rC s) (p_a1 : 0 ≤ a1.toInt ∧ a1.toInt ≤ 7) : OQ (f_X2_addSalt a1 a2 s) (fun _ s9 => JC 1099578736640 s s9 ∧ True) := by
  have hJ : JC 1099578736640 s s := j_refl hR
  unfold f_X2_addSalt
  refine oq_c (inr_of (by have f0 := p_a1; have f1 := i_rg a1; omega)) ?_
  refine oq_n (fun s2 es2 => ?_)
  have js2 : JC 1099578736640 s s2 := by rw [es2]; exact (j_wf hJ rfl 40 rfl rfl)
  exact ⟨(j_wf js2 rfl 26 rfl rfl), trivial⟩
theorem h_X11_strew (a1 : Int32) (a2 : Int32) {s : Sg} (hR : Rg rC s) : OQ (f_X11_strew a1 a2 s) (fun r9 s9 => JC 47890485652059026823698344598447161988086697146974208 s s9 ∧ True ∧ (r9 = 0 → 0 ≤ (a1).toInt ∧ (a1).toInt ≤ 7) ∧ (¬ r9 = 0 → True)) := by
  have hJ : JC 47890485652059026823698344598447161988086697146974208 s s := j_refl hR
  unfold f_X11_strew
  refine oq_b (h_X11_within _ _ _ hJ.1 (by have f0 : (1 : Int32).toInt = 1 := rfl; omega) (by have f0 : (999 : Int32).toInt = 999 := rfl; omega)) (fun r1 s2 hs2 => ?_)
  have js2 : JC 47890485652059026823698344598447161988086697146974208 s s2 := j_call hJ hs2.1 rfl
  refine oq_b (h_X11_whyNoStep _ _ js2.1 (by have f0 := hs2.2.1; have f1 := i_rg r1; omega)) (fun r3 s4 hs4 => ?_)
  have js4 : JC 47890485652059026823698344598447161988086697146974208 s s4 := j_call js2 hs4.1 rfl
  refine oq_if (fun c1 => ?_) (fun c1 => ?_)
  · refine oq_b (h_X2_hasRoom _ _ js4.1 (by have f0 := i_rg a1; have f1 := (hs4.2.2.1 c1).1; have f2 := (hs4.2.2.1 c1).2.1; have f3 : (0 : Int32).toInt = 0 := rfl; have f4 : (7 : Int32).toInt = 7 := rfl; omega)) (fun r5 s6 hs6 => ?_)
    have js6 : JC 47890485652059026823698344598447161988086697146974208 s s6 := j_call js4 hs6.1 rfl
    refine oq_if (fun c2 => ?_) (fun c2 => ?_)
    · refine oq_b (h_X11_refuse _ js6.1 (by have f0 : (4 : Int32).toInt = 4 := rfl; omega)) (fun r7 s8 hs8 => ?_)
      have js8 : JC 47890485652059026823698344598447161988086697146974208 s s8 := j_call js6 hs8.1 rfl
      exact ⟨js8, trivial, fun w9 => False.elim (by have f0 := hs8.2.1; have f1 := i_rg r7; have f2 := i_eq w9; have f3 : (0 : Int32).toInt = 0 := rfl; omega), fun _ => trivial⟩
    · refine oq_b (h_X2_addSalt _ _ js6.1 (by have f0 := i_rg a1; have f1 := (hs4.2.2.1 c1).1; have f2 := (hs4.2.2.1 c1).2.1; have f3 : (0 : Int32).toInt = 0 := rfl; have f4 : (7 : Int32).toInt = 7 := rfl; omega)) (fun u3 s10 hs10 => ?_)
      have js10 : JC 47890485652059026823698344598447161988086697146974208 s s10 := j_call js6 hs10.1 rfl
      refine oq_c (inr_of (by have f0 := i_rg a1; have f1 := (hs4.2.2.1 c1).1; have f2 := (hs4.2.2.1 c1).2.1; have f3 : (0 : Int32).toInt = 0 := rfl; have f4 : (7 : Int32).toInt = 7 := rfl; omega)) ?_
      refine oq_b (h_X11_answer _ js10.1) (fun r12 s13 hs13 => ?_)
      have js13 : JC 47890485652059026823698344598447161988086697146974208 s s13 := j_call js10 hs13.1 rfl
      exact ⟨js13, trivial, fun w9 => ⟨(by have f0 : (0 : Int32).toInt = 0 := rfl; have f1 := i_rg a1; have f2 := (hs4.2.2.1 c1).1; have f3 := (hs4.2.2.1 c1).2.1; have f4 : (7 : Int32).toInt = 7 := rfl; omega), (by have f0 := i_rg a1; have f1 : (7 : Int32).toInt = 7 := rfl; have f2 := (hs4.2.2.1 c1).1; have f3 := (hs4.2.2.1 c1).2.1; have f4 : (0 : Int32).toInt = 0 := rfl; omega)⟩, fun _ => trivial⟩
  · refine oq_b (h_X11_refuse _ js4.1 (by have f0 := hs4.2.1; have f1 := i_rg r3; have f2 := i_ne c1; have f3 : (0 : Int32).toInt = 0 := rfl; omega)) (fun r14 s15 hs15 => ?_)
    have js15 : JC 47890485652059026823698344598447161988086697146974208 s s15 := j_call js4 hs15.1 rfl
    exact ⟨js15, trivial, fun w9 => False.elim (by have f0 := hs15.2.1; have f1 := i_rg r14; have f2 := i_eq w9; have f3 : (0 : Int32).toInt = 0 := rfl; omega), fun _ => trivial⟩
theorem h_X2_addBought_25 (a2 : Int32) (a3 : Int32) (a4 : Int32) {s : Sg} (hR : Rg rC s) (p_a2 : 0 ≤ a2.toInt ∧ a2.toInt ≤ 3) (p_a4 : 0 ≤ a4.toInt ∧ a4.toInt ≤ 7) : OQ (f_X2_addBought_25 a2 a3 a4 s) (fun r9 s9 => JC 20890788036608 s s9 ∧ True ∧ (r9 = 0 → True) ∧ (¬ r9 = 0 → True)) := by
  have hJ : JC 20890788036608 s s := j_refl hR
  unfold f_X2_addBought_25
  refine oq_c (inr_of (by have f0 := p_a2; have f1 := i_rg a2; omega)) ?_
  refine oq_n (fun x2 ex2 => ?_)
  refine oq_n (fun s3 es3 => ?_)
  have js3 : JC 20890788036608 s s3 := by rw [es3]; exact (j_wf hJ rfl 44 rfl rfl)
  refine oq_n (fun s4 es4 => ?_)
  have js4 : JC 20890788036608 s s4 := by rw [es4]; exact (j_wf js3 rfl 26 rfl rfl)
  refine oq_b (h_X2_addSalt _ _ js4.1 (by have f0 := p_a4; have f1 := i_rg a4; omega)) (fun u1 s6 hs6 => ?_)
  have js6 : JC 20890788036608 s s6 := j_call js4 hs6.1 rfl
  refine oq_c (inr_of (by have f0 := p_a4; have f1 := i_rg a4; omega)) ?_
  refine oq_n (fun s8 es8 => ?_)
  have js8 : JC 20890788036608 s s8 := by rw [es8]; exact (j_wf js6 rfl 41 rfl rfl)
  exact ⟨(j_wf js8 rfl 26 rfl rfl), trivial, fun _ => trivial, fun _ => trivial⟩
theorem h_X11_buy (a1 : Int32) (a2 : Int32) (a3 : Int32) {s : Sg} (hR : Rg rC s) : OQ (f_X11_buy a1 a2 a3 s) (fun r9 s9 => JC 47890485652059026823698344598447161988106488356274176 s s9 ∧ True ∧ (r9 = 0 → 0 ≤ (a1).toInt ∧ (a1).toInt ≤ 3 ∧ 1 ≤ (a2).toInt ∧ (a2).toInt ≤ 999 ∧ 0 ≤ (a3).toInt ∧ (a3).toInt ≤ 7) ∧ (¬ r9 = 0 → True)) := by
  have hJ : JC 47890485652059026823698344598447161988106488356274176 s s := j_refl hR
  unfold f_X11_buy
  refine oq_b (h_X11_isGrocer _ hJ.1) (fun r1 s2 hs2 => ?_)
  have js2 : JC 47890485652059026823698344598447161988106488356274176 s s2 := j_call hJ hs2.1 rfl
  refine oq_if (fun c1 => ?_) (fun c1 => ?_)
  · refine oq_b (h_X11_refuse _ js2.1 (by have f0 : (1 : Int32).toInt = 1 := rfl; omega)) (fun r3 s4 hs4 => ?_)
    have js4 : JC 47890485652059026823698344598447161988106488356274176 s s4 := j_call js2 hs4.1 rfl
    exact ⟨js4, trivial, fun w9 => False.elim (by have f0 := hs4.2.1; have f1 := i_rg r3; have f2 := i_eq w9; have f3 : (0 : Int32).toInt = 0 := rfl; omega), fun _ => trivial⟩
  · refine oq_b (h_X11_within _ _ _ js2.1 (by have f0 : (1 : Int32).toInt = 1 := rfl; omega) (by have f0 : (999 : Int32).toInt = 999 := rfl; omega)) (fun r5 s6 hs6 => ?_)
    have js6 : JC 47890485652059026823698344598447161988106488356274176 s s6 := j_call js2 hs6.1 rfl
    refine oq_if (fun c2 => ?_) (fun c2 => ?_)
    · refine oq_b (h_X11_refuse _ js6.1 (by have f0 : (1 : Int32).toInt = 1 := rfl; omega)) (fun r7 s8 hs8 => ?_)
      have js8 : JC 47890485652059026823698344598447161988106488356274176 s s8 := j_call js6 hs8.1 rfl
      exact ⟨js8, trivial, fun w9 => False.elim (by have f0 := hs8.2.1; have f1 := i_rg r7; have f2 := i_eq w9; have f3 : (0 : Int32).toInt = 0 := rfl; omega), fun _ => trivial⟩
    · refine oq_b (h_X11_isHouse _ js6.1) (fun r9 s10 hs10 => ?_)
      have js10 : JC 47890485652059026823698344598447161988106488356274176 s s10 := j_call js6 hs10.1 rfl
      refine oq_if (fun c3 => ?_) (fun c3 => ?_)
      · refine oq_b (h_X11_refuse _ js10.1 (by have f0 : (1 : Int32).toInt = 1 := rfl; have f1 := (hs6.2.2.2 c2).2.2.2; have f2 : (0 : Int32).toInt = 0 := rfl; have f3 : (999 : Int32).toInt = 999 := rfl; omega)) (fun r11 s12 hs12 => ?_)
        have js12 : JC 47890485652059026823698344598447161988106488356274176 s s12 := j_call js10 hs12.1 rfl
        exact ⟨js12, trivial, fun w9 => False.elim (by have f0 := hs12.2.1; have f1 := i_rg r11; have f2 := (hs6.2.2.2 c2).2.2.2; have f3 := i_eq w9; have f4 : (0 : Int32).toInt = 0 := rfl; have f5 : (999 : Int32).toInt = 999 := rfl; omega), fun _ => trivial⟩
      · refine oq_b (h_X2_hasRoom _ _ js10.1 (by have f0 := i_rg a3; have f1 := (hs6.2.2.2 c2).2.2.2; have f2 := (hs10.2.2.2 c3).1; have f3 := (hs10.2.2.2 c3).2; have f4 : (0 : Int32).toInt = 0 := rfl; have f5 : (999 : Int32).toInt = 999 := rfl; have f6 : (7 : Int32).toInt = 7 := rfl; omega)) (fun r13 s14 hs14 => ?_)
        have js14 : JC 47890485652059026823698344598447161988106488356274176 s s14 := j_call js10 hs14.1 rfl
        refine oq_if (fun c4 => ?_) (fun c4 => ?_)
        · refine oq_b (h_X11_refuse _ js14.1 (by have f0 : (4 : Int32).toInt = 4 := rfl; have f1 := (hs6.2.2.2 c2).2.2.2; have f2 : (0 : Int32).toInt = 0 := rfl; have f3 : (999 : Int32).toInt = 999 := rfl; omega)) (fun r15 s16 hs16 => ?_)
          have js16 : JC 47890485652059026823698344598447161988106488356274176 s s16 := j_call js14 hs16.1 rfl
          exact ⟨js16, trivial, fun w9 => False.elim (by have f0 := hs16.2.1; have f1 := i_rg r15; have f2 := (hs6.2.2.2 c2).2.2.2; have f3 := i_eq w9; have f4 : (0 : Int32).toInt = 0 := rfl; have f5 : (999 : Int32).toInt = 999 := rfl; omega), fun _ => trivial⟩
        · refine oq_c (inr_of (by have f0 := i_rg a1; have f1 := (hs2.2.2.2 c1).1; have f2 := (hs2.2.2.2 c1).2; have f3 := (hs6.2.2.2 c2).2.2.2; have f4 : (0 : Int32).toInt = 0 := rfl; have f5 : (3 : Int32).toInt = 3 := rfl; have f6 : (999 : Int32).toInt = 999 := rfl; omega)) ?_
          refine oq_if (fun c5 => ?_) (fun c5 => ?_)
          · refine oq_b (h_X4_isGone _ js14.1 (by have f0 := i_rg a3; have f1 := (hs6.2.2.2 c2).2.2.2; have f2 := (hs10.2.2.2 c3).1; have f3 := (hs10.2.2.2 c3).2; have f4 : (0 : Int32).toInt = 0 := rfl; have f5 : (999 : Int32).toInt = 999 := rfl; have f6 : (7 : Int32).toInt = 7 := rfl; omega)) (fun r18 s19 hs19 => ?_)
            have js19 : JC 47890485652059026823698344598447161988106488356274176 s s19 := j_call js14 hs19.1 rfl
            refine oq_if (fun c6 => ?_) (fun c6 => ?_)
            · refine oq_b (h_X2_addBought_25 _ _ _ js19.1 (by have f0 := i_rg a1; have f1 := (hs2.2.2.2 c1).1; have f2 := (hs2.2.2.2 c1).2; have f3 := (hs6.2.2.2 c2).2.2.2; have f4 : (0 : Int32).toInt = 0 := rfl; have f5 : (3 : Int32).toInt = 3 := rfl; have f6 : (999 : Int32).toInt = 999 := rfl; omega) (by have f0 := i_rg a3; have f1 := (hs6.2.2.2 c2).2.2.2; have f2 := (hs10.2.2.2 c3).1; have f3 := (hs10.2.2.2 c3).2; have f4 : (0 : Int32).toInt = 0 := rfl; have f5 : (999 : Int32).toInt = 999 := rfl; have f6 : (7 : Int32).toInt = 7 := rfl; omega)) (fun r20 s21 hs21 => ?_)
              have js21 : JC 47890485652059026823698344598447161988106488356274176 s s21 := j_call js19 hs21.1 rfl
              refine oq_b (h_X11_answer _ js21.1) (fun r22 s23 hs23 => ?_)
              have js23 : JC 47890485652059026823698344598447161988106488356274176 s s23 := j_call js21 hs23.1 rfl
              exact ⟨js23, trivial, fun w9 => ⟨(by have f0 : (0 : Int32).toInt = 0 := rfl; have f1 := i_rg a1; have f2 := (hs2.2.2.2 c1).1; have f3 := (hs2.2.2.2 c1).2; have f4 := (hs6.2.2.2 c2).2.2.2; have f5 : (3 : Int32).toInt = 3 := rfl; have f6 : (999 : Int32).toInt = 999 := rfl; omega), (by have f0 := i_rg a1; have f1 : (3 : Int32).toInt = 3 := rfl; have f2 := (hs2.2.2.2 c1).1; have f3 := (hs2.2.2.2 c1).2; have f4 := (hs6.2.2.2 c2).2.2.2; have f5 : (0 : Int32).toInt = 0 := rfl; have f6 : (999 : Int32).toInt = 999 := rfl; omega), (by have f0 : (1 : Int32).toInt = 1 := rfl; have f1 := i_rg a2; have f2 := (hs6.2.2.2 c2).1; have f3 := (hs6.2.2.2 c2).2.1; have f4 := (hs6.2.2.2 c2).2.2.1; have f5 := (hs6.2.2.2 c2).2.2.2; have f6 := i_le c5; have f7 : (999 : Int32).toInt = 999 := rfl; have f8 : (0 : Int32).toInt = 0 := rfl; have f9 := i_rg (s14.1 44 a1.toNatClampNeg); omega), (by have f0 := i_rg a2; have f1 : (999 : Int32).toInt = 999 := rfl; have f2 := (hs6.2.2.2 c2).1; have f3 := (hs6.2.2.2 c2).2.1; have f4 := (hs6.2.2.2 c2).2.2.1; have f5 := (hs6.2.2.2 c2).2.2.2; have f6 := i_le c5; have f7 : (1 : Int32).toInt = 1 := rfl; have f8 : (0 : Int32).toInt = 0 := rfl; have f9 := i_rg (s14.1 44 a1.toNatClampNeg); omega), (by have f0 : (0 : Int32).toInt = 0 := rfl; have f1 := i_rg a3; have f2 := (hs6.2.2.2 c2).2.2.2; have f3 := (hs10.2.2.2 c3).1; have f4 := (hs10.2.2.2 c3).2; have f5 : (999 : Int32).toInt = 999 := rfl; have f6 : (7 : Int32).toInt = 7 := rfl; omega), (by have f0 := i_rg a3; have f1 : (7 : Int32).toInt = 7 := rfl; have f2 := (hs6.2.2.2 c2).2.2.2; have f3 := (hs10.2.2.2 c3).1; have f4 := (hs10.2.2.2 c3).2; have f5 : (0 : Int32).toInt = 0 := rfl; have f6 : (999 : Int32).toInt = 999 := rfl; omega)⟩, fun _ => trivial⟩
            · refine oq_b (h_X11_refuse _ js19.1 (by have f0 : (7 : Int32).toInt = 7 := rfl; have f1 := (hs6.2.2.2 c2).2.2.2; have f2 : (0 : Int32).toInt = 0 := rfl; have f3 : (999 : Int32).toInt = 999 := rfl; omega)) (fun r24 s25 hs25 => ?_)
              have js25 : JC 47890485652059026823698344598447161988106488356274176 s s25 := j_call js19 hs25.1 rfl
              exact ⟨js25, trivial, fun w9 => False.elim (by have f0 := hs25.2.1; have f1 := i_rg r24; have f2 := (hs6.2.2.2 c2).2.2.2; have f3 := i_eq w9; have f4 : (0 : Int32).toInt = 0 := rfl; have f5 : (999 : Int32).toInt = 999 := rfl; omega), fun _ => trivial⟩
          · refine oq_b (h_X11_refuse _ js14.1 (by have f0 : (6 : Int32).toInt = 6 := rfl; have f1 := (hs6.2.2.2 c2).2.2.2; have f2 : (0 : Int32).toInt = 0 := rfl; have f3 : (999 : Int32).toInt = 999 := rfl; omega)) (fun r26 s27 hs27 => ?_)
            have js27 : JC 47890485652059026823698344598447161988106488356274176 s s27 := j_call js14 hs27.1 rfl
            exact ⟨js27, trivial, fun w9 => False.elim (by have f0 := hs27.2.1; have f1 := i_rg r26; have f2 := (hs6.2.2.2 c2).2.2.2; have f3 := i_eq w9; have f4 : (0 : Int32).toInt = 0 := rfl; have f5 : (999 : Int32).toInt = 999 := rfl; omega), fun _ => trivial⟩
theorem h_X2_clearStep (a1 : Int32) {s : Sg} (hR : Rg rC s) (p_a1 : 0 ≤ a1.toInt ∧ a1.toInt ≤ 7) : OQ (f_X2_clearStep a1 s) (fun r9 s9 => JC 3298601992192 s s9 ∧ True ∧ (r9 = 0 → True) ∧ (¬ r9 = 0 → True)) := by
  have hJ : JC 3298601992192 s s := j_refl hR
  unfold f_X2_clearStep
  refine oq_b (h_X2_lying _ hJ.1 (by have f0 := p_a1; have f1 := i_rg a1; omega)) (fun r1 s2 hs2 => ?_)
  have js2 : JC 3298601992192 s s2 := j_call hJ hs2.1 rfl
  refine oq_c (inr_of (by have f0 := p_a1; have f1 := i_rg a1; omega)) ?_
  refine oq_n (fun s4 es4 => ?_)
  have js4 : JC 3298601992192 s s4 := by rw [es4]; exact (j_wf (j_wf js2 rfl 40 rfl rfl) rfl 41 rfl rfl)
  refine oq_n (fun s5 es5 => ?_)
  have js5 : JC 3298601992192 s s5 := by rw [es5]; exact (j_wf js4 rfl 26 rfl rfl)
  exact ⟨js5, trivial, fun _ => trivial, fun _ => trivial⟩
theorem h_X11_sweep (a1 : Int32) {s : Sg} (hR : Rg rC s) : OQ (f_X11_sweep a1 s) (fun r9 s9 => JC 47890485652059026823698344598447161988088896170229760 s s9 ∧ True ∧ (r9 = 0 → 0 ≤ (a1).toInt ∧ (a1).toInt ≤ 7) ∧ (¬ r9 = 0 → True)) := by
  have hJ : JC 47890485652059026823698344598447161988088896170229760 s s := j_refl hR
  unfold f_X11_sweep
  refine oq_b (h_X11_whyNoStep _ _ hJ.1 (by have f0 : (1 : Int32).toInt = 1 := rfl; omega)) (fun r1 s2 hs2 => ?_)
  have js2 : JC 47890485652059026823698344598447161988088896170229760 s s2 := j_call hJ hs2.1 rfl
  refine oq_if (fun c1 => ?_) (fun c1 => ?_)
  · refine oq_b (h_X2_clearStep _ js2.1 (by have f0 := i_rg a1; have f1 := (hs2.2.2.1 c1).1; have f2 := (hs2.2.2.1 c1).2.1; have f3 := (hs2.2.2.1 c1).2.2; have f4 : (0 : Int32).toInt = 0 := rfl; have f5 : (7 : Int32).toInt = 7 := rfl; have f6 : (1 : Int32).toInt = 1 := rfl; omega)) (fun r3 s4 hs4 => ?_)
    have js4 : JC 47890485652059026823698344598447161988088896170229760 s s4 := j_call js2 hs4.1 rfl
    refine oq_b (h_X11_answer _ js4.1) (fun r5 s6 hs6 => ?_)
    have js6 : JC 47890485652059026823698344598447161988088896170229760 s s6 := j_call js4 hs6.1 rfl
    exact ⟨js6, trivial, fun w9 => ⟨(by have f0 : (0 : Int32).toInt = 0 := rfl; have f1 := i_rg a1; have f2 := (hs2.2.2.1 c1).1; have f3 := (hs2.2.2.1 c1).2.1; have f4 := (hs2.2.2.1 c1).2.2; have f5 : (7 : Int32).toInt = 7 := rfl; have f6 : (1 : Int32).toInt = 1 := rfl; omega), (by have f0 := i_rg a1; have f1 : (7 : Int32).toInt = 7 := rfl; have f2 := (hs2.2.2.1 c1).1; have f3 := (hs2.2.2.1 c1).2.1; have f4 := (hs2.2.2.1 c1).2.2; have f5 : (0 : Int32).toInt = 0 := rfl; have f6 : (1 : Int32).toInt = 1 := rfl; omega)⟩, fun _ => trivial⟩
  · refine oq_b (h_X11_refuse _ js2.1 (by have f0 := hs2.2.1; have f1 := i_rg r1; have f2 := i_ne c1; have f3 : (0 : Int32).toInt = 0 := rfl; omega)) (fun r7 s8 hs8 => ?_)
    have js8 : JC 47890485652059026823698344598447161988088896170229760 s s8 := j_call js2 hs8.1 rfl
    exact ⟨js8, trivial, fun w9 => False.elim (by have f0 := hs8.2.1; have f1 := i_rg r7; have f2 := i_eq w9; have f3 : (0 : Int32).toInt = 0 := rfl; omega), fun _ => trivial⟩
theorem h_X2_carry (a1 : Int32) (a2 : Int32) (a3 : Int32) {s : Sg} (hR : Rg rC s) (p_a1 : 0 ≤ a1.toInt ∧ a1.toInt ≤ 7) (p_a2 : 0 ≤ a2.toInt ∧ a2.toInt ≤ 7) : OQ (f_X2_carry a1 a2 a3 s) (fun r9 s9 => JC 3298534883328 s s9 ∧ True ∧ (r9 = 0 → True) ∧ (¬ r9 = 0 → True)) := by
  have hJ : JC 3298534883328 s s := j_refl hR
  unfold f_X2_carry
  refine oq_c (inr_of (by have f0 := p_a1; have f1 := i_rg a1; omega)) ?_
  refine oq_n (fun x2 ex2 => ?_)
  refine oq_n (fun x3 ex3 => ?_)
  refine oq_n (fun s4 es4 => ?_)
  have js4 : JC 3298534883328 s s4 := by rw [es4]; exact (j_wf hJ rfl 40 rfl rfl)
  refine oq_n (fun s5 es5 => ?_)
  have js5 : JC 3298534883328 s s5 := by rw [es5]; exact (j_wf js4 rfl 41 rfl rfl)
  refine oq_c (inr_of (by have f0 := p_a2; have f1 := i_rg a2; omega)) ?_
  refine oq_n (fun s7 es7 => ?_)
  have js7 : JC 3298534883328 s s7 := by rw [es7]; exact (j_wf js5 rfl 40 rfl rfl)
  refine oq_n (fun s8 es8 => ?_)
  have js8 : JC 3298534883328 s s8 := by rw [es8]; exact (j_wf js7 rfl 41 rfl rfl)
  exact ⟨js8, trivial, fun _ => trivial, fun _ => trivial⟩
theorem h_X11_shovel (a1 : Int32) (a2 : Int32) (a3 : Int32) {s : Sg} (hR : Rg rC s) : OQ (f_X11_shovel a1 a2 a3 s) (fun r9 s9 => JC 47890485652059026823698344598447161988088896103120896 s s9 ∧ True ∧ (r9 = 0 → 0 ≤ (a1).toInt ∧ (a1).toInt ≤ 7 ∧ 0 ≤ (a2).toInt ∧ (a2).toInt ≤ 7 ∧ 1 ≤ (a3).toInt ∧ (a3).toInt ≤ 999) ∧ (¬ r9 = 0 → True)) := by
  have hJ : JC 47890485652059026823698344598447161988088896103120896 s s := j_refl hR
  unfold f_X11_shovel
  refine oq_b (h_X11_isHouse _ hJ.1) (fun r1 s2 hs2 => ?_)
  have js2 : JC 47890485652059026823698344598447161988088896103120896 s s2 := j_call hJ hs2.1 rfl
  refine oq_if (fun c1 => ?_) (fun c1 => ?_)
  · refine oq_b (h_X11_refuse _ js2.1 (by have f0 : (1 : Int32).toInt = 1 := rfl; omega)) (fun r3 s4 hs4 => ?_)
    have js4 : JC 47890485652059026823698344598447161988088896103120896 s s4 := j_call js2 hs4.1 rfl
    exact ⟨js4, trivial, fun w9 => False.elim (by have f0 := hs4.2.1; have f1 := i_rg r3; have f2 := i_eq w9; have f3 : (0 : Int32).toInt = 0 := rfl; omega), fun _ => trivial⟩
  · refine oq_b (h_X11_isHouse _ js2.1) (fun r5 s6 hs6 => ?_)
    have js6 : JC 47890485652059026823698344598447161988088896103120896 s s6 := j_call js2 hs6.1 rfl
    refine oq_if (fun c2 => ?_) (fun c2 => ?_)
    · refine oq_b (h_X11_refuse _ js6.1 (by have f0 : (1 : Int32).toInt = 1 := rfl; omega)) (fun r7 s8 hs8 => ?_)
      have js8 : JC 47890485652059026823698344598447161988088896103120896 s s8 := j_call js6 hs8.1 rfl
      exact ⟨js8, trivial, fun w9 => False.elim (by have f0 := hs8.2.1; have f1 := i_rg r7; have f2 := i_eq w9; have f3 : (0 : Int32).toInt = 0 := rfl; omega), fun _ => trivial⟩
    · refine oq_if (fun c3 => ?_) (fun c3 => ?_)
      · refine oq_b (h_X11_refuse _ js6.1 (by have f0 : (1 : Int32).toInt = 1 := rfl; omega)) (fun r9 s10 hs10 => ?_)
        have js10 : JC 47890485652059026823698344598447161988088896103120896 s s10 := j_call js6 hs10.1 rfl
        exact ⟨js10, trivial, fun w9 => False.elim (by have f0 := hs10.2.1; have f1 := i_rg r9; have f2 := i_eq w9; have f3 : (0 : Int32).toInt = 0 := rfl; omega), fun _ => trivial⟩
      · refine oq_b (h_X11_within _ _ _ js6.1 (by have f0 : (1 : Int32).toInt = 1 := rfl; omega) (by have f0 : (999 : Int32).toInt = 999 := rfl; omega)) (fun r11 s12 hs12 => ?_)
        have js12 : JC 47890485652059026823698344598447161988088896103120896 s s12 := j_call js6 hs12.1 rfl
        refine oq_if (fun c4 => ?_) (fun c4 => ?_)
        · refine oq_b (h_X11_refuse _ js12.1 (by have f0 : (1 : Int32).toInt = 1 := rfl; omega)) (fun r13 s14 hs14 => ?_)
          have js14 : JC 47890485652059026823698344598447161988088896103120896 s s14 := j_call js12 hs14.1 rfl
          exact ⟨js14, trivial, fun w9 => False.elim (by have f0 := hs14.2.1; have f1 := i_rg r13; have f2 := i_eq w9; have f3 : (0 : Int32).toInt = 0 := rfl; omega), fun _ => trivial⟩
        · refine oq_b (h_X2_lying _ js12.1 (by have f0 := i_rg a1; have f1 := (hs2.2.2.2 c1).1; have f2 := (hs2.2.2.2 c1).2; have f3 := i_ne c3; have f4 := (hs12.2.2.2 c4).2.2.2; have f5 : (0 : Int32).toInt = 0 := rfl; have f6 : (7 : Int32).toInt = 7 := rfl; have f7 := i_rg a2; have f8 : (999 : Int32).toInt = 999 := rfl; have f9 := (hs6.2.2.2 c2).1; have f10 := (hs6.2.2.2 c2).2; omega)) (fun r15 s16 hs16 => ?_)
          have js16 : JC 47890485652059026823698344598447161988088896103120896 s s16 := j_call js12 hs16.1 rfl
          refine oq_if (fun c5 => ?_) (fun c5 => ?_)
          · refine oq_b (h_X4_isGone _ js16.1 (by have f0 := i_rg a1; have f1 := (hs2.2.2.2 c1).1; have f2 := (hs2.2.2.2 c1).2; have f3 := i_ne c3; have f4 := (hs12.2.2.2 c4).2.2.2; have f5 : (0 : Int32).toInt = 0 := rfl; have f6 : (7 : Int32).toInt = 7 := rfl; have f7 := i_rg a2; have f8 : (999 : Int32).toInt = 999 := rfl; have f9 := (hs6.2.2.2 c2).1; have f10 := (hs6.2.2.2 c2).2; omega)) (fun r17 s18 hs18 => ?_)
            have js18 : JC 47890485652059026823698344598447161988088896103120896 s s18 := j_call js16 hs18.1 rfl
            refine oq_if (fun c6 => ?_) (fun c6 => ?_)
            · refine oq_b (h_X4_isGone _ js18.1 (by have f0 := i_rg a2; have f1 := (hs6.2.2.2 c2).1; have f2 := (hs6.2.2.2 c2).2; have f3 := i_ne c3; have f4 := (hs12.2.2.2 c4).2.2.2; have f5 : (0 : Int32).toInt = 0 := rfl; have f6 : (7 : Int32).toInt = 7 := rfl; have f7 := i_rg a1; have f8 : (999 : Int32).toInt = 999 := rfl; have f9 := (hs2.2.2.2 c1).1; have f10 := (hs2.2.2.2 c1).2; omega)) (fun r19 s20 hs20 => ?_)
              have js20 : JC 47890485652059026823698344598447161988088896103120896 s s20 := j_call js18 hs20.1 rfl
              refine oq_if (fun c7 => ?_) (fun c7 => ?_)
              · refine oq_b (h_X2_carry _ _ _ js20.1 (by have f0 := i_rg a1; have f1 := (hs2.2.2.2 c1).1; have f2 := (hs2.2.2.2 c1).2; have f3 := i_ne c3; have f4 := (hs12.2.2.2 c4).2.2.2; have f5 : (0 : Int32).toInt = 0 := rfl; have f6 : (7 : Int32).toInt = 7 := rfl; have f7 := i_rg a2; have f8 : (999 : Int32).toInt = 999 := rfl; have f9 := (hs6.2.2.2 c2).1; have f10 := (hs6.2.2.2 c2).2; omega) (by have f0 := i_rg a2; have f1 := (hs6.2.2.2 c2).1; have f2 := (hs6.2.2.2 c2).2; have f3 := i_ne c3; have f4 := (hs12.2.2.2 c4).2.2.2; have f5 : (0 : Int32).toInt = 0 := rfl; have f6 : (7 : Int32).toInt = 7 := rfl; have f7 := i_rg a1; have f8 : (999 : Int32).toInt = 999 := rfl; have f9 := (hs2.2.2.2 c1).1; have f10 := (hs2.2.2.2 c1).2; omega)) (fun r21 s22 hs22 => ?_)
                have js22 : JC 47890485652059026823698344598447161988088896103120896 s s22 := j_call js20 hs22.1 rfl
                refine oq_b (h_X11_answer _ js22.1) (fun r23 s24 hs24 => ?_)
                have js24 : JC 47890485652059026823698344598447161988088896103120896 s s24 := j_call js22 hs24.1 rfl
                exact ⟨js24, trivial, fun w9 => ⟨(by have f0 : (0 : Int32).toInt = 0 := rfl; have f1 := i_rg a1; have f2 := (hs2.2.2.2 c1).1; have f3 := (hs2.2.2.2 c1).2; have f4 := i_ne c3; have f5 := (hs12.2.2.2 c4).2.2.2; have f6 : (7 : Int32).toInt = 7 := rfl; have f7 := i_rg a2; have f8 : (999 : Int32).toInt = 999 := rfl; have f9 := (hs6.2.2.2 c2).1; have f10 := (hs6.2.2.2 c2).2; omega), (by have f0 := i_rg a1; have f1 : (7 : Int32).toInt = 7 := rfl; have f2 := (hs2.2.2.2 c1).1; have f3 := (hs2.2.2.2 c1).2; have f4 := i_ne c3; have f5 := (hs12.2.2.2 c4).2.2.2; have f6 : (0 : Int32).toInt = 0 := rfl; have f7 := i_rg a2; have f8 : (999 : Int32).toInt = 999 := rfl; have f9 := (hs6.2.2.2 c2).1; have f10 := (hs6.2.2.2 c2).2; omega), (by have f0 : (0 : Int32).toInt = 0 := rfl; have f1 := i_rg a2; have f2 := (hs6.2.2.2 c2).1; have f3 := (hs6.2.2.2 c2).2; have f4 := i_ne c3; have f5 := (hs12.2.2.2 c4).2.2.2; have f6 : (7 : Int32).toInt = 7 := rfl; have f7 := i_rg a1; have f8 : (999 : Int32).toInt = 999 := rfl; have f9 := (hs2.2.2.2 c1).1; have f10 := (hs2.2.2.2 c1).2; omega), (by have f0 := i_rg a2; have f1 : (7 : Int32).toInt = 7 := rfl; have f2 := (hs6.2.2.2 c2).1; have f3 := (hs6.2.2.2 c2).2; have f4 := i_ne c3; have f5 := (hs12.2.2.2 c4).2.2.2; have f6 : (0 : Int32).toInt = 0 := rfl; have f7 := i_rg a1; have f8 : (999 : Int32).toInt = 999 := rfl; have f9 := (hs2.2.2.2 c1).1; have f10 := (hs2.2.2.2 c1).2; omega), (by have f0 : (1 : Int32).toInt = 1 := rfl; have f1 := i_rg a3; have f2 := (hs12.2.2.2 c4).1; have f3 := (hs12.2.2.2 c4).2.1; have f4 := (hs12.2.2.2 c4).2.2.1; have f5 := (hs12.2.2.2 c4).2.2.2; have f6 := i_le c5; have f7 : (999 : Int32).toInt = 999 := rfl; have f8 : (0 : Int32).toInt = 0 := rfl; have f9 := i_rg r15; omega), (by have f0 := i_rg a3; have f1 : (999 : Int32).toInt = 999 := rfl; have f2 := (hs12.2.2.2 c4).1; have f3 := (hs12.2.2.2 c4).2.1; have f4 := (hs12.2.2.2 c4).2.2.1; have f5 := (hs12.2.2.2 c4).2.2.2; have f6 := i_le c5; have f7 : (1 : Int32).toInt = 1 := rfl; have f8 : (0 : Int32).toInt = 0 := rfl; have f9 := i_rg r15; omega)⟩, fun _ => trivial⟩
              · refine oq_b (h_X11_refuse _ js20.1 (by have f0 : (7 : Int32).toInt = 7 := rfl; have f1 := (hs12.2.2.2 c4).2.2.2; have f2 : (0 : Int32).toInt = 0 := rfl; have f3 : (999 : Int32).toInt = 999 := rfl; omega)) (fun r25 s26 hs26 => ?_)
                have js26 : JC 47890485652059026823698344598447161988088896103120896 s s26 := j_call js20 hs26.1 rfl
                exact ⟨js26, trivial, fun w9 => False.elim (by have f0 := hs26.2.1; have f1 := i_rg r25; have f2 := (hs12.2.2.2 c4).2.2.2; have f3 := i_eq w9; have f4 : (0 : Int32).toInt = 0 := rfl; have f5 : (999 : Int32).toInt = 999 := rfl; omega), fun _ => trivial⟩
            · refine oq_b (h_X11_refuse _ js18.1 (by have f0 : (7 : Int32).toInt = 7 := rfl; have f1 := (hs12.2.2.2 c4).2.2.2; have f2 : (0 : Int32).toInt = 0 := rfl; have f3 : (999 : Int32).toInt = 999 := rfl; omega)) (fun r27 s28 hs28 => ?_)
              have js28 : JC 47890485652059026823698344598447161988088896103120896 s s28 := j_call js18 hs28.1 rfl
              exact ⟨js28, trivial, fun w9 => False.elim (by have f0 := hs28.2.1; have f1 := i_rg r27; have f2 := (hs12.2.2.2 c4).2.2.2; have f3 := i_eq w9; have f4 : (0 : Int32).toInt = 0 := rfl; have f5 : (999 : Int32).toInt = 999 := rfl; omega), fun _ => trivial⟩
          · refine oq_b (h_X11_refuse _ js16.1 (by have f0 : (6 : Int32).toInt = 6 := rfl; have f1 := (hs12.2.2.2 c4).2.2.2; have f2 : (0 : Int32).toInt = 0 := rfl; have f3 : (999 : Int32).toInt = 999 := rfl; omega)) (fun r29 s30 hs30 => ?_)
            have js30 : JC 47890485652059026823698344598447161988088896103120896 s s30 := j_call js16 hs30.1 rfl
            exact ⟨js30, trivial, fun w9 => False.elim (by have f0 := hs30.2.1; have f1 := i_rg r29; have f2 := (hs12.2.2.2 c4).2.2.2; have f3 := i_eq w9; have f4 : (0 : Int32).toInt = 0 := rfl; have f5 : (999 : Int32).toInt = 999 := rfl; omega), fun _ => trivial⟩
theorem h_X2_letRain_25_b4 {s0 : Sg} (n : Nat) : ∀ (v2 : Int32) (v3 : Int32) (s : Sg), JC 3298601992192 s0 s → 0 ≤ v3.toInt ∧ v3.toInt ≤ 8 → 8 - v3.toInt < (n : Int) → OQ (f_X2_letRain_25_b4 n v2 v3 s) (fun r9 s9 => JC 3298601992192 s0 s9 ∧ True ∧ (r9 = 0 → True) ∧ (¬ r9 = 0 → True)) := by
  induction n with
  | zero => intro v2 v3 s hJ p_v3 hn; exact False.elim (by have g0 := hn; have g1 := p_v3; have g2 := i_rg v2; have g3 := i_rg v3; omega)
  | succ n ih =>
    intro v2 v3 s hJ p_v3 hn
    unfold f_X2_letRain_25_b4
    refine oq_if (fun c1 => ?_) (fun c1 => ?_)
    · exact ⟨(j_wr 0 1 (j_wf hJ rfl 26 rfl rfl) rfl 26 rfl rfl (by have f0 : (1 : Int32).toInt = 1 := rfl; omega)), trivial, fun _ => trivial, fun _ => trivial⟩
    · refine oq_c (inr_of (by have f0 := p_v3; have f1 := i_rg v3; have f2 := i_nle c1; have f3 := j_rd hJ 25 13 0 8 rfl; omega)) ?_
      refine oq_n (fun x2 ex2 => ?_)
      refine oq_n (fun x3 ex3 => ?_)
      refine oq_n (fun s4 es4 => ?_)
      have js4 : JC 3298601992192 s0 s4 := by rw [es4]; exact (j_wf (j_wf hJ rfl 41 rfl rfl) rfl 40 rfl rfl)
      exact ih _ _ _ js4 (by have f0 := i_add (v3) ((1 : Int32)); have f1 := p_v3; have f2 := i_rg v3; have f3 : (1 : Int32).toInt = 1 := rfl; have f4 := i_nle c1; have f5 := j_rd hJ 25 13 0 8 rfl; omega) (by have g0 := i_add (v3) ((1 : Int32)); have g1 := i_eq ex3; have g2 := i_add (s.1 41 v3.toNatClampNeg) (x2); have g3 := i_add (v2) ((s.1 41 v3.toNatClampNeg) + x2); have g4 := i_rg x3; have g5 := p_v3; have g6 := i_rg v3; have g7 : (1 : Int32).toInt = 1 := rfl; have g8 := i_rg v2; have g9 := i_rg (s.1 41 v3.toNatClampNeg); have g10 := i_eq ex2; have g11 := ite_lt (s.1 40 v3.toNatClampNeg) (s.1 25 18) (s.1 40 v3.toNatClampNeg) (s.1 25 18); have g12 := i_rg x2; have g13 := i_rg (s.1 40 v3.toNatClampNeg); have g14 := i_rg (s.1 25 18); have g15 := i_nle c1; have g16 := j_rd hJ 25 13 0 8 rfl; have g17 := hn; omega)
theorem h_X2_letRain_25  {s : Sg} (hR : Rg rC s) : OQ (f_X2_letRain_25  s) (fun r9 s9 => JC 3298601992192 s s9 ∧ True ∧ (r9 = 0 → True) ∧ (¬ r9 = 0 → True)) := by
  have hJ : JC 3298601992192 s s := j_refl hR
  unfold f_X2_letRain_25
  exact h_X2_letRain_25_b4 BIG _ _ _ hJ (by have f0 : (0 : Int32).toInt = 0 := rfl; omega) (by have g0 : (0 : Int32).toInt = 0 := rfl; have g1 : BIG = 4294967296 := rfl; omega)
theorem h_X11_rain  {s : Sg} (hR : Rg rC s) : OQ (f_X11_rain  s) (fun r9 s9 => JC 47890485652059026823698344598447161988088896170229760 s s9 ∧ True ∧ (r9 = 0 → True) ∧ (¬ r9 = 0 → True)) := by
  have hJ : JC 47890485652059026823698344598447161988088896170229760 s s := j_refl hR
  unfold f_X11_rain
  refine oq_b (h_X2_letRain_25  hJ.1) (fun r1 s2 hs2 => ?_)
  have js2 : JC 47890485652059026823698344598447161988088896170229760 s s2 := j_call hJ hs2.1 rfl
  refine oq_b (h_X11_answer _ js2.1) (fun r3 s4 hs4 => ?_)
  have js4 : JC 47890485652059026823698344598447161988088896170229760 s s4 := j_call js2 hs4.1 rfl
  exact ⟨js4, trivial, fun _ => trivial, fun _ => trivial⟩
theorem h_X2_letSnow_25_b2 {s0 : Sg} (n : Nat) : ∀ (v2 : Int32) (v3 : Int32) (s : Sg), JC 4398046511104 s0 s → 0 ≤ v3.toInt ∧ v3.toInt ≤ 8 → 8 - v3.toInt < (n : Int) → OQ (f_X2_letSnow_25_b2 n v2 v3 s) (fun _ s9 => JC 4398046511104 s0 s9 ∧ True) := by
  induction n with
  | zero => intro v2 v3 s hJ p_v3 hn; exact False.elim (by have g0 := hn; have g1 := p_v3; have g2 := i_rg v2; have g3 := i_rg v3; omega)
  | succ n ih =>
    intro v2 v3 s hJ p_v3 hn
    unfold f_X2_letSnow_25_b2
    refine oq_if (fun c1 => ?_) (fun c1 => ?_)
    · exact ⟨hJ, trivial⟩
    · refine oq_b (h_X4_isGone _ hJ.1 (by have f0 := p_v3; have f1 := i_rg v3; have f2 := i_nle c1; have f3 := j_rd hJ 25 13 0 8 rfl; omega)) (fun r1 s2 hs2 => ?_)
      have js2 : JC 4398046511104 s0 s2 := j_call hJ hs2.1 rfl
      refine oq_if (fun c2 => ?_) (fun c2 => ?_)
      · refine oq_c (inr_of (by have f0 := p_v3; have f1 := i_rg v3; have f2 := i_nle c1; have f3 := j_rd hJ 25 13 0 8 rfl; omega)) ?_
        refine oq_n (fun s4 es4 => ?_)
        have js4 : JC 4398046511104 s0 s4 := by rw [es4]; exact (j_wf js2 rfl 42 rfl rfl)
        exact ih _ _ _ js4 (by have f0 := i_add (v3) ((1 : Int32)); have f1 := p_v3; have f2 := i_rg v3; have f3 : (1 : Int32).toInt = 1 := rfl; have f4 := i_nle c1; have f5 := j_rd hJ 25 13 0 8 rfl; omega) (by have g0 := i_add (v3) ((1 : Int32)); have g1 := i_rg v2; have g2 := p_v3; have g3 := i_rg v3; have g4 : (1 : Int32).toInt = 1 := rfl; have g5 := i_nle c1; have g6 := j_rd hJ 25 13 0 8 rfl; have g7 := hn; omega)
      · exact ih _ _ _ js2 (by have f0 := i_add (v3) ((1 : Int32)); have f1 := p_v3; have f2 := i_rg v3; have f3 : (1 : Int32).toInt = 1 := rfl; have f4 := i_nle c1; have f5 := j_rd hJ 25 13 0 8 rfl; omega) (by have g0 := i_add (v3) ((1 : Int32)); have g1 := i_rg v2; have g2 := p_v3; have g3 := i_rg v3; have g4 : (1 : Int32).toInt = 1 := rfl; have g5 := i_nle c1; have g6 := j_rd hJ 25 13 0 8 rfl; have g7 := hn; omega)
theorem h_X2_letSnow_25 (a2 : Int32) {s : Sg} (hR : Rg rC s) : OQ (f_X2_letSnow_25 a2 s) (fun _ s9 => JC 4398046511104 s s9 ∧ True) := by
  have hJ : JC 4398046511104 s s := j_refl hR
  unfold f_X2_letSnow_25
  exact h_X2_letSnow_25_b2 BIG _ _ _ hJ (by have f0 : (0 : Int32).toInt = 0 := rfl; omega) (by have g0 := i_rg a2; have g1 : (0 : Int32).toInt = 0 := rfl; have g2 : BIG = 4294967296 := rfl; omega)
theorem h_X11_snow (a1 : Int32) {s : Sg} (hR : Rg rC s) : OQ (f_X11_snow a1 s) (fun r9 s9 => JC 47890485652059026823698344598447161988089995614748672 s s9 ∧ (0 ≤ r9.toInt ∧ r9.toInt ≤ 1) ∧ (r9 = 0 → True) ∧ (¬ r9 = 0 → 0 ≤ (a1).toInt ∧ (a1).toInt ≤ 99)) := by
  have hJ : JC 47890485652059026823698344598447161988089995614748672 s s := j_refl hR
  unfold f_X11_snow
  refine oq_b (h_X11_within _ _ _ hJ.1 (by have f0 : (0 : Int32).toInt = 0 := rfl; omega) (by have f0 : (99 : Int32).toInt = 99 := rfl; omega)) (fun r1 s2 hs2 => ?_)
  have js2 : JC 47890485652059026823698344598447161988089995614748672 s s2 := j_call hJ hs2.1 rfl
  refine oq_if (fun c1 => ?_) (fun c1 => ?_)
  · refine oq_b (h_X11_refused _ js2.1 (by have f0 : (1 : Int32).toInt = 1 := rfl; omega)) (fun r3 s4 hs4 => ?_)
    have js4 : JC 47890485652059026823698344598447161988089995614748672 s s4 := j_call js2 hs4.1 rfl
    refine oq_c (b01_of (by have f0 := hs4.2.1; have f1 := i_rg r3; omega)) ?_
    exact ⟨js4, (by have f0 := hs4.2.1; have f1 := i_rg r3; omega), fun _ => trivial, fun w9 => False.elim (by have f0 := hs4.2.1; have f1 := i_rg r3; have f2 := i_ne w9; have f3 : (0 : Int32).toInt = 0 := rfl; omega)⟩
  · refine oq_b (h_X2_letSnow_25 _ js2.1) (fun u2 s6 hs6 => ?_)
    have js6 : JC 47890485652059026823698344598447161988089995614748672 s s6 := j_call js2 hs6.1 rfl
    refine oq_b (h_X11_granted  js6.1) (fun r7 s8 hs8 => ?_)
    have js8 : JC 47890485652059026823698344598447161988089995614748672 s s8 := j_call js6 hs8.1 rfl
    refine oq_c (b01_of (by have f0 := hs8.2.1; have f1 := i_rg r7; have f2 := (hs2.2.2.2 c1).2.2.2; have f3 : (0 : Int32).toInt = 0 := rfl; have f4 : (99 : Int32).toInt = 99 := rfl; omega)) ?_
    exact ⟨js8, (by have f0 := hs8.2.1; have f1 := i_rg r7; have f2 := (hs2.2.2.2 c1).2.2.2; have f3 : (0 : Int32).toInt = 0 := rfl; have f4 : (99 : Int32).toInt = 99 := rfl; omega), fun w9 => False.elim (by have f0 := hs8.2.1; have f1 := i_rg r7; have f2 := (hs2.2.2.2 c1).2.2.2; have f3 := i_eq w9; have f4 : (0 : Int32).toInt = 0 := rfl; have f5 : (99 : Int32).toInt = 99 := rfl; omega), fun w9 => ⟨(by have f0 : (0 : Int32).toInt = 0 := rfl; have f1 := i_rg a1; have f2 := (hs2.2.2.2 c1).1; have f3 := (hs2.2.2.2 c1).2.1; have f4 := (hs2.2.2.2 c1).2.2.1; have f5 := (hs2.2.2.2 c1).2.2.2; have f6 : (99 : Int32).toInt = 99 := rfl; omega), (by have f0 := i_rg a1; have f1 : (99 : Int32).toInt = 99 := rfl; have f2 := (hs2.2.2.2 c1).1; have f3 := (hs2.2.2.2 c1).2.1; have f4 := (hs2.2.2.2 c1).2.2.1; have f5 := (hs2.2.2.2 c1).2.2.2; have f6 : (0 : Int32).toInt = 0 := rfl; omega)⟩⟩
theorem h_X2_sendCats_25_b2 {s0 : Sg} (n : Nat) : ∀ (v2 : Int32) (s : Sg), JC 3298534883328 s0 s → 0 ≤ v2.toInt ∧ v2.toInt ≤ 4 → 4 - v2.toInt < (n : Int) → OQ (f_X2_sendCats_25_b2 n v2 s) (fun _ s9 => JC 3298534883328 s0 s9 ∧ True) := by
  induction n with
  | zero => intro v2 s hJ p_v2 hn; exact False.elim (by have g0 := hn; have g1 := p_v2; have g2 := i_rg v2; omega)
  | succ n ih =>
    intro v2 s hJ p_v2 hn
    unfold f_X2_sendCats_25_b2
    refine oq_if (fun c1 => ?_) (fun c1 => ?_)
    · exact ⟨hJ, trivial⟩
    · refine oq_c (inr_of (by have f0 := p_v2; have f1 := i_rg v2; have f2 := i_nle c1; have f3 := j_rd hJ 25 15 0 4 rfl; omega)) ?_
      refine oq_c (inr_of (by have f0 := j_rd hJ 35 v2.toNatClampNeg 0 7 rfl; omega)) ?_
      refine oq_if (fun c2 => ?_) (fun c2 => ?_)
      · refine oq_b (h_X2_carry _ _ _ hJ.1 (by have f0 := j_rd hJ 35 v2.toNatClampNeg 0 7 rfl; omega) (by have f0 := j_rd hJ 36 v2.toNatClampNeg 0 7 rfl; omega)) (fun r3 s4 hs4 => ?_)
        have js4 : JC 3298534883328 s0 s4 := j_call hJ hs4.1 rfl
        exact ih _ _ js4 (by have f0 := i_add (v2) ((1 : Int32)); have f1 := p_v2; have f2 := i_rg v2; have f3 : (1 : Int32).toInt = 1 := rfl; have f4 := i_nle c1; have f5 := j_rd hJ 25 15 0 4 rfl; omega) (by have g0 := i_add (v2) ((1 : Int32)); have g1 := p_v2; have g2 := i_rg v2; have g3 : (1 : Int32).toInt = 1 := rfl; have g4 := i_nle c1; have g5 := j_rd hJ 25 15 0 4 rfl; have g6 := hn; omega)
      · exact ih _ _ hJ (by have f0 := i_add (v2) ((1 : Int32)); have f1 := p_v2; have f2 := i_rg v2; have f3 : (1 : Int32).toInt = 1 := rfl; have f4 := i_nle c1; have f5 := j_rd hJ 25 15 0 4 rfl; omega) (by have g0 := i_add (v2) ((1 : Int32)); have g1 := p_v2; have g2 := i_rg v2; have g3 : (1 : Int32).toInt = 1 := rfl; have g4 := i_nle c1; have g5 := j_rd hJ 25 15 0 4 rfl; have g6 := hn; omega)
theorem h_X2_sendCats_25  {s : Sg} (hR : Rg rC s) : OQ (f_X2_sendCats_25  s) (fun _ s9 => JC 3298534883328 s s9 ∧ True) := by
  have hJ : JC 3298534883328 s s := j_refl hR
  unfold f_X2_sendCats_25
  exact h_X2_sendCats_25_b2 BIG _ _ hJ (by have f0 : (0 : Int32).toInt = 0 := rfl; omega) (by have g0 : (0 : Int32).toInt = 0 := rfl; have g1 : BIG = 4294967296 := rfl; omega)
theorem h_X2_meltSnow_25_b2 {s0 : Sg} (n : Nat) : ∀ (v2 : Int32) (s : Sg), JC 5497625247744 s0 s → 0 ≤ v2.toInt ∧ v2.toInt ≤ 8 → 8 - v2.toInt < (n : Int) → OQ (f_X2_meltSnow_25_b2 n v2 s) (fun _ s9 => JC 5497625247744 s0 s9 ∧ True) := by
  induction n with
  | zero => intro v2 s hJ p_v2 hn; exact False.elim (by have g0 := hn; have g1 := p_v2; have g2 := i_rg v2; omega)
  | succ n ih =>
    intro v2 s hJ p_v2 hn
    unfold f_X2_meltSnow_25_b2
    refine oq_if (fun c1 => ?_) (fun c1 => ?_)
    · exact ⟨hJ, trivial⟩
    · refine oq_c (inr_of (by have f0 := p_v2; have f1 := i_rg v2; have f2 := i_nle c1; have f3 := j_rd hJ 25 13 0 8 rfl; omega)) ?_
      refine oq_n (fun x2 ex2 => ?_)
      refine oq_n (fun s3 es3 => ?_)
      have js3 : JC 5497625247744 s0 s3 := by rw [es3]; exact (j_wf hJ rfl 40 rfl rfl)
      refine oq_n (fun s4 es4 => ?_)
      have js4 : JC 5497625247744 s0 s4 := by rw [es4]; exact (j_wf js3 rfl 42 rfl rfl)
      refine oq_n (fun s5 es5 => ?_)
      have js5 : JC 5497625247744 s0 s5 := by rw [es5]; exact (j_wf js4 rfl 26 rfl rfl)
      exact ih _ _ js5 (by have f0 := i_add (v2) ((1 : Int32)); have f1 := p_v2; have f2 := i_rg v2; have f3 : (1 : Int32).toInt = 1 := rfl; have f4 := i_nle c1; have f5 := j_rd hJ 25 13 0 8 rfl; omega) (by have g0 := i_add (v2) ((1 : Int32)); have g1 := p_v2; have g2 := i_rg v2; have g3 : (1 : Int32).toInt = 1 := rfl; have g4 := i_nle c1; have g5 := j_rd hJ 25 13 0 8 rfl; have g6 := hn; omega)
theorem h_X2_meltSnow_25  {s : Sg} (hR : Rg rC s) : OQ (f_X2_meltSnow_25  s) (fun _ s9 => JC 5497625247744 s s9 ∧ True) := by
  have hJ : JC 5497625247744 s s := j_refl hR
  unfold f_X2_meltSnow_25
  exact h_X2_meltSnow_25_b2 BIG _ _ hJ (by have f0 : (0 : Int32).toInt = 0 := rfl; omega) (by have g0 : (0 : Int32).toInt = 0 := rfl; have g1 : BIG = 4294967296 := rfl; omega)
theorem h_X2_countWar_25_b2 {s0 : Sg} (n : Nat) : ∀ (v2 : Int32) (s : Sg), JC 8796093022208 s0 s → 0 ≤ v2.toInt ∧ v2.toInt ≤ 8 → 8 - v2.toInt < (n : Int) → OQ (f_X2_countWar_25_b2 n v2 s) (fun _ s9 => JC 8796093022208 s0 s9 ∧ True) := by
  induction n with
  | zero => intro v2 s hJ p_v2 hn; exact False.elim (by have g0 := hn; have g1 := p_v2; have g2 := i_rg v2; omega)
  | succ n ih =>
    intro v2 s hJ p_v2 hn
    unfold f_X2_countWar_25_b2
    refine oq_if (fun c1 => ?_) (fun c1 => ?_)
    · exact ⟨hJ, trivial⟩
    · refine oq_b (h_X11_has _ _ hJ.1 (by have f0 := p_v2; have f1 := i_rg v2; have f2 := i_nle c1; have f3 := j_rd hJ 25 14 0 8 rfl; omega)) (fun r1 s2 hs2 => ?_)
      have js2 : JC 8796093022208 s0 s2 := j_call hJ hs2.1 rfl
      refine oq_if (fun c2 => ?_) (fun c2 => ?_)
      · refine oq_c (inr_of (by have f0 := p_v2; have f1 := i_rg v2; have f2 := i_nle c1; have f3 := j_rd hJ 25 14 0 8 rfl; omega)) ?_
        refine oq_n (fun s4 es4 => ?_)
        have js4 : JC 8796093022208 s0 s4 := by rw [es4]; exact (j_wf js2 rfl 43 rfl rfl)
        exact ih _ _ js4 (by have f0 := i_add (v2) ((1 : Int32)); have f1 := p_v2; have f2 := i_rg v2; have f3 : (1 : Int32).toInt = 1 := rfl; have f4 := i_nle c1; have f5 := j_rd hJ 25 14 0 8 rfl; omega) (by have g0 := i_add (v2) ((1 : Int32)); have g1 := p_v2; have g2 := i_rg v2; have g3 : (1 : Int32).toInt = 1 := rfl; have g4 := i_nle c1; have g5 := j_rd hJ 25 14 0 8 rfl; have g6 := hn; omega)
      · exact ih _ _ js2 (by have f0 := i_add (v2) ((1 : Int32)); have f1 := p_v2; have f2 := i_rg v2; have f3 : (1 : Int32).toInt = 1 := rfl; have f4 := i_nle c1; have f5 := j_rd hJ 25 14 0 8 rfl; omega) (by have g0 := i_add (v2) ((1 : Int32)); have g1 := p_v2; have g2 := i_rg v2; have g3 : (1 : Int32).toInt = 1 := rfl; have g4 := i_nle c1; have g5 := j_rd hJ 25 14 0 8 rfl; have g6 := hn; omega)
theorem h_X2_countWar_25  {s : Sg} (hR : Rg rC s) : OQ (f_X2_countWar_25  s) (fun _ s9 => JC 8796093022208 s s9 ∧ True) := by
  have hJ : JC 8796093022208 s s := j_refl hR
  unfold f_X2_countWar_25
  exact h_X2_countWar_25_b2 BIG _ _ hJ (by have f0 : (0 : Int32).toInt = 0 := rfl; omega) (by have g0 : (0 : Int32).toInt = 0 := rfl; have g1 : BIG = 4294967296 := rfl; omega)
theorem h_X2_passNight_25_b35 {s0 : Sg} (t0 : Int32) (s : Sg) (hJ : JC 16492741525504 s0 s) : OQ (f_X2_passNight_25_b35 t0 s) (fun _ s9 => JC 16492741525504 s0 s9 ∧ True) := by
  unfold f_X2_passNight_25_b35
  refine oq_b (h_X2_countWar_25  ((j_wf hJ rfl 26 rfl rfl) : JC 16492741525504 s0 (pI s 26 5 t0)).1) (fun u1 s8 hs8 => ?_)
  have js8 : JC 16492741525504 s0 s8 := j_call ((j_wf hJ rfl 26 rfl rfl) : JC 16492741525504 s0 (pI s 26 5 t0)) hs8.1 rfl
  refine oq_n (fun s9 es9 => ?_)
  have js9 : JC 16492741525504 s0 s9 := by rw [es9]; exact (j_wf js8 rfl 26 rfl rfl)
  exact ⟨(j_wr 0 1 js9 rfl 26 rfl rfl (by have f0 : (0 : Int32).toInt = 0 := rfl; omega)), trivial⟩
theorem h_X2_passNight_25  {s : Sg} (hR : Rg rC s) : OQ (f_X2_passNight_25  s) (fun _ s9 => JC 16492741525504 s s9 ∧ True) := by
  have hJ : JC 16492741525504 s s := j_refl hR
  unfold f_X2_passNight_25
  refine oq_b (h_X2_sendCats_25  hJ.1) (fun u1 s2 hs2 => ?_)
  have js2 : JC 16492741525504 s s2 := j_call hJ hs2.1 rfl
  refine oq_b (h_X2_meltSnow_25  js2.1) (fun u2 s4 hs4 => ?_)
  have js4 : JC 16492741525504 s s4 := j_call js2 hs4.1 rfl
  refine oq_b (h_X9_atPeace_26_25 _ js4.1 (by have f0 : ((-1) : Int32).toInt = (-1) := rfl; omega)) (fun r5 s6 hs6 => ?_)
  have js6 : JC 16492741525504 s s6 := j_call js4 hs6.1 rfl
  refine oq_if (fun c3 => ?_) (fun c3 => ?_)
  · exact h_X2_passNight_25_b35 _ _ js6
  · exact h_X2_passNight_25_b35 _ _ js6
theorem h_X11_night  {s : Sg} (hR : Rg rC s) : OQ (f_X11_night  s) (fun r9 s9 => JC 47890485652059026823698344598447161988102090309763072 s s9 ∧ True ∧ (r9 = 0 → True) ∧ (¬ r9 = 0 → True)) := by
  have hJ : JC 47890485652059026823698344598447161988102090309763072 s s := j_refl hR
  unfold f_X11_night
  refine oq_if (fun c1 => ?_) (fun c1 => ?_)
  · refine oq_b (h_X2_passNight_25  hJ.1) (fun u2 s2 hs2 => ?_)
    have js2 : JC 47890485652059026823698344598447161988102090309763072 s s2 := j_call hJ hs2.1 rfl
    refine oq_b (h_X11_answer _ js2.1) (fun r3 s4 hs4 => ?_)
    have js4 : JC 47890485652059026823698344598447161988102090309763072 s s4 := j_call js2 hs4.1 rfl
    exact ⟨js4, trivial, fun _ => trivial, fun _ => trivial⟩
  · refine oq_b (h_X11_refuse _ hJ.1 (by have f0 : (4 : Int32).toInt = 4 := rfl; omega)) (fun r5 s6 hs6 => ?_)
    have js6 : JC 47890485652059026823698344598447161988102090309763072 s s6 := j_call hJ hs6.1 rfl
    exact ⟨js6, trivial, fun w9 => False.elim (by have f0 := hs6.2.1; have f1 := i_rg r5; have f2 := i_eq w9; have f3 : (0 : Int32).toInt = 0 := rfl; omega), fun _ => trivial⟩
theorem h_X11_cat (a1 : Int32) (a2 : Int32) {s : Sg} (hR : Rg rC s) : OQ (f_X11_cat a1 a2 s) (fun r9 s9 => JC 47890485652059026823698344598447161988085597568237568 s s9 ∧ True ∧ (r9 = 0 → 0 ≤ (a1).toInt ∧ (a1).toInt ≤ 3 ∧ 0 ≤ (a2).toInt ∧ (a2).toInt ≤ 2) ∧ (¬ r9 = 0 → True)) := by
  have hJ : JC 47890485652059026823698344598447161988085597568237568 s s := j_refl hR
  unfold f_X11_cat
  refine oq_b (h_X11_within _ _ _ hJ.1 (by have f0 : (0 : Int32).toInt = 0 := rfl; omega) (by have f0 := i_sub (s.1 25 15) ((1 : Int32)); have f1 := j_rd hJ 25 15 0 4 rfl; have f2 : (1 : Int32).toInt = 1 := rfl; omega)) (fun r1 s2 hs2 => ?_)
  have js2 : JC 47890485652059026823698344598447161988085597568237568 s s2 := j_call hJ hs2.1 rfl
  refine oq_if (fun c1 => ?_) (fun c1 => ?_)
  · refine oq_b (h_X11_refuse _ js2.1 (by have f0 : (1 : Int32).toInt = 1 := rfl; omega)) (fun r3 s4 hs4 => ?_)
    have js4 : JC 47890485652059026823698344598447161988085597568237568 s s4 := j_call js2 hs4.1 rfl
    exact ⟨js4, trivial, fun w9 => False.elim (by have f0 := hs4.2.1; have f1 := i_rg r3; have f2 := i_eq w9; have f3 : (0 : Int32).toInt = 0 := rfl; omega), fun _ => trivial⟩
  · refine oq_if (fun c2 => ?_) (fun c2 => ?_)
    · refine oq_c (inr_of (by have f0 := i_rg a1; have f1 := (hs2.2.2.2 c1).1; have f2 := (hs2.2.2.2 c1).2.1; have f3 := i_sub (s.1 25 15) ((1 : Int32)); have f4 := (hs2.2.2.2 c1).2.2.1; have f5 := (hs2.2.2.2 c1).2.2.2; have f6 : (0 : Int32).toInt = 0 := rfl; have f7 := j_rd hJ 25 15 0 4 rfl; have f8 : (1 : Int32).toInt = 1 := rfl; omega)) ?_
      refine oq_b (h_X11_answer _ js2.1) (fun r6 s7 hs7 => ?_)
      have js7 : JC 47890485652059026823698344598447161988085597568237568 s s7 := j_call js2 hs7.1 rfl
      exact ⟨js7, trivial, fun w9 => ⟨(by have f0 : (0 : Int32).toInt = 0 := rfl; have f1 := i_rg a1; have f2 := (hs2.2.2.2 c1).1; have f3 := (hs2.2.2.2 c1).2.1; have f4 := i_sub (s.1 25 15) ((1 : Int32)); have f5 := (hs2.2.2.2 c1).2.2.1; have f6 := (hs2.2.2.2 c1).2.2.2; have f7 := j_rd hJ 25 15 0 4 rfl; have f8 : (1 : Int32).toInt = 1 := rfl; omega), (by have f0 := i_rg a1; have f1 : (3 : Int32).toInt = 3 := rfl; have f2 := (hs2.2.2.2 c1).1; have f3 := (hs2.2.2.2 c1).2.1; have f4 := i_sub (s.1 25 15) ((1 : Int32)); have f5 := (hs2.2.2.2 c1).2.2.1; have f6 := (hs2.2.2.2 c1).2.2.2; have f7 : (0 : Int32).toInt = 0 := rfl; have f8 := j_rd hJ 25 15 0 4 rfl; have f9 : (1 : Int32).toInt = 1 := rfl; omega), (by have f0 : (0 : Int32).toInt = 0 := rfl; have f1 := i_rg a2; have f2 := i_eq c2; omega), (by have f0 := i_rg a2; have f1 : (2 : Int32).toInt = 2 := rfl; have f2 := i_eq c2; have f3 : (0 : Int32).toInt = 0 := rfl; omega)⟩, fun _ => trivial⟩
    · refine oq_if (fun c3 => ?_) (fun c3 => ?_)
      · refine oq_c (inr_of (by have f0 := i_rg a1; have f1 := (hs2.2.2.2 c1).1; have f2 := (hs2.2.2.2 c1).2.1; have f3 := i_sub (s.1 25 15) ((1 : Int32)); have f4 := (hs2.2.2.2 c1).2.2.1; have f5 := (hs2.2.2.2 c1).2.2.2; have f6 : (0 : Int32).toInt = 0 := rfl; have f7 := j_rd hJ 25 15 0 4 rfl; have f8 : (1 : Int32).toInt = 1 := rfl; omega)) ?_
        refine oq_b (h_X11_answer _ js2.1) (fun r9 s10 hs10 => ?_)
        have js10 : JC 47890485652059026823698344598447161988085597568237568 s s10 := j_call js2 hs10.1 rfl
        exact ⟨js10, trivial, fun w9 => ⟨(by have f0 : (0 : Int32).toInt = 0 := rfl; have f1 := i_rg a1; have f2 := (hs2.2.2.2 c1).1; have f3 := (hs2.2.2.2 c1).2.1; have f4 := i_sub (s.1 25 15) ((1 : Int32)); have f5 := (hs2.2.2.2 c1).2.2.1; have f6 := (hs2.2.2.2 c1).2.2.2; have f7 := j_rd hJ 25 15 0 4 rfl; have f8 : (1 : Int32).toInt = 1 := rfl; omega), (by have f0 := i_rg a1; have f1 : (3 : Int32).toInt = 3 := rfl; have f2 := (hs2.2.2.2 c1).1; have f3 := (hs2.2.2.2 c1).2.1; have f4 := i_sub (s.1 25 15) ((1 : Int32)); have f5 := (hs2.2.2.2 c1).2.2.1; have f6 := (hs2.2.2.2 c1).2.2.2; have f7 : (0 : Int32).toInt = 0 := rfl; have f8 := j_rd hJ 25 15 0 4 rfl; have f9 : (1 : Int32).toInt = 1 := rfl; omega), (by have f0 : (0 : Int32).toInt = 0 := rfl; have f1 := i_rg a2; have f2 := i_ne c2; have f3 := i_eq c3; have f4 : (1 : Int32).toInt = 1 := rfl; omega), (by have f0 := i_rg a2; have f1 : (2 : Int32).toInt = 2 := rfl; have f2 := i_ne c2; have f3 := i_eq c3; have f4 : (0 : Int32).toInt = 0 := rfl; have f5 : (1 : Int32).toInt = 1 := rfl; omega)⟩, fun _ => trivial⟩
      · refine oq_if (fun c4 => ?_) (fun c4 => ?_)
        · refine oq_c (inr_of (by have f0 := i_rg a1; have f1 := (hs2.2.2.2 c1).1; have f2 := (hs2.2.2.2 c1).2.1; have f3 := i_sub (s.1 25 15) ((1 : Int32)); have f4 := (hs2.2.2.2 c1).2.2.1; have f5 := (hs2.2.2.2 c1).2.2.2; have f6 : (0 : Int32).toInt = 0 := rfl; have f7 := j_rd hJ 25 15 0 4 rfl; have f8 : (1 : Int32).toInt = 1 := rfl; omega)) ?_
          refine oq_b (h_X11_answer _ js2.1) (fun r12 s13 hs13 => ?_)
          have js13 : JC 47890485652059026823698344598447161988085597568237568 s s13 := j_call js2 hs13.1 rfl
          exact ⟨js13, trivial, fun w9 => ⟨(by have f0 : (0 : Int32).toInt = 0 := rfl; have f1 := i_rg a1; have f2 := (hs2.2.2.2 c1).1; have f3 := (hs2.2.2.2 c1).2.1; have f4 := i_sub (s.1 25 15) ((1 : Int32)); have f5 := (hs2.2.2.2 c1).2.2.1; have f6 := (hs2.2.2.2 c1).2.2.2; have f7 := j_rd hJ 25 15 0 4 rfl; have f8 : (1 : Int32).toInt = 1 := rfl; omega), (by have f0 := i_rg a1; have f1 : (3 : Int32).toInt = 3 := rfl; have f2 := (hs2.2.2.2 c1).1; have f3 := (hs2.2.2.2 c1).2.1; have f4 := i_sub (s.1 25 15) ((1 : Int32)); have f5 := (hs2.2.2.2 c1).2.2.1; have f6 := (hs2.2.2.2 c1).2.2.2; have f7 : (0 : Int32).toInt = 0 := rfl; have f8 := j_rd hJ 25 15 0 4 rfl; have f9 : (1 : Int32).toInt = 1 := rfl; omega), (by have f0 : (0 : Int32).toInt = 0 := rfl; have f1 := i_rg a2; have f2 := i_ne c2; have f3 := i_ne c3; have f4 := i_eq c4; have f5 : (1 : Int32).toInt = 1 := rfl; have f6 : (2 : Int32).toInt = 2 := rfl; omega), (by have f0 := i_rg a2; have f1 : (2 : Int32).toInt = 2 := rfl; have f2 := i_ne c2; have f3 := i_ne c3; have f4 := i_eq c4; have f5 : (0 : Int32).toInt = 0 := rfl; have f6 : (1 : Int32).toInt = 1 := rfl; omega)⟩, fun _ => trivial⟩
        · refine oq_b (h_X11_refuse _ js2.1 (by have f0 : (1 : Int32).toInt = 1 := rfl; omega)) (fun r14 s15 hs15 => ?_)
          have js15 : JC 47890485652059026823698344598447161988085597568237568 s s15 := j_call js2 hs15.1 rfl
          exact ⟨js15, trivial, fun w9 => False.elim (by have f0 := hs15.2.1; have f1 := i_rg r14; have f2 := i_eq w9; have f3 : (0 : Int32).toInt = 0 := rfl; omega), fun _ => trivial⟩
