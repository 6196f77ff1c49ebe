/-! what strew, buy, sweep, rain leave alone on the side of the class: printed by genA3.py -/
theorem fy_X11_within (a0 : Int32) (a1 : Int32) (a2 : Int32) (s : Sg) : PQ (f_X11_within a0 a1 a2 s) (fun _ s9 => Fr cDy 0 s s9) := by
  have hJ : Fr cDy 0 s s := fr_r
  unfold f_X11_within
  refine pq_if (fun _ => ?_) (fun _ => ?_)
  · exact pq_s hJ
  · refine pq_if (fun _ => ?_) (fun _ => ?_)
    · exact pq_s hJ
    · exact pq_s hJ
theorem fy_X11_refuse (a1 : Int32) (s : Sg) : PQ (f_X11_refuse a1 s) (fun _ s9 => Fr cDy 1 s s9) := by
  have hJ : Fr cDy 1 s s := fr_r
  unfold f_X11_refuse
  exact pq_s (fr_i hJ 0 rfl rfl)
theorem fy_X11_answer (a1 : Int32) (s : Sg) : PQ (f_X11_answer a1 s) (fun _ s9 => Fr cDy 1 s s9) := by
  have hJ : Fr cDy 1 s s := fr_r
  unfold f_X11_answer
  exact pq_s (fr_i hJ 0 rfl rfl)
theorem fy_X11_isHouse (a1 : Int32) (s : Sg) : PQ (f_X11_isHouse a1 s) (fun _ s9 => Fr cDy 0 s s9) := by
  have hJ : Fr cDy 0 s s := fr_r
  unfold f_X11_isHouse
  refine pq_b (fy_X11_within _ _ _ _) (fun _ s2 gs2 => ?_)
  have js2 := fr_t hJ gs2 rfl
  refine pq_c (fun _ => ?_)
  exact pq_s js2
theorem fy_X11_whyNoStep (a1 : Int32) (a2 : Int32) (s : Sg) : PQ (f_X11_whyNoStep a1 a2 s) (fun _ s9 => Fr cDy 0 s s9) := by
  have hJ : Fr cDy 0 s s := fr_r
  unfold f_X11_whyNoStep
  refine pq_b (fy_X11_isHouse _ _) (fun _ s2 gs2 => ?_)
  have js2 := fr_t hJ gs2 rfl
  refine pq_if (fun _ => ?_) (fun _ => ?_)
  · exact pq_s js2
  · refine pq_if (fun _ => ?_) (fun _ => ?_)
    · exact pq_s js2
    · refine pq_b (fy_X4_isGone _ _) (fun _ s4 gs4 => ?_)
      have js4 := fr_t js2 gs4 rfl
      refine pq_if (fun _ => ?_) (fun _ => ?_)
      · exact pq_s js4
      · exact pq_s js4
theorem fy_X11_isGrocer (a1 : Int32) (s : Sg) : PQ (f_X11_isGrocer a1 s) (fun _ s9 => Fr cDy 0 s s9) := by
  have hJ : Fr cDy 0 s s := fr_r
  unfold f_X11_isGrocer
  refine pq_b (fy_X11_within _ _ _ _) (fun _ s2 gs2 => ?_)
  have js2 := fr_t hJ gs2 rfl
  refine pq_c (fun _ => ?_)
  exact pq_s js2
theorem fy_X11_strew (a1 : Int32) (a2 : Int32) (s : Sg) : PQ (f_X11_strew a1 a2 s) (fun _ s9 => Fr cDy 822752278660603021077484591278675252491367932816791031185932289 s s9) := by
  have hJ : Fr cDy 822752278660603021077484591278675252491367932816791031185932289 s s := fr_r
  unfold f_X11_strew
  refine pq_b (fy_X11_within _ _ _ _) (fun _ s2 gs2 => ?_)
  have js2 := fr_t hJ gs2 rfl
  refine pq_b (fy_X11_whyNoStep _ _ _) (fun _ s4 gs4 => ?_)
  have js4 := fr_t js2 gs4 rfl
  refine pq_if (fun _ => ?_) (fun _ => ?_)
  · refine pq_b (fy_X2_hasRoom _ _ _) (fun _ s6 gs6 => ?_)
    have js6 := fr_t js4 gs6 rfl
    refine pq_if (fun _ => ?_) (fun _ => ?_)
    · refine pq_b (fy_X11_refuse _ _) (fun _ s8 gs8 => ?_)
      have js8 := fr_t js6 gs8 rfl
      exact pq_s js8
    · refine pq_b (fy_X2_addSalt _ _ _) (fun _ s10 gs10 => ?_)
      have js10 := fr_t js6 gs10 rfl
      refine pq_c (fun _ => ?_)
      refine pq_b (fy_X11_answer _ _) (fun _ s13 gs13 => ?_)
      have js13 := fr_t js10 gs13 rfl
      exact pq_s js13
  · refine pq_b (fy_X11_refuse _ _) (fun _ s15 gs15 => ?_)
    have js15 := fr_t js4 gs15 rfl
    exact pq_s js15
theorem fy_X11_buy (a1 : Int32) (a2 : Int32) (a3 : Int32) (s : Sg) : PQ (f_X11_buy a1 a2 a3 s) (fun _ s9 => Fr cDy 1234128417990904531616226886918012878737051899225205788232384513 s s9) := by
  have hJ : Fr cDy 1234128417990904531616226886918012878737051899225205788232384513 s s := fr_r
  unfold f_X11_buy
  refine pq_b (fy_X11_isGrocer _ _) (fun _ s2 gs2 => ?_)
  have js2 := fr_t hJ gs2 rfl
  refine pq_if (fun _ => ?_) (fun _ => ?_)
  · refine pq_b (fy_X11_refuse _ _) (fun _ s4 gs4 => ?_)
    have js4 := fr_t js2 gs4 rfl
    exact pq_s js4
  · refine pq_b (fy_X11_within _ _ _ _) (fun _ s6 gs6 => ?_)
    have js6 := fr_t js2 gs6 rfl
    refine pq_if (fun _ => ?_) (fun _ => ?_)
    · refine pq_b (fy_X11_refuse _ _) (fun _ s8 gs8 => ?_)
      have js8 := fr_t js6 gs8 rfl
      exact pq_s js8
    · refine pq_b (fy_X11_isHouse _ _) (fun _ s10 gs10 => ?_)
      have js10 := fr_t js6 gs10 rfl
      refine pq_if (fun _ => ?_) (fun _ => ?_)
      · refine pq_b (fy_X11_refuse _ _) (fun _ s12 gs12 => ?_)
        have js12 := fr_t js10 gs12 rfl
        exact pq_s js12
      · refine pq_b (fy_X2_hasRoom _ _ _) (fun _ s14 gs14 => ?_)
        have js14 := fr_t js10 gs14 rfl
        refine pq_if (fun _ => ?_) (fun _ => ?_)
        · refine pq_b (fy_X11_refuse _ _) (fun _ s16 gs16 => ?_)
          have js16 := fr_t js14 gs16 rfl
          exact pq_s js16
        · refine pq_c (fun _ => ?_)
          refine pq_if (fun _ => ?_) (fun _ => ?_)
          · refine pq_b (fy_X4_isGone _ _) (fun _ s19 gs19 => ?_)
            have js19 := fr_t js14 gs19 rfl
            refine pq_if (fun _ => ?_) (fun _ => ?_)
            · refine pq_b (fy_X2_addBought_25 _ _ _ _) (fun _ s21 gs21 => ?_)
              have js21 := fr_t js19 gs21 rfl
              refine pq_b (fy_X11_answer _ _) (fun _ s23 gs23 => ?_)
              have js23 := fr_t js21 gs23 rfl
              exact pq_s js23
            · refine pq_b (fy_X11_refuse _ _) (fun _ s25 gs25 => ?_)
              have js25 := fr_t js19 gs25 rfl
              exact pq_s js25
          · refine pq_b (fy_X11_refuse _ _) (fun _ s27 gs27 => ?_)
            have js27 := fr_t js14 gs27 rfl
            exact pq_s js27
theorem fy_X11_sweep (a1 : Int32) (s : Sg) : PQ (f_X11_sweep a1 s) (fun _ s9 => Fr cDy 3291009114642412084309938365114701009965471731267163025232101377 s s9) := by
  have hJ : Fr cDy 3291009114642412084309938365114701009965471731267163025232101377 s s := fr_r
  unfold f_X11_sweep
  refine pq_b (fy_X11_whyNoStep _ _ _) (fun _ s2 gs2 => ?_)
  have js2 := fr_t hJ gs2 rfl
  refine pq_if (fun _ => ?_) (fun _ => ?_)
  · refine pq_b (fy_X2_clearStep _ _) (fun _ s4 gs4 => ?_)
    have js4 := fr_t js2 gs4 rfl
    refine pq_b (fy_X11_answer _ _) (fun _ s6 gs6 => ?_)
    have js6 := fr_t js4 gs6 rfl
    exact pq_s js6
  · refine pq_b (fy_X11_refuse _ _) (fun _ s8 gs8 => ?_)
    have js8 := fr_t js2 gs8 rfl
    exact pq_s js8
theorem fy_X11_rain  (s : Sg) : PQ (f_X11_rain  s) (fun _ s9 => Fr cDy 1851192626986356797424340330377019318105577848837780644802068481 s s9) := by
  have hJ : Fr cDy 1851192626986356797424340330377019318105577848837780644802068481 s s := fr_r
  unfold f_X11_rain
  refine pq_b (fy_X2_letRain_25  _) (fun _ s2 gs2 => ?_)
  have js2 := fr_t hJ gs2 rfl
  refine pq_b (fy_X11_answer _ _) (fun _ s4 gs4 => ?_)
  have js4 := fr_t js2 gs4 rfl
  exact pq_s js4
