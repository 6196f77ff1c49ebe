abbrev Rel := RelP
set_option maxRecDepth 20000 in
theorem st_0  {sC sM : Sg} (hR : Rel sC sM) : OQ (f_X11_status  sC) (fun rC sC2 => OQ (f_X12_status  sM) (fun rM sM2 => Rel sC2 sM2)) := sp_0_  hR
set_option maxRecDepth 20000 in
theorem st_1  {sC sM : Sg} (hR : Rel sC sM) : OQ (f_X11_top  sC) (fun rC sC2 => OQ (f_X12_top  sM) (fun rM sM2 => Rel sC2 sM2)) := sp_1_  hR
set_option maxRecDepth 20000 in
theorem st_2  {sC sM : Sg} (hR : Rel sC sM) : OQ (f_X11_bottom  sC) (fun rC sC2 => OQ (f_X12_bottom  sM) (fun rM sM2 => Rel sC2 sM2)) := sp_2_  hR
theorem st_3 (a0 : Int32) (a1 : Int32) (a2 : Int32) {sC sM : Sg} (hR : Rel sC sM) : OQ (f_X11_tray a0 a1 a2 sC) (fun rC sC2 => OQ (f_X12_tray a0 a1 a2 sM) (fun rM sM2 => Rel sC2 sM2)) := oq_w (sp_3_ a0 a1 a2 hR) (fun _ _ g => oq_w g (fun _ _ k => k.1))
theorem st_4 (a0 : Int32) (a1 : Int32) (a2 : Int64) {sC sM : Sg} (hR : Rel sC sM) : OQ (f_X11_write a0 a1 a2 sC) (fun rC sC2 => OQ (f_X12_write a0 a1 a2 sM) (fun rM sM2 => Rel sC2 sM2)) := oq_w (sp_4_ a0 a1 a2 hR) (fun _ _ g => oq_w g (fun _ _ k => k.1))
theorem st_5 (a0 : Int32) (a1 : Int32) {sC sM : Sg} (hR : Rel sC sM) : OQ (f_X11_read a0 a1 sC) (fun rC sC2 => OQ (f_X12_read a0 a1 sM) (fun rM sM2 => Rel sC2 sM2)) := oq_w (sp_5_ a0 a1 hR) (fun _ _ g => oq_w g (fun _ _ k => k.1))
theorem st_6 (a0 : Int32) (a1 : Int32) (a2 : Int32) (a3 : Int32) (a4 : Int32) {sC sM : Sg} (hR : Rel sC sM) : OQ (f_X11_pour a0 a1 a2 a3 a4 sC) (fun rC sC2 => OQ (f_X12_pour a0 a1 a2 a3 a4 sM) (fun rM sM2 => Rel sC2 sM2)) := oq_w (sp_6_ a0 a1 a2 a3 a4 hR) (fun _ _ g => oq_w g (fun _ _ k => k.1))
theorem st_7 (a0 : Int32) (a1 : Int32) (a2 : Int32) (a3 : Int32) (a4 : Int32) {sC sM : Sg} (hR : Rel sC sM) : OQ (f_X11_feed a0 a1 a2 a3 a4 sC) (fun rC sC2 => OQ (f_X12_feed a0 a1 a2 a3 a4 sM) (fun rM sM2 => Rel sC2 sM2)) := oq_w (sp_7_ a0 a1 a2 a3 a4 hR) (fun _ _ g => oq_w g (fun _ _ k => k.1))
theorem st_8 (a0 : Int32) {sC sM : Sg} (hR : Rel sC sM) : OQ (f_X11_street a0 sC) (fun rC sC2 => OQ (f_X12_street a0 sM) (fun rM sM2 => Rel sC2 sM2)) := oq_w (sp_8_ a0 hR) (fun _ _ g => oq_w g (fun _ _ k => k.1))
theorem st_9 (a0 : Int32) {sC sM : Sg} (hR : Rel sC sM) : OQ (f_X11_days a0 sC) (fun rC sC2 => OQ (f_X12_days a0 sM) (fun rM sM2 => Rel sC2 sM2)) := oq_w (sp_9_ a0 hR) (fun _ _ g => oq_w g (fun _ _ k => k.1))
theorem st_10 (a0 : Int32) {sC sM : Sg} (hR : Rel sC sM) : OQ (f_X11_fault a0 sC) (fun rC sC2 => OQ (f_X12_fault a0 sM) (fun rM sM2 => Rel sC2 sM2 ∧ rC = rM)) := sp_10_ a0 hR
theorem st_11 (a0 : Int32) {sC sM : Sg} (hR : Rel sC sM) : OQ (f_X11_told a0 sC) (fun rC sC2 => OQ (f_X12_told a0 sM) (fun rM sM2 => Rel sC2 sM2)) := sp_11_ a0 hR
set_option maxRecDepth 20000 in
theorem st_12  {sC sM : Sg} (hR : Rel sC sM) : OQ (f_X11_purse  sC) (fun rC sC2 => OQ (f_X12_purse  sM) (fun rM sM2 => Rel sC2 sM2)) := sp_12_  hR
theorem st_13 (a0 : Int32) (a1 : Int32) {sC sM : Sg} (hR : Rel sC sM) : OQ (f_X11_step a0 a1 sC) (fun rC sC2 => OQ (f_X12_step a0 a1 sM) (fun rM sM2 => Rel sC2 sM2)) := sp_13_ a0 a1 hR
theorem st_14 (a0 : Int32) (a1 : Int32) {sC sM : Sg} (hR : Rel sC sM) : OQ (f_X11_quarrel a0 a1 sC) (fun rC sC2 => OQ (f_X12_quarrel a0 a1 sM) (fun rM sM2 => Rel sC2 sM2)) := sp_14_ a0 a1 hR
theorem st_15 (a0 : Int32) (a1 : Int32) {sC sM : Sg} (hR : Rel sC sM) : OQ (f_X11_grocer a0 a1 sC) (fun rC sC2 => OQ (f_X12_grocer a0 a1 sM) (fun rM sM2 => Rel sC2 sM2)) := sp_15_ a0 a1 hR
theorem st_16 (a0 : Int32) (a1 : Int32) {sC sM : Sg} (hR : Rel sC sM) : OQ (f_X11_share a0 a1 sC) (fun rC sC2 => OQ (f_X12_share a0 a1 sM) (fun rM sM2 => Rel sC2 sM2)) := sp_16_ a0 a1 hR
theorem st_17 (a0 : Int32) (a1 : Int32) {sC sM : Sg} (hR : Rel sC sM) : OQ (f_X11_whose a0 a1 sC) (fun rC sC2 => OQ (f_X12_whose a0 a1 sM) (fun rM sM2 => Rel sC2 sM2)) := sp_17_ a0 a1 hR
theorem st_18 (a0 : Int32) {sC sM : Sg} (hR : Rel sC sM) : OQ (f_X11_nobodys a0 sC) (fun rC sC2 => OQ (f_X12_nobodys a0 sM) (fun rM sM2 => Rel sC2 sM2)) := sp_18_ a0 hR
set_option maxRecDepth 20000 in
theorem st_19  {sC sM : Sg} (hR : Rel sC sM) : OQ (f_X11_peace  sC) (fun rC sC2 => OQ (f_X12_peace  sM) (fun rM sM2 => Rel sC2 sM2)) := sp_19_  hR
set_option maxRecDepth 20000 in
theorem st_20  {sC sM : Sg} (hR : Rel sC sM) : OQ (f_X11_truce  sC) (fun rC sC2 => OQ (f_X12_truce  sM) (fun rM sM2 => Rel sC2 sM2)) := sp_20_  hR
set_option maxRecDepth 20000 in
theorem st_21  {sC sM : Sg} (hR : Rel sC sM) : OQ (f_X11_over  sC) (fun rC sC2 => OQ (f_X12_over  sM) (fun rM sM2 => Rel sC2 sM2)) := sp_21_  hR
set_option maxRecDepth 20000 in
theorem st_22  {sC sM : Sg} (hR : Rel sC sM) : OQ (f_X11_hopeless  sC) (fun rC sC2 => OQ (f_X12_hopeless  sM) (fun rM sM2 => Rel sC2 sM2)) := oq_w (sp_22_  hR) (fun _ _ g => oq_w g (fun _ _ k => k.1))
theorem st_23 (a0 : Int32) (a1 : Int32) {sC sM : Sg} (hR : Rel sC sM) : OQ (f_X11_strew a0 a1 sC) (fun rC sC2 => OQ (f_X12_strew a0 a1 sM) (fun rM sM2 => Rel sC2 sM2)) := sp_23_ a0 a1 hR
theorem st_24 (a0 : Int32) (a1 : Int32) (a2 : Int32) {sC sM : Sg} (hR : Rel sC sM) : OQ (f_X11_buy a0 a1 a2 sC) (fun rC sC2 => OQ (f_X12_buy a0 a1 a2 sM) (fun rM sM2 => Rel sC2 sM2)) := sp_24_ a0 a1 a2 hR
theorem st_25 (a0 : Int32) {sC sM : Sg} (hR : Rel sC sM) : OQ (f_X11_sweep a0 sC) (fun rC sC2 => OQ (f_X12_sweep a0 sM) (fun rM sM2 => Rel sC2 sM2)) := sp_25_ a0 hR
theorem st_26 (a0 : Int32) (a1 : Int32) (a2 : Int32) {sC sM : Sg} (hR : Rel sC sM) : OQ (f_X11_shovel a0 a1 a2 sC) (fun rC sC2 => OQ (f_X12_shovel a0 a1 a2 sM) (fun rM sM2 => Rel sC2 sM2)) := sp_26_ a0 a1 a2 hR
set_option maxRecDepth 20000 in
theorem st_27  {sC sM : Sg} (hR : Rel sC sM) : OQ (f_X11_rain  sC) (fun rC sC2 => OQ (f_X12_rain  sM) (fun rM sM2 => Rel sC2 sM2)) := sp_27_  hR
theorem st_28 (a0 : Int32) {sC sM : Sg} (hR : Rel sC sM) : OQ (f_X11_snow a0 sC) (fun rC sC2 => OQ (f_X12_snow a0 sM) (fun rM sM2 => Rel sC2 sM2)) := oq_w (sp_28_ a0 hR) (fun _ _ g => oq_w g (fun _ _ k => k.1))
set_option maxRecDepth 20000 in
theorem st_29  {sC sM : Sg} (hR : Rel sC sM) : OQ (f_X11_night  sC) (fun rC sC2 => OQ (f_X12_night  sM) (fun rM sM2 => Rel sC2 sM2)) := sp_29_  hR
theorem st_30 (a0 : Int32) (a1 : Int32) {sC sM : Sg} (hR : Rel sC sM) : OQ (f_X11_cat a0 a1 sC) (fun rC sC2 => OQ (f_X12_cat a0 a1 sM) (fun rM sM2 => Rel sC2 sM2)) := oq_w (sp_30_ a0 a1 hR) (fun _ _ g => oq_w g (fun _ _ k => k.1))
theorem st_31 (a0 : Int32) {sC sM : Sg} (hR : Rel sC sM) : OQ (f_X11_reaches a0 sC) (fun rC sC2 => OQ (f_X12_reaches a0 sM) (fun rM sM2 => Rel sC2 sM2)) := oq_w (sp_31_ a0 hR) (fun _ _ g => oq_w g (fun _ _ k => k.1))
theorem st_32 (a0 : Int32) {sC sM : Sg} (hR : Rel sC sM) : OQ (f_X11_chain a0 sC) (fun rC sC2 => OQ (f_X12_chain a0 sM) (fun rM sM2 => Rel sC2 sM2)) := oq_w (sp_32_ a0 hR) (fun _ _ g => oq_w g (fun _ _ k => k.1))
theorem st_33 (a0 : Int32) (a1 : Int32) (a2 : Int32) {sC sM : Sg} (hR : Rel sC sM) : OQ (f_X11_forecast a0 a1 a2 sC) (fun rC sC2 => OQ (f_X12_forecast a0 a1 a2 sM) (fun rM sM2 => Rel sC2 sM2)) := sp_33_ a0 a1 a2 hR
theorem st_34 (a0 : Int32) {sC sM : Sg} (hR : Rel sC sM) : OQ (f_X11_soonest a0 sC) (fun rC sC2 => OQ (f_X12_soonest a0 sM) (fun rM sM2 => Rel sC2 sM2)) := sp_34_ a0 hR
set_option maxRecDepth 20000 in
theorem st_35  {sC sM : Sg} (hR : Rel sC sM) : OQ (f_X11_longest  sC) (fun rC sC2 => OQ (f_X12_longest  sM) (fun rM sM2 => Rel sC2 sM2)) := sp_35_  hR
set_option maxRecDepth 20000 in
theorem st_36  {sC sM : Sg} (hR : Rel sC sM) : OQ (f_X11_fullest  sC) (fun rC sC2 => OQ (f_X12_fullest  sM) (fun rM sM2 => Rel sC2 sM2)) := sp_36_  hR
theorem st_37 (a0 : Int32) {sC sM : Sg} (hR : Rel sC sM) : OQ (f_X11_best a0 sC) (fun rC sC2 => OQ (f_X12_best a0 sM) (fun rM sM2 => Rel sC2 sM2)) := sp_37_ a0 hR
set_option maxRecDepth 20000 in
theorem st_38  {sC sM : Sg} (hR : Rel sC sM) : OQ (f_X11_closest  sC) (fun rC sC2 => OQ (f_X12_closest  sM) (fun rM sM2 => Rel sC2 sM2)) := sp_38_  hR
set_option maxRecDepth 20000 in
theorem st_39  {sC sM : Sg} (hR : Rel sC sM) : OQ (f_X11_level  sC) (fun rC sC2 => OQ (f_X12_level  sM) (fun rM sM2 => Rel sC2 sM2)) := sp_39_  hR
theorem st_40 (a0 : Int32) {sC sM : Sg} (hR : Rel sC sM) : OQ (f_X11_thaw a0 sC) (fun rC sC2 => OQ (f_X12_thaw a0 sM) (fun rM sM2 => Rel sC2 sM2)) := sp_40_ a0 hR
set_option maxRecDepth 20000 in
theorem st_41  {sC sM : Sg} (hR : Rel sC sM) : OQ (f_X11_thawAll  sC) (fun rC sC2 => OQ (f_X12_thawAll  sM) (fun rM sM2 => Rel sC2 sM2)) := sp_41_  hR
theorem st_42 (a0 : Int32) {sC sM : Sg} (hR : Rel sC sM) : OQ (f_X11_wants a0 sC) (fun rC sC2 => OQ (f_X12_wants a0 sM) (fun rM sM2 => Rel sC2 sM2)) := sp_42_ a0 hR
set_option maxRecDepth 20000 in
theorem st_43  {sC sM : Sg} (hR : Rel sC sM) : OQ (f_X11_cliff  sC) (fun rC sC2 => OQ (f_X12_cliff  sM) (fun rM sM2 => Rel sC2 sM2)) := sp_43_  hR
theorem st_44 (a0 : Int32) {sC sM : Sg} (hR : Rel sC sM) : OQ (f_X11_steps a0 sC) (fun rC sC2 => OQ (f_X12_steps a0 sM) (fun rM sM2 => Rel sC2 sM2)) := sp_44_ a0 hR
theorem st_45 (a0 : Int32) {sC sM : Sg} (hR : Rel sC sM) : OQ (f_X11_value a0 sC) (fun rC sC2 => OQ (f_X12_value a0 sM) (fun rM sM2 => Rel sC2 sM2)) := sp_45_ a0 hR
theorem st_46 (a0 : Int32) {sC sM : Sg} (hR : Rel sC sM) : OQ (f_X11_beside a0 sC) (fun rC sC2 => OQ (f_X12_beside a0 sM) (fun rM sM2 => Rel sC2 sM2)) := sp_46_ a0 hR
set_option maxRecDepth 20000 in
theorem st_47  {sC sM : Sg} (hR : Rel sC sM) : OQ (f_X11_ghosts  sC) (fun rC sC2 => OQ (f_X12_ghosts  sM) (fun rM sM2 => Rel sC2 sM2)) := oq_w (sp_47_  hR) (fun _ _ g => oq_w g (fun _ _ k => k.1))
set_option maxRecDepth 20000 in
theorem st_48  {sC sM : Sg} (hR : Rel sC sM) : OQ (f_X11_most  sC) (fun rC sC2 => OQ (f_X12_most  sM) (fun rM sM2 => Rel sC2 sM2)) := sp_48_  hR
theorem st_49 (a0 : Int32) {sC sM : Sg} (hR : Rel sC sM) : OQ (f_X11_lack a0 sC) (fun rC sC2 => OQ (f_X12_lack a0 sM) (fun rM sM2 => Rel sC2 sM2)) := sp_49_ a0 hR
theorem st_50 (a0 : Int32) (a1 : Int32) {sC sM : Sg} (hR : Rel sC sM) : OQ (f_X11_lackAt a0 a1 sC) (fun rC sC2 => OQ (f_X12_lackAt a0 a1 sM) (fun rM sM2 => Rel sC2 sM2)) := sp_50_ a0 a1 hR
theorem st_51 (a0 : Int32) {sC sM : Sg} (hR : Rel sC sM) : OQ (f_X11_freed a0 sC) (fun rC sC2 => OQ (f_X12_freed a0 sM) (fun rM sM2 => Rel sC2 sM2)) := sp_51_ a0 hR
theorem st_52 (a0 : Int32) {sC sM : Sg} (hR : Rel sC sM) : OQ (f_X11_cost a0 sC) (fun rC sC2 => OQ (f_X12_cost a0 sM) (fun rM sM2 => Rel sC2 sM2)) := sp_52_ a0 hR
theorem st_53 (a0 : Int32) {sC sM : Sg} (hR : Rel sC sM) : OQ (f_X11_dearest a0 sC) (fun rC sC2 => OQ (f_X12_dearest a0 sM) (fun rM sM2 => Rel sC2 sM2)) := sp_53_ a0 hR
theorem st_54 (a0 : Int32) (a1 : Int32) (a2 : Int32) {sC sM : Sg} (hR : Rel sC sM) : OQ (f_X11_quiet a0 a1 a2 sC) (fun rC sC2 => OQ (f_X12_quiet a0 a1 a2 sM) (fun rM sM2 => Rel sC2 sM2)) := sp_54_ a0 a1 a2 hR
theorem st_55 (a0 : Int32) (a1 : Int32) {sC sM : Sg} (hR : Rel sC sM) : OQ (f_X11_who a0 a1 sC) (fun rC sC2 => OQ (f_X12_who a0 a1 sM) (fun rM sM2 => Rel sC2 sM2)) := sp_55_ a0 a1 hR
theorem st_56 (a0 : Int32) (a1 : Int32) {sC sM : Sg} (hR : Rel sC sM) : OQ (f_X11_found a0 a1 sC) (fun rC sC2 => OQ (f_X12_found a0 a1 sM) (fun rM sM2 => Rel sC2 sM2)) := sp_56_ a0 a1 hR
theorem st_57 (a0 : Int32) {sC sM : Sg} (hR : Rel sC sM) : OQ (f_X11_live a0 sC) (fun rC sC2 => OQ (f_X12_live a0 sM) (fun rM sM2 => Rel sC2 sM2)) := sp_57_ a0 hR
theorem st_58 (a0 : Int32) {sC sM : Sg} (hR : Rel sC sM) : OQ (f_X11_lived a0 sC) (fun rC sC2 => OQ (f_X12_lived a0 sM) (fun rM sM2 => Rel sC2 sM2)) := sp_58_ a0 hR
theorem st_59 (a0 : Int32) (a1 : Int32) (a2 : Int32) {sC sM : Sg} (hR : Rel sC sM) : OQ (f_X11_odds a0 a1 a2 sC) (fun rC sC2 => OQ (f_X12_odds a0 a1 a2 sM) (fun rM sM2 => Rel sC2 sM2)) := sp_59_ a0 a1 a2 hR
set_option maxRecDepth 20000 in
theorem st_60  {sC sM : Sg} (hR : Rel sC sM) : OQ (f_X11_mark  sC) (fun rC sC2 => OQ (f_X12_mark  sM) (fun rM sM2 => Rel sC2 sM2)) := oq_w (sp_60_  hR) (fun _ _ g => oq_w g (fun _ _ k => k.1))
set_option maxRecDepth 20000 in
theorem st_61  {sC sM : Sg} (hR : Rel sC sM) : OQ (f_X11_back  sC) (fun rC sC2 => OQ (f_X12_back  sM) (fun rM sM2 => Rel sC2 sM2)) := oq_w (sp_61_  hR) (fun _ _ g => oq_w g (fun _ _ k => k.1))
theorem rel0 : Rel sC1 sM0 := relP0
