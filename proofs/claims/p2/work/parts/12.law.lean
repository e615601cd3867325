abbrev roomX : Room := { frames := 40, cells := 300, slots := 6000, locals := 2000 }
def scr (n : Nat) : Int32 := if n < 16 then [(0 : Int32), 4, 1, 0, 0, 6, 224, 0, 2, 6, 1024, 0, 4, 1, 0, 0].getD n 0 else if n % 4 = 0 then 5 else if n % 4 = 1 then 4 else 0
theorem scr_5 (j : Nat) (h : j < 45) : scr (16 + 4 * j) = 5 := by
  unfold scr
  rw [if_neg (by omega), if_pos (by omega)]
theorem scr_4 (j : Nat) (h : j < 45) : scr (17 + 4 * j) = 4 := by
  unfold scr
  rw [if_neg (by omega), if_neg (by omega), if_pos (by omega)]
theorem lwx_I : ∀ w ∈ (vx_at0 RX8 34 "java/lang/IllegalArgumentException" ["java/lang/RuntimeException", "java/lang/Exception"]).filter goodWord, w ∈ lw_tbl := by decide +kernel
theorem lwx_S : ∀ w ∈ (vx_at0 RX8 72 "java/lang/IllegalStateException" ["java/lang/RuntimeException", "java/lang/Exception"]).filter goodWord, w ∈ lw_tbl := by decide +kernel
theorem lwx_U : ∀ w ∈ (vx_at0 RX6 111 "java/lang/UnsupportedOperationException" ["java/lang/RuntimeException", "java/lang/Exception"]).filter goodWord, w ∈ lw_tbl := by decide +kernel
theorem inX0 : ∀ w ∈ wsX00, w ∈ lw_tbl := by decide +kernel
theorem inX1 : ∀ w ∈ wsX10, w ∈ lw_tbl := by decide +kernel
theorem inX2 : ∀ w ∈ wsX20, w ∈ lw_tbl := by decide +kernel
theorem inX4 : ∀ w ∈ wsX40, w ∈ lw_tbl := by decide +kernel
theorem inX5 : ∀ w ∈ wsX50, w ∈ lw_tbl := by decide +kernel
theorem inX6 : ∀ w ∈ wsX60, w ∈ lw_tbl := by decide +kernel
theorem inX7 : ∀ w ∈ wsX70, w ∈ lw_tbl := by decide +kernel
theorem inX8 : ∀ w ∈ wsX80, w ∈ lw_tbl := by decide +kernel
theorem inX9 : ∀ w ∈ wsX90, w ∈ lw_tbl := by decide +kernel
set_option maxRecDepth 20000 in
theorem ggL_law_X8_init : GoodIn lw_tbl wsX8_init := goodIn_p _ [106, 109, 114, 120, 140, 158, 161, 196, 223, 292] rfl (by decide +kernel)
set_option maxRecDepth 20000 in
theorem gL_law_X8_init : GoodIn lw_tbl (wsX8_init) := ggL_law_X8_init
set_option maxRecDepth 20000 in
theorem ggL_law_X9_init : GoodIn lw_tbl wsX9_init := goodIn_p _ [813, 109] rfl (by decide +kernel)
set_option maxRecDepth 20000 in
theorem gL_law_X9_init : GoodIn lw_tbl (wsX9_init) := ggL_law_X9_init
set_option maxRecDepth 20000 in
theorem ggL_law_L_deposit : GoodIn lw_tbl wsL_deposit := goodIn_ca (goodIn_p _ [356, 359, 362] rfl (by decide +kernel)) (goodIn_sub lwx_I (by decide +kernel))
set_option maxRecDepth 20000 in
theorem gL_law_L_deposit : GoodIn lw_tbl (va_wsS RL 54 yL_deposit wsL_deposit) := goodIn_app (goodIn_of _ (by decide +kernel)) ggL_law_L_deposit
set_option maxRecDepth 20000 in
theorem ggL_law_X9_deposit : GoodIn lw_tbl wsX9_deposit := goodIn_p _ [908, 911, 914] rfl (by decide +kernel)
set_option maxRecDepth 20000 in
theorem gL_law_X9_deposit : GoodIn lw_tbl (wsV RL 59 RX9 yX9_deposit wsX9_deposit) := goodIn_app (goodIn_of _ (by decide +kernel)) ggL_law_X9_deposit
set_option maxRecDepth 20000 in
theorem ggL_law_X9_thrown : GoodIn lw_tbl wsX9_thrown := goodIn_p _ [904] rfl (by decide +kernel)
set_option maxRecDepth 20000 in
theorem gL_law_X9_thrown : GoodIn lw_tbl (wsV RL 60 RX9 yX9_thrown wsX9_thrown) := goodIn_app (goodIn_of _ (by decide +kernel)) ggL_law_X9_thrown
set_option maxRecDepth 20000 in
theorem ggL_law_L_set : GoodIn lw_tbl wsL_set := goodIn_ca (goodIn_p _ [441, 362, 445] rfl (by decide +kernel)) (goodIn_sub lwx_I (by decide +kernel))
set_option maxRecDepth 20000 in
theorem gL_law_L_set : GoodIn lw_tbl (va_wsS RL 68 yL_set wsL_set) := goodIn_app (goodIn_of _ (by decide +kernel)) ggL_law_L_set
set_option maxRecDepth 20000 in
theorem ggL_law_X9_set : GoodIn lw_tbl wsX9_set := goodIn_p _ [927, 930, 914] rfl (by decide +kernel)
set_option maxRecDepth 20000 in
theorem gL_law_X9_set : GoodIn lw_tbl (wsV RL 70 RX9 yX9_set wsX9_set) := goodIn_app (goodIn_of _ (by decide +kernel)) ggL_law_X9_set
set_option maxRecDepth 20000 in
theorem ggL_law_L_start : GoodIn lw_tbl wsL_start := goodIn_ca (goodIn_p _ [459, 362, 463] rfl (by decide +kernel)) (goodIn_sub lwx_I (by decide +kernel))
set_option maxRecDepth 20000 in
theorem gL_law_L_start : GoodIn lw_tbl (va_wsS RL 74 yL_start wsL_start) := goodIn_app (goodIn_of _ (by decide +kernel)) ggL_law_L_start
set_option maxRecDepth 20000 in
theorem ggL_law_X9_start : GoodIn lw_tbl wsX9_start := goodIn_p _ [938, 914, 942] rfl (by decide +kernel)
set_option maxRecDepth 20000 in
theorem gL_law_X9_start : GoodIn lw_tbl (wsV RL 77 RX9 yX9_start wsX9_start) := goodIn_app (goodIn_of _ (by decide +kernel)) ggL_law_X9_start
set_option maxRecDepth 20000 in
theorem ggL_law_L_run : GoodIn lw_tbl wsL_run := goodIn_ca (goodIn_ca (goodIn_ca (goodIn_p _ [471, 495, 445, 500, 504, 522, 526, 533, 341, 541, 564, 590, 598, 602, 609, 648, 463, 731, 735, 739, 743, 747, 751, 756] rfl (by decide +kernel)) (goodIn_sub lwx_I (by decide +kernel))) (goodIn_sub lwx_S (by decide +kernel))) (goodIn_sub lwx_U (by decide +kernel))
set_option maxRecDepth 20000 in
theorem gL_law_L_run : GoodIn lw_tbl (va_wsS RL 78 yL_run wsL_run) := goodIn_app (goodIn_of _ (by decide +kernel)) ggL_law_L_run
set_option maxRecDepth 20000 in
theorem ggL_law_X9_run : GoodIn lw_tbl wsX9_run := goodIn_p _ [946, 950, 954, 958, 962, 966, 970, 975, 978, 984, 1043, 1048, 1052, 1056, 1072, 942, 1124, 1128] rfl (by decide +kernel)
set_option maxRecDepth 20000 in
theorem gL_law_X9_run : GoodIn lw_tbl (wsV RL 80 RX9 yX9_run wsX9_run) := goodIn_app (goodIn_of _ (by decide +kernel)) ggL_law_X9_run
