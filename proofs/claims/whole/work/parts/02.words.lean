def WW : List Cond := lw_tbl.filter goodWord
theorem wm_tables_1_1 : ∀ w ∈ tables_1_1, w ∈ lw_tbl := fun _ h => List.mem_append_right _ (List.mem_append_left _ h)
theorem wm_tables_1_2 : ∀ w ∈ tables_1_2, w ∈ lw_tbl := fun _ h => List.mem_append_right _ (List.mem_append_right _ (List.mem_append_left _ h))
theorem wm_tables_1_3 : ∀ w ∈ tables_1_3, w ∈ lw_tbl := fun _ h => List.mem_append_right _ (List.mem_append_right _ (List.mem_append_right _ (List.mem_append_left _ h)))
theorem wm_tables_1_4 : ∀ w ∈ tables_1_4, w ∈ lw_tbl := fun _ h => List.mem_append_right _ (List.mem_append_right _ (List.mem_append_right _ (List.mem_append_right _ h)))
theorem wm_p1 : ∀ w ∈ k2_sels lw_privs_1, w ∈ lw_tbl := fun w h => List.mem_append_left _ (by rw [show k2_sels lw_privs = k2_sels lw_privs_1 ++ (k2_sels lw_privs_2 ++ (k2_sels lw_privs_3 ++ k2_sels lw_privs_4)) from by simp only [lw_privs, k2_sels, List.map_append]]; exact List.mem_append_left _ h)
theorem wm_p2 : ∀ w ∈ k2_sels lw_privs_2, w ∈ lw_tbl := fun w h => List.mem_append_left _ (by rw [show k2_sels lw_privs = k2_sels lw_privs_1 ++ (k2_sels lw_privs_2 ++ (k2_sels lw_privs_3 ++ k2_sels lw_privs_4)) from by simp only [lw_privs, k2_sels, List.map_append]]; exact List.mem_append_right _ (List.mem_append_left _ h))
theorem wm_p3 : ∀ w ∈ k2_sels lw_privs_3, w ∈ lw_tbl := fun w h => List.mem_append_left _ (by rw [show k2_sels lw_privs = k2_sels lw_privs_1 ++ (k2_sels lw_privs_2 ++ (k2_sels lw_privs_3 ++ k2_sels lw_privs_4)) from by simp only [lw_privs, k2_sels, List.map_append]]; exact List.mem_append_right _ (List.mem_append_right _ (List.mem_append_left _ h)))
theorem wm_p4 : ∀ w ∈ k2_sels lw_privs_4, w ∈ lw_tbl := fun w h => List.mem_append_left _ (by rw [show k2_sels lw_privs = k2_sels lw_privs_1 ++ (k2_sels lw_privs_2 ++ (k2_sels lw_privs_3 ++ k2_sels lw_privs_4)) from by simp only [lw_privs, k2_sels, List.map_append]]; exact List.mem_append_right _ (List.mem_append_right _ (List.mem_append_right _ h)))
theorem wi_L : Cond.initialized RL ∈ WW := List.mem_filter.mpr ⟨wm_tables_1_1 _ (List.mem_of_getElem? (i := 0) rfl), rfl⟩
theorem wi_X5 : Cond.initialized RX5 ∈ WW := List.mem_filter.mpr ⟨wm_tables_1_1 _ (List.mem_of_getElem? (i := 1) rfl), rfl⟩
theorem wi_X4 : Cond.initialized RX4 ∈ WW := List.mem_filter.mpr ⟨wm_tables_1_1 _ (List.mem_of_getElem? (i := 2) rfl), rfl⟩
theorem wi_X0 : Cond.initialized RX0 ∈ WW := List.mem_filter.mpr ⟨wm_tables_1_1 _ (List.mem_of_getElem? (i := 3) rfl), rfl⟩
theorem wi_X1 : Cond.initialized RX1 ∈ WW := List.mem_filter.mpr ⟨wm_tables_1_1 _ (List.mem_of_getElem? (i := 4) rfl), rfl⟩
theorem wi_X2 : Cond.initialized RX2 ∈ WW := List.mem_filter.mpr ⟨wm_tables_1_1 _ (List.mem_of_getElem? (i := 5) rfl), rfl⟩
theorem wi_X3 : Cond.initialized RX3 ∈ WW := List.mem_filter.mpr ⟨wm_tables_1_1 _ (List.mem_of_getElem? (i := 6) rfl), rfl⟩
theorem wi_X6 : Cond.initialized RX6 ∈ WW := List.mem_filter.mpr ⟨wm_tables_1_1 _ (List.mem_of_getElem? (i := 7) rfl), rfl⟩
theorem wi_J9 : Cond.initialized "java/lang/Math" ∈ WW := List.mem_filter.mpr ⟨wm_tables_1_1 _ (List.mem_of_getElem? (i := 8) rfl), rfl⟩
theorem wc_L_7 : Cond.classLink RL 7 RX5 ∈ WW := List.mem_filter.mpr ⟨wm_tables_1_1 _ (List.mem_of_getElem? (i := 9) rfl), rfl⟩
theorem wn_X5 : Cond.instantiable RX5 13 ∈ WW := List.mem_filter.mpr ⟨wm_tables_1_1 _ (List.mem_of_getElem? (i := 10) rfl), rfl⟩
theorem wl_L_9 : Cond.methodLink RL 9 yX5_init ∈ WW := List.mem_filter.mpr ⟨wm_tables_1_1 _ (List.mem_of_getElem? (i := 11) rfl), rfl⟩
theorem wt_yX5_init : Cond.instanceMethod yX5_init ∈ WW := List.mem_filter.mpr ⟨wm_tables_1_1 _ (List.mem_of_getElem? (i := 12) rfl), rfl⟩
theorem wk_yX5_init : Cond.code yX5_init cX5_init 1 none ∈ WW := List.mem_filter.mpr ⟨wm_tables_1_1 _ (List.mem_of_getElem? (i := 13) rfl), rfl⟩
theorem wl_X5_3 : Cond.methodLink RX5 3 objectInit ∈ WW := List.mem_filter.mpr ⟨wm_tables_1_1 _ (List.mem_of_getElem? (i := 14) rfl), rfl⟩
theorem wt_objectInit : Cond.instanceMethod objectInit ∈ WW := List.mem_filter.mpr ⟨wm_tables_1_1 _ (List.mem_of_getElem? (i := 15) rfl), rfl⟩
theorem wk_objectInit : Cond.code objectInit ⟨#[0xb1]⟩ 1 none ∈ WW := List.mem_filter.mpr ⟨wm_tables_1_1 _ (List.mem_of_getElem? (i := 16) rfl), rfl⟩
theorem wc_X5_9 : Cond.classLink RX5 9 RX4 ∈ WW := List.mem_filter.mpr ⟨wm_tables_1_1 _ (List.mem_of_getElem? (i := 17) rfl), rfl⟩
theorem wn_X4 : Cond.instantiable RX4 8 ∈ WW := List.mem_filter.mpr ⟨wm_tables_1_1 _ (List.mem_of_getElem? (i := 18) rfl), rfl⟩
theorem wt_yX4_init : Cond.instanceMethod yX4_init ∈ WW := List.mem_filter.mpr ⟨wm_tables_1_1 _ (List.mem_of_getElem? (i := 20) rfl), rfl⟩
theorem wk_yX4_init : Cond.code yX4_init cX4_init 1 none ∈ WW := List.mem_filter.mpr ⟨wm_tables_1_1 _ (List.mem_of_getElem? (i := 21) rfl), rfl⟩
theorem wl_X4_3 : Cond.methodLink RX4 3 objectInit ∈ WW := List.mem_filter.mpr ⟨wm_tables_1_1 _ (List.mem_of_getElem? (i := 22) rfl), rfl⟩
theorem wf_X4_34 : Cond.fieldLink RX4 34 "AtticSweep$Things" "made" "I" ∈ WW := List.mem_filter.mpr ⟨wm_tables_1_1 _ (List.mem_of_getElem? (i := 23) rfl), rfl⟩
theorem wf_X4_9 : Cond.fieldLink RX4 9 "AtticSweep$Things" "sizes" "[I" ∈ WW := List.mem_filter.mpr ⟨wm_tables_1_1 _ (List.mem_of_getElem? (i := 25) rfl), rfl⟩
theorem wf_X4_15 : Cond.fieldLink RX4 15 "AtticSweep$Things" "places" "[I" ∈ WW := List.mem_filter.mpr ⟨wm_tables_1_1 _ (List.mem_of_getElem? (i := 26) rfl), rfl⟩
theorem wf_X4_18 : Cond.fieldLink RX4 18 "AtticSweep$Things" "colours" "[I" ∈ WW := List.mem_filter.mpr ⟨wm_tables_1_1 _ (List.mem_of_getElem? (i := 27) rfl), rfl⟩
theorem wf_X4_21 : Cond.fieldLink RX4 21 "AtticSweep$Things" "moves" "[I" ∈ WW := List.mem_filter.mpr ⟨wm_tables_1_1 _ (List.mem_of_getElem? (i := 28) rfl), rfl⟩
theorem wf_X4_24 : Cond.fieldLink RX4 24 "AtticSweep$Things" "freed" "[Z" ∈ WW := List.mem_filter.mpr ⟨wm_tables_1_1 _ (List.mem_of_getElem? (i := 29) rfl), rfl⟩
theorem wf_X4_28 : Cond.fieldLink RX4 28 "AtticSweep$Things" "wishing" "[Z" ∈ WW := List.mem_filter.mpr ⟨wm_tables_1_1 _ (List.mem_of_getElem? (i := 30) rfl), rfl⟩
theorem wf_X4_31 : Cond.fieldLink RX4 31 "AtticSweep$Things" "held" "[I" ∈ WW := List.mem_filter.mpr ⟨wm_tables_1_1 _ (List.mem_of_getElem? (i := 31) rfl), rfl⟩
theorem wy_X4_made : Cond.lays RX4 "AtticSweep$Things" "made" "I" ∈ WW := List.mem_filter.mpr ⟨wm_tables_1_1 _ (List.mem_of_getElem? (i := 32) rfl), rfl⟩
theorem wy_X4_sizes : Cond.laysFinal RX4 "AtticSweep$Things" "sizes" "[I" ∈ WW := List.mem_filter.mpr ⟨wm_tables_1_1 _ (List.mem_of_getElem? (i := 34) rfl), rfl⟩
theorem wy_X4_places : Cond.laysFinal RX4 "AtticSweep$Things" "places" "[I" ∈ WW := List.mem_filter.mpr ⟨wm_tables_1_1 _ (List.mem_of_getElem? (i := 36) rfl), rfl⟩
theorem wy_X4_colours : Cond.laysFinal RX4 "AtticSweep$Things" "colours" "[I" ∈ WW := List.mem_filter.mpr ⟨wm_tables_1_1 _ (List.mem_of_getElem? (i := 38) rfl), rfl⟩
theorem wy_X4_moves : Cond.laysFinal RX4 "AtticSweep$Things" "moves" "[I" ∈ WW := List.mem_filter.mpr ⟨wm_tables_1_1 _ (List.mem_of_getElem? (i := 40) rfl), rfl⟩
theorem wy_X4_freed : Cond.laysFinal RX4 "AtticSweep$Things" "freed" "[Z" ∈ WW := List.mem_filter.mpr ⟨wm_tables_1_1 _ (List.mem_of_getElem? (i := 42) rfl), rfl⟩
theorem wy_X4_wishing : Cond.laysFinal RX4 "AtticSweep$Things" "wishing" "[Z" ∈ WW := List.mem_filter.mpr ⟨wm_tables_1_1 _ (List.mem_of_getElem? (i := 44) rfl), rfl⟩
theorem wy_X4_held : Cond.laysFinal RX4 "AtticSweep$Things" "held" "[I" ∈ WW := List.mem_filter.mpr ⟨wm_tables_1_1 _ (List.mem_of_getElem? (i := 46) rfl), rfl⟩
theorem wa_int : Cond.arrayClass .int ∈ WW := List.mem_filter.mpr ⟨wm_tables_1_1 _ (List.mem_of_getElem? (i := 49) rfl), rfl⟩
theorem wa_boolean : Cond.arrayClass .boolean ∈ WW := List.mem_filter.mpr ⟨wm_tables_1_1 _ (List.mem_of_getElem? (i := 50) rfl), rfl⟩
theorem wc_X5_16 : Cond.classLink RX5 16 RX0 ∈ WW := List.mem_filter.mpr ⟨wm_tables_1_1 _ (List.mem_of_getElem? (i := 51) rfl), rfl⟩
theorem wn_X0 : Cond.instantiable RX0 3 ∈ WW := List.mem_filter.mpr ⟨wm_tables_1_1 _ (List.mem_of_getElem? (i := 52) rfl), rfl⟩
theorem wt_yX0_init : Cond.instanceMethod yX0_init ∈ WW := List.mem_filter.mpr ⟨wm_tables_1_1 _ (List.mem_of_getElem? (i := 54) rfl), rfl⟩
theorem wk_yX0_init : Cond.code yX0_init cX0_init 1 none ∈ WW := List.mem_filter.mpr ⟨wm_tables_1_1 _ (List.mem_of_getElem? (i := 55) rfl), rfl⟩
theorem wl_X0_3 : Cond.methodLink RX0 3 objectInit ∈ WW := List.mem_filter.mpr ⟨wm_tables_1_1 _ (List.mem_of_getElem? (i := 56) rfl), rfl⟩
theorem wf_X0_9 : Cond.fieldLink RX0 9 "AtticSweep$Cells" "things" "[I" ∈ WW := List.mem_filter.mpr ⟨wm_tables_1_1 _ (List.mem_of_getElem? (i := 57) rfl), rfl⟩
theorem wf_X0_19 : Cond.fieldLink RX0 19 "AtticSweep$Cells" "halfEnd" "I" ∈ WW := List.mem_filter.mpr ⟨wm_tables_1_1 _ (List.mem_of_getElem? (i := 58) rfl), rfl⟩
theorem wf_X0_15 : Cond.fieldLink RX0 15 "AtticSweep$Cells" "behind" "I" ∈ WW := List.mem_filter.mpr ⟨wm_tables_1_1 _ (List.mem_of_getElem? (i := 59) rfl), rfl⟩
theorem wy_X0_things : Cond.laysFinal RX0 "AtticSweep$Cells" "things" "[I" ∈ WW := List.mem_filter.mpr ⟨wm_tables_1_1 _ (List.mem_of_getElem? (i := 61) rfl), rfl⟩
theorem wy_X0_halfEnd : Cond.lays RX0 "AtticSweep$Cells" "halfEnd" "I" ∈ WW := List.mem_filter.mpr ⟨wm_tables_1_1 _ (List.mem_of_getElem? (i := 63) rfl), rfl⟩
theorem wy_X0_behind : Cond.lays RX0 "AtticSweep$Cells" "behind" "I" ∈ WW := List.mem_filter.mpr ⟨wm_tables_1_1 _ (List.mem_of_getElem? (i := 65) rfl), rfl⟩
theorem wc_X5_23 : Cond.classLink RX5 23 RX1 ∈ WW := List.mem_filter.mpr ⟨wm_tables_1_1 _ (List.mem_of_getElem? (i := 68) rfl), rfl⟩
theorem wn_X1 : Cond.instantiable RX1 3 ∈ WW := List.mem_filter.mpr ⟨wm_tables_1_1 _ (List.mem_of_getElem? (i := 69) rfl), rfl⟩
theorem wt_yX1_init : Cond.instanceMethod yX1_init ∈ WW := List.mem_filter.mpr ⟨wm_tables_1_1 _ (List.mem_of_getElem? (i := 71) rfl), rfl⟩
theorem wk_yX1_init : Cond.code yX1_init cX1_init 1 none ∈ WW := List.mem_filter.mpr ⟨wm_tables_1_1 _ (List.mem_of_getElem? (i := 72) rfl), rfl⟩
theorem wl_X1_3 : Cond.methodLink RX1 3 objectInit ∈ WW := List.mem_filter.mpr ⟨wm_tables_1_1 _ (List.mem_of_getElem? (i := 73) rfl), rfl⟩
theorem wf_X1_9 : Cond.fieldLink RX1 9 "AtticSweep$Holders" "held" "[I" ∈ WW := List.mem_filter.mpr ⟨wm_tables_1_1 _ (List.mem_of_getElem? (i := 74) rfl), rfl⟩
theorem wf_X1_15 : Cond.fieldLink RX1 15 "AtticSweep$Holders" "named" "[I" ∈ WW := List.mem_filter.mpr ⟨wm_tables_1_1 _ (List.mem_of_getElem? (i := 75) rfl), rfl⟩
theorem wf_X1_18 : Cond.fieldLink RX1 18 "AtticSweep$Holders" "wishes" "I" ∈ WW := List.mem_filter.mpr ⟨wm_tables_1_1 _ (List.mem_of_getElem? (i := 76) rfl), rfl⟩
theorem wy_X1_held : Cond.laysFinal RX1 "AtticSweep$Holders" "held" "[I" ∈ WW := List.mem_filter.mpr ⟨wm_tables_1_1 _ (List.mem_of_getElem? (i := 79) rfl), rfl⟩
theorem wy_X1_named : Cond.laysFinal RX1 "AtticSweep$Holders" "named" "[I" ∈ WW := List.mem_filter.mpr ⟨wm_tables_1_1 _ (List.mem_of_getElem? (i := 81) rfl), rfl⟩
theorem wy_X1_wishes : Cond.lays RX1 "AtticSweep$Holders" "wishes" "I" ∈ WW := List.mem_filter.mpr ⟨wm_tables_1_1 _ (List.mem_of_getElem? (i := 83) rfl), rfl⟩
theorem wc_X5_30 : Cond.classLink RX5 30 RX2 ∈ WW := List.mem_filter.mpr ⟨wm_tables_1_1 _ (List.mem_of_getElem? (i := 86) rfl), rfl⟩
theorem wn_X2 : Cond.instantiable RX2 3 ∈ WW := List.mem_filter.mpr ⟨wm_tables_1_1 _ (List.mem_of_getElem? (i := 87) rfl), rfl⟩
theorem wt_yX2_init : Cond.instanceMethod yX2_init ∈ WW := List.mem_filter.mpr ⟨wm_tables_1_1 _ (List.mem_of_getElem? (i := 89) rfl), rfl⟩
theorem wk_yX2_init : Cond.code yX2_init cX2_init 1 none ∈ WW := List.mem_filter.mpr ⟨wm_tables_1_1 _ (List.mem_of_getElem? (i := 90) rfl), rfl⟩
theorem wl_X2_3 : Cond.methodLink RX2 3 objectInit ∈ WW := List.mem_filter.mpr ⟨wm_tables_1_1 _ (List.mem_of_getElem? (i := 91) rfl), rfl⟩
theorem wf_X2_18 : Cond.fieldLink RX2 18 "AtticSweep$Pairs" "made" "I" ∈ WW := List.mem_filter.mpr ⟨wm_tables_1_1 _ (List.mem_of_getElem? (i := 92) rfl), rfl⟩
theorem wf_X2_9 : Cond.fieldLink RX2 9 "AtticSweep$Pairs" "keys" "[I" ∈ WW := List.mem_filter.mpr ⟨wm_tables_1_1 _ (List.mem_of_getElem? (i := 95) rfl), rfl⟩
theorem wf_X2_15 : Cond.fieldLink RX2 15 "AtticSweep$Pairs" "values" "[I" ∈ WW := List.mem_filter.mpr ⟨wm_tables_1_1 _ (List.mem_of_getElem? (i := 96) rfl), rfl⟩
theorem wy_X2_made : Cond.lays RX2 "AtticSweep$Pairs" "made" "I" ∈ WW := List.mem_filter.mpr ⟨wm_tables_1_1 _ (List.mem_of_getElem? (i := 97) rfl), rfl⟩
theorem wy_X2_keys : Cond.laysFinal RX2 "AtticSweep$Pairs" "keys" "[I" ∈ WW := List.mem_filter.mpr ⟨wm_tables_1_1 _ (List.mem_of_getElem? (i := 99) rfl), rfl⟩
theorem wy_X2_values : Cond.laysFinal RX2 "AtticSweep$Pairs" "values" "[I" ∈ WW := List.mem_filter.mpr ⟨wm_tables_1_1 _ (List.mem_of_getElem? (i := 101) rfl), rfl⟩
theorem wc_X5_37 : Cond.classLink RX5 37 RX3 ∈ WW := List.mem_filter.mpr ⟨wm_tables_1_1 _ (List.mem_of_getElem? (i := 104) rfl), rfl⟩
theorem wn_X3 : Cond.instantiable RX3 3 ∈ WW := List.mem_filter.mpr ⟨wm_tables_1_1 _ (List.mem_of_getElem? (i := 105) rfl), rfl⟩
theorem wt_yX3_init : Cond.instanceMethod yX3_init ∈ WW := List.mem_filter.mpr ⟨wm_tables_1_1 _ (List.mem_of_getElem? (i := 107) rfl), rfl⟩
theorem wk_yX3_init : Cond.code yX3_init cX3_init 1 none ∈ WW := List.mem_filter.mpr ⟨wm_tables_1_1 _ (List.mem_of_getElem? (i := 108) rfl), rfl⟩
theorem wl_X3_3 : Cond.methodLink RX3 3 objectInit ∈ WW := List.mem_filter.mpr ⟨wm_tables_1_1 _ (List.mem_of_getElem? (i := 109) rfl), rfl⟩
theorem wf_X3_9 : Cond.fieldLink RX3 9 "AtticSweep$Reach" "found" "[Z" ∈ WW := List.mem_filter.mpr ⟨wm_tables_1_1 _ (List.mem_of_getElem? (i := 110) rfl), rfl⟩
theorem wf_X3_15 : Cond.fieldLink RX3 15 "AtticSweep$Reach" "order" "[I" ∈ WW := List.mem_filter.mpr ⟨wm_tables_1_1 _ (List.mem_of_getElem? (i := 111) rfl), rfl⟩
theorem wf_X3_36 : Cond.fieldLink RX3 36 "AtticSweep$Reach" "count" "I" ∈ WW := List.mem_filter.mpr ⟨wm_tables_1_1 _ (List.mem_of_getElem? (i := 112) rfl), rfl⟩
theorem wy_X3_found : Cond.laysFinal RX3 "AtticSweep$Reach" "found" "[Z" ∈ WW := List.mem_filter.mpr ⟨wm_tables_1_1 _ (List.mem_of_getElem? (i := 113) rfl), rfl⟩
theorem wy_X3_order : Cond.laysFinal RX3 "AtticSweep$Reach" "order" "[I" ∈ WW := List.mem_filter.mpr ⟨wm_tables_1_1 _ (List.mem_of_getElem? (i := 115) rfl), rfl⟩
theorem wy_X3_count : Cond.lays RX3 "AtticSweep$Reach" "count" "I" ∈ WW := List.mem_filter.mpr ⟨wm_tables_1_1 _ (List.mem_of_getElem? (i := 117) rfl), rfl⟩
theorem wl_X5_44 : Cond.methodLink RX5 44 yX5_empty ∈ WW := List.mem_filter.mpr ⟨wm_tables_1_1 _ (List.mem_of_getElem? (i := 120) rfl), rfl⟩
theorem wt_yX5_empty : Cond.instanceMethod yX5_empty ∈ WW := List.mem_filter.mpr ⟨wm_tables_1_1 _ (List.mem_of_getElem? (i := 122) rfl), rfl⟩
theorem wk_yX5_empty : Cond.code yX5_empty cX5_empty 3 none ∈ WW := List.mem_filter.mpr ⟨wm_tables_1_1 _ (List.mem_of_getElem? (i := 123) rfl), rfl⟩
theorem wl_X5_77 : Cond.methodLink RX5 77 yX0_empty ∈ WW := List.mem_filter.mpr ⟨wm_tables_1_1 _ (List.mem_of_getElem? (i := 124) rfl), rfl⟩
theorem wt_yX0_empty : Cond.instanceMethod yX0_empty ∈ WW := List.mem_filter.mpr ⟨wm_tables_1_1 _ (List.mem_of_getElem? (i := 125) rfl), rfl⟩
theorem ws_yX0_empty : Cond.selects RX0 yX0_empty yX0_empty ∈ WW := List.mem_filter.mpr ⟨wm_tables_1_1 _ (List.mem_of_getElem? (i := 126) rfl), rfl⟩
theorem wk_yX0_empty : Cond.code yX0_empty cX0_empty 2 none ∈ WW := List.mem_filter.mpr ⟨wm_tables_1_1 _ (List.mem_of_getElem? (i := 127) rfl), rfl⟩
theorem wl_X5_79 : Cond.methodLink RX5 79 yX1_empty ∈ WW := List.mem_filter.mpr ⟨wm_tables_1_1 _ (List.mem_of_getElem? (i := 128) rfl), rfl⟩
theorem wt_yX1_empty : Cond.instanceMethod yX1_empty ∈ WW := List.mem_filter.mpr ⟨wm_tables_1_1 _ (List.mem_of_getElem? (i := 129) rfl), rfl⟩
theorem ws_yX1_empty : Cond.selects RX1 yX1_empty yX1_empty ∈ WW := List.mem_filter.mpr ⟨wm_tables_1_1 _ (List.mem_of_getElem? (i := 130) rfl), rfl⟩
theorem wk_yX1_empty : Cond.code yX1_empty cX1_empty 2 none ∈ WW := List.mem_filter.mpr ⟨wm_tables_1_1 _ (List.mem_of_getElem? (i := 131) rfl), rfl⟩
theorem wf_X5_12 : Cond.fieldLink RX5 12 "AtticSweep" "things" "LAtticSweep$Things;" ∈ WW := List.mem_filter.mpr ⟨wm_tables_1_1 _ (List.mem_of_getElem? (i := 132) rfl), rfl⟩
theorem wf_X5_19 : Cond.fieldLink RX5 19 "AtticSweep" "cells" "LAtticSweep$Cells;" ∈ WW := List.mem_filter.mpr ⟨wm_tables_1_1 _ (List.mem_of_getElem? (i := 133) rfl), rfl⟩
theorem wf_X5_26 : Cond.fieldLink RX5 26 "AtticSweep" "holders" "LAtticSweep$Holders;" ∈ WW := List.mem_filter.mpr ⟨wm_tables_1_1 _ (List.mem_of_getElem? (i := 134) rfl), rfl⟩
theorem wf_X5_33 : Cond.fieldLink RX5 33 "AtticSweep" "pairs" "LAtticSweep$Pairs;" ∈ WW := List.mem_filter.mpr ⟨wm_tables_1_1 _ (List.mem_of_getElem? (i := 135) rfl), rfl⟩
theorem wf_X5_40 : Cond.fieldLink RX5 40 "AtticSweep" "reach" "LAtticSweep$Reach;" ∈ WW := List.mem_filter.mpr ⟨wm_tables_1_1 _ (List.mem_of_getElem? (i := 136) rfl), rfl⟩
theorem wf_X5_52 : Cond.fieldLink RX5 52 "AtticSweep" "manner" "I" ∈ WW := List.mem_filter.mpr ⟨wm_tables_1_1 _ (List.mem_of_getElem? (i := 137) rfl), rfl⟩
theorem wf_X5_55 : Cond.fieldLink RX5 55 "AtticSweep" "fault" "I" ∈ WW := List.mem_filter.mpr ⟨wm_tables_1_1 _ (List.mem_of_getElem? (i := 138) rfl), rfl⟩
theorem wf_X5_58 : Cond.fieldLink RX5 58 "AtticSweep" "underWay" "I" ∈ WW := List.mem_filter.mpr ⟨wm_tables_1_1 _ (List.mem_of_getElem? (i := 139) rfl), rfl⟩
theorem wf_X5_61 : Cond.fieldLink RX5 61 "AtticSweep" "nextToSweep" "I" ∈ WW := List.mem_filter.mpr ⟨wm_tables_1_1 _ (List.mem_of_getElem? (i := 140) rfl), rfl⟩
theorem wf_X5_64 : Cond.fieldLink RX5 64 "AtticSweep" "rounds" "I" ∈ WW := List.mem_filter.mpr ⟨wm_tables_1_1 _ (List.mem_of_getElem? (i := 141) rfl), rfl⟩
theorem wf_X5_67 : Cond.fieldLink RX5 67 "AtticSweep" "steps" "I" ∈ WW := List.mem_filter.mpr ⟨wm_tables_1_1 _ (List.mem_of_getElem? (i := 142) rfl), rfl⟩
theorem wf_X5_70 : Cond.fieldLink RX5 70 "AtticSweep" "shaded" "I" ∈ WW := List.mem_filter.mpr ⟨wm_tables_1_1 _ (List.mem_of_getElem? (i := 143) rfl), rfl⟩
theorem wf_X5_73 : Cond.fieldLink RX5 73 "AtticSweep" "moved" "I" ∈ WW := List.mem_filter.mpr ⟨wm_tables_1_1 _ (List.mem_of_getElem? (i := 144) rfl), rfl⟩
theorem wy_X5_things : Cond.laysFinal RX5 "AtticSweep" "things" "LAtticSweep$Things;" ∈ WW := List.mem_filter.mpr ⟨wm_tables_1_1 _ (List.mem_of_getElem? (i := 145) rfl), rfl⟩
theorem wy_X5_cells : Cond.laysFinal RX5 "AtticSweep" "cells" "LAtticSweep$Cells;" ∈ WW := List.mem_filter.mpr ⟨wm_tables_1_1 _ (List.mem_of_getElem? (i := 147) rfl), rfl⟩
theorem wy_X5_holders : Cond.laysFinal RX5 "AtticSweep" "holders" "LAtticSweep$Holders;" ∈ WW := List.mem_filter.mpr ⟨wm_tables_1_1 _ (List.mem_of_getElem? (i := 149) rfl), rfl⟩
theorem wy_X5_pairs : Cond.laysFinal RX5 "AtticSweep" "pairs" "LAtticSweep$Pairs;" ∈ WW := List.mem_filter.mpr ⟨wm_tables_1_1 _ (List.mem_of_getElem? (i := 151) rfl), rfl⟩
theorem wy_X5_reach : Cond.laysFinal RX5 "AtticSweep" "reach" "LAtticSweep$Reach;" ∈ WW := List.mem_filter.mpr ⟨wm_tables_1_1 _ (List.mem_of_getElem? (i := 153) rfl), rfl⟩
theorem wy_X5_manner : Cond.lays RX5 "AtticSweep" "manner" "I" ∈ WW := List.mem_filter.mpr ⟨wm_tables_1_1 _ (List.mem_of_getElem? (i := 155) rfl), rfl⟩
theorem wy_X5_fault : Cond.lays RX5 "AtticSweep" "fault" "I" ∈ WW := List.mem_filter.mpr ⟨wm_tables_1_1 _ (List.mem_of_getElem? (i := 157) rfl), rfl⟩
theorem wy_X5_underWay : Cond.lays RX5 "AtticSweep" "underWay" "I" ∈ WW := List.mem_filter.mpr ⟨wm_tables_1_1 _ (List.mem_of_getElem? (i := 159) rfl), rfl⟩
theorem wy_X5_nextToSweep : Cond.lays RX5 "AtticSweep" "nextToSweep" "I" ∈ WW := List.mem_filter.mpr ⟨wm_tables_1_1 _ (List.mem_of_getElem? (i := 161) rfl), rfl⟩
theorem wy_X5_rounds : Cond.lays RX5 "AtticSweep" "rounds" "I" ∈ WW := List.mem_filter.mpr ⟨wm_tables_1_1 _ (List.mem_of_getElem? (i := 163) rfl), rfl⟩
theorem wy_X5_steps : Cond.lays RX5 "AtticSweep" "steps" "I" ∈ WW := List.mem_filter.mpr ⟨wm_tables_1_1 _ (List.mem_of_getElem? (i := 165) rfl), rfl⟩
theorem wy_X5_shaded : Cond.lays RX5 "AtticSweep" "shaded" "I" ∈ WW := List.mem_filter.mpr ⟨wm_tables_1_1 _ (List.mem_of_getElem? (i := 167) rfl), rfl⟩
theorem wy_X5_moved : Cond.lays RX5 "AtticSweep" "moved" "I" ∈ WW := List.mem_filter.mpr ⟨wm_tables_1_1 _ (List.mem_of_getElem? (i := 169) rfl), rfl⟩
theorem wl_L_13 : Cond.methodLink RL 13 yX5_attic ∈ WW := List.mem_filter.mpr ⟨wm_tables_1_1 _ (List.mem_of_getElem? (i := 172) rfl), rfl⟩
theorem wt_yX5_attic : Cond.instanceMethod yX5_attic ∈ WW := List.mem_filter.mpr ⟨wm_tables_1_1 _ (List.mem_of_getElem? (i := 173) rfl), rfl⟩
theorem ws_yX5_attic : Cond.selects RX5 yX5_attic yX5_attic ∈ WW := List.mem_filter.mpr ⟨wm_tables_1_1 _ (List.mem_of_getElem? (i := 174) rfl), rfl⟩
theorem wk_yX5_attic : Cond.code yX5_attic cX5_attic 4 (some .int) ∈ WW := List.mem_filter.mpr ⟨wm_tables_1_1 _ (List.mem_of_getElem? (i := 175) rfl), rfl⟩
theorem wl_L_18 : Cond.methodLink RL 18 yX5_make ∈ WW := List.mem_filter.mpr ⟨wm_tables_1_1 _ (List.mem_of_getElem? (i := 176) rfl), rfl⟩
theorem wt_yX5_make : Cond.instanceMethod yX5_make ∈ WW := List.mem_filter.mpr ⟨wm_tables_1_1 _ (List.mem_of_getElem? (i := 177) rfl), rfl⟩
theorem ws_yX5_make : Cond.selects RX5 yX5_make yX5_make ∈ WW := List.mem_filter.mpr ⟨wm_tables_1_1 _ (List.mem_of_getElem? (i := 178) rfl), rfl⟩
theorem wk_yX5_make : Cond.code yX5_make cX5_make 8 (some .int) ∈ WW := List.mem_filter.mpr ⟨wm_tables_1_1 _ (List.mem_of_getElem? (i := 179) rfl), rfl⟩
theorem wl_X5_80 : Cond.methodLink RX5 80 yX5_isRegister ∈ WW := List.mem_filter.mpr ⟨wm_tables_1_1 _ (List.mem_of_getElem? (i := 180) rfl), rfl⟩
theorem wz_yX5_isRegister : Cond.static yX5_isRegister ∈ WW := List.mem_filter.mpr ⟨wm_tables_1_1 _ (List.mem_of_getElem? (i := 181) rfl), rfl⟩
theorem wk_yX5_isRegister : Cond.code yX5_isRegister cX5_isRegister 2 (some .boolean) ∈ WW := List.mem_filter.mpr ⟨wm_tables_1_1 _ (List.mem_of_getElem? (i := 182) rfl), rfl⟩
theorem wl_X5_84 : Cond.methodLink RX5 84 yX5_colourOfNew ∈ WW := List.mem_filter.mpr ⟨wm_tables_1_1 _ (List.mem_of_getElem? (i := 183) rfl), rfl⟩
theorem wt_yX5_colourOfNew : Cond.instanceMethod yX5_colourOfNew ∈ WW := List.mem_filter.mpr ⟨wm_tables_1_1 _ (List.mem_of_getElem? (i := 185) rfl), rfl⟩
theorem wk_yX5_colourOfNew : Cond.code yX5_colourOfNew cX5_colourOfNew 1 (some .int) ∈ WW := List.mem_filter.mpr ⟨wm_tables_1_1 _ (List.mem_of_getElem? (i := 186) rfl), rfl⟩
theorem wl_X5_88 : Cond.methodLink RX5 88 yX5_placeOfNew ∈ WW := List.mem_filter.mpr ⟨wm_tables_1_1 _ (List.mem_of_getElem? (i := 187) rfl), rfl⟩
theorem wt_yX5_placeOfNew : Cond.instanceMethod yX5_placeOfNew ∈ WW := List.mem_filter.mpr ⟨wm_tables_1_1 _ (List.mem_of_getElem? (i := 189) rfl), rfl⟩
theorem wk_yX5_placeOfNew : Cond.code yX5_placeOfNew cX5_placeOfNew 4 (some .int) ∈ WW := List.mem_filter.mpr ⟨wm_tables_1_1 _ (List.mem_of_getElem? (i := 190) rfl), rfl⟩
theorem wl_X5_109 : Cond.methodLink RX5 109 yX0_leastPlace ∈ WW := List.mem_filter.mpr ⟨wm_tables_1_1 _ (List.mem_of_getElem? (i := 191) rfl), rfl⟩
theorem wt_yX0_leastPlace : Cond.instanceMethod yX0_leastPlace ∈ WW := List.mem_filter.mpr ⟨wm_tables_1_1 _ (List.mem_of_getElem? (i := 192) rfl), rfl⟩
theorem ws_yX0_leastPlace : Cond.selects RX0 yX0_leastPlace yX0_leastPlace ∈ WW := List.mem_filter.mpr ⟨wm_tables_1_1 _ (List.mem_of_getElem? (i := 193) rfl), rfl⟩
theorem wk_yX0_leastPlace : Cond.code yX0_leastPlace cX0_leastPlace 4 (some .int) ∈ WW := List.mem_filter.mpr ⟨wm_tables_1_1 _ (List.mem_of_getElem? (i := 194) rfl), rfl⟩
theorem wl_X5_113 : Cond.methodLink RX5 113 yX4_cellsOfWhite ∈ WW := List.mem_filter.mpr ⟨wm_tables_1_1 _ (List.mem_of_getElem? (i := 195) rfl), rfl⟩
theorem wt_yX4_cellsOfWhite : Cond.instanceMethod yX4_cellsOfWhite ∈ WW := List.mem_filter.mpr ⟨wm_tables_1_1 _ (List.mem_of_getElem? (i := 196) rfl), rfl⟩
theorem ws_yX4_cellsOfWhite : Cond.selects RX4 yX4_cellsOfWhite yX4_cellsOfWhite ∈ WW := List.mem_filter.mpr ⟨wm_tables_1_1 _ (List.mem_of_getElem? (i := 197) rfl), rfl⟩
theorem wk_yX4_cellsOfWhite : Cond.code yX4_cellsOfWhite cX4_cellsOfWhite 3 (some .int) ∈ WW := List.mem_filter.mpr ⟨wm_tables_1_1 _ (List.mem_of_getElem? (i := 198) rfl), rfl⟩
theorem wl_X4_57 : Cond.methodLink RX4 57 yX4_isWhite ∈ WW := List.mem_filter.mpr ⟨wm_tables_1_1 _ (List.mem_of_getElem? (i := 199) rfl), rfl⟩
theorem wt_yX4_isWhite : Cond.instanceMethod yX4_isWhite ∈ WW := List.mem_filter.mpr ⟨wm_tables_1_1 _ (List.mem_of_getElem? (i := 200) rfl), rfl⟩
theorem ws_yX4_isWhite : Cond.selects RX4 yX4_isWhite yX4_isWhite ∈ WW := List.mem_filter.mpr ⟨wm_tables_1_1 _ (List.mem_of_getElem? (i := 201) rfl), rfl⟩
theorem wk_yX4_isWhite : Cond.code yX4_isWhite cX4_isWhite 2 (some .boolean) ∈ WW := List.mem_filter.mpr ⟨wm_tables_1_1 _ (List.mem_of_getElem? (i := 202) rfl), rfl⟩
theorem wl_X4_38 : Cond.methodLink RX4 38 yX4_isThing ∈ WW := List.mem_filter.mpr ⟨wm_tables_1_1 _ (List.mem_of_getElem? (i := 203) rfl), rfl⟩
theorem wt_yX4_isThing : Cond.instanceMethod yX4_isThing ∈ WW := List.mem_filter.mpr ⟨wm_tables_1_1 _ (List.mem_of_getElem? (i := 204) rfl), rfl⟩
theorem ws_yX4_isThing : Cond.selects RX4 yX4_isThing yX4_isThing ∈ WW := List.mem_filter.mpr ⟨wm_tables_1_1 _ (List.mem_of_getElem? (i := 205) rfl), rfl⟩
theorem wk_yX4_isThing : Cond.code yX4_isThing cX4_isThing 2 (some .boolean) ∈ WW := List.mem_filter.mpr ⟨wm_tables_1_1 _ (List.mem_of_getElem? (i := 206) rfl), rfl⟩
theorem wl_X4_46 : Cond.methodLink RX4 46 yX4_isFreed ∈ WW := List.mem_filter.mpr ⟨wm_tables_1_1 _ (List.mem_of_getElem? (i := 207) rfl), rfl⟩
theorem wt_yX4_isFreed : Cond.instanceMethod yX4_isFreed ∈ WW := List.mem_filter.mpr ⟨wm_tables_1_1 _ (List.mem_of_getElem? (i := 208) rfl), rfl⟩
theorem ws_yX4_isFreed : Cond.selects RX4 yX4_isFreed yX4_isFreed ∈ WW := List.mem_filter.mpr ⟨wm_tables_1_1 _ (List.mem_of_getElem? (i := 209) rfl), rfl⟩
theorem wk_yX4_isFreed : Cond.code yX4_isFreed cX4_isFreed 2 (some .boolean) ∈ WW := List.mem_filter.mpr ⟨wm_tables_1_1 _ (List.mem_of_getElem? (i := 210) rfl), rfl⟩
theorem wl_X4_60 : Cond.methodLink RX4 60 yX4_sizeOf ∈ WW := List.mem_filter.mpr ⟨wm_tables_1_1 _ (List.mem_of_getElem? (i := 211) rfl), rfl⟩
theorem wt_yX4_sizeOf : Cond.instanceMethod yX4_sizeOf ∈ WW := List.mem_filter.mpr ⟨wm_tables_1_1 _ (List.mem_of_getElem? (i := 212) rfl), rfl⟩
theorem ws_yX4_sizeOf : Cond.selects RX4 yX4_sizeOf yX4_sizeOf ∈ WW := List.mem_filter.mpr ⟨wm_tables_1_1 _ (List.mem_of_getElem? (i := 213) rfl), rfl⟩
theorem wk_yX4_sizeOf : Cond.code yX4_sizeOf cX4_sizeOf 2 (some .int) ∈ WW := List.mem_filter.mpr ⟨wm_tables_1_1 _ (List.mem_of_getElem? (i := 214) rfl), rfl⟩
theorem wl_X5_116 : Cond.methodLink RX5 116 yX0_leftBehind ∈ WW := List.mem_filter.mpr ⟨wm_tables_1_1 _ (List.mem_of_getElem? (i := 215) rfl), rfl⟩
theorem wt_yX0_leftBehind : Cond.instanceMethod yX0_leftBehind ∈ WW := List.mem_filter.mpr ⟨wm_tables_1_1 _ (List.mem_of_getElem? (i := 216) rfl), rfl⟩
theorem ws_yX0_leftBehind : Cond.selects RX0 yX0_leftBehind yX0_leftBehind ∈ WW := List.mem_filter.mpr ⟨wm_tables_1_1 _ (List.mem_of_getElem? (i := 217) rfl), rfl⟩
theorem wk_yX0_leftBehind : Cond.code yX0_leftBehind cX0_leftBehind 1 (some .int) ∈ WW := List.mem_filter.mpr ⟨wm_tables_1_1 _ (List.mem_of_getElem? (i := 218) rfl), rfl⟩
theorem wl_X5_92 : Cond.methodLink RX5 92 yX4_add ∈ WW := List.mem_filter.mpr ⟨wm_tables_1_1 _ (List.mem_of_getElem? (i := 219) rfl), rfl⟩
theorem wt_yX4_add : Cond.instanceMethod yX4_add ∈ WW := List.mem_filter.mpr ⟨wm_tables_1_1 _ (List.mem_of_getElem? (i := 220) rfl), rfl⟩
theorem ws_yX4_add : Cond.selects RX4 yX4_add yX4_add ∈ WW := List.mem_filter.mpr ⟨wm_tables_1_1 _ (List.mem_of_getElem? (i := 221) rfl), rfl⟩
theorem wk_yX4_add : Cond.code yX4_add cX4_add 7 (some .int) ∈ WW := List.mem_filter.mpr ⟨wm_tables_1_1 _ (List.mem_of_getElem? (i := 222) rfl), rfl⟩
theorem wl_X5_96 : Cond.methodLink RX5 96 yX0_takeBehind ∈ WW := List.mem_filter.mpr ⟨wm_tables_1_1 _ (List.mem_of_getElem? (i := 223) rfl), rfl⟩
theorem wt_yX0_takeBehind : Cond.instanceMethod yX0_takeBehind ∈ WW := List.mem_filter.mpr ⟨wm_tables_1_1 _ (List.mem_of_getElem? (i := 224) rfl), rfl⟩
theorem ws_yX0_takeBehind : Cond.selects RX0 yX0_takeBehind yX0_takeBehind ∈ WW := List.mem_filter.mpr ⟨wm_tables_1_1 _ (List.mem_of_getElem? (i := 225) rfl), rfl⟩
theorem wk_yX0_takeBehind : Cond.code yX0_takeBehind cX0_takeBehind 3 none ∈ WW := List.mem_filter.mpr ⟨wm_tables_1_1 _ (List.mem_of_getElem? (i := 226) rfl), rfl⟩
theorem wl_X0_22 : Cond.methodLink RX0 22 yX0_assign ∈ WW := List.mem_filter.mpr ⟨wm_tables_1_1 _ (List.mem_of_getElem? (i := 227) rfl), rfl⟩
theorem wt_yX0_assign : Cond.instanceMethod yX0_assign ∈ WW := List.mem_filter.mpr ⟨wm_tables_1_1 _ (List.mem_of_getElem? (i := 228) rfl), rfl⟩
theorem ws_yX0_assign : Cond.selects RX0 yX0_assign yX0_assign ∈ WW := List.mem_filter.mpr ⟨wm_tables_1_1 _ (List.mem_of_getElem? (i := 229) rfl), rfl⟩
theorem wk_yX0_assign : Cond.code yX0_assign cX0_assign 5 none ∈ WW := List.mem_filter.mpr ⟨wm_tables_1_1 _ (List.mem_of_getElem? (i := 230) rfl), rfl⟩
theorem wl_X5_99 : Cond.methodLink RX5 99 yX0_assign ∈ WW := List.mem_filter.mpr ⟨wm_tables_1_1 _ (List.mem_of_getElem? (i := 231) rfl), rfl⟩
theorem wl_X5_103 : Cond.methodLink RX5 103 yX5_registerAt ∈ WW := List.mem_filter.mpr ⟨wm_tables_1_1 _ (List.mem_of_getElem? (i := 232) rfl), rfl⟩
theorem wz_yX5_registerAt : Cond.static yX5_registerAt ∈ WW := List.mem_filter.mpr ⟨wm_tables_1_1 _ (List.mem_of_getElem? (i := 233) rfl), rfl⟩
theorem wk_yX5_registerAt : Cond.code yX5_registerAt cX5_registerAt 2 (some .int) ∈ WW := List.mem_filter.mpr ⟨wm_tables_1_1 _ (List.mem_of_getElem? (i := 234) rfl), rfl⟩
theorem wl_X5_106 : Cond.methodLink RX5 106 yX1_hold ∈ WW := List.mem_filter.mpr ⟨wm_tables_1_1 _ (List.mem_of_getElem? (i := 235) rfl), rfl⟩
theorem wt_yX1_hold : Cond.instanceMethod yX1_hold ∈ WW := List.mem_filter.mpr ⟨wm_tables_1_1 _ (List.mem_of_getElem? (i := 236) rfl), rfl⟩
theorem ws_yX1_hold : Cond.selects RX1 yX1_hold yX1_hold ∈ WW := List.mem_filter.mpr ⟨wm_tables_1_1 _ (List.mem_of_getElem? (i := 237) rfl), rfl⟩
theorem wk_yX1_hold : Cond.code yX1_hold cX1_hold 3 (some .int) ∈ WW := List.mem_filter.mpr ⟨wm_tables_1_1 _ (List.mem_of_getElem? (i := 238) rfl), rfl⟩
theorem wl_L_23 : Cond.methodLink RL 23 yX5_move ∈ WW := List.mem_filter.mpr ⟨wm_tables_1_1 _ (List.mem_of_getElem? (i := 239) rfl), rfl⟩
theorem wt_yX5_move : Cond.instanceMethod yX5_move ∈ WW := List.mem_filter.mpr ⟨wm_tables_1_2 _ (List.mem_of_getElem? (i := 0) rfl), rfl⟩
theorem ws_yX5_move : Cond.selects RX5 yX5_move yX5_move ∈ WW := List.mem_filter.mpr ⟨wm_tables_1_2 _ (List.mem_of_getElem? (i := 1) rfl), rfl⟩
theorem wk_yX5_move : Cond.code yX5_move cX5_move 4 (some .int) ∈ WW := List.mem_filter.mpr ⟨wm_tables_1_2 _ (List.mem_of_getElem? (i := 2) rfl), rfl⟩
theorem wl_X5_122 : Cond.methodLink RX5 122 yX5_inRegister ∈ WW := List.mem_filter.mpr ⟨wm_tables_1_2 _ (List.mem_of_getElem? (i := 3) rfl), rfl⟩
theorem wt_yX5_inRegister : Cond.instanceMethod yX5_inRegister ∈ WW := List.mem_filter.mpr ⟨wm_tables_1_2 _ (List.mem_of_getElem? (i := 5) rfl), rfl⟩
theorem wk_yX5_inRegister : Cond.code yX5_inRegister cX5_inRegister 3 (some .int) ∈ WW := List.mem_filter.mpr ⟨wm_tables_1_2 _ (List.mem_of_getElem? (i := 6) rfl), rfl⟩
theorem wl_X5_148 : Cond.methodLink RX5 148 yX1_heldAt ∈ WW := List.mem_filter.mpr ⟨wm_tables_1_2 _ (List.mem_of_getElem? (i := 7) rfl), rfl⟩
theorem wt_yX1_heldAt : Cond.instanceMethod yX1_heldAt ∈ WW := List.mem_filter.mpr ⟨wm_tables_1_2 _ (List.mem_of_getElem? (i := 8) rfl), rfl⟩
theorem ws_yX1_heldAt : Cond.selects RX1 yX1_heldAt yX1_heldAt ∈ WW := List.mem_filter.mpr ⟨wm_tables_1_2 _ (List.mem_of_getElem? (i := 9) rfl), rfl⟩
theorem wk_yX1_heldAt : Cond.code yX1_heldAt cX1_heldAt 2 (some .int) ∈ WW := List.mem_filter.mpr ⟨wm_tables_1_2 _ (List.mem_of_getElem? (i := 10) rfl), rfl⟩
theorem wl_L_28 : Cond.methodLink RL 28 yX5_get ∈ WW := List.mem_filter.mpr ⟨wm_tables_1_2 _ (List.mem_of_getElem? (i := 11) rfl), rfl⟩
theorem wt_yX5_get : Cond.instanceMethod yX5_get ∈ WW := List.mem_filter.mpr ⟨wm_tables_1_2 _ (List.mem_of_getElem? (i := 12) rfl), rfl⟩
theorem ws_yX5_get : Cond.selects RX5 yX5_get yX5_get ∈ WW := List.mem_filter.mpr ⟨wm_tables_1_2 _ (List.mem_of_getElem? (i := 13) rfl), rfl⟩
theorem wk_yX5_get : Cond.code yX5_get cX5_get 8 (some .int) ∈ WW := List.mem_filter.mpr ⟨wm_tables_1_2 _ (List.mem_of_getElem? (i := 14) rfl), rfl⟩
theorem wl_X5_125 : Cond.methodLink RX5 125 yX5_refusalOfField ∈ WW := List.mem_filter.mpr ⟨wm_tables_1_2 _ (List.mem_of_getElem? (i := 15) rfl), rfl⟩
theorem wt_yX5_refusalOfField : Cond.instanceMethod yX5_refusalOfField ∈ WW := List.mem_filter.mpr ⟨wm_tables_1_2 _ (List.mem_of_getElem? (i := 17) rfl), rfl⟩
theorem wk_yX5_refusalOfField : Cond.code yX5_refusalOfField cX5_refusalOfField 3 (some .int) ∈ WW := List.mem_filter.mpr ⟨wm_tables_1_2 _ (List.mem_of_getElem? (i := 18) rfl), rfl⟩
theorem wl_X5_138 : Cond.methodLink RX5 138 yX4_hasField ∈ WW := List.mem_filter.mpr ⟨wm_tables_1_2 _ (List.mem_of_getElem? (i := 19) rfl), rfl⟩
theorem wt_yX4_hasField : Cond.instanceMethod yX4_hasField ∈ WW := List.mem_filter.mpr ⟨wm_tables_1_2 _ (List.mem_of_getElem? (i := 20) rfl), rfl⟩
theorem ws_yX4_hasField : Cond.selects RX4 yX4_hasField yX4_hasField ∈ WW := List.mem_filter.mpr ⟨wm_tables_1_2 _ (List.mem_of_getElem? (i := 21) rfl), rfl⟩
theorem wk_yX4_hasField : Cond.code yX4_hasField cX4_hasField 3 (some .boolean) ∈ WW := List.mem_filter.mpr ⟨wm_tables_1_2 _ (List.mem_of_getElem? (i := 22) rfl), rfl⟩
theorem wl_X5_141 : Cond.methodLink RX5 141 yX4_isFreed ∈ WW := List.mem_filter.mpr ⟨wm_tables_1_2 _ (List.mem_of_getElem? (i := 23) rfl), rfl⟩
theorem wl_X5_128 : Cond.methodLink RX5 128 yX4_inField ∈ WW := List.mem_filter.mpr ⟨wm_tables_1_2 _ (List.mem_of_getElem? (i := 24) rfl), rfl⟩
theorem wt_yX4_inField : Cond.instanceMethod yX4_inField ∈ WW := List.mem_filter.mpr ⟨wm_tables_1_2 _ (List.mem_of_getElem? (i := 25) rfl), rfl⟩
theorem ws_yX4_inField : Cond.selects RX4 yX4_inField yX4_inField ∈ WW := List.mem_filter.mpr ⟨wm_tables_1_2 _ (List.mem_of_getElem? (i := 26) rfl), rfl⟩
theorem wk_yX4_inField : Cond.code yX4_inField cX4_inField 3 (some .int) ∈ WW := List.mem_filter.mpr ⟨wm_tables_1_2 _ (List.mem_of_getElem? (i := 27) rfl), rfl⟩
theorem wl_X4_42 : Cond.methodLink RX4 42 yX4_hasField ∈ WW := List.mem_filter.mpr ⟨wm_tables_1_2 _ (List.mem_of_getElem? (i := 28) rfl), rfl⟩
theorem wl_X5_131 : Cond.methodLink RX5 131 yX5_note ∈ WW := List.mem_filter.mpr ⟨wm_tables_1_2 _ (List.mem_of_getElem? (i := 29) rfl), rfl⟩
theorem wt_yX5_note : Cond.instanceMethod yX5_note ∈ WW := List.mem_filter.mpr ⟨wm_tables_1_2 _ (List.mem_of_getElem? (i := 31) rfl), rfl⟩
theorem wk_yX5_note : Cond.code yX5_note cX5_note 2 none ∈ WW := List.mem_filter.mpr ⟨wm_tables_1_2 _ (List.mem_of_getElem? (i := 32) rfl), rfl⟩
theorem wl_X5_177 : Cond.methodLink RX5 177 yX5_shade ∈ WW := List.mem_filter.mpr ⟨wm_tables_1_2 _ (List.mem_of_getElem? (i := 33) rfl), rfl⟩
theorem wt_yX5_shade : Cond.instanceMethod yX5_shade ∈ WW := List.mem_filter.mpr ⟨wm_tables_1_2 _ (List.mem_of_getElem? (i := 35) rfl), rfl⟩
theorem wk_yX5_shade : Cond.code yX5_shade cX5_shade 2 none ∈ WW := List.mem_filter.mpr ⟨wm_tables_1_2 _ (List.mem_of_getElem? (i := 36) rfl), rfl⟩
theorem wl_X5_229 : Cond.methodLink RX5 229 yX4_isWhite ∈ WW := List.mem_filter.mpr ⟨wm_tables_1_2 _ (List.mem_of_getElem? (i := 37) rfl), rfl⟩
theorem wl_X5_214 : Cond.methodLink RX5 214 yX4_paint ∈ WW := List.mem_filter.mpr ⟨wm_tables_1_2 _ (List.mem_of_getElem? (i := 38) rfl), rfl⟩
theorem wt_yX4_paint : Cond.instanceMethod yX4_paint ∈ WW := List.mem_filter.mpr ⟨wm_tables_1_2 _ (List.mem_of_getElem? (i := 39) rfl), rfl⟩
theorem ws_yX4_paint : Cond.selects RX4 yX4_paint yX4_paint ∈ WW := List.mem_filter.mpr ⟨wm_tables_1_2 _ (List.mem_of_getElem? (i := 40) rfl), rfl⟩
theorem wk_yX4_paint : Cond.code yX4_paint cX4_paint 3 none ∈ WW := List.mem_filter.mpr ⟨wm_tables_1_2 _ (List.mem_of_getElem? (i := 41) rfl), rfl⟩
theorem wl_X5_241 : Cond.methodLink RX5 241 yX4_placeOf ∈ WW := List.mem_filter.mpr ⟨wm_tables_1_2 _ (List.mem_of_getElem? (i := 42) rfl), rfl⟩
theorem wt_yX4_placeOf : Cond.instanceMethod yX4_placeOf ∈ WW := List.mem_filter.mpr ⟨wm_tables_1_2 _ (List.mem_of_getElem? (i := 43) rfl), rfl⟩
theorem ws_yX4_placeOf : Cond.selects RX4 yX4_placeOf yX4_placeOf ∈ WW := List.mem_filter.mpr ⟨wm_tables_1_2 _ (List.mem_of_getElem? (i := 44) rfl), rfl⟩
theorem wk_yX4_placeOf : Cond.code yX4_placeOf cX4_placeOf 2 (some .int) ∈ WW := List.mem_filter.mpr ⟨wm_tables_1_2 _ (List.mem_of_getElem? (i := 45) rfl), rfl⟩
theorem wl_X5_244 : Cond.methodLink RX5 244 yX4_sizeOf ∈ WW := List.mem_filter.mpr ⟨wm_tables_1_2 _ (List.mem_of_getElem? (i := 46) rfl), rfl⟩
theorem wl_X5_247 : Cond.methodLink RX5 247 yX4_moveTo ∈ WW := List.mem_filter.mpr ⟨wm_tables_1_2 _ (List.mem_of_getElem? (i := 47) rfl), rfl⟩
theorem wt_yX4_moveTo : Cond.instanceMethod yX4_moveTo ∈ WW := List.mem_filter.mpr ⟨wm_tables_1_2 _ (List.mem_of_getElem? (i := 48) rfl), rfl⟩
theorem ws_yX4_moveTo : Cond.selects RX4 yX4_moveTo yX4_moveTo ∈ WW := List.mem_filter.mpr ⟨wm_tables_1_2 _ (List.mem_of_getElem? (i := 49) rfl), rfl⟩
theorem wk_yX4_moveTo : Cond.code yX4_moveTo cX4_moveTo 3 none ∈ WW := List.mem_filter.mpr ⟨wm_tables_1_2 _ (List.mem_of_getElem? (i := 50) rfl), rfl⟩
theorem wl_L_33 : Cond.methodLink RL 33 yX5_put ∈ WW := List.mem_filter.mpr ⟨wm_tables_1_2 _ (List.mem_of_getElem? (i := 51) rfl), rfl⟩
theorem wt_yX5_put : Cond.instanceMethod yX5_put ∈ WW := List.mem_filter.mpr ⟨wm_tables_1_2 _ (List.mem_of_getElem? (i := 52) rfl), rfl⟩
theorem ws_yX5_put : Cond.selects RX5 yX5_put yX5_put ∈ WW := List.mem_filter.mpr ⟨wm_tables_1_2 _ (List.mem_of_getElem? (i := 53) rfl), rfl⟩
theorem wk_yX5_put : Cond.code yX5_put cX5_put 8 (some .int) ∈ WW := List.mem_filter.mpr ⟨wm_tables_1_2 _ (List.mem_of_getElem? (i := 54) rfl), rfl⟩
theorem wl_X5_135 : Cond.methodLink RX5 135 yX4_setField ∈ WW := List.mem_filter.mpr ⟨wm_tables_1_2 _ (List.mem_of_getElem? (i := 55) rfl), rfl⟩
theorem wt_yX4_setField : Cond.instanceMethod yX4_setField ∈ WW := List.mem_filter.mpr ⟨wm_tables_1_2 _ (List.mem_of_getElem? (i := 56) rfl), rfl⟩
theorem ws_yX4_setField : Cond.selects RX4 yX4_setField yX4_setField ∈ WW := List.mem_filter.mpr ⟨wm_tables_1_2 _ (List.mem_of_getElem? (i := 57) rfl), rfl⟩
theorem wk_yX4_setField : Cond.code yX4_setField cX4_setField 4 none ∈ WW := List.mem_filter.mpr ⟨wm_tables_1_2 _ (List.mem_of_getElem? (i := 58) rfl), rfl⟩
theorem wl_L_37 : Cond.methodLink RL 37 yX5_drop ∈ WW := List.mem_filter.mpr ⟨wm_tables_1_2 _ (List.mem_of_getElem? (i := 59) rfl), rfl⟩
theorem wt_yX5_drop : Cond.instanceMethod yX5_drop ∈ WW := List.mem_filter.mpr ⟨wm_tables_1_2 _ (List.mem_of_getElem? (i := 60) rfl), rfl⟩
theorem ws_yX5_drop : Cond.selects RX5 yX5_drop yX5_drop ∈ WW := List.mem_filter.mpr ⟨wm_tables_1_2 _ (List.mem_of_getElem? (i := 61) rfl), rfl⟩
theorem wk_yX5_drop : Cond.code yX5_drop cX5_drop 4 (some .int) ∈ WW := List.mem_filter.mpr ⟨wm_tables_1_2 _ (List.mem_of_getElem? (i := 62) rfl), rfl⟩
theorem wl_L_41 : Cond.methodLink RL 41 yX5_store ∈ WW := List.mem_filter.mpr ⟨wm_tables_1_2 _ (List.mem_of_getElem? (i := 63) rfl), rfl⟩
theorem wt_yX5_store : Cond.instanceMethod yX5_store ∈ WW := List.mem_filter.mpr ⟨wm_tables_1_2 _ (List.mem_of_getElem? (i := 64) rfl), rfl⟩
theorem ws_yX5_store : Cond.selects RX5 yX5_store yX5_store ∈ WW := List.mem_filter.mpr ⟨wm_tables_1_2 _ (List.mem_of_getElem? (i := 65) rfl), rfl⟩
theorem wk_yX5_store : Cond.code yX5_store cX5_store 5 (some .int) ∈ WW := List.mem_filter.mpr ⟨wm_tables_1_2 _ (List.mem_of_getElem? (i := 66) rfl), rfl⟩
theorem wl_X5_145 : Cond.methodLink RX5 145 yX5_isSlot ∈ WW := List.mem_filter.mpr ⟨wm_tables_1_2 _ (List.mem_of_getElem? (i := 67) rfl), rfl⟩
theorem wz_yX5_isSlot : Cond.static yX5_isSlot ∈ WW := List.mem_filter.mpr ⟨wm_tables_1_2 _ (List.mem_of_getElem? (i := 68) rfl), rfl⟩
theorem wk_yX5_isSlot : Cond.code yX5_isSlot cX5_isSlot 1 (some .boolean) ∈ WW := List.mem_filter.mpr ⟨wm_tables_1_2 _ (List.mem_of_getElem? (i := 69) rfl), rfl⟩
theorem wl_L_45 : Cond.methodLink RL 45 yX5_load ∈ WW := List.mem_filter.mpr ⟨wm_tables_1_2 _ (List.mem_of_getElem? (i := 70) rfl), rfl⟩
theorem wt_yX5_load : Cond.instanceMethod yX5_load ∈ WW := List.mem_filter.mpr ⟨wm_tables_1_2 _ (List.mem_of_getElem? (i := 71) rfl), rfl⟩
theorem ws_yX5_load : Cond.selects RX5 yX5_load yX5_load ∈ WW := List.mem_filter.mpr ⟨wm_tables_1_2 _ (List.mem_of_getElem? (i := 72) rfl), rfl⟩
theorem wk_yX5_load : Cond.code yX5_load cX5_load 4 (some .int) ∈ WW := List.mem_filter.mpr ⟨wm_tables_1_2 _ (List.mem_of_getElem? (i := 73) rfl), rfl⟩
theorem wl_L_49 : Cond.methodLink RL 49 yX5_same ∈ WW := List.mem_filter.mpr ⟨wm_tables_1_2 _ (List.mem_of_getElem? (i := 74) rfl), rfl⟩
theorem wt_yX5_same : Cond.instanceMethod yX5_same ∈ WW := List.mem_filter.mpr ⟨wm_tables_1_2 _ (List.mem_of_getElem? (i := 75) rfl), rfl⟩
theorem ws_yX5_same : Cond.selects RX5 yX5_same yX5_same ∈ WW := List.mem_filter.mpr ⟨wm_tables_1_2 _ (List.mem_of_getElem? (i := 76) rfl), rfl⟩
theorem wk_yX5_same : Cond.code yX5_same cX5_same 5 (some .int) ∈ WW := List.mem_filter.mpr ⟨wm_tables_1_2 _ (List.mem_of_getElem? (i := 77) rfl), rfl⟩
theorem wl_L_53 : Cond.methodLink RL 53 yX5_weak ∈ WW := List.mem_filter.mpr ⟨wm_tables_1_2 _ (List.mem_of_getElem? (i := 78) rfl), rfl⟩
theorem wt_yX5_weak : Cond.instanceMethod yX5_weak ∈ WW := List.mem_filter.mpr ⟨wm_tables_1_2 _ (List.mem_of_getElem? (i := 79) rfl), rfl⟩
theorem ws_yX5_weak : Cond.selects RX5 yX5_weak yX5_weak ∈ WW := List.mem_filter.mpr ⟨wm_tables_1_2 _ (List.mem_of_getElem? (i := 80) rfl), rfl⟩
theorem wk_yX5_weak : Cond.code yX5_weak cX5_weak 5 (some .int) ∈ WW := List.mem_filter.mpr ⟨wm_tables_1_2 _ (List.mem_of_getElem? (i := 81) rfl), rfl⟩
theorem wl_X5_151 : Cond.methodLink RX5 151 yX5_isWeakHolder ∈ WW := List.mem_filter.mpr ⟨wm_tables_1_2 _ (List.mem_of_getElem? (i := 82) rfl), rfl⟩
theorem wz_yX5_isWeakHolder : Cond.static yX5_isWeakHolder ∈ WW := List.mem_filter.mpr ⟨wm_tables_1_2 _ (List.mem_of_getElem? (i := 83) rfl), rfl⟩
theorem wk_yX5_isWeakHolder : Cond.code yX5_isWeakHolder cX5_isWeakHolder 1 (some .boolean) ∈ WW := List.mem_filter.mpr ⟨wm_tables_1_2 _ (List.mem_of_getElem? (i := 84) rfl), rfl⟩
theorem wl_X5_154 : Cond.methodLink RX5 154 yX1_name ∈ WW := List.mem_filter.mpr ⟨wm_tables_1_2 _ (List.mem_of_getElem? (i := 85) rfl), rfl⟩
theorem wt_yX1_name : Cond.instanceMethod yX1_name ∈ WW := List.mem_filter.mpr ⟨wm_tables_1_2 _ (List.mem_of_getElem? (i := 86) rfl), rfl⟩
theorem ws_yX1_name : Cond.selects RX1 yX1_name yX1_name ∈ WW := List.mem_filter.mpr ⟨wm_tables_1_2 _ (List.mem_of_getElem? (i := 87) rfl), rfl⟩
theorem wk_yX1_name : Cond.code yX1_name cX1_name 3 none ∈ WW := List.mem_filter.mpr ⟨wm_tables_1_2 _ (List.mem_of_getElem? (i := 88) rfl), rfl⟩
theorem wl_L_57 : Cond.methodLink RL 57 yX5_strong ∈ WW := List.mem_filter.mpr ⟨wm_tables_1_2 _ (List.mem_of_getElem? (i := 90) rfl), rfl⟩
theorem wt_yX5_strong : Cond.instanceMethod yX5_strong ∈ WW := List.mem_filter.mpr ⟨wm_tables_1_2 _ (List.mem_of_getElem? (i := 91) rfl), rfl⟩
theorem ws_yX5_strong : Cond.selects RX5 yX5_strong yX5_strong ∈ WW := List.mem_filter.mpr ⟨wm_tables_1_2 _ (List.mem_of_getElem? (i := 92) rfl), rfl⟩
theorem wk_yX5_strong : Cond.code yX5_strong cX5_strong 5 (some .int) ∈ WW := List.mem_filter.mpr ⟨wm_tables_1_2 _ (List.mem_of_getElem? (i := 93) rfl), rfl⟩
theorem wl_X5_157 : Cond.methodLink RX5 157 yX1_namedBy ∈ WW := List.mem_filter.mpr ⟨wm_tables_1_2 _ (List.mem_of_getElem? (i := 94) rfl), rfl⟩
theorem wt_yX1_namedBy : Cond.instanceMethod yX1_namedBy ∈ WW := List.mem_filter.mpr ⟨wm_tables_1_2 _ (List.mem_of_getElem? (i := 95) rfl), rfl⟩
theorem ws_yX1_namedBy : Cond.selects RX1 yX1_namedBy yX1_namedBy ∈ WW := List.mem_filter.mpr ⟨wm_tables_1_2 _ (List.mem_of_getElem? (i := 96) rfl), rfl⟩
theorem wk_yX1_namedBy : Cond.code yX1_namedBy cX1_namedBy 2 (some .int) ∈ WW := List.mem_filter.mpr ⟨wm_tables_1_2 _ (List.mem_of_getElem? (i := 97) rfl), rfl⟩
theorem wl_X5_160 : Cond.methodLink RX5 160 yX5_noteWeakRead ∈ WW := List.mem_filter.mpr ⟨wm_tables_1_2 _ (List.mem_of_getElem? (i := 98) rfl), rfl⟩
theorem wt_yX5_noteWeakRead : Cond.instanceMethod yX5_noteWeakRead ∈ WW := List.mem_filter.mpr ⟨wm_tables_1_2 _ (List.mem_of_getElem? (i := 100) rfl), rfl⟩
theorem wk_yX5_noteWeakRead : Cond.code yX5_noteWeakRead cX5_noteWeakRead 2 none ∈ WW := List.mem_filter.mpr ⟨wm_tables_1_2 _ (List.mem_of_getElem? (i := 101) rfl), rfl⟩
theorem wl_L_61 : Cond.methodLink RL 61 yX5_pair ∈ WW := List.mem_filter.mpr ⟨wm_tables_1_2 _ (List.mem_of_getElem? (i := 102) rfl), rfl⟩
theorem wt_yX5_pair : Cond.instanceMethod yX5_pair ∈ WW := List.mem_filter.mpr ⟨wm_tables_1_2 _ (List.mem_of_getElem? (i := 103) rfl), rfl⟩
theorem ws_yX5_pair : Cond.selects RX5 yX5_pair yX5_pair ∈ WW := List.mem_filter.mpr ⟨wm_tables_1_2 _ (List.mem_of_getElem? (i := 104) rfl), rfl⟩
theorem wk_yX5_pair : Cond.code yX5_pair cX5_pair 6 (some .int) ∈ WW := List.mem_filter.mpr ⟨wm_tables_1_2 _ (List.mem_of_getElem? (i := 105) rfl), rfl⟩
theorem wl_X5_163 : Cond.methodLink RX5 163 yX2_add ∈ WW := List.mem_filter.mpr ⟨wm_tables_1_2 _ (List.mem_of_getElem? (i := 106) rfl), rfl⟩
theorem wt_yX2_add : Cond.instanceMethod yX2_add ∈ WW := List.mem_filter.mpr ⟨wm_tables_1_2 _ (List.mem_of_getElem? (i := 107) rfl), rfl⟩
theorem ws_yX2_add : Cond.selects RX2 yX2_add yX2_add ∈ WW := List.mem_filter.mpr ⟨wm_tables_1_2 _ (List.mem_of_getElem? (i := 108) rfl), rfl⟩
theorem wk_yX2_add : Cond.code yX2_add cX2_add 3 (some .int) ∈ WW := List.mem_filter.mpr ⟨wm_tables_1_2 _ (List.mem_of_getElem? (i := 109) rfl), rfl⟩
theorem wl_L_65 : Cond.methodLink RL 65 yX5_value ∈ WW := List.mem_filter.mpr ⟨wm_tables_1_2 _ (List.mem_of_getElem? (i := 110) rfl), rfl⟩
theorem wt_yX5_value : Cond.instanceMethod yX5_value ∈ WW := List.mem_filter.mpr ⟨wm_tables_1_2 _ (List.mem_of_getElem? (i := 111) rfl), rfl⟩
theorem ws_yX5_value : Cond.selects RX5 yX5_value yX5_value ∈ WW := List.mem_filter.mpr ⟨wm_tables_1_2 _ (List.mem_of_getElem? (i := 112) rfl), rfl⟩
theorem wk_yX5_value : Cond.code yX5_value cX5_value 5 (some .int) ∈ WW := List.mem_filter.mpr ⟨wm_tables_1_2 _ (List.mem_of_getElem? (i := 113) rfl), rfl⟩
theorem wl_X5_165 : Cond.methodLink RX5 165 yX2_isPair ∈ WW := List.mem_filter.mpr ⟨wm_tables_1_2 _ (List.mem_of_getElem? (i := 114) rfl), rfl⟩
theorem wt_yX2_isPair : Cond.instanceMethod yX2_isPair ∈ WW := List.mem_filter.mpr ⟨wm_tables_1_2 _ (List.mem_of_getElem? (i := 115) rfl), rfl⟩
theorem ws_yX2_isPair : Cond.selects RX2 yX2_isPair yX2_isPair ∈ WW := List.mem_filter.mpr ⟨wm_tables_1_2 _ (List.mem_of_getElem? (i := 116) rfl), rfl⟩
theorem wk_yX2_isPair : Cond.code yX2_isPair cX2_isPair 2 (some .boolean) ∈ WW := List.mem_filter.mpr ⟨wm_tables_1_2 _ (List.mem_of_getElem? (i := 117) rfl), rfl⟩
theorem wl_X5_168 : Cond.methodLink RX5 168 yX2_valueOf ∈ WW := List.mem_filter.mpr ⟨wm_tables_1_2 _ (List.mem_of_getElem? (i := 118) rfl), rfl⟩
theorem wt_yX2_valueOf : Cond.instanceMethod yX2_valueOf ∈ WW := List.mem_filter.mpr ⟨wm_tables_1_2 _ (List.mem_of_getElem? (i := 119) rfl), rfl⟩
theorem ws_yX2_valueOf : Cond.selects RX2 yX2_valueOf yX2_valueOf ∈ WW := List.mem_filter.mpr ⟨wm_tables_1_2 _ (List.mem_of_getElem? (i := 120) rfl), rfl⟩
theorem wk_yX2_valueOf : Cond.code yX2_valueOf cX2_valueOf 2 (some .int) ∈ WW := List.mem_filter.mpr ⟨wm_tables_1_2 _ (List.mem_of_getElem? (i := 121) rfl), rfl⟩
theorem wl_X2_22 : Cond.methodLink RX2 22 yX2_isPair ∈ WW := List.mem_filter.mpr ⟨wm_tables_1_2 _ (List.mem_of_getElem? (i := 122) rfl), rfl⟩
theorem wl_L_69 : Cond.methodLink RL 69 yX5_wish ∈ WW := List.mem_filter.mpr ⟨wm_tables_1_2 _ (List.mem_of_getElem? (i := 123) rfl), rfl⟩
theorem wt_yX5_wish : Cond.instanceMethod yX5_wish ∈ WW := List.mem_filter.mpr ⟨wm_tables_1_2 _ (List.mem_of_getElem? (i := 124) rfl), rfl⟩
theorem ws_yX5_wish : Cond.selects RX5 yX5_wish yX5_wish ∈ WW := List.mem_filter.mpr ⟨wm_tables_1_2 _ (List.mem_of_getElem? (i := 125) rfl), rfl⟩
theorem wk_yX5_wish : Cond.code yX5_wish cX5_wish 3 (some .int) ∈ WW := List.mem_filter.mpr ⟨wm_tables_1_2 _ (List.mem_of_getElem? (i := 126) rfl), rfl⟩
theorem wl_X5_174 : Cond.methodLink RX5 174 yX1_takeFirstWish ∈ WW := List.mem_filter.mpr ⟨wm_tables_1_2 _ (List.mem_of_getElem? (i := 127) rfl), rfl⟩
theorem wt_yX1_takeFirstWish : Cond.instanceMethod yX1_takeFirstWish ∈ WW := List.mem_filter.mpr ⟨wm_tables_1_2 _ (List.mem_of_getElem? (i := 128) rfl), rfl⟩
theorem ws_yX1_takeFirstWish : Cond.selects RX1 yX1_takeFirstWish yX1_takeFirstWish ∈ WW := List.mem_filter.mpr ⟨wm_tables_1_2 _ (List.mem_of_getElem? (i := 129) rfl), rfl⟩
theorem wk_yX1_takeFirstWish : Cond.code yX1_takeFirstWish cX1_takeFirstWish 3 (some .int) ∈ WW := List.mem_filter.mpr ⟨wm_tables_1_2 _ (List.mem_of_getElem? (i := 130) rfl), rfl⟩
theorem wl_X1_26 : Cond.methodLink RX1 26 yX1_heldAt ∈ WW := List.mem_filter.mpr ⟨wm_tables_1_2 _ (List.mem_of_getElem? (i := 131) rfl), rfl⟩
theorem wl_L_73 : Cond.methodLink RL 73 yX5_begin ∈ WW := List.mem_filter.mpr ⟨wm_tables_1_2 _ (List.mem_of_getElem? (i := 132) rfl), rfl⟩
theorem wt_yX5_begin : Cond.instanceMethod yX5_begin ∈ WW := List.mem_filter.mpr ⟨wm_tables_1_2 _ (List.mem_of_getElem? (i := 133) rfl), rfl⟩
theorem ws_yX5_begin : Cond.selects RX5 yX5_begin yX5_begin ∈ WW := List.mem_filter.mpr ⟨wm_tables_1_2 _ (List.mem_of_getElem? (i := 134) rfl), rfl⟩
theorem wk_yX5_begin : Cond.code yX5_begin cX5_begin 2 (some .int) ∈ WW := List.mem_filter.mpr ⟨wm_tables_1_2 _ (List.mem_of_getElem? (i := 135) rfl), rfl⟩
theorem wl_X5_180 : Cond.methodLink RX5 180 yX5_startRound ∈ WW := List.mem_filter.mpr ⟨wm_tables_1_2 _ (List.mem_of_getElem? (i := 136) rfl), rfl⟩
theorem wt_yX5_startRound : Cond.instanceMethod yX5_startRound ∈ WW := List.mem_filter.mpr ⟨wm_tables_1_2 _ (List.mem_of_getElem? (i := 138) rfl), rfl⟩
theorem wk_yX5_startRound : Cond.code yX5_startRound cX5_startRound 1 none ∈ WW := List.mem_filter.mpr ⟨wm_tables_1_2 _ (List.mem_of_getElem? (i := 139) rfl), rfl⟩
theorem wl_X5_193 : Cond.methodLink RX5 193 yX4_whitenAll ∈ WW := List.mem_filter.mpr ⟨wm_tables_1_2 _ (List.mem_of_getElem? (i := 140) rfl), rfl⟩
theorem wt_yX4_whitenAll : Cond.instanceMethod yX4_whitenAll ∈ WW := List.mem_filter.mpr ⟨wm_tables_1_2 _ (List.mem_of_getElem? (i := 141) rfl), rfl⟩
theorem ws_yX4_whitenAll : Cond.selects RX4 yX4_whitenAll yX4_whitenAll ∈ WW := List.mem_filter.mpr ⟨wm_tables_1_2 _ (List.mem_of_getElem? (i := 142) rfl), rfl⟩
theorem wk_yX4_whitenAll : Cond.code yX4_whitenAll cX4_whitenAll 2 none ∈ WW := List.mem_filter.mpr ⟨wm_tables_1_2 _ (List.mem_of_getElem? (i := 143) rfl), rfl⟩
theorem wl_X4_49 : Cond.methodLink RX4 49 yX4_paint ∈ WW := List.mem_filter.mpr ⟨wm_tables_1_2 _ (List.mem_of_getElem? (i := 144) rfl), rfl⟩
theorem wl_X5_196 : Cond.methodLink RX5 196 yX0_changeHalves ∈ WW := List.mem_filter.mpr ⟨wm_tables_1_2 _ (List.mem_of_getElem? (i := 145) rfl), rfl⟩
theorem wt_yX0_changeHalves : Cond.instanceMethod yX0_changeHalves ∈ WW := List.mem_filter.mpr ⟨wm_tables_1_2 _ (List.mem_of_getElem? (i := 146) rfl), rfl⟩
theorem ws_yX0_changeHalves : Cond.selects RX0 yX0_changeHalves yX0_changeHalves ∈ WW := List.mem_filter.mpr ⟨wm_tables_1_2 _ (List.mem_of_getElem? (i := 147) rfl), rfl⟩
theorem wk_yX0_changeHalves : Cond.code yX0_changeHalves cX0_changeHalves 1 none ∈ WW := List.mem_filter.mpr ⟨wm_tables_1_2 _ (List.mem_of_getElem? (i := 148) rfl), rfl⟩
theorem wl_X5_199 : Cond.methodLink RX5 199 yX5_shadeHeld ∈ WW := List.mem_filter.mpr ⟨wm_tables_1_2 _ (List.mem_of_getElem? (i := 149) rfl), rfl⟩
theorem wt_yX5_shadeHeld : Cond.instanceMethod yX5_shadeHeld ∈ WW := List.mem_filter.mpr ⟨wm_tables_1_2 _ (List.mem_of_getElem? (i := 151) rfl), rfl⟩
theorem wk_yX5_shadeHeld : Cond.code yX5_shadeHeld cX5_shadeHeld 2 none ∈ WW := List.mem_filter.mpr ⟨wm_tables_1_2 _ (List.mem_of_getElem? (i := 152) rfl), rfl⟩
theorem wl_X5_183 : Cond.methodLink RX5 183 yX4_countGray ∈ WW := List.mem_filter.mpr ⟨wm_tables_1_2 _ (List.mem_of_getElem? (i := 153) rfl), rfl⟩
theorem wt_yX4_countGray : Cond.instanceMethod yX4_countGray ∈ WW := List.mem_filter.mpr ⟨wm_tables_1_2 _ (List.mem_of_getElem? (i := 154) rfl), rfl⟩
theorem ws_yX4_countGray : Cond.selects RX4 yX4_countGray yX4_countGray ∈ WW := List.mem_filter.mpr ⟨wm_tables_1_2 _ (List.mem_of_getElem? (i := 155) rfl), rfl⟩
theorem wk_yX4_countGray : Cond.code yX4_countGray cX4_countGray 3 (some .int) ∈ WW := List.mem_filter.mpr ⟨wm_tables_1_2 _ (List.mem_of_getElem? (i := 156) rfl), rfl⟩
theorem wl_X4_53 : Cond.methodLink RX4 53 yX4_colourOf ∈ WW := List.mem_filter.mpr ⟨wm_tables_1_2 _ (List.mem_of_getElem? (i := 157) rfl), rfl⟩
theorem wt_yX4_colourOf : Cond.instanceMethod yX4_colourOf ∈ WW := List.mem_filter.mpr ⟨wm_tables_1_2 _ (List.mem_of_getElem? (i := 158) rfl), rfl⟩
theorem ws_yX4_colourOf : Cond.selects RX4 yX4_colourOf yX4_colourOf ∈ WW := List.mem_filter.mpr ⟨wm_tables_1_2 _ (List.mem_of_getElem? (i := 159) rfl), rfl⟩
theorem wk_yX4_colourOf : Cond.code yX4_colourOf cX4_colourOf 2 (some .int) ∈ WW := List.mem_filter.mpr ⟨wm_tables_1_2 _ (List.mem_of_getElem? (i := 160) rfl), rfl⟩
theorem wl_X5_186 : Cond.methodLink RX5 186 yX4_countNotFreed ∈ WW := List.mem_filter.mpr ⟨wm_tables_1_2 _ (List.mem_of_getElem? (i := 161) rfl), rfl⟩
theorem wt_yX4_countNotFreed : Cond.instanceMethod yX4_countNotFreed ∈ WW := List.mem_filter.mpr ⟨wm_tables_1_2 _ (List.mem_of_getElem? (i := 162) rfl), rfl⟩
theorem ws_yX4_countNotFreed : Cond.selects RX4 yX4_countNotFreed yX4_countNotFreed ∈ WW := List.mem_filter.mpr ⟨wm_tables_1_2 _ (List.mem_of_getElem? (i := 163) rfl), rfl⟩
theorem wk_yX4_countNotFreed : Cond.code yX4_countNotFreed cX4_countNotFreed 3 (some .int) ∈ WW := List.mem_filter.mpr ⟨wm_tables_1_2 _ (List.mem_of_getElem? (i := 164) rfl), rfl⟩
theorem wv_X5_189 : Cond.constant RX5 189 (1000000) ∈ WW := List.mem_filter.mpr ⟨wm_tables_1_2 _ (List.mem_of_getElem? (i := 165) rfl), rfl⟩
theorem wl_X5_190 : Cond.methodLink RX5 190 yX5_takeSteps ∈ WW := List.mem_filter.mpr ⟨wm_tables_1_2 _ (List.mem_of_getElem? (i := 166) rfl), rfl⟩
theorem wt_yX5_takeSteps : Cond.instanceMethod yX5_takeSteps ∈ WW := List.mem_filter.mpr ⟨wm_tables_1_2 _ (List.mem_of_getElem? (i := 168) rfl), rfl⟩
theorem wk_yX5_takeSteps : Cond.code yX5_takeSteps cX5_takeSteps 3 (some .int) ∈ WW := List.mem_filter.mpr ⟨wm_tables_1_2 _ (List.mem_of_getElem? (i := 169) rfl), rfl⟩
theorem wl_X5_202 : Cond.methodLink RX5 202 yX5_markStep ∈ WW := List.mem_filter.mpr ⟨wm_tables_1_2 _ (List.mem_of_getElem? (i := 170) rfl), rfl⟩
theorem wt_yX5_markStep : Cond.instanceMethod yX5_markStep ∈ WW := List.mem_filter.mpr ⟨wm_tables_1_2 _ (List.mem_of_getElem? (i := 172) rfl), rfl⟩
theorem wk_yX5_markStep : Cond.code yX5_markStep cX5_markStep 3 none ∈ WW := List.mem_filter.mpr ⟨wm_tables_1_2 _ (List.mem_of_getElem? (i := 173) rfl), rfl⟩
theorem wl_X5_208 : Cond.methodLink RX5 208 yX4_leastGray ∈ WW := List.mem_filter.mpr ⟨wm_tables_1_2 _ (List.mem_of_getElem? (i := 174) rfl), rfl⟩
theorem wt_yX4_leastGray : Cond.instanceMethod yX4_leastGray ∈ WW := List.mem_filter.mpr ⟨wm_tables_1_2 _ (List.mem_of_getElem? (i := 175) rfl), rfl⟩
theorem ws_yX4_leastGray : Cond.selects RX4 yX4_leastGray yX4_leastGray ∈ WW := List.mem_filter.mpr ⟨wm_tables_1_2 _ (List.mem_of_getElem? (i := 176) rfl), rfl⟩
theorem wk_yX4_leastGray : Cond.code yX4_leastGray cX4_leastGray 2 (some .int) ∈ WW := List.mem_filter.mpr ⟨wm_tables_1_2 _ (List.mem_of_getElem? (i := 177) rfl), rfl⟩
theorem wl_X5_211 : Cond.methodLink RX5 211 yX5_shadeFieldsOf ∈ WW := List.mem_filter.mpr ⟨wm_tables_1_2 _ (List.mem_of_getElem? (i := 178) rfl), rfl⟩
theorem wt_yX5_shadeFieldsOf : Cond.instanceMethod yX5_shadeFieldsOf ∈ WW := List.mem_filter.mpr ⟨wm_tables_1_2 _ (List.mem_of_getElem? (i := 180) rfl), rfl⟩
theorem wk_yX5_shadeFieldsOf : Cond.code yX5_shadeFieldsOf cX5_shadeFieldsOf 3 none ∈ WW := List.mem_filter.mpr ⟨wm_tables_1_2 _ (List.mem_of_getElem? (i := 181) rfl), rfl⟩
theorem wl_X5_217 : Cond.methodLink RX5 217 yX5_shadeValues ∈ WW := List.mem_filter.mpr ⟨wm_tables_1_2 _ (List.mem_of_getElem? (i := 182) rfl), rfl⟩
theorem wt_yX5_shadeValues : Cond.instanceMethod yX5_shadeValues ∈ WW := List.mem_filter.mpr ⟨wm_tables_1_2 _ (List.mem_of_getElem? (i := 184) rfl), rfl⟩
theorem wk_yX5_shadeValues : Cond.code yX5_shadeValues cX5_shadeValues 3 none ∈ WW := List.mem_filter.mpr ⟨wm_tables_1_2 _ (List.mem_of_getElem? (i := 185) rfl), rfl⟩
theorem wl_X5_226 : Cond.methodLink RX5 226 yX2_keyOf ∈ WW := List.mem_filter.mpr ⟨wm_tables_1_2 _ (List.mem_of_getElem? (i := 186) rfl), rfl⟩
theorem wt_yX2_keyOf : Cond.instanceMethod yX2_keyOf ∈ WW := List.mem_filter.mpr ⟨wm_tables_1_2 _ (List.mem_of_getElem? (i := 187) rfl), rfl⟩
theorem ws_yX2_keyOf : Cond.selects RX2 yX2_keyOf yX2_keyOf ∈ WW := List.mem_filter.mpr ⟨wm_tables_1_2 _ (List.mem_of_getElem? (i := 188) rfl), rfl⟩
theorem wk_yX2_keyOf : Cond.code yX2_keyOf cX2_keyOf 2 (some .int) ∈ WW := List.mem_filter.mpr ⟨wm_tables_1_2 _ (List.mem_of_getElem? (i := 189) rfl), rfl⟩
theorem wl_X5_220 : Cond.methodLink RX5 220 yX5_grantWishes ∈ WW := List.mem_filter.mpr ⟨wm_tables_1_2 _ (List.mem_of_getElem? (i := 190) rfl), rfl⟩
theorem wt_yX5_grantWishes : Cond.instanceMethod yX5_grantWishes ∈ WW := List.mem_filter.mpr ⟨wm_tables_1_2 _ (List.mem_of_getElem? (i := 192) rfl), rfl⟩
theorem wk_yX5_grantWishes : Cond.code yX5_grantWishes cX5_grantWishes 2 none ∈ WW := List.mem_filter.mpr ⟨wm_tables_1_2 _ (List.mem_of_getElem? (i := 193) rfl), rfl⟩
theorem wl_X5_232 : Cond.methodLink RX5 232 yX4_hasWish ∈ WW := List.mem_filter.mpr ⟨wm_tables_1_2 _ (List.mem_of_getElem? (i := 194) rfl), rfl⟩
theorem wt_yX4_hasWish : Cond.instanceMethod yX4_hasWish ∈ WW := List.mem_filter.mpr ⟨wm_tables_1_2 _ (List.mem_of_getElem? (i := 195) rfl), rfl⟩
theorem ws_yX4_hasWish : Cond.selects RX4 yX4_hasWish yX4_hasWish ∈ WW := List.mem_filter.mpr ⟨wm_tables_1_2 _ (List.mem_of_getElem? (i := 196) rfl), rfl⟩
theorem wk_yX4_hasWish : Cond.code yX4_hasWish cX4_hasWish 2 (some .boolean) ∈ WW := List.mem_filter.mpr ⟨wm_tables_1_2 _ (List.mem_of_getElem? (i := 197) rfl), rfl⟩
theorem wl_X5_235 : Cond.methodLink RX5 235 yX4_endWish ∈ WW := List.mem_filter.mpr ⟨wm_tables_1_2 _ (List.mem_of_getElem? (i := 198) rfl), rfl⟩
theorem wt_yX4_endWish : Cond.instanceMethod yX4_endWish ∈ WW := List.mem_filter.mpr ⟨wm_tables_1_2 _ (List.mem_of_getElem? (i := 199) rfl), rfl⟩
theorem ws_yX4_endWish : Cond.selects RX4 yX4_endWish yX4_endWish ∈ WW := List.mem_filter.mpr ⟨wm_tables_1_2 _ (List.mem_of_getElem? (i := 200) rfl), rfl⟩
theorem wk_yX4_endWish : Cond.code yX4_endWish cX4_endWish 2 none ∈ WW := List.mem_filter.mpr ⟨wm_tables_1_2 _ (List.mem_of_getElem? (i := 201) rfl), rfl⟩
theorem wl_X5_238 : Cond.methodLink RX5 238 yX1_addWish ∈ WW := List.mem_filter.mpr ⟨wm_tables_1_2 _ (List.mem_of_getElem? (i := 202) rfl), rfl⟩
theorem wt_yX1_addWish : Cond.instanceMethod yX1_addWish ∈ WW := List.mem_filter.mpr ⟨wm_tables_1_2 _ (List.mem_of_getElem? (i := 203) rfl), rfl⟩
theorem ws_yX1_addWish : Cond.selects RX1 yX1_addWish yX1_addWish ∈ WW := List.mem_filter.mpr ⟨wm_tables_1_2 _ (List.mem_of_getElem? (i := 204) rfl), rfl⟩
theorem wk_yX1_addWish : Cond.code yX1_addWish cX1_addWish 2 none ∈ WW := List.mem_filter.mpr ⟨wm_tables_1_2 _ (List.mem_of_getElem? (i := 205) rfl), rfl⟩
theorem wl_X5_223 : Cond.methodLink RX5 223 yX5_endMarking ∈ WW := List.mem_filter.mpr ⟨wm_tables_1_2 _ (List.mem_of_getElem? (i := 206) rfl), rfl⟩
theorem wt_yX5_endMarking : Cond.instanceMethod yX5_endMarking ∈ WW := List.mem_filter.mpr ⟨wm_tables_1_2 _ (List.mem_of_getElem? (i := 208) rfl), rfl⟩
theorem wk_yX5_endMarking : Cond.code yX5_endMarking cX5_endMarking 2 none ∈ WW := List.mem_filter.mpr ⟨wm_tables_1_2 _ (List.mem_of_getElem? (i := 209) rfl), rfl⟩
theorem wl_X5_250 : Cond.methodLink RX5 250 yX2_end ∈ WW := List.mem_filter.mpr ⟨wm_tables_1_2 _ (List.mem_of_getElem? (i := 210) rfl), rfl⟩
theorem wt_yX2_end : Cond.instanceMethod yX2_end ∈ WW := List.mem_filter.mpr ⟨wm_tables_1_2 _ (List.mem_of_getElem? (i := 211) rfl), rfl⟩
theorem ws_yX2_end : Cond.selects RX2 yX2_end yX2_end ∈ WW := List.mem_filter.mpr ⟨wm_tables_1_2 _ (List.mem_of_getElem? (i := 212) rfl), rfl⟩
theorem wk_yX2_end : Cond.code yX2_end cX2_end 2 none ∈ WW := List.mem_filter.mpr ⟨wm_tables_1_2 _ (List.mem_of_getElem? (i := 213) rfl), rfl⟩
theorem wl_X5_253 : Cond.methodLink RX5 253 yX5_freeIfWhite ∈ WW := List.mem_filter.mpr ⟨wm_tables_1_2 _ (List.mem_of_getElem? (i := 214) rfl), rfl⟩
theorem wt_yX5_freeIfWhite : Cond.instanceMethod yX5_freeIfWhite ∈ WW := List.mem_filter.mpr ⟨wm_tables_1_2 _ (List.mem_of_getElem? (i := 216) rfl), rfl⟩
theorem wk_yX5_freeIfWhite : Cond.code yX5_freeIfWhite cX5_freeIfWhite 2 none ∈ WW := List.mem_filter.mpr ⟨wm_tables_1_2 _ (List.mem_of_getElem? (i := 217) rfl), rfl⟩
theorem wl_X5_262 : Cond.methodLink RX5 262 yX4_free ∈ WW := List.mem_filter.mpr ⟨wm_tables_1_2 _ (List.mem_of_getElem? (i := 218) rfl), rfl⟩
theorem wt_yX4_free : Cond.instanceMethod yX4_free ∈ WW := List.mem_filter.mpr ⟨wm_tables_1_2 _ (List.mem_of_getElem? (i := 219) rfl), rfl⟩
theorem ws_yX4_free : Cond.selects RX4 yX4_free yX4_free ∈ WW := List.mem_filter.mpr ⟨wm_tables_1_2 _ (List.mem_of_getElem? (i := 220) rfl), rfl⟩
theorem wk_yX4_free : Cond.code yX4_free cX4_free 2 none ∈ WW := List.mem_filter.mpr ⟨wm_tables_1_2 _ (List.mem_of_getElem? (i := 221) rfl), rfl⟩
theorem wl_X5_256 : Cond.methodLink RX5 256 yX5_endRound ∈ WW := List.mem_filter.mpr ⟨wm_tables_1_2 _ (List.mem_of_getElem? (i := 222) rfl), rfl⟩
theorem wt_yX5_endRound : Cond.instanceMethod yX5_endRound ∈ WW := List.mem_filter.mpr ⟨wm_tables_1_2 _ (List.mem_of_getElem? (i := 224) rfl), rfl⟩
theorem wk_yX5_endRound : Cond.code yX5_endRound cX5_endRound 1 none ∈ WW := List.mem_filter.mpr ⟨wm_tables_1_2 _ (List.mem_of_getElem? (i := 225) rfl), rfl⟩
theorem wl_X5_205 : Cond.methodLink RX5 205 yX5_sweepStep ∈ WW := List.mem_filter.mpr ⟨wm_tables_1_2 _ (List.mem_of_getElem? (i := 226) rfl), rfl⟩
theorem wt_yX5_sweepStep : Cond.instanceMethod yX5_sweepStep ∈ WW := List.mem_filter.mpr ⟨wm_tables_1_2 _ (List.mem_of_getElem? (i := 228) rfl), rfl⟩
theorem wk_yX5_sweepStep : Cond.code yX5_sweepStep cX5_sweepStep 2 none ∈ WW := List.mem_filter.mpr ⟨wm_tables_1_2 _ (List.mem_of_getElem? (i := 229) rfl), rfl⟩
theorem wl_X5_259 : Cond.methodLink RX5 259 yX4_nextNotFreed ∈ WW := List.mem_filter.mpr ⟨wm_tables_1_2 _ (List.mem_of_getElem? (i := 230) rfl), rfl⟩
theorem wt_yX4_nextNotFreed : Cond.instanceMethod yX4_nextNotFreed ∈ WW := List.mem_filter.mpr ⟨wm_tables_1_2 _ (List.mem_of_getElem? (i := 231) rfl), rfl⟩
theorem ws_yX4_nextNotFreed : Cond.selects RX4 yX4_nextNotFreed yX4_nextNotFreed ∈ WW := List.mem_filter.mpr ⟨wm_tables_1_2 _ (List.mem_of_getElem? (i := 232) rfl), rfl⟩
theorem wk_yX4_nextNotFreed : Cond.code yX4_nextNotFreed cX4_nextNotFreed 3 (some .int) ∈ WW := List.mem_filter.mpr ⟨wm_tables_1_2 _ (List.mem_of_getElem? (i := 233) rfl), rfl⟩
theorem wl_L_78 : Cond.methodLink RL 78 yX5_sweep ∈ WW := List.mem_filter.mpr ⟨wm_tables_1_2 _ (List.mem_of_getElem? (i := 234) rfl), rfl⟩
theorem wt_yX5_sweep : Cond.instanceMethod yX5_sweep ∈ WW := List.mem_filter.mpr ⟨wm_tables_1_2 _ (List.mem_of_getElem? (i := 235) rfl), rfl⟩
theorem ws_yX5_sweep : Cond.selects RX5 yX5_sweep yX5_sweep ∈ WW := List.mem_filter.mpr ⟨wm_tables_1_2 _ (List.mem_of_getElem? (i := 236) rfl), rfl⟩
theorem wk_yX5_sweep : Cond.code yX5_sweep cX5_sweep 2 (some .int) ∈ WW := List.mem_filter.mpr ⟨wm_tables_1_2 _ (List.mem_of_getElem? (i := 237) rfl), rfl⟩
theorem wl_L_83 : Cond.methodLink RL 83 yX5_under ∈ WW := List.mem_filter.mpr ⟨wm_tables_1_2 _ (List.mem_of_getElem? (i := 238) rfl), rfl⟩
theorem wt_yX5_under : Cond.instanceMethod yX5_under ∈ WW := List.mem_filter.mpr ⟨wm_tables_1_2 _ (List.mem_of_getElem? (i := 239) rfl), rfl⟩
theorem ws_yX5_under : Cond.selects RX5 yX5_under yX5_under ∈ WW := List.mem_filter.mpr ⟨wm_tables_1_3 _ (List.mem_of_getElem? (i := 0) rfl), rfl⟩
theorem wk_yX5_under : Cond.code yX5_under cX5_under 1 (some .int) ∈ WW := List.mem_filter.mpr ⟨wm_tables_1_3 _ (List.mem_of_getElem? (i := 1) rfl), rfl⟩
theorem wl_L_87 : Cond.methodLink RL 87 yX5_about ∈ WW := List.mem_filter.mpr ⟨wm_tables_1_3 _ (List.mem_of_getElem? (i := 2) rfl), rfl⟩
theorem wt_yX5_about : Cond.instanceMethod yX5_about ∈ WW := List.mem_filter.mpr ⟨wm_tables_1_3 _ (List.mem_of_getElem? (i := 3) rfl), rfl⟩
theorem ws_yX5_about : Cond.selects RX5 yX5_about yX5_about ∈ WW := List.mem_filter.mpr ⟨wm_tables_1_3 _ (List.mem_of_getElem? (i := 4) rfl), rfl⟩
theorem wk_yX5_about : Cond.code yX5_about cX5_about 3 (some .int) ∈ WW := List.mem_filter.mpr ⟨wm_tables_1_3 _ (List.mem_of_getElem? (i := 5) rfl), rfl⟩
theorem wl_X5_265 : Cond.methodLink RX5 265 yX4_isThing ∈ WW := List.mem_filter.mpr ⟨wm_tables_1_3 _ (List.mem_of_getElem? (i := 6) rfl), rfl⟩
theorem wl_X5_268 : Cond.methodLink RX5 268 yX4_fieldsOf ∈ WW := List.mem_filter.mpr ⟨wm_tables_1_3 _ (List.mem_of_getElem? (i := 7) rfl), rfl⟩
theorem wt_yX4_fieldsOf : Cond.instanceMethod yX4_fieldsOf ∈ WW := List.mem_filter.mpr ⟨wm_tables_1_3 _ (List.mem_of_getElem? (i := 8) rfl), rfl⟩
theorem ws_yX4_fieldsOf : Cond.selects RX4 yX4_fieldsOf yX4_fieldsOf ∈ WW := List.mem_filter.mpr ⟨wm_tables_1_3 _ (List.mem_of_getElem? (i := 9) rfl), rfl⟩
theorem wk_yX4_fieldsOf : Cond.code yX4_fieldsOf cX4_fieldsOf 2 (some .int) ∈ WW := List.mem_filter.mpr ⟨wm_tables_1_3 _ (List.mem_of_getElem? (i := 10) rfl), rfl⟩
theorem wl_X5_271 : Cond.methodLink RX5 271 yX4_colourOf ∈ WW := List.mem_filter.mpr ⟨wm_tables_1_3 _ (List.mem_of_getElem? (i := 11) rfl), rfl⟩
theorem wl_X5_274 : Cond.methodLink RX5 274 yX5_isReached ∈ WW := List.mem_filter.mpr ⟨wm_tables_1_3 _ (List.mem_of_getElem? (i := 12) rfl), rfl⟩
theorem wt_yX5_isReached : Cond.instanceMethod yX5_isReached ∈ WW := List.mem_filter.mpr ⟨wm_tables_1_3 _ (List.mem_of_getElem? (i := 14) rfl), rfl⟩
theorem wk_yX5_isReached : Cond.code yX5_isReached cX5_isReached 2 (some .boolean) ∈ WW := List.mem_filter.mpr ⟨wm_tables_1_3 _ (List.mem_of_getElem? (i := 15) rfl), rfl⟩
theorem wl_X5_298 : Cond.methodLink RX5 298 yX3_find ∈ WW := List.mem_filter.mpr ⟨wm_tables_1_3 _ (List.mem_of_getElem? (i := 16) rfl), rfl⟩
theorem wt_yX3_find : Cond.instanceMethod yX3_find ∈ WW := List.mem_filter.mpr ⟨wm_tables_1_3 _ (List.mem_of_getElem? (i := 17) rfl), rfl⟩
theorem ws_yX3_find : Cond.selects RX3 yX3_find yX3_find ∈ WW := List.mem_filter.mpr ⟨wm_tables_1_3 _ (List.mem_of_getElem? (i := 18) rfl), rfl⟩
theorem wk_yX3_find : Cond.code yX3_find cX3_find 5 none ∈ WW := List.mem_filter.mpr ⟨wm_tables_1_3 _ (List.mem_of_getElem? (i := 19) rfl), rfl⟩
theorem wl_X3_19 : Cond.methodLink RX3 19 yX3_forget ∈ WW := List.mem_filter.mpr ⟨wm_tables_1_3 _ (List.mem_of_getElem? (i := 20) rfl), rfl⟩
theorem wt_yX3_forget : Cond.instanceMethod yX3_forget ∈ WW := List.mem_filter.mpr ⟨wm_tables_1_3 _ (List.mem_of_getElem? (i := 22) rfl), rfl⟩
theorem wk_yX3_forget : Cond.code yX3_forget cX3_forget 2 none ∈ WW := List.mem_filter.mpr ⟨wm_tables_1_3 _ (List.mem_of_getElem? (i := 23) rfl), rfl⟩
theorem wl_X3_28 : Cond.methodLink RX3 28 yX1_heldAt ∈ WW := List.mem_filter.mpr ⟨wm_tables_1_3 _ (List.mem_of_getElem? (i := 24) rfl), rfl⟩
theorem wl_X3_32 : Cond.methodLink RX3 32 yX3_add ∈ WW := List.mem_filter.mpr ⟨wm_tables_1_3 _ (List.mem_of_getElem? (i := 25) rfl), rfl⟩
theorem wt_yX3_add : Cond.instanceMethod yX3_add ∈ WW := List.mem_filter.mpr ⟨wm_tables_1_3 _ (List.mem_of_getElem? (i := 27) rfl), rfl⟩
theorem wk_yX3_add : Cond.code yX3_add cX3_add 2 none ∈ WW := List.mem_filter.mpr ⟨wm_tables_1_3 _ (List.mem_of_getElem? (i := 28) rfl), rfl⟩
theorem wl_X3_39 : Cond.methodLink RX3 39 yX3_addValues ∈ WW := List.mem_filter.mpr ⟨wm_tables_1_3 _ (List.mem_of_getElem? (i := 29) rfl), rfl⟩
theorem wt_yX3_addValues : Cond.instanceMethod yX3_addValues ∈ WW := List.mem_filter.mpr ⟨wm_tables_1_3 _ (List.mem_of_getElem? (i := 31) rfl), rfl⟩
theorem wk_yX3_addValues : Cond.code yX3_addValues cX3_addValues 3 none ∈ WW := List.mem_filter.mpr ⟨wm_tables_1_3 _ (List.mem_of_getElem? (i := 32) rfl), rfl⟩
theorem wl_X3_62 : Cond.methodLink RX3 62 yX2_keyOf ∈ WW := List.mem_filter.mpr ⟨wm_tables_1_3 _ (List.mem_of_getElem? (i := 33) rfl), rfl⟩
theorem wl_X3_65 : Cond.methodLink RX3 65 yX3_has ∈ WW := List.mem_filter.mpr ⟨wm_tables_1_3 _ (List.mem_of_getElem? (i := 34) rfl), rfl⟩
theorem wt_yX3_has : Cond.instanceMethod yX3_has ∈ WW := List.mem_filter.mpr ⟨wm_tables_1_3 _ (List.mem_of_getElem? (i := 35) rfl), rfl⟩
theorem ws_yX3_has : Cond.selects RX3 yX3_has yX3_has ∈ WW := List.mem_filter.mpr ⟨wm_tables_1_3 _ (List.mem_of_getElem? (i := 36) rfl), rfl⟩
theorem wk_yX3_has : Cond.code yX3_has cX3_has 2 (some .boolean) ∈ WW := List.mem_filter.mpr ⟨wm_tables_1_3 _ (List.mem_of_getElem? (i := 37) rfl), rfl⟩
theorem wl_X3_68 : Cond.methodLink RX3 68 yX2_valueOf ∈ WW := List.mem_filter.mpr ⟨wm_tables_1_3 _ (List.mem_of_getElem? (i := 38) rfl), rfl⟩
theorem wl_X3_43 : Cond.methodLink RX3 43 yX3_addFields ∈ WW := List.mem_filter.mpr ⟨wm_tables_1_3 _ (List.mem_of_getElem? (i := 39) rfl), rfl⟩
theorem wt_yX3_addFields : Cond.instanceMethod yX3_addFields ∈ WW := List.mem_filter.mpr ⟨wm_tables_1_3 _ (List.mem_of_getElem? (i := 41) rfl), rfl⟩
theorem wk_yX3_addFields : Cond.code yX3_addFields cX3_addFields 4 none ∈ WW := List.mem_filter.mpr ⟨wm_tables_1_3 _ (List.mem_of_getElem? (i := 42) rfl), rfl⟩
theorem wl_X3_47 : Cond.methodLink RX3 47 yX4_isFreed ∈ WW := List.mem_filter.mpr ⟨wm_tables_1_3 _ (List.mem_of_getElem? (i := 43) rfl), rfl⟩
theorem wl_X3_53 : Cond.methodLink RX3 53 yX4_inField ∈ WW := List.mem_filter.mpr ⟨wm_tables_1_3 _ (List.mem_of_getElem? (i := 44) rfl), rfl⟩
theorem wl_X5_302 : Cond.methodLink RX5 302 yX3_has ∈ WW := List.mem_filter.mpr ⟨wm_tables_1_3 _ (List.mem_of_getElem? (i := 45) rfl), rfl⟩
theorem wl_X5_277 : Cond.methodLink RX5 277 yX4_movesOf ∈ WW := List.mem_filter.mpr ⟨wm_tables_1_3 _ (List.mem_of_getElem? (i := 46) rfl), rfl⟩
theorem wt_yX4_movesOf : Cond.instanceMethod yX4_movesOf ∈ WW := List.mem_filter.mpr ⟨wm_tables_1_3 _ (List.mem_of_getElem? (i := 47) rfl), rfl⟩
theorem ws_yX4_movesOf : Cond.selects RX4 yX4_movesOf yX4_movesOf ∈ WW := List.mem_filter.mpr ⟨wm_tables_1_3 _ (List.mem_of_getElem? (i := 48) rfl), rfl⟩
theorem wk_yX4_movesOf : Cond.code yX4_movesOf cX4_movesOf 2 (some .int) ∈ WW := List.mem_filter.mpr ⟨wm_tables_1_3 _ (List.mem_of_getElem? (i := 49) rfl), rfl⟩
theorem wl_L_91 : Cond.methodLink RL 91 yX5_field ∈ WW := List.mem_filter.mpr ⟨wm_tables_1_3 _ (List.mem_of_getElem? (i := 50) rfl), rfl⟩
theorem wt_yX5_field : Cond.instanceMethod yX5_field ∈ WW := List.mem_filter.mpr ⟨wm_tables_1_3 _ (List.mem_of_getElem? (i := 51) rfl), rfl⟩
theorem ws_yX5_field : Cond.selects RX5 yX5_field yX5_field ∈ WW := List.mem_filter.mpr ⟨wm_tables_1_3 _ (List.mem_of_getElem? (i := 52) rfl), rfl⟩
theorem wk_yX5_field : Cond.code yX5_field cX5_field 3 (some .int) ∈ WW := List.mem_filter.mpr ⟨wm_tables_1_3 _ (List.mem_of_getElem? (i := 53) rfl), rfl⟩
theorem wl_L_95 : Cond.methodLink RL 95 yX5_holder ∈ WW := List.mem_filter.mpr ⟨wm_tables_1_3 _ (List.mem_of_getElem? (i := 54) rfl), rfl⟩
theorem wt_yX5_holder : Cond.instanceMethod yX5_holder ∈ WW := List.mem_filter.mpr ⟨wm_tables_1_3 _ (List.mem_of_getElem? (i := 55) rfl), rfl⟩
theorem ws_yX5_holder : Cond.selects RX5 yX5_holder yX5_holder ∈ WW := List.mem_filter.mpr ⟨wm_tables_1_3 _ (List.mem_of_getElem? (i := 56) rfl), rfl⟩
theorem wk_yX5_holder : Cond.code yX5_holder cX5_holder 2 (some .int) ∈ WW := List.mem_filter.mpr ⟨wm_tables_1_3 _ (List.mem_of_getElem? (i := 57) rfl), rfl⟩
theorem wl_X5_280 : Cond.methodLink RX5 280 yX1_wishAt ∈ WW := List.mem_filter.mpr ⟨wm_tables_1_3 _ (List.mem_of_getElem? (i := 58) rfl), rfl⟩
theorem wt_yX1_wishAt : Cond.instanceMethod yX1_wishAt ∈ WW := List.mem_filter.mpr ⟨wm_tables_1_3 _ (List.mem_of_getElem? (i := 59) rfl), rfl⟩
theorem ws_yX1_wishAt : Cond.selects RX1 yX1_wishAt yX1_wishAt ∈ WW := List.mem_filter.mpr ⟨wm_tables_1_3 _ (List.mem_of_getElem? (i := 60) rfl), rfl⟩
theorem wk_yX1_wishAt : Cond.code yX1_wishAt cX1_wishAt 2 (some .int) ∈ WW := List.mem_filter.mpr ⟨wm_tables_1_3 _ (List.mem_of_getElem? (i := 61) rfl), rfl⟩
theorem wl_L_99 : Cond.methodLink RL 99 yX5_cell ∈ WW := List.mem_filter.mpr ⟨wm_tables_1_3 _ (List.mem_of_getElem? (i := 62) rfl), rfl⟩
theorem wt_yX5_cell : Cond.instanceMethod yX5_cell ∈ WW := List.mem_filter.mpr ⟨wm_tables_1_3 _ (List.mem_of_getElem? (i := 63) rfl), rfl⟩
theorem ws_yX5_cell : Cond.selects RX5 yX5_cell yX5_cell ∈ WW := List.mem_filter.mpr ⟨wm_tables_1_3 _ (List.mem_of_getElem? (i := 64) rfl), rfl⟩
theorem wk_yX5_cell : Cond.code yX5_cell cX5_cell 2 (some .int) ∈ WW := List.mem_filter.mpr ⟨wm_tables_1_3 _ (List.mem_of_getElem? (i := 65) rfl), rfl⟩
theorem wl_X5_283 : Cond.methodLink RX5 283 yX0_thingAt ∈ WW := List.mem_filter.mpr ⟨wm_tables_1_3 _ (List.mem_of_getElem? (i := 66) rfl), rfl⟩
theorem wt_yX0_thingAt : Cond.instanceMethod yX0_thingAt ∈ WW := List.mem_filter.mpr ⟨wm_tables_1_3 _ (List.mem_of_getElem? (i := 67) rfl), rfl⟩
theorem ws_yX0_thingAt : Cond.selects RX0 yX0_thingAt yX0_thingAt ∈ WW := List.mem_filter.mpr ⟨wm_tables_1_3 _ (List.mem_of_getElem? (i := 68) rfl), rfl⟩
theorem wk_yX0_thingAt : Cond.code yX0_thingAt cX0_thingAt 2 (some .int) ∈ WW := List.mem_filter.mpr ⟨wm_tables_1_3 _ (List.mem_of_getElem? (i := 69) rfl), rfl⟩
theorem wl_L_103 : Cond.methodLink RL 103 yX5_count ∈ WW := List.mem_filter.mpr ⟨wm_tables_1_3 _ (List.mem_of_getElem? (i := 70) rfl), rfl⟩
theorem wt_yX5_count : Cond.instanceMethod yX5_count ∈ WW := List.mem_filter.mpr ⟨wm_tables_1_3 _ (List.mem_of_getElem? (i := 71) rfl), rfl⟩
theorem ws_yX5_count : Cond.selects RX5 yX5_count yX5_count ∈ WW := List.mem_filter.mpr ⟨wm_tables_1_3 _ (List.mem_of_getElem? (i := 72) rfl), rfl⟩
theorem wk_yX5_count : Cond.code yX5_count cX5_count 2 (some .int) ∈ WW := List.mem_filter.mpr ⟨wm_tables_1_3 _ (List.mem_of_getElem? (i := 73) rfl), rfl⟩
theorem wl_X5_286 : Cond.methodLink RX5 286 yX5_countByReach ∈ WW := List.mem_filter.mpr ⟨wm_tables_1_3 _ (List.mem_of_getElem? (i := 74) rfl), rfl⟩
theorem wt_yX5_countByReach : Cond.instanceMethod yX5_countByReach ∈ WW := List.mem_filter.mpr ⟨wm_tables_1_3 _ (List.mem_of_getElem? (i := 76) rfl), rfl⟩
theorem wk_yX5_countByReach : Cond.code yX5_countByReach cX5_countByReach 7 (some .int) ∈ WW := List.mem_filter.mpr ⟨wm_tables_1_3 _ (List.mem_of_getElem? (i := 77) rfl), rfl⟩
theorem wl_X5_289 : Cond.methodLink RX5 289 yX0_countFree ∈ WW := List.mem_filter.mpr ⟨wm_tables_1_3 _ (List.mem_of_getElem? (i := 78) rfl), rfl⟩
theorem wt_yX0_countFree : Cond.instanceMethod yX0_countFree ∈ WW := List.mem_filter.mpr ⟨wm_tables_1_3 _ (List.mem_of_getElem? (i := 79) rfl), rfl⟩
theorem ws_yX0_countFree : Cond.selects RX0 yX0_countFree yX0_countFree ∈ WW := List.mem_filter.mpr ⟨wm_tables_1_3 _ (List.mem_of_getElem? (i := 80) rfl), rfl⟩
theorem wk_yX0_countFree : Cond.code yX0_countFree cX0_countFree 3 (some .int) ∈ WW := List.mem_filter.mpr ⟨wm_tables_1_3 _ (List.mem_of_getElem? (i := 81) rfl), rfl⟩
theorem wl_X5_292 : Cond.methodLink RX5 292 yX0_longestFree ∈ WW := List.mem_filter.mpr ⟨wm_tables_1_3 _ (List.mem_of_getElem? (i := 82) rfl), rfl⟩
theorem wt_yX0_longestFree : Cond.instanceMethod yX0_longestFree ∈ WW := List.mem_filter.mpr ⟨wm_tables_1_3 _ (List.mem_of_getElem? (i := 83) rfl), rfl⟩
theorem ws_yX0_longestFree : Cond.selects RX0 yX0_longestFree yX0_longestFree ∈ WW := List.mem_filter.mpr ⟨wm_tables_1_3 _ (List.mem_of_getElem? (i := 84) rfl), rfl⟩
theorem wk_yX0_longestFree : Cond.code yX0_longestFree cX0_longestFree 4 (some .int) ∈ WW := List.mem_filter.mpr ⟨wm_tables_1_3 _ (List.mem_of_getElem? (i := 85) rfl), rfl⟩
theorem wl_X0_26 : Cond.methodLink RX0 26 Lib.Math.max.name ∈ WW := List.mem_filter.mpr ⟨wm_tables_1_3 _ (List.mem_of_getElem? (i := 86) rfl), rfl⟩
theorem wz_Lib_Math_max_name : Cond.static Lib.Math.max.name ∈ WW := List.mem_filter.mpr ⟨wm_tables_1_3 _ (List.mem_of_getElem? (i := 87) rfl), rfl⟩
theorem wk_Lib_Math_max_name : Cond.code Lib.Math.max.name Lib.Math.max.code 2 (some .int) ∈ WW := List.mem_filter.mpr ⟨wm_tables_1_3 _ (List.mem_of_getElem? (i := 88) rfl), rfl⟩
theorem wl_X5_295 : Cond.methodLink RX5 295 yX2_countNotDropped ∈ WW := List.mem_filter.mpr ⟨wm_tables_1_3 _ (List.mem_of_getElem? (i := 89) rfl), rfl⟩
theorem wt_yX2_countNotDropped : Cond.instanceMethod yX2_countNotDropped ∈ WW := List.mem_filter.mpr ⟨wm_tables_1_3 _ (List.mem_of_getElem? (i := 90) rfl), rfl⟩
theorem ws_yX2_countNotDropped : Cond.selects RX2 yX2_countNotDropped yX2_countNotDropped ∈ WW := List.mem_filter.mpr ⟨wm_tables_1_3 _ (List.mem_of_getElem? (i := 91) rfl), rfl⟩
theorem wk_yX2_countNotDropped : Cond.code yX2_countNotDropped cX2_countNotDropped 3 (some .int) ∈ WW := List.mem_filter.mpr ⟨wm_tables_1_3 _ (List.mem_of_getElem? (i := 92) rfl), rfl⟩
theorem wl_X2_26 : Cond.methodLink RX2 26 yX2_keyOf ∈ WW := List.mem_filter.mpr ⟨wm_tables_1_3 _ (List.mem_of_getElem? (i := 93) rfl), rfl⟩
theorem wl_L_107 : Cond.methodLink RL 107 yX5_lost ∈ WW := List.mem_filter.mpr ⟨wm_tables_1_3 _ (List.mem_of_getElem? (i := 94) rfl), rfl⟩
theorem wt_yX5_lost : Cond.instanceMethod yX5_lost ∈ WW := List.mem_filter.mpr ⟨wm_tables_1_3 _ (List.mem_of_getElem? (i := 95) rfl), rfl⟩
theorem ws_yX5_lost : Cond.selects RX5 yX5_lost yX5_lost ∈ WW := List.mem_filter.mpr ⟨wm_tables_1_3 _ (List.mem_of_getElem? (i := 96) rfl), rfl⟩
theorem wk_yX5_lost : Cond.code yX5_lost cX5_lost 2 (some .int) ∈ WW := List.mem_filter.mpr ⟨wm_tables_1_3 _ (List.mem_of_getElem? (i := 97) rfl), rfl⟩
theorem wl_L_111 : Cond.methodLink RL 111 yX5_digest ∈ WW := List.mem_filter.mpr ⟨wm_tables_1_3 _ (List.mem_of_getElem? (i := 98) rfl), rfl⟩
theorem wt_yX5_digest : Cond.instanceMethod yX5_digest ∈ WW := List.mem_filter.mpr ⟨wm_tables_1_3 _ (List.mem_of_getElem? (i := 99) rfl), rfl⟩
theorem ws_yX5_digest : Cond.selects RX5 yX5_digest yX5_digest ∈ WW := List.mem_filter.mpr ⟨wm_tables_1_3 _ (List.mem_of_getElem? (i := 100) rfl), rfl⟩
theorem wk_yX5_digest : Cond.code yX5_digest cX5_digest 5 (some .long) ∈ WW := List.mem_filter.mpr ⟨wm_tables_1_3 _ (List.mem_of_getElem? (i := 101) rfl), rfl⟩
theorem wv_X5_305 : Cond.constantLong RX5 305 (3) ∈ WW := List.mem_filter.mpr ⟨wm_tables_1_3 _ (List.mem_of_getElem? (i := 102) rfl), rfl⟩
theorem wv_X5_307 : Cond.constantLong RX5 307 (31) ∈ WW := List.mem_filter.mpr ⟨wm_tables_1_3 _ (List.mem_of_getElem? (i := 103) rfl), rfl⟩
theorem wl_X5_309 : Cond.methodLink RX5 309 yX5_holder ∈ WW := List.mem_filter.mpr ⟨wm_tables_1_3 _ (List.mem_of_getElem? (i := 104) rfl), rfl⟩
theorem wc_L_10 : Cond.classLink RL 10 RX6 ∈ WW := List.mem_filter.mpr ⟨wm_tables_1_3 _ (List.mem_of_getElem? (i := 105) rfl), rfl⟩
theorem wn_X6 : Cond.instantiable RX6 30 ∈ WW := List.mem_filter.mpr ⟨wm_tables_1_3 _ (List.mem_of_getElem? (i := 106) rfl), rfl⟩
theorem wl_L_12 : Cond.methodLink RL 12 yX6_init ∈ WW := List.mem_filter.mpr ⟨wm_tables_1_3 _ (List.mem_of_getElem? (i := 107) rfl), rfl⟩
theorem wt_yX6_init : Cond.instanceMethod yX6_init ∈ WW := List.mem_filter.mpr ⟨wm_tables_1_3 _ (List.mem_of_getElem? (i := 108) rfl), rfl⟩
theorem wk_yX6_init : Cond.code yX6_init cX6_init 1 none ∈ WW := List.mem_filter.mpr ⟨wm_tables_1_3 _ (List.mem_of_getElem? (i := 109) rfl), rfl⟩
theorem wl_X6_1 : Cond.methodLink RX6 1 objectInit ∈ WW := List.mem_filter.mpr ⟨wm_tables_1_3 _ (List.mem_of_getElem? (i := 110) rfl), rfl⟩
theorem wl_X6_56 : Cond.methodLink RX6 56 yX6_empties ∈ WW := List.mem_filter.mpr ⟨wm_tables_1_3 _ (List.mem_of_getElem? (i := 111) rfl), rfl⟩
theorem wt_yX6_empties : Cond.instanceMethod yX6_empties ∈ WW := List.mem_filter.mpr ⟨wm_tables_1_3 _ (List.mem_of_getElem? (i := 113) rfl), rfl⟩
theorem wk_yX6_empties : Cond.code yX6_empties cX6_empties 2 none ∈ WW := List.mem_filter.mpr ⟨wm_tables_1_3 _ (List.mem_of_getElem? (i := 114) rfl), rfl⟩
theorem wf_X6_94 : Cond.fieldLink RX6 94 "AtticSweepModel" "manner" "I" ∈ WW := List.mem_filter.mpr ⟨wm_tables_1_3 _ (List.mem_of_getElem? (i := 115) rfl), rfl⟩
theorem wf_X6_97 : Cond.fieldLink RX6 97 "AtticSweepModel" "fault" "I" ∈ WW := List.mem_filter.mpr ⟨wm_tables_1_3 _ (List.mem_of_getElem? (i := 116) rfl), rfl⟩
theorem wf_X6_59 : Cond.fieldLink RX6 59 "AtticSweepModel" "things" "I" ∈ WW := List.mem_filter.mpr ⟨wm_tables_1_3 _ (List.mem_of_getElem? (i := 117) rfl), rfl⟩
theorem wf_X6_7 : Cond.fieldLink RX6 7 "AtticSweepModel" "many" "[I" ∈ WW := List.mem_filter.mpr ⟨wm_tables_1_3 _ (List.mem_of_getElem? (i := 118) rfl), rfl⟩
theorem wf_X6_13 : Cond.fieldLink RX6 13 "AtticSweepModel" "field" "[I" ∈ WW := List.mem_filter.mpr ⟨wm_tables_1_3 _ (List.mem_of_getElem? (i := 119) rfl), rfl⟩
theorem wf_X6_16 : Cond.fieldLink RX6 16 "AtticSweepModel" "place" "[I" ∈ WW := List.mem_filter.mpr ⟨wm_tables_1_3 _ (List.mem_of_getElem? (i := 120) rfl), rfl⟩
theorem wf_X6_19 : Cond.fieldLink RX6 19 "AtticSweepModel" "colour" "[I" ∈ WW := List.mem_filter.mpr ⟨wm_tables_1_3 _ (List.mem_of_getElem? (i := 121) rfl), rfl⟩
theorem wf_X6_22 : Cond.fieldLink RX6 22 "AtticSweepModel" "isFreed" "[Z" ∈ WW := List.mem_filter.mpr ⟨wm_tables_1_3 _ (List.mem_of_getElem? (i := 122) rfl), rfl⟩
theorem wf_X6_26 : Cond.fieldLink RX6 26 "AtticSweepModel" "hasWish" "[Z" ∈ WW := List.mem_filter.mpr ⟨wm_tables_1_3 _ (List.mem_of_getElem? (i := 123) rfl), rfl⟩
theorem wf_X6_29 : Cond.fieldLink RX6 29 "AtticSweepModel" "moved" "[I" ∈ WW := List.mem_filter.mpr ⟨wm_tables_1_3 _ (List.mem_of_getElem? (i := 124) rfl), rfl⟩
theorem wf_X6_32 : Cond.fieldLink RX6 32 "AtticSweepModel" "register" "[I" ∈ WW := List.mem_filter.mpr ⟨wm_tables_1_3 _ (List.mem_of_getElem? (i := 125) rfl), rfl⟩
theorem wf_X6_35 : Cond.fieldLink RX6 35 "AtticSweepModel" "slot" "[I" ∈ WW := List.mem_filter.mpr ⟨wm_tables_1_3 _ (List.mem_of_getElem? (i := 126) rfl), rfl⟩
theorem wf_X6_63 : Cond.fieldLink RX6 63 "AtticSweepModel" "wishes" "I" ∈ WW := List.mem_filter.mpr ⟨wm_tables_1_3 _ (List.mem_of_getElem? (i := 127) rfl), rfl⟩
theorem wf_X6_38 : Cond.fieldLink RX6 38 "AtticSweepModel" "wishAt" "[I" ∈ WW := List.mem_filter.mpr ⟨wm_tables_1_3 _ (List.mem_of_getElem? (i := 128) rfl), rfl⟩
theorem wf_X6_41 : Cond.fieldLink RX6 41 "AtticSweepModel" "weakAt" "[I" ∈ WW := List.mem_filter.mpr ⟨wm_tables_1_3 _ (List.mem_of_getElem? (i := 129) rfl), rfl⟩
theorem wf_X6_66 : Cond.fieldLink RX6 66 "AtticSweepModel" "pairs" "I" ∈ WW := List.mem_filter.mpr ⟨wm_tables_1_3 _ (List.mem_of_getElem? (i := 130) rfl), rfl⟩
theorem wf_X6_44 : Cond.fieldLink RX6 44 "AtticSweepModel" "key" "[I" ∈ WW := List.mem_filter.mpr ⟨wm_tables_1_3 _ (List.mem_of_getElem? (i := 131) rfl), rfl⟩
theorem wf_X6_47 : Cond.fieldLink RX6 47 "AtticSweepModel" "value" "[I" ∈ WW := List.mem_filter.mpr ⟨wm_tables_1_3 _ (List.mem_of_getElem? (i := 132) rfl), rfl⟩
theorem wf_X6_50 : Cond.fieldLink RX6 50 "AtticSweepModel" "isPair" "[Z" ∈ WW := List.mem_filter.mpr ⟨wm_tables_1_3 _ (List.mem_of_getElem? (i := 133) rfl), rfl⟩
theorem wf_X6_69 : Cond.fieldLink RX6 69 "AtticSweepModel" "half" "I" ∈ WW := List.mem_filter.mpr ⟨wm_tables_1_3 _ (List.mem_of_getElem? (i := 134) rfl), rfl⟩
theorem wf_X6_72 : Cond.fieldLink RX6 72 "AtticSweepModel" "top" "I" ∈ WW := List.mem_filter.mpr ⟨wm_tables_1_3 _ (List.mem_of_getElem? (i := 135) rfl), rfl⟩
theorem wf_X6_75 : Cond.fieldLink RX6 75 "AtticSweepModel" "way" "I" ∈ WW := List.mem_filter.mpr ⟨wm_tables_1_3 _ (List.mem_of_getElem? (i := 136) rfl), rfl⟩
theorem wf_X6_124 : Cond.fieldLink RX6 124 "AtticSweepModel" "next" "I" ∈ WW := List.mem_filter.mpr ⟨wm_tables_1_3 _ (List.mem_of_getElem? (i := 137) rfl), rfl⟩
theorem wf_X6_104 : Cond.fieldLink RX6 104 "AtticSweepModel" "freedMany" "I" ∈ WW := List.mem_filter.mpr ⟨wm_tables_1_3 _ (List.mem_of_getElem? (i := 138) rfl), rfl⟩
theorem wf_X6_78 : Cond.fieldLink RX6 78 "AtticSweepModel" "rounds" "I" ∈ WW := List.mem_filter.mpr ⟨wm_tables_1_3 _ (List.mem_of_getElem? (i := 139) rfl), rfl⟩
theorem wf_X6_81 : Cond.fieldLink RX6 81 "AtticSweepModel" "steps" "I" ∈ WW := List.mem_filter.mpr ⟨wm_tables_1_3 _ (List.mem_of_getElem? (i := 140) rfl), rfl⟩
theorem wf_X6_84 : Cond.fieldLink RX6 84 "AtticSweepModel" "shaded" "I" ∈ WW := List.mem_filter.mpr ⟨wm_tables_1_3 _ (List.mem_of_getElem? (i := 141) rfl), rfl⟩
theorem wf_X6_87 : Cond.fieldLink RX6 87 "AtticSweepModel" "movedMany" "I" ∈ WW := List.mem_filter.mpr ⟨wm_tables_1_3 _ (List.mem_of_getElem? (i := 142) rfl), rfl⟩
theorem wf_X6_53 : Cond.fieldLink RX6 53 "AtticSweepModel" "isReached" "[Z" ∈ WW := List.mem_filter.mpr ⟨wm_tables_1_3 _ (List.mem_of_getElem? (i := 143) rfl), rfl⟩
theorem wf_X6_176 : Cond.fieldLink RX6 176 "AtticSweepModel" "more" "Z" ∈ WW := List.mem_filter.mpr ⟨wm_tables_1_3 _ (List.mem_of_getElem? (i := 144) rfl), rfl⟩
theorem wy_X6_manner : Cond.lays RX6 "AtticSweepModel" "manner" "I" ∈ WW := List.mem_filter.mpr ⟨wm_tables_1_3 _ (List.mem_of_getElem? (i := 145) rfl), rfl⟩
theorem wy_X6_fault : Cond.lays RX6 "AtticSweepModel" "fault" "I" ∈ WW := List.mem_filter.mpr ⟨wm_tables_1_3 _ (List.mem_of_getElem? (i := 147) rfl), rfl⟩
theorem wy_X6_things : Cond.lays RX6 "AtticSweepModel" "things" "I" ∈ WW := List.mem_filter.mpr ⟨wm_tables_1_3 _ (List.mem_of_getElem? (i := 149) rfl), rfl⟩
theorem wy_X6_many : Cond.laysFinal RX6 "AtticSweepModel" "many" "[I" ∈ WW := List.mem_filter.mpr ⟨wm_tables_1_3 _ (List.mem_of_getElem? (i := 151) rfl), rfl⟩
theorem wy_X6_field : Cond.laysFinal RX6 "AtticSweepModel" "field" "[I" ∈ WW := List.mem_filter.mpr ⟨wm_tables_1_3 _ (List.mem_of_getElem? (i := 153) rfl), rfl⟩
theorem wy_X6_place : Cond.laysFinal RX6 "AtticSweepModel" "place" "[I" ∈ WW := List.mem_filter.mpr ⟨wm_tables_1_3 _ (List.mem_of_getElem? (i := 155) rfl), rfl⟩
theorem wy_X6_colour : Cond.laysFinal RX6 "AtticSweepModel" "colour" "[I" ∈ WW := List.mem_filter.mpr ⟨wm_tables_1_3 _ (List.mem_of_getElem? (i := 157) rfl), rfl⟩
theorem wy_X6_isFreed : Cond.laysFinal RX6 "AtticSweepModel" "isFreed" "[Z" ∈ WW := List.mem_filter.mpr ⟨wm_tables_1_3 _ (List.mem_of_getElem? (i := 159) rfl), rfl⟩
theorem wy_X6_hasWish : Cond.laysFinal RX6 "AtticSweepModel" "hasWish" "[Z" ∈ WW := List.mem_filter.mpr ⟨wm_tables_1_3 _ (List.mem_of_getElem? (i := 161) rfl), rfl⟩
theorem wy_X6_moved : Cond.laysFinal RX6 "AtticSweepModel" "moved" "[I" ∈ WW := List.mem_filter.mpr ⟨wm_tables_1_3 _ (List.mem_of_getElem? (i := 163) rfl), rfl⟩
theorem wy_X6_register : Cond.laysFinal RX6 "AtticSweepModel" "register" "[I" ∈ WW := List.mem_filter.mpr ⟨wm_tables_1_3 _ (List.mem_of_getElem? (i := 165) rfl), rfl⟩
theorem wy_X6_slot : Cond.laysFinal RX6 "AtticSweepModel" "slot" "[I" ∈ WW := List.mem_filter.mpr ⟨wm_tables_1_3 _ (List.mem_of_getElem? (i := 167) rfl), rfl⟩
theorem wy_X6_wishes : Cond.lays RX6 "AtticSweepModel" "wishes" "I" ∈ WW := List.mem_filter.mpr ⟨wm_tables_1_3 _ (List.mem_of_getElem? (i := 169) rfl), rfl⟩
theorem wy_X6_wishAt : Cond.laysFinal RX6 "AtticSweepModel" "wishAt" "[I" ∈ WW := List.mem_filter.mpr ⟨wm_tables_1_3 _ (List.mem_of_getElem? (i := 171) rfl), rfl⟩
theorem wy_X6_weakAt : Cond.laysFinal RX6 "AtticSweepModel" "weakAt" "[I" ∈ WW := List.mem_filter.mpr ⟨wm_tables_1_3 _ (List.mem_of_getElem? (i := 173) rfl), rfl⟩
theorem wy_X6_pairs : Cond.lays RX6 "AtticSweepModel" "pairs" "I" ∈ WW := List.mem_filter.mpr ⟨wm_tables_1_3 _ (List.mem_of_getElem? (i := 175) rfl), rfl⟩
theorem wy_X6_key : Cond.laysFinal RX6 "AtticSweepModel" "key" "[I" ∈ WW := List.mem_filter.mpr ⟨wm_tables_1_3 _ (List.mem_of_getElem? (i := 177) rfl), rfl⟩
theorem wy_X6_value : Cond.laysFinal RX6 "AtticSweepModel" "value" "[I" ∈ WW := List.mem_filter.mpr ⟨wm_tables_1_3 _ (List.mem_of_getElem? (i := 179) rfl), rfl⟩
theorem wy_X6_isPair : Cond.laysFinal RX6 "AtticSweepModel" "isPair" "[Z" ∈ WW := List.mem_filter.mpr ⟨wm_tables_1_3 _ (List.mem_of_getElem? (i := 181) rfl), rfl⟩
theorem wy_X6_half : Cond.lays RX6 "AtticSweepModel" "half" "I" ∈ WW := List.mem_filter.mpr ⟨wm_tables_1_3 _ (List.mem_of_getElem? (i := 183) rfl), rfl⟩
theorem wy_X6_top : Cond.lays RX6 "AtticSweepModel" "top" "I" ∈ WW := List.mem_filter.mpr ⟨wm_tables_1_3 _ (List.mem_of_getElem? (i := 185) rfl), rfl⟩
theorem wy_X6_way : Cond.lays RX6 "AtticSweepModel" "way" "I" ∈ WW := List.mem_filter.mpr ⟨wm_tables_1_3 _ (List.mem_of_getElem? (i := 187) rfl), rfl⟩
theorem wy_X6_next : Cond.lays RX6 "AtticSweepModel" "next" "I" ∈ WW := List.mem_filter.mpr ⟨wm_tables_1_3 _ (List.mem_of_getElem? (i := 189) rfl), rfl⟩
theorem wy_X6_freedMany : Cond.lays RX6 "AtticSweepModel" "freedMany" "I" ∈ WW := List.mem_filter.mpr ⟨wm_tables_1_3 _ (List.mem_of_getElem? (i := 191) rfl), rfl⟩
theorem wy_X6_rounds : Cond.lays RX6 "AtticSweepModel" "rounds" "I" ∈ WW := List.mem_filter.mpr ⟨wm_tables_1_3 _ (List.mem_of_getElem? (i := 193) rfl), rfl⟩
theorem wy_X6_steps : Cond.lays RX6 "AtticSweepModel" "steps" "I" ∈ WW := List.mem_filter.mpr ⟨wm_tables_1_3 _ (List.mem_of_getElem? (i := 195) rfl), rfl⟩
theorem wy_X6_shaded : Cond.lays RX6 "AtticSweepModel" "shaded" "I" ∈ WW := List.mem_filter.mpr ⟨wm_tables_1_3 _ (List.mem_of_getElem? (i := 197) rfl), rfl⟩
theorem wy_X6_movedMany : Cond.lays RX6 "AtticSweepModel" "movedMany" "I" ∈ WW := List.mem_filter.mpr ⟨wm_tables_1_3 _ (List.mem_of_getElem? (i := 199) rfl), rfl⟩
theorem wy_X6_isReached : Cond.laysFinal RX6 "AtticSweepModel" "isReached" "[Z" ∈ WW := List.mem_filter.mpr ⟨wm_tables_1_3 _ (List.mem_of_getElem? (i := 201) rfl), rfl⟩
theorem wy_X6_more : Cond.lays RX6 "AtticSweepModel" "more" "Z" ∈ WW := List.mem_filter.mpr ⟨wm_tables_1_3 _ (List.mem_of_getElem? (i := 203) rfl), rfl⟩
theorem wl_L_17 : Cond.methodLink RL 17 yX6_attic ∈ WW := List.mem_filter.mpr ⟨wm_tables_1_3 _ (List.mem_of_getElem? (i := 206) rfl), rfl⟩
theorem wt_yX6_attic : Cond.instanceMethod yX6_attic ∈ WW := List.mem_filter.mpr ⟨wm_tables_1_3 _ (List.mem_of_getElem? (i := 207) rfl), rfl⟩
theorem ws_yX6_attic : Cond.selects RX6 yX6_attic yX6_attic ∈ WW := List.mem_filter.mpr ⟨wm_tables_1_3 _ (List.mem_of_getElem? (i := 208) rfl), rfl⟩
theorem wk_yX6_attic : Cond.code yX6_attic cX6_attic 4 (some .int) ∈ WW := List.mem_filter.mpr ⟨wm_tables_1_3 _ (List.mem_of_getElem? (i := 209) rfl), rfl⟩
theorem wl_X6_90 : Cond.methodLink RX6 90 yX6_in ∈ WW := List.mem_filter.mpr ⟨wm_tables_1_3 _ (List.mem_of_getElem? (i := 210) rfl), rfl⟩
theorem wz_yX6_in : Cond.static yX6_in ∈ WW := List.mem_filter.mpr ⟨wm_tables_1_3 _ (List.mem_of_getElem? (i := 211) rfl), rfl⟩
theorem wk_yX6_in : Cond.code yX6_in cX6_in 3 (some .boolean) ∈ WW := List.mem_filter.mpr ⟨wm_tables_1_3 _ (List.mem_of_getElem? (i := 212) rfl), rfl⟩
theorem wl_L_77 : Cond.methodLink RL 77 yX6_begin ∈ WW := List.mem_filter.mpr ⟨wm_tables_1_3 _ (List.mem_of_getElem? (i := 213) rfl), rfl⟩
theorem wt_yX6_begin : Cond.instanceMethod yX6_begin ∈ WW := List.mem_filter.mpr ⟨wm_tables_1_3 _ (List.mem_of_getElem? (i := 214) rfl), rfl⟩
theorem ws_yX6_begin : Cond.selects RX6 yX6_begin yX6_begin ∈ WW := List.mem_filter.mpr ⟨wm_tables_1_3 _ (List.mem_of_getElem? (i := 215) rfl), rfl⟩
theorem wk_yX6_begin : Cond.code yX6_begin cX6_begin 3 (some .int) ∈ WW := List.mem_filter.mpr ⟨wm_tables_1_3 _ (List.mem_of_getElem? (i := 216) rfl), rfl⟩
theorem wl_X6_107 : Cond.methodLink RX6 107 yX6_shadeHeld ∈ WW := List.mem_filter.mpr ⟨wm_tables_1_3 _ (List.mem_of_getElem? (i := 217) rfl), rfl⟩
theorem wt_yX6_shadeHeld : Cond.instanceMethod yX6_shadeHeld ∈ WW := List.mem_filter.mpr ⟨wm_tables_1_3 _ (List.mem_of_getElem? (i := 219) rfl), rfl⟩
theorem wk_yX6_shadeHeld : Cond.code yX6_shadeHeld cX6_shadeHeld 2 none ∈ WW := List.mem_filter.mpr ⟨wm_tables_1_3 _ (List.mem_of_getElem? (i := 220) rfl), rfl⟩
theorem wl_X6_100 : Cond.methodLink RX6 100 yX6_shade ∈ WW := List.mem_filter.mpr ⟨wm_tables_1_3 _ (List.mem_of_getElem? (i := 221) rfl), rfl⟩
theorem wt_yX6_shade : Cond.instanceMethod yX6_shade ∈ WW := List.mem_filter.mpr ⟨wm_tables_1_3 _ (List.mem_of_getElem? (i := 223) rfl), rfl⟩
theorem wk_yX6_shade : Cond.code yX6_shade cX6_shade 2 none ∈ WW := List.mem_filter.mpr ⟨wm_tables_1_3 _ (List.mem_of_getElem? (i := 224) rfl), rfl⟩
theorem wl_X6_139 : Cond.methodLink RX6 139 yX6_step ∈ WW := List.mem_filter.mpr ⟨wm_tables_1_3 _ (List.mem_of_getElem? (i := 225) rfl), rfl⟩
theorem wt_yX6_step : Cond.instanceMethod yX6_step ∈ WW := List.mem_filter.mpr ⟨wm_tables_1_3 _ (List.mem_of_getElem? (i := 227) rfl), rfl⟩
theorem wk_yX6_step : Cond.code yX6_step cX6_step 1 none ∈ WW := List.mem_filter.mpr ⟨wm_tables_1_3 _ (List.mem_of_getElem? (i := 228) rfl), rfl⟩
theorem wl_X6_133 : Cond.methodLink RX6 133 yX6_marks ∈ WW := List.mem_filter.mpr ⟨wm_tables_1_3 _ (List.mem_of_getElem? (i := 229) rfl), rfl⟩
theorem wt_yX6_marks : Cond.instanceMethod yX6_marks ∈ WW := List.mem_filter.mpr ⟨wm_tables_1_3 _ (List.mem_of_getElem? (i := 231) rfl), rfl⟩
theorem wk_yX6_marks : Cond.code yX6_marks cX6_marks 3 none ∈ WW := List.mem_filter.mpr ⟨wm_tables_1_3 _ (List.mem_of_getElem? (i := 232) rfl), rfl⟩
theorem wl_X6_116 : Cond.methodLink RX6 116 yX6_leastGray ∈ WW := List.mem_filter.mpr ⟨wm_tables_1_3 _ (List.mem_of_getElem? (i := 233) rfl), rfl⟩
theorem wt_yX6_leastGray : Cond.instanceMethod yX6_leastGray ∈ WW := List.mem_filter.mpr ⟨wm_tables_1_3 _ (List.mem_of_getElem? (i := 235) rfl), rfl⟩
theorem wk_yX6_leastGray : Cond.code yX6_leastGray cX6_leastGray 2 (some .int) ∈ WW := List.mem_filter.mpr ⟨wm_tables_1_3 _ (List.mem_of_getElem? (i := 236) rfl), rfl⟩
theorem wl_X6_120 : Cond.methodLink RX6 120 yX6_findsMore ∈ WW := List.mem_filter.mpr ⟨wm_tables_1_3 _ (List.mem_of_getElem? (i := 237) rfl), rfl⟩
theorem wt_yX6_findsMore : Cond.instanceMethod yX6_findsMore ∈ WW := List.mem_filter.mpr ⟨wm_tables_1_3 _ (List.mem_of_getElem? (i := 239) rfl), rfl⟩
theorem wk_yX6_findsMore : Cond.code yX6_findsMore cX6_findsMore 3 (some .boolean) ∈ WW := List.mem_filter.mpr ⟨wm_tables_1_4 _ (List.mem_of_getElem? (i := 0) rfl), rfl⟩
theorem wl_X6_110 : Cond.methodLink RX6 110 yX6_isWhite ∈ WW := List.mem_filter.mpr ⟨wm_tables_1_4 _ (List.mem_of_getElem? (i := 1) rfl), rfl⟩
theorem wt_yX6_isWhite : Cond.instanceMethod yX6_isWhite ∈ WW := List.mem_filter.mpr ⟨wm_tables_1_4 _ (List.mem_of_getElem? (i := 3) rfl), rfl⟩
theorem wk_yX6_isWhite : Cond.code yX6_isWhite cX6_isWhite 2 (some .boolean) ∈ WW := List.mem_filter.mpr ⟨wm_tables_1_4 _ (List.mem_of_getElem? (i := 4) rfl), rfl⟩
theorem wl_X6_114 : Cond.methodLink RX6 114 yX6_wishes ∈ WW := List.mem_filter.mpr ⟨wm_tables_1_4 _ (List.mem_of_getElem? (i := 5) rfl), rfl⟩
theorem wt_yX6_wishes : Cond.instanceMethod yX6_wishes ∈ WW := List.mem_filter.mpr ⟨wm_tables_1_4 _ (List.mem_of_getElem? (i := 7) rfl), rfl⟩
theorem wk_yX6_wishes : Cond.code yX6_wishes cX6_wishes 2 none ∈ WW := List.mem_filter.mpr ⟨wm_tables_1_4 _ (List.mem_of_getElem? (i := 8) rfl), rfl⟩
theorem wl_X6_127 : Cond.methodLink RX6 127 yX6_frees ∈ WW := List.mem_filter.mpr ⟨wm_tables_1_4 _ (List.mem_of_getElem? (i := 9) rfl), rfl⟩
theorem wt_yX6_frees : Cond.instanceMethod yX6_frees ∈ WW := List.mem_filter.mpr ⟨wm_tables_1_4 _ (List.mem_of_getElem? (i := 11) rfl), rfl⟩
theorem wk_yX6_frees : Cond.code yX6_frees cX6_frees 2 none ∈ WW := List.mem_filter.mpr ⟨wm_tables_1_4 _ (List.mem_of_getElem? (i := 12) rfl), rfl⟩
theorem wl_X6_130 : Cond.methodLink RX6 130 yX6_over ∈ WW := List.mem_filter.mpr ⟨wm_tables_1_4 _ (List.mem_of_getElem? (i := 13) rfl), rfl⟩
theorem wt_yX6_over : Cond.instanceMethod yX6_over ∈ WW := List.mem_filter.mpr ⟨wm_tables_1_4 _ (List.mem_of_getElem? (i := 15) rfl), rfl⟩
theorem wk_yX6_over : Cond.code yX6_over cX6_over 1 none ∈ WW := List.mem_filter.mpr ⟨wm_tables_1_4 _ (List.mem_of_getElem? (i := 16) rfl), rfl⟩
theorem wl_X6_136 : Cond.methodLink RX6 136 yX6_sweeps ∈ WW := List.mem_filter.mpr ⟨wm_tables_1_4 _ (List.mem_of_getElem? (i := 17) rfl), rfl⟩
theorem wt_yX6_sweeps : Cond.instanceMethod yX6_sweeps ∈ WW := List.mem_filter.mpr ⟨wm_tables_1_4 _ (List.mem_of_getElem? (i := 19) rfl), rfl⟩
theorem wk_yX6_sweeps : Cond.code yX6_sweeps cX6_sweeps 1 none ∈ WW := List.mem_filter.mpr ⟨wm_tables_1_4 _ (List.mem_of_getElem? (i := 20) rfl), rfl⟩
theorem wl_L_82 : Cond.methodLink RL 82 yX6_sweep ∈ WW := List.mem_filter.mpr ⟨wm_tables_1_4 _ (List.mem_of_getElem? (i := 21) rfl), rfl⟩
theorem wt_yX6_sweep : Cond.instanceMethod yX6_sweep ∈ WW := List.mem_filter.mpr ⟨wm_tables_1_4 _ (List.mem_of_getElem? (i := 22) rfl), rfl⟩
theorem ws_yX6_sweep : Cond.selects RX6 yX6_sweep yX6_sweep ∈ WW := List.mem_filter.mpr ⟨wm_tables_1_4 _ (List.mem_of_getElem? (i := 23) rfl), rfl⟩
theorem wk_yX6_sweep : Cond.code yX6_sweep cX6_sweep 3 (some .int) ∈ WW := List.mem_filter.mpr ⟨wm_tables_1_4 _ (List.mem_of_getElem? (i := 24) rfl), rfl⟩
theorem wl_L_86 : Cond.methodLink RL 86 yX6_under ∈ WW := List.mem_filter.mpr ⟨wm_tables_1_4 _ (List.mem_of_getElem? (i := 25) rfl), rfl⟩
theorem wt_yX6_under : Cond.instanceMethod yX6_under ∈ WW := List.mem_filter.mpr ⟨wm_tables_1_4 _ (List.mem_of_getElem? (i := 26) rfl), rfl⟩
theorem ws_yX6_under : Cond.selects RX6 yX6_under yX6_under ∈ WW := List.mem_filter.mpr ⟨wm_tables_1_4 _ (List.mem_of_getElem? (i := 27) rfl), rfl⟩
theorem wk_yX6_under : Cond.code yX6_under cX6_under 1 (some .int) ∈ WW := List.mem_filter.mpr ⟨wm_tables_1_4 _ (List.mem_of_getElem? (i := 28) rfl), rfl⟩
theorem wl_L_22 : Cond.methodLink RL 22 yX6_make ∈ WW := List.mem_filter.mpr ⟨wm_tables_1_4 _ (List.mem_of_getElem? (i := 29) rfl), rfl⟩
theorem wt_yX6_make : Cond.instanceMethod yX6_make ∈ WW := List.mem_filter.mpr ⟨wm_tables_1_4 _ (List.mem_of_getElem? (i := 30) rfl), rfl⟩
theorem ws_yX6_make : Cond.selects RX6 yX6_make yX6_make ∈ WW := List.mem_filter.mpr ⟨wm_tables_1_4 _ (List.mem_of_getElem? (i := 31) rfl), rfl⟩
theorem wk_yX6_make : Cond.code yX6_make cX6_make 8 (some .int) ∈ WW := List.mem_filter.mpr ⟨wm_tables_1_4 _ (List.mem_of_getElem? (i := 32) rfl), rfl⟩
theorem wl_X6_152 : Cond.methodLink RX6 152 yX6_isRegister ∈ WW := List.mem_filter.mpr ⟨wm_tables_1_4 _ (List.mem_of_getElem? (i := 33) rfl), rfl⟩
theorem wz_yX6_isRegister : Cond.static yX6_isRegister ∈ WW := List.mem_filter.mpr ⟨wm_tables_1_4 _ (List.mem_of_getElem? (i := 34) rfl), rfl⟩
theorem wk_yX6_isRegister : Cond.code yX6_isRegister cX6_isRegister 2 (some .boolean) ∈ WW := List.mem_filter.mpr ⟨wm_tables_1_4 _ (List.mem_of_getElem? (i := 35) rfl), rfl⟩
theorem wl_X6_155 : Cond.methodLink RX6 155 yX6_newPlace ∈ WW := List.mem_filter.mpr ⟨wm_tables_1_4 _ (List.mem_of_getElem? (i := 36) rfl), rfl⟩
theorem wt_yX6_newPlace : Cond.instanceMethod yX6_newPlace ∈ WW := List.mem_filter.mpr ⟨wm_tables_1_4 _ (List.mem_of_getElem? (i := 38) rfl), rfl⟩
theorem wk_yX6_newPlace : Cond.code yX6_newPlace cX6_newPlace 4 (some .int) ∈ WW := List.mem_filter.mpr ⟨wm_tables_1_4 _ (List.mem_of_getElem? (i := 39) rfl), rfl⟩
theorem wl_X6_142 : Cond.methodLink RX6 142 yX6_whiteCells ∈ WW := List.mem_filter.mpr ⟨wm_tables_1_4 _ (List.mem_of_getElem? (i := 40) rfl), rfl⟩
theorem wt_yX6_whiteCells : Cond.instanceMethod yX6_whiteCells ∈ WW := List.mem_filter.mpr ⟨wm_tables_1_4 _ (List.mem_of_getElem? (i := 42) rfl), rfl⟩
theorem wk_yX6_whiteCells : Cond.code yX6_whiteCells cX6_whiteCells 3 (some .int) ∈ WW := List.mem_filter.mpr ⟨wm_tables_1_4 _ (List.mem_of_getElem? (i := 43) rfl), rfl⟩
theorem wl_X6_145 : Cond.methodLink RX6 145 yX6_newColour ∈ WW := List.mem_filter.mpr ⟨wm_tables_1_4 _ (List.mem_of_getElem? (i := 44) rfl), rfl⟩
theorem wt_yX6_newColour : Cond.instanceMethod yX6_newColour ∈ WW := List.mem_filter.mpr ⟨wm_tables_1_4 _ (List.mem_of_getElem? (i := 46) rfl), rfl⟩
theorem wk_yX6_newColour : Cond.code yX6_newColour cX6_newColour 1 (some .int) ∈ WW := List.mem_filter.mpr ⟨wm_tables_1_4 _ (List.mem_of_getElem? (i := 47) rfl), rfl⟩
theorem wl_X6_148 : Cond.methodLink RX6 148 yX6_isFree ∈ WW := List.mem_filter.mpr ⟨wm_tables_1_4 _ (List.mem_of_getElem? (i := 48) rfl), rfl⟩
theorem wt_yX6_isFree : Cond.instanceMethod yX6_isFree ∈ WW := List.mem_filter.mpr ⟨wm_tables_1_4 _ (List.mem_of_getElem? (i := 50) rfl), rfl⟩
theorem wk_yX6_isFree : Cond.code yX6_isFree cX6_isFree 4 (some .boolean) ∈ WW := List.mem_filter.mpr ⟨wm_tables_1_4 _ (List.mem_of_getElem? (i := 51) rfl), rfl⟩
theorem wl_X6_159 : Cond.methodLink RX6 159 yX6_holds ∈ WW := List.mem_filter.mpr ⟨wm_tables_1_4 _ (List.mem_of_getElem? (i := 52) rfl), rfl⟩
theorem wt_yX6_holds : Cond.instanceMethod yX6_holds ∈ WW := List.mem_filter.mpr ⟨wm_tables_1_4 _ (List.mem_of_getElem? (i := 54) rfl), rfl⟩
theorem wk_yX6_holds : Cond.code yX6_holds cX6_holds 4 (some .int) ∈ WW := List.mem_filter.mpr ⟨wm_tables_1_4 _ (List.mem_of_getElem? (i := 55) rfl), rfl⟩
theorem wl_L_27 : Cond.methodLink RL 27 yX6_move ∈ WW := List.mem_filter.mpr ⟨wm_tables_1_4 _ (List.mem_of_getElem? (i := 56) rfl), rfl⟩
theorem wt_yX6_move : Cond.instanceMethod yX6_move ∈ WW := List.mem_filter.mpr ⟨wm_tables_1_4 _ (List.mem_of_getElem? (i := 57) rfl), rfl⟩
theorem ws_yX6_move : Cond.selects RX6 yX6_move yX6_move ∈ WW := List.mem_filter.mpr ⟨wm_tables_1_4 _ (List.mem_of_getElem? (i := 58) rfl), rfl⟩
theorem wk_yX6_move : Cond.code yX6_move cX6_move 4 (some .int) ∈ WW := List.mem_filter.mpr ⟨wm_tables_1_4 _ (List.mem_of_getElem? (i := 59) rfl), rfl⟩
theorem wl_X6_163 : Cond.methodLink RX6 163 yX6_held ∈ WW := List.mem_filter.mpr ⟨wm_tables_1_4 _ (List.mem_of_getElem? (i := 60) rfl), rfl⟩
theorem wt_yX6_held : Cond.instanceMethod yX6_held ∈ WW := List.mem_filter.mpr ⟨wm_tables_1_4 _ (List.mem_of_getElem? (i := 62) rfl), rfl⟩
theorem wk_yX6_held : Cond.code yX6_held cX6_held 3 (some .int) ∈ WW := List.mem_filter.mpr ⟨wm_tables_1_4 _ (List.mem_of_getElem? (i := 63) rfl), rfl⟩
theorem wl_L_32 : Cond.methodLink RL 32 yX6_get ∈ WW := List.mem_filter.mpr ⟨wm_tables_1_4 _ (List.mem_of_getElem? (i := 64) rfl), rfl⟩
theorem wt_yX6_get : Cond.instanceMethod yX6_get ∈ WW := List.mem_filter.mpr ⟨wm_tables_1_4 _ (List.mem_of_getElem? (i := 65) rfl), rfl⟩
theorem ws_yX6_get : Cond.selects RX6 yX6_get yX6_get ∈ WW := List.mem_filter.mpr ⟨wm_tables_1_4 _ (List.mem_of_getElem? (i := 66) rfl), rfl⟩
theorem wk_yX6_get : Cond.code yX6_get cX6_get 7 (some .int) ∈ WW := List.mem_filter.mpr ⟨wm_tables_1_4 _ (List.mem_of_getElem? (i := 67) rfl), rfl⟩
theorem wl_X6_167 : Cond.methodLink RX6 167 yX6_against ∈ WW := List.mem_filter.mpr ⟨wm_tables_1_4 _ (List.mem_of_getElem? (i := 68) rfl), rfl⟩
theorem wt_yX6_against : Cond.instanceMethod yX6_against ∈ WW := List.mem_filter.mpr ⟨wm_tables_1_4 _ (List.mem_of_getElem? (i := 70) rfl), rfl⟩
theorem wk_yX6_against : Cond.code yX6_against cX6_against 5 (some .int) ∈ WW := List.mem_filter.mpr ⟨wm_tables_1_4 _ (List.mem_of_getElem? (i := 71) rfl), rfl⟩
theorem wl_X6_170 : Cond.methodLink RX6 170 yX6_notes ∈ WW := List.mem_filter.mpr ⟨wm_tables_1_4 _ (List.mem_of_getElem? (i := 72) rfl), rfl⟩
theorem wt_yX6_notes : Cond.instanceMethod yX6_notes ∈ WW := List.mem_filter.mpr ⟨wm_tables_1_4 _ (List.mem_of_getElem? (i := 74) rfl), rfl⟩
theorem wk_yX6_notes : Cond.code yX6_notes cX6_notes 1 (some .boolean) ∈ WW := List.mem_filter.mpr ⟨wm_tables_1_4 _ (List.mem_of_getElem? (i := 75) rfl), rfl⟩
theorem wl_L_36 : Cond.methodLink RL 36 yX6_put ∈ WW := List.mem_filter.mpr ⟨wm_tables_1_4 _ (List.mem_of_getElem? (i := 76) rfl), rfl⟩
theorem wt_yX6_put : Cond.instanceMethod yX6_put ∈ WW := List.mem_filter.mpr ⟨wm_tables_1_4 _ (List.mem_of_getElem? (i := 77) rfl), rfl⟩
theorem ws_yX6_put : Cond.selects RX6 yX6_put yX6_put ∈ WW := List.mem_filter.mpr ⟨wm_tables_1_4 _ (List.mem_of_getElem? (i := 78) rfl), rfl⟩
theorem wk_yX6_put : Cond.code yX6_put cX6_put 7 (some .int) ∈ WW := List.mem_filter.mpr ⟨wm_tables_1_4 _ (List.mem_of_getElem? (i := 79) rfl), rfl⟩
theorem wl_L_40 : Cond.methodLink RL 40 yX6_drop ∈ WW := List.mem_filter.mpr ⟨wm_tables_1_4 _ (List.mem_of_getElem? (i := 80) rfl), rfl⟩
theorem wt_yX6_drop : Cond.instanceMethod yX6_drop ∈ WW := List.mem_filter.mpr ⟨wm_tables_1_4 _ (List.mem_of_getElem? (i := 81) rfl), rfl⟩
theorem ws_yX6_drop : Cond.selects RX6 yX6_drop yX6_drop ∈ WW := List.mem_filter.mpr ⟨wm_tables_1_4 _ (List.mem_of_getElem? (i := 82) rfl), rfl⟩
theorem wk_yX6_drop : Cond.code yX6_drop cX6_drop 4 (some .int) ∈ WW := List.mem_filter.mpr ⟨wm_tables_1_4 _ (List.mem_of_getElem? (i := 83) rfl), rfl⟩
theorem wl_L_44 : Cond.methodLink RL 44 yX6_store ∈ WW := List.mem_filter.mpr ⟨wm_tables_1_4 _ (List.mem_of_getElem? (i := 84) rfl), rfl⟩
theorem wt_yX6_store : Cond.instanceMethod yX6_store ∈ WW := List.mem_filter.mpr ⟨wm_tables_1_4 _ (List.mem_of_getElem? (i := 85) rfl), rfl⟩
theorem ws_yX6_store : Cond.selects RX6 yX6_store yX6_store ∈ WW := List.mem_filter.mpr ⟨wm_tables_1_4 _ (List.mem_of_getElem? (i := 86) rfl), rfl⟩
theorem wk_yX6_store : Cond.code yX6_store cX6_store 5 (some .int) ∈ WW := List.mem_filter.mpr ⟨wm_tables_1_4 _ (List.mem_of_getElem? (i := 87) rfl), rfl⟩
theorem wl_L_48 : Cond.methodLink RL 48 yX6_load ∈ WW := List.mem_filter.mpr ⟨wm_tables_1_4 _ (List.mem_of_getElem? (i := 88) rfl), rfl⟩
theorem wt_yX6_load : Cond.instanceMethod yX6_load ∈ WW := List.mem_filter.mpr ⟨wm_tables_1_4 _ (List.mem_of_getElem? (i := 89) rfl), rfl⟩
theorem ws_yX6_load : Cond.selects RX6 yX6_load yX6_load ∈ WW := List.mem_filter.mpr ⟨wm_tables_1_4 _ (List.mem_of_getElem? (i := 90) rfl), rfl⟩
theorem wk_yX6_load : Cond.code yX6_load cX6_load 4 (some .int) ∈ WW := List.mem_filter.mpr ⟨wm_tables_1_4 _ (List.mem_of_getElem? (i := 91) rfl), rfl⟩
theorem wl_L_52 : Cond.methodLink RL 52 yX6_same ∈ WW := List.mem_filter.mpr ⟨wm_tables_1_4 _ (List.mem_of_getElem? (i := 92) rfl), rfl⟩
theorem wt_yX6_same : Cond.instanceMethod yX6_same ∈ WW := List.mem_filter.mpr ⟨wm_tables_1_4 _ (List.mem_of_getElem? (i := 93) rfl), rfl⟩
theorem ws_yX6_same : Cond.selects RX6 yX6_same yX6_same ∈ WW := List.mem_filter.mpr ⟨wm_tables_1_4 _ (List.mem_of_getElem? (i := 94) rfl), rfl⟩
theorem wk_yX6_same : Cond.code yX6_same cX6_same 5 (some .int) ∈ WW := List.mem_filter.mpr ⟨wm_tables_1_4 _ (List.mem_of_getElem? (i := 95) rfl), rfl⟩
theorem wl_L_56 : Cond.methodLink RL 56 yX6_weak ∈ WW := List.mem_filter.mpr ⟨wm_tables_1_4 _ (List.mem_of_getElem? (i := 96) rfl), rfl⟩
theorem wt_yX6_weak : Cond.instanceMethod yX6_weak ∈ WW := List.mem_filter.mpr ⟨wm_tables_1_4 _ (List.mem_of_getElem? (i := 97) rfl), rfl⟩
theorem ws_yX6_weak : Cond.selects RX6 yX6_weak yX6_weak ∈ WW := List.mem_filter.mpr ⟨wm_tables_1_4 _ (List.mem_of_getElem? (i := 98) rfl), rfl⟩
theorem wk_yX6_weak : Cond.code yX6_weak cX6_weak 4 (some .int) ∈ WW := List.mem_filter.mpr ⟨wm_tables_1_4 _ (List.mem_of_getElem? (i := 99) rfl), rfl⟩
theorem wl_L_60 : Cond.methodLink RL 60 yX6_strong ∈ WW := List.mem_filter.mpr ⟨wm_tables_1_4 _ (List.mem_of_getElem? (i := 100) rfl), rfl⟩
theorem wt_yX6_strong : Cond.instanceMethod yX6_strong ∈ WW := List.mem_filter.mpr ⟨wm_tables_1_4 _ (List.mem_of_getElem? (i := 101) rfl), rfl⟩
theorem ws_yX6_strong : Cond.selects RX6 yX6_strong yX6_strong ∈ WW := List.mem_filter.mpr ⟨wm_tables_1_4 _ (List.mem_of_getElem? (i := 102) rfl), rfl⟩
theorem wk_yX6_strong : Cond.code yX6_strong cX6_strong 4 (some .int) ∈ WW := List.mem_filter.mpr ⟨wm_tables_1_4 _ (List.mem_of_getElem? (i := 103) rfl), rfl⟩
theorem wl_X6_173 : Cond.methodLink RX6 173 yX6_notesRead ∈ WW := List.mem_filter.mpr ⟨wm_tables_1_4 _ (List.mem_of_getElem? (i := 104) rfl), rfl⟩
theorem wt_yX6_notesRead : Cond.instanceMethod yX6_notesRead ∈ WW := List.mem_filter.mpr ⟨wm_tables_1_4 _ (List.mem_of_getElem? (i := 106) rfl), rfl⟩
theorem wk_yX6_notesRead : Cond.code yX6_notesRead cX6_notesRead 2 none ∈ WW := List.mem_filter.mpr ⟨wm_tables_1_4 _ (List.mem_of_getElem? (i := 107) rfl), rfl⟩
theorem wl_L_64 : Cond.methodLink RL 64 yX6_pair ∈ WW := List.mem_filter.mpr ⟨wm_tables_1_4 _ (List.mem_of_getElem? (i := 108) rfl), rfl⟩
theorem wt_yX6_pair : Cond.instanceMethod yX6_pair ∈ WW := List.mem_filter.mpr ⟨wm_tables_1_4 _ (List.mem_of_getElem? (i := 109) rfl), rfl⟩
theorem ws_yX6_pair : Cond.selects RX6 yX6_pair yX6_pair ∈ WW := List.mem_filter.mpr ⟨wm_tables_1_4 _ (List.mem_of_getElem? (i := 110) rfl), rfl⟩
theorem wk_yX6_pair : Cond.code yX6_pair cX6_pair 4 (some .int) ∈ WW := List.mem_filter.mpr ⟨wm_tables_1_4 _ (List.mem_of_getElem? (i := 111) rfl), rfl⟩
theorem wl_L_68 : Cond.methodLink RL 68 yX6_value ∈ WW := List.mem_filter.mpr ⟨wm_tables_1_4 _ (List.mem_of_getElem? (i := 112) rfl), rfl⟩
theorem wt_yX6_value : Cond.instanceMethod yX6_value ∈ WW := List.mem_filter.mpr ⟨wm_tables_1_4 _ (List.mem_of_getElem? (i := 113) rfl), rfl⟩
theorem ws_yX6_value : Cond.selects RX6 yX6_value yX6_value ∈ WW := List.mem_filter.mpr ⟨wm_tables_1_4 _ (List.mem_of_getElem? (i := 114) rfl), rfl⟩
theorem wk_yX6_value : Cond.code yX6_value cX6_value 5 (some .int) ∈ WW := List.mem_filter.mpr ⟨wm_tables_1_4 _ (List.mem_of_getElem? (i := 115) rfl), rfl⟩
theorem wl_L_72 : Cond.methodLink RL 72 yX6_wish ∈ WW := List.mem_filter.mpr ⟨wm_tables_1_4 _ (List.mem_of_getElem? (i := 116) rfl), rfl⟩
theorem wt_yX6_wish : Cond.instanceMethod yX6_wish ∈ WW := List.mem_filter.mpr ⟨wm_tables_1_4 _ (List.mem_of_getElem? (i := 117) rfl), rfl⟩
theorem ws_yX6_wish : Cond.selects RX6 yX6_wish yX6_wish ∈ WW := List.mem_filter.mpr ⟨wm_tables_1_4 _ (List.mem_of_getElem? (i := 118) rfl), rfl⟩
theorem wk_yX6_wish : Cond.code yX6_wish cX6_wish 5 (some .int) ∈ WW := List.mem_filter.mpr ⟨wm_tables_1_4 _ (List.mem_of_getElem? (i := 119) rfl), rfl⟩
theorem wl_L_90 : Cond.methodLink RL 90 yX6_about ∈ WW := List.mem_filter.mpr ⟨wm_tables_1_4 _ (List.mem_of_getElem? (i := 120) rfl), rfl⟩
theorem wt_yX6_about : Cond.instanceMethod yX6_about ∈ WW := List.mem_filter.mpr ⟨wm_tables_1_4 _ (List.mem_of_getElem? (i := 121) rfl), rfl⟩
theorem ws_yX6_about : Cond.selects RX6 yX6_about yX6_about ∈ WW := List.mem_filter.mpr ⟨wm_tables_1_4 _ (List.mem_of_getElem? (i := 122) rfl), rfl⟩
theorem wk_yX6_about : Cond.code yX6_about cX6_about 3 (some .int) ∈ WW := List.mem_filter.mpr ⟨wm_tables_1_4 _ (List.mem_of_getElem? (i := 123) rfl), rfl⟩
theorem wl_X6_186 : Cond.methodLink RX6 186 yX6_isThing ∈ WW := List.mem_filter.mpr ⟨wm_tables_1_4 _ (List.mem_of_getElem? (i := 124) rfl), rfl⟩
theorem wt_yX6_isThing : Cond.instanceMethod yX6_isThing ∈ WW := List.mem_filter.mpr ⟨wm_tables_1_4 _ (List.mem_of_getElem? (i := 126) rfl), rfl⟩
theorem wk_yX6_isThing : Cond.code yX6_isThing cX6_isThing 2 (some .boolean) ∈ WW := List.mem_filter.mpr ⟨wm_tables_1_4 _ (List.mem_of_getElem? (i := 127) rfl), rfl⟩
theorem wl_X6_189 : Cond.methodLink RX6 189 yX6_aboutOf ∈ WW := List.mem_filter.mpr ⟨wm_tables_1_4 _ (List.mem_of_getElem? (i := 128) rfl), rfl⟩
theorem wt_yX6_aboutOf : Cond.instanceMethod yX6_aboutOf ∈ WW := List.mem_filter.mpr ⟨wm_tables_1_4 _ (List.mem_of_getElem? (i := 130) rfl), rfl⟩
theorem wk_yX6_aboutOf : Cond.code yX6_aboutOf cX6_aboutOf 3 (some .int) ∈ WW := List.mem_filter.mpr ⟨wm_tables_1_4 _ (List.mem_of_getElem? (i := 131) rfl), rfl⟩
theorem wl_X6_183 : Cond.methodLink RX6 183 yX6_findReached ∈ WW := List.mem_filter.mpr ⟨wm_tables_1_4 _ (List.mem_of_getElem? (i := 132) rfl), rfl⟩
theorem wt_yX6_findReached : Cond.instanceMethod yX6_findReached ∈ WW := List.mem_filter.mpr ⟨wm_tables_1_4 _ (List.mem_of_getElem? (i := 134) rfl), rfl⟩
theorem wk_yX6_findReached : Cond.code yX6_findReached cX6_findReached 3 none ∈ WW := List.mem_filter.mpr ⟨wm_tables_1_4 _ (List.mem_of_getElem? (i := 135) rfl), rfl⟩
theorem wl_X6_180 : Cond.methodLink RX6 180 yX6_reach ∈ WW := List.mem_filter.mpr ⟨wm_tables_1_4 _ (List.mem_of_getElem? (i := 136) rfl), rfl⟩
theorem wt_yX6_reach : Cond.instanceMethod yX6_reach ∈ WW := List.mem_filter.mpr ⟨wm_tables_1_4 _ (List.mem_of_getElem? (i := 138) rfl), rfl⟩
theorem wk_yX6_reach : Cond.code yX6_reach cX6_reach 2 none ∈ WW := List.mem_filter.mpr ⟨wm_tables_1_4 _ (List.mem_of_getElem? (i := 139) rfl), rfl⟩
theorem wl_L_94 : Cond.methodLink RL 94 yX6_field ∈ WW := List.mem_filter.mpr ⟨wm_tables_1_4 _ (List.mem_of_getElem? (i := 140) rfl), rfl⟩
theorem wt_yX6_field : Cond.instanceMethod yX6_field ∈ WW := List.mem_filter.mpr ⟨wm_tables_1_4 _ (List.mem_of_getElem? (i := 141) rfl), rfl⟩
theorem ws_yX6_field : Cond.selects RX6 yX6_field yX6_field ∈ WW := List.mem_filter.mpr ⟨wm_tables_1_4 _ (List.mem_of_getElem? (i := 142) rfl), rfl⟩
theorem wk_yX6_field : Cond.code yX6_field cX6_field 3 (some .int) ∈ WW := List.mem_filter.mpr ⟨wm_tables_1_4 _ (List.mem_of_getElem? (i := 143) rfl), rfl⟩
theorem wl_L_98 : Cond.methodLink RL 98 yX6_holder ∈ WW := List.mem_filter.mpr ⟨wm_tables_1_4 _ (List.mem_of_getElem? (i := 144) rfl), rfl⟩
theorem wt_yX6_holder : Cond.instanceMethod yX6_holder ∈ WW := List.mem_filter.mpr ⟨wm_tables_1_4 _ (List.mem_of_getElem? (i := 145) rfl), rfl⟩
theorem ws_yX6_holder : Cond.selects RX6 yX6_holder yX6_holder ∈ WW := List.mem_filter.mpr ⟨wm_tables_1_4 _ (List.mem_of_getElem? (i := 146) rfl), rfl⟩
theorem wk_yX6_holder : Cond.code yX6_holder cX6_holder 2 (some .int) ∈ WW := List.mem_filter.mpr ⟨wm_tables_1_4 _ (List.mem_of_getElem? (i := 147) rfl), rfl⟩
theorem wl_L_102 : Cond.methodLink RL 102 yX6_cell ∈ WW := List.mem_filter.mpr ⟨wm_tables_1_4 _ (List.mem_of_getElem? (i := 148) rfl), rfl⟩
theorem wt_yX6_cell : Cond.instanceMethod yX6_cell ∈ WW := List.mem_filter.mpr ⟨wm_tables_1_4 _ (List.mem_of_getElem? (i := 149) rfl), rfl⟩
theorem ws_yX6_cell : Cond.selects RX6 yX6_cell yX6_cell ∈ WW := List.mem_filter.mpr ⟨wm_tables_1_4 _ (List.mem_of_getElem? (i := 150) rfl), rfl⟩
theorem wk_yX6_cell : Cond.code yX6_cell cX6_cell 2 (some .int) ∈ WW := List.mem_filter.mpr ⟨wm_tables_1_4 _ (List.mem_of_getElem? (i := 151) rfl), rfl⟩
theorem wl_X6_192 : Cond.methodLink RX6 192 yX6_cellOf ∈ WW := List.mem_filter.mpr ⟨wm_tables_1_4 _ (List.mem_of_getElem? (i := 152) rfl), rfl⟩
theorem wt_yX6_cellOf : Cond.instanceMethod yX6_cellOf ∈ WW := List.mem_filter.mpr ⟨wm_tables_1_4 _ (List.mem_of_getElem? (i := 154) rfl), rfl⟩
theorem wk_yX6_cellOf : Cond.code yX6_cellOf cX6_cellOf 3 (some .int) ∈ WW := List.mem_filter.mpr ⟨wm_tables_1_4 _ (List.mem_of_getElem? (i := 155) rfl), rfl⟩
theorem wl_L_106 : Cond.methodLink RL 106 yX6_count ∈ WW := List.mem_filter.mpr ⟨wm_tables_1_4 _ (List.mem_of_getElem? (i := 156) rfl), rfl⟩
theorem wt_yX6_count : Cond.instanceMethod yX6_count ∈ WW := List.mem_filter.mpr ⟨wm_tables_1_4 _ (List.mem_of_getElem? (i := 157) rfl), rfl⟩
theorem ws_yX6_count : Cond.selects RX6 yX6_count yX6_count ∈ WW := List.mem_filter.mpr ⟨wm_tables_1_4 _ (List.mem_of_getElem? (i := 158) rfl), rfl⟩
theorem wk_yX6_count : Cond.code yX6_count cX6_count 4 (some .int) ∈ WW := List.mem_filter.mpr ⟨wm_tables_1_4 _ (List.mem_of_getElem? (i := 159) rfl), rfl⟩
theorem wl_X6_195 : Cond.methodLink RX6 195 yX6_countThings ∈ WW := List.mem_filter.mpr ⟨wm_tables_1_4 _ (List.mem_of_getElem? (i := 160) rfl), rfl⟩
theorem wt_yX6_countThings : Cond.instanceMethod yX6_countThings ∈ WW := List.mem_filter.mpr ⟨wm_tables_1_4 _ (List.mem_of_getElem? (i := 162) rfl), rfl⟩
theorem wk_yX6_countThings : Cond.code yX6_countThings cX6_countThings 5 (some .int) ∈ WW := List.mem_filter.mpr ⟨wm_tables_1_4 _ (List.mem_of_getElem? (i := 163) rfl), rfl⟩
theorem wl_X6_198 : Cond.methodLink RX6 198 yX6_freeCells ∈ WW := List.mem_filter.mpr ⟨wm_tables_1_4 _ (List.mem_of_getElem? (i := 164) rfl), rfl⟩
theorem wt_yX6_freeCells : Cond.instanceMethod yX6_freeCells ∈ WW := List.mem_filter.mpr ⟨wm_tables_1_4 _ (List.mem_of_getElem? (i := 166) rfl), rfl⟩
theorem wk_yX6_freeCells : Cond.code yX6_freeCells cX6_freeCells 7 (some .int) ∈ WW := List.mem_filter.mpr ⟨wm_tables_1_4 _ (List.mem_of_getElem? (i := 167) rfl), rfl⟩
theorem wl_L_110 : Cond.methodLink RL 110 yX6_lost ∈ WW := List.mem_filter.mpr ⟨wm_tables_1_4 _ (List.mem_of_getElem? (i := 168) rfl), rfl⟩
theorem wt_yX6_lost : Cond.instanceMethod yX6_lost ∈ WW := List.mem_filter.mpr ⟨wm_tables_1_4 _ (List.mem_of_getElem? (i := 169) rfl), rfl⟩
theorem ws_yX6_lost : Cond.selects RX6 yX6_lost yX6_lost ∈ WW := List.mem_filter.mpr ⟨wm_tables_1_4 _ (List.mem_of_getElem? (i := 170) rfl), rfl⟩
theorem wk_yX6_lost : Cond.code yX6_lost cX6_lost 2 (some .int) ∈ WW := List.mem_filter.mpr ⟨wm_tables_1_4 _ (List.mem_of_getElem? (i := 171) rfl), rfl⟩
theorem wl_L_115 : Cond.methodLink RL 115 yX6_digest ∈ WW := List.mem_filter.mpr ⟨wm_tables_1_4 _ (List.mem_of_getElem? (i := 172) rfl), rfl⟩
theorem wt_yX6_digest : Cond.instanceMethod yX6_digest ∈ WW := List.mem_filter.mpr ⟨wm_tables_1_4 _ (List.mem_of_getElem? (i := 173) rfl), rfl⟩
theorem ws_yX6_digest : Cond.selects RX6 yX6_digest yX6_digest ∈ WW := List.mem_filter.mpr ⟨wm_tables_1_4 _ (List.mem_of_getElem? (i := 174) rfl), rfl⟩
theorem wk_yX6_digest : Cond.code yX6_digest cX6_digest 5 (some .long) ∈ WW := List.mem_filter.mpr ⟨wm_tables_1_4 _ (List.mem_of_getElem? (i := 175) rfl), rfl⟩
theorem wv_X6_202 : Cond.constantLong RX6 202 (3) ∈ WW := List.mem_filter.mpr ⟨wm_tables_1_4 _ (List.mem_of_getElem? (i := 176) rfl), rfl⟩
theorem wv_X6_204 : Cond.constantLong RX6 204 (31) ∈ WW := List.mem_filter.mpr ⟨wm_tables_1_4 _ (List.mem_of_getElem? (i := 177) rfl), rfl⟩
theorem wl_X6_206 : Cond.methodLink RX6 206 yX6_holder ∈ WW := List.mem_filter.mpr ⟨wm_tables_1_4 _ (List.mem_of_getElem? (i := 178) rfl), rfl⟩
theorem ws_yX5_empty : Cond.selects RX5 yX5_empty yX5_empty ∈ WW := List.mem_filter.mpr ⟨wm_p1 _ (List.mem_of_getElem? (i := 0) rfl), rfl⟩
theorem ws_yX5_colourOfNew : Cond.selects RX5 yX5_colourOfNew yX5_colourOfNew ∈ WW := List.mem_filter.mpr ⟨wm_p1 _ (List.mem_of_getElem? (i := 1) rfl), rfl⟩
theorem ws_yX5_placeOfNew : Cond.selects RX5 yX5_placeOfNew yX5_placeOfNew ∈ WW := List.mem_filter.mpr ⟨wm_p1 _ (List.mem_of_getElem? (i := 2) rfl), rfl⟩
theorem ws_yX5_inRegister : Cond.selects RX5 yX5_inRegister yX5_inRegister ∈ WW := List.mem_filter.mpr ⟨wm_p1 _ (List.mem_of_getElem? (i := 3) rfl), rfl⟩
theorem ws_yX5_refusalOfField : Cond.selects RX5 yX5_refusalOfField yX5_refusalOfField ∈ WW := List.mem_filter.mpr ⟨wm_p1 _ (List.mem_of_getElem? (i := 4) rfl), rfl⟩
theorem ws_yX5_note : Cond.selects RX5 yX5_note yX5_note ∈ WW := List.mem_filter.mpr ⟨wm_p1 _ (List.mem_of_getElem? (i := 5) rfl), rfl⟩
theorem ws_yX5_shade : Cond.selects RX5 yX5_shade yX5_shade ∈ WW := List.mem_filter.mpr ⟨wm_p1 _ (List.mem_of_getElem? (i := 6) rfl), rfl⟩
theorem ws_yX5_noteWeakRead : Cond.selects RX5 yX5_noteWeakRead yX5_noteWeakRead ∈ WW := List.mem_filter.mpr ⟨wm_p1 _ (List.mem_of_getElem? (i := 7) rfl), rfl⟩
theorem ws_yX5_startRound : Cond.selects RX5 yX5_startRound yX5_startRound ∈ WW := List.mem_filter.mpr ⟨wm_p1 _ (List.mem_of_getElem? (i := 8) rfl), rfl⟩
theorem ws_yX5_shadeHeld : Cond.selects RX5 yX5_shadeHeld yX5_shadeHeld ∈ WW := List.mem_filter.mpr ⟨wm_p1 _ (List.mem_of_getElem? (i := 9) rfl), rfl⟩
theorem ws_yX5_takeSteps : Cond.selects RX5 yX5_takeSteps yX5_takeSteps ∈ WW := List.mem_filter.mpr ⟨wm_p1 _ (List.mem_of_getElem? (i := 10) rfl), rfl⟩
theorem ws_yX5_markStep : Cond.selects RX5 yX5_markStep yX5_markStep ∈ WW := List.mem_filter.mpr ⟨wm_p1 _ (List.mem_of_getElem? (i := 11) rfl), rfl⟩
theorem ws_yX5_shadeFieldsOf : Cond.selects RX5 yX5_shadeFieldsOf yX5_shadeFieldsOf ∈ WW := List.mem_filter.mpr ⟨wm_p1 _ (List.mem_of_getElem? (i := 12) rfl), rfl⟩
theorem ws_yX5_shadeValues : Cond.selects RX5 yX5_shadeValues yX5_shadeValues ∈ WW := List.mem_filter.mpr ⟨wm_p1 _ (List.mem_of_getElem? (i := 13) rfl), rfl⟩
theorem ws_yX5_grantWishes : Cond.selects RX5 yX5_grantWishes yX5_grantWishes ∈ WW := List.mem_filter.mpr ⟨wm_p1 _ (List.mem_of_getElem? (i := 14) rfl), rfl⟩
theorem ws_yX5_endMarking : Cond.selects RX5 yX5_endMarking yX5_endMarking ∈ WW := List.mem_filter.mpr ⟨wm_p1 _ (List.mem_of_getElem? (i := 15) rfl), rfl⟩
theorem ws_yX5_freeIfWhite : Cond.selects RX5 yX5_freeIfWhite yX5_freeIfWhite ∈ WW := List.mem_filter.mpr ⟨wm_p2 _ (List.mem_of_getElem? (i := 0) rfl), rfl⟩
theorem ws_yX5_endRound : Cond.selects RX5 yX5_endRound yX5_endRound ∈ WW := List.mem_filter.mpr ⟨wm_p2 _ (List.mem_of_getElem? (i := 1) rfl), rfl⟩
theorem ws_yX5_sweepStep : Cond.selects RX5 yX5_sweepStep yX5_sweepStep ∈ WW := List.mem_filter.mpr ⟨wm_p2 _ (List.mem_of_getElem? (i := 2) rfl), rfl⟩
theorem ws_yX5_isReached : Cond.selects RX5 yX5_isReached yX5_isReached ∈ WW := List.mem_filter.mpr ⟨wm_p2 _ (List.mem_of_getElem? (i := 3) rfl), rfl⟩
theorem ws_yX3_forget : Cond.selects RX3 yX3_forget yX3_forget ∈ WW := List.mem_filter.mpr ⟨wm_p2 _ (List.mem_of_getElem? (i := 4) rfl), rfl⟩
theorem ws_yX3_add : Cond.selects RX3 yX3_add yX3_add ∈ WW := List.mem_filter.mpr ⟨wm_p2 _ (List.mem_of_getElem? (i := 5) rfl), rfl⟩
theorem ws_yX3_addValues : Cond.selects RX3 yX3_addValues yX3_addValues ∈ WW := List.mem_filter.mpr ⟨wm_p2 _ (List.mem_of_getElem? (i := 6) rfl), rfl⟩
theorem ws_yX3_addFields : Cond.selects RX3 yX3_addFields yX3_addFields ∈ WW := List.mem_filter.mpr ⟨wm_p2 _ (List.mem_of_getElem? (i := 7) rfl), rfl⟩
theorem ws_yX5_countByReach : Cond.selects RX5 yX5_countByReach yX5_countByReach ∈ WW := List.mem_filter.mpr ⟨wm_p2 _ (List.mem_of_getElem? (i := 8) rfl), rfl⟩
theorem ws_yX6_empties : Cond.selects RX6 yX6_empties yX6_empties ∈ WW := List.mem_filter.mpr ⟨wm_p2 _ (List.mem_of_getElem? (i := 9) rfl), rfl⟩
theorem ws_yX6_shadeHeld : Cond.selects RX6 yX6_shadeHeld yX6_shadeHeld ∈ WW := List.mem_filter.mpr ⟨wm_p2 _ (List.mem_of_getElem? (i := 10) rfl), rfl⟩
theorem ws_yX6_shade : Cond.selects RX6 yX6_shade yX6_shade ∈ WW := List.mem_filter.mpr ⟨wm_p2 _ (List.mem_of_getElem? (i := 11) rfl), rfl⟩
theorem ws_yX6_step : Cond.selects RX6 yX6_step yX6_step ∈ WW := List.mem_filter.mpr ⟨wm_p2 _ (List.mem_of_getElem? (i := 12) rfl), rfl⟩
theorem ws_yX6_marks : Cond.selects RX6 yX6_marks yX6_marks ∈ WW := List.mem_filter.mpr ⟨wm_p2 _ (List.mem_of_getElem? (i := 13) rfl), rfl⟩
theorem ws_yX6_leastGray : Cond.selects RX6 yX6_leastGray yX6_leastGray ∈ WW := List.mem_filter.mpr ⟨wm_p2 _ (List.mem_of_getElem? (i := 14) rfl), rfl⟩
theorem ws_yX6_findsMore : Cond.selects RX6 yX6_findsMore yX6_findsMore ∈ WW := List.mem_filter.mpr ⟨wm_p2 _ (List.mem_of_getElem? (i := 15) rfl), rfl⟩
theorem ws_yX6_isWhite : Cond.selects RX6 yX6_isWhite yX6_isWhite ∈ WW := List.mem_filter.mpr ⟨wm_p3 _ (List.mem_of_getElem? (i := 0) rfl), rfl⟩
theorem ws_yX6_wishes : Cond.selects RX6 yX6_wishes yX6_wishes ∈ WW := List.mem_filter.mpr ⟨wm_p3 _ (List.mem_of_getElem? (i := 1) rfl), rfl⟩
theorem ws_yX6_frees : Cond.selects RX6 yX6_frees yX6_frees ∈ WW := List.mem_filter.mpr ⟨wm_p3 _ (List.mem_of_getElem? (i := 2) rfl), rfl⟩
theorem ws_yX6_over : Cond.selects RX6 yX6_over yX6_over ∈ WW := List.mem_filter.mpr ⟨wm_p3 _ (List.mem_of_getElem? (i := 3) rfl), rfl⟩
theorem ws_yX6_sweeps : Cond.selects RX6 yX6_sweeps yX6_sweeps ∈ WW := List.mem_filter.mpr ⟨wm_p3 _ (List.mem_of_getElem? (i := 4) rfl), rfl⟩
theorem ws_yX6_newPlace : Cond.selects RX6 yX6_newPlace yX6_newPlace ∈ WW := List.mem_filter.mpr ⟨wm_p3 _ (List.mem_of_getElem? (i := 5) rfl), rfl⟩
theorem ws_yX6_whiteCells : Cond.selects RX6 yX6_whiteCells yX6_whiteCells ∈ WW := List.mem_filter.mpr ⟨wm_p3 _ (List.mem_of_getElem? (i := 6) rfl), rfl⟩
theorem ws_yX6_newColour : Cond.selects RX6 yX6_newColour yX6_newColour ∈ WW := List.mem_filter.mpr ⟨wm_p3 _ (List.mem_of_getElem? (i := 7) rfl), rfl⟩
theorem ws_yX6_isFree : Cond.selects RX6 yX6_isFree yX6_isFree ∈ WW := List.mem_filter.mpr ⟨wm_p3 _ (List.mem_of_getElem? (i := 8) rfl), rfl⟩
theorem ws_yX6_holds : Cond.selects RX6 yX6_holds yX6_holds ∈ WW := List.mem_filter.mpr ⟨wm_p3 _ (List.mem_of_getElem? (i := 9) rfl), rfl⟩
theorem ws_yX6_held : Cond.selects RX6 yX6_held yX6_held ∈ WW := List.mem_filter.mpr ⟨wm_p3 _ (List.mem_of_getElem? (i := 10) rfl), rfl⟩
theorem ws_yX6_against : Cond.selects RX6 yX6_against yX6_against ∈ WW := List.mem_filter.mpr ⟨wm_p3 _ (List.mem_of_getElem? (i := 11) rfl), rfl⟩
theorem ws_yX6_notes : Cond.selects RX6 yX6_notes yX6_notes ∈ WW := List.mem_filter.mpr ⟨wm_p3 _ (List.mem_of_getElem? (i := 12) rfl), rfl⟩
theorem ws_yX6_notesRead : Cond.selects RX6 yX6_notesRead yX6_notesRead ∈ WW := List.mem_filter.mpr ⟨wm_p3 _ (List.mem_of_getElem? (i := 13) rfl), rfl⟩
theorem ws_yX6_isThing : Cond.selects RX6 yX6_isThing yX6_isThing ∈ WW := List.mem_filter.mpr ⟨wm_p3 _ (List.mem_of_getElem? (i := 14) rfl), rfl⟩
theorem ws_yX6_aboutOf : Cond.selects RX6 yX6_aboutOf yX6_aboutOf ∈ WW := List.mem_filter.mpr ⟨wm_p3 _ (List.mem_of_getElem? (i := 15) rfl), rfl⟩
theorem ws_yX6_findReached : Cond.selects RX6 yX6_findReached yX6_findReached ∈ WW := List.mem_filter.mpr ⟨wm_p4 _ (List.mem_of_getElem? (i := 0) rfl), rfl⟩
theorem ws_yX6_reach : Cond.selects RX6 yX6_reach yX6_reach ∈ WW := List.mem_filter.mpr ⟨wm_p4 _ (List.mem_of_getElem? (i := 1) rfl), rfl⟩
theorem ws_yX6_cellOf : Cond.selects RX6 yX6_cellOf yX6_cellOf ∈ WW := List.mem_filter.mpr ⟨wm_p4 _ (List.mem_of_getElem? (i := 2) rfl), rfl⟩
theorem ws_yX6_countThings : Cond.selects RX6 yX6_countThings yX6_countThings ∈ WW := List.mem_filter.mpr ⟨wm_p4 _ (List.mem_of_getElem? (i := 3) rfl), rfl⟩
theorem ws_yX6_freeCells : Cond.selects RX6 yX6_freeCells yX6_freeCells ∈ WW := List.mem_filter.mpr ⟨wm_p4 _ (List.mem_of_getElem? (i := 4) rfl), rfl⟩
def NWl : List Cond := [.methodLinkNest RX5 11 yX4_init "AtticSweep", .fieldLinkNest RX5 48 "AtticSweep$Things" "made" "I" "AtticSweep", .methodLinkNest RX5 18 yX0_init "AtticSweep", .fieldLinkNest RX5 119 "AtticSweep$Cells" "behind" "I" "AtticSweep", .methodLinkNest RX5 25 yX1_init "AtticSweep", .fieldLinkNest RX3 22 "AtticSweep$Holders" "wishes" "I" "AtticSweep", .fieldLinkNest RX5 171 "AtticSweep$Holders" "wishes" "I" "AtticSweep", .methodLinkNest RX5 32 yX2_init "AtticSweep", .fieldLinkNest RX5 76 "AtticSweep$Pairs" "made" "I" "AtticSweep", .fieldLinkNest RX3 57 "AtticSweep$Pairs" "made" "I" "AtticSweep", .methodLinkNest RX5 39 yX3_init "AtticSweep", .methodLinkNest RX1 22 yX5_isWeakHolder "AtticSweep"]
theorem NWl_in : ∀ w ∈ NWl, w ∈ lw_tbl := by
  intro w hw
  simp only [NWl, List.mem_cons, List.not_mem_nil, or_false] at hw
  rcases hw with rfl | rfl | rfl | rfl | rfl | rfl | rfl | rfl | rfl | rfl | rfl | rfl
  · exact wm_tables_1_1 _ (List.mem_of_getElem? (i := 19) rfl)
  · exact wm_tables_1_1 _ (List.mem_of_getElem? (i := 24) rfl)
  · exact wm_tables_1_1 _ (List.mem_of_getElem? (i := 53) rfl)
  · exact wm_tables_1_1 _ (List.mem_of_getElem? (i := 60) rfl)
  · exact wm_tables_1_1 _ (List.mem_of_getElem? (i := 70) rfl)
  · exact wm_tables_1_1 _ (List.mem_of_getElem? (i := 77) rfl)
  · exact wm_tables_1_1 _ (List.mem_of_getElem? (i := 78) rfl)
  · exact wm_tables_1_1 _ (List.mem_of_getElem? (i := 88) rfl)
  · exact wm_tables_1_1 _ (List.mem_of_getElem? (i := 93) rfl)
  · exact wm_tables_1_1 _ (List.mem_of_getElem? (i := 94) rfl)
  · exact wm_tables_1_1 _ (List.mem_of_getElem? (i := 106) rfl)
  · exact wm_tables_1_2 _ (List.mem_of_getElem? (i := 89) rfl)
theorem wx_X0 : ∀ w ∈ wsX00, w ∈ WW := by
  intro w hw
  obtain ⟨k, hk, rfl⟩ := List.mem_map.mp hw
  have hk : k < 3 := List.mem_range.mp hk
  match k, hk with
  | 0, _ => exact wy_X0_things
  | 1, _ => exact wy_X0_halfEnd
  | 2, _ => exact wy_X0_behind
  | k + 3, h => exact absurd h (by omega)
theorem wx_X1 : ∀ w ∈ wsX10, w ∈ WW := by
  intro w hw
  obtain ⟨k, hk, rfl⟩ := List.mem_map.mp hw
  have hk : k < 3 := List.mem_range.mp hk
  match k, hk with
  | 0, _ => exact wy_X1_held
  | 1, _ => exact wy_X1_named
  | 2, _ => exact wy_X1_wishes
  | k + 3, h => exact absurd h (by omega)
theorem wx_X2 : ∀ w ∈ wsX20, w ∈ WW := by
  intro w hw
  obtain ⟨k, hk, rfl⟩ := List.mem_map.mp hw
  have hk : k < 3 := List.mem_range.mp hk
  match k, hk with
  | 0, _ => exact wy_X2_made
  | 1, _ => exact wy_X2_keys
  | 2, _ => exact wy_X2_values
  | k + 3, h => exact absurd h (by omega)
theorem wx_X3 : ∀ w ∈ wsX30, w ∈ WW := by
  intro w hw
  obtain ⟨k, hk, rfl⟩ := List.mem_map.mp hw
  have hk : k < 3 := List.mem_range.mp hk
  match k, hk with
  | 0, _ => exact wy_X3_found
  | 1, _ => exact wy_X3_order
  | 2, _ => exact wy_X3_count
  | k + 3, h => exact absurd h (by omega)
theorem wx_X4 : ∀ w ∈ wsX40, w ∈ WW := by
  intro w hw
  obtain ⟨k, hk, rfl⟩ := List.mem_map.mp hw
  have hk : k < 8 := List.mem_range.mp hk
  match k, hk with
  | 0, _ => exact wy_X4_made
  | 1, _ => exact wy_X4_sizes
  | 2, _ => exact wy_X4_places
  | 3, _ => exact wy_X4_colours
  | 4, _ => exact wy_X4_moves
  | 5, _ => exact wy_X4_freed
  | 6, _ => exact wy_X4_wishing
  | 7, _ => exact wy_X4_held
  | k + 8, h => exact absurd h (by omega)
theorem wx_X5 : ∀ w ∈ wsX50, w ∈ WW := by
  intro w hw
  obtain ⟨k, hk, rfl⟩ := List.mem_map.mp hw
  have hk : k < 13 := List.mem_range.mp hk
  match k, hk with
  | 0, _ => exact wy_X5_things
  | 1, _ => exact wy_X5_cells
  | 2, _ => exact wy_X5_holders
  | 3, _ => exact wy_X5_pairs
  | 4, _ => exact wy_X5_reach
  | 5, _ => exact wy_X5_manner
  | 6, _ => exact wy_X5_fault
  | 7, _ => exact wy_X5_underWay
  | 8, _ => exact wy_X5_nextToSweep
  | 9, _ => exact wy_X5_rounds
  | 10, _ => exact wy_X5_steps
  | 11, _ => exact wy_X5_shaded
  | 12, _ => exact wy_X5_moved
  | k + 13, h => exact absurd h (by omega)
theorem wx_X6 : ∀ w ∈ wsX60, w ∈ WW := by
  intro w hw
  obtain ⟨k, hk, rfl⟩ := List.mem_map.mp hw
  have hk : k < 30 := List.mem_range.mp hk
  match k, hk with
  | 0, _ => exact wy_X6_manner
  | 1, _ => exact wy_X6_fault
  | 2, _ => exact wy_X6_things
  | 3, _ => exact wy_X6_many
  | 4, _ => exact wy_X6_field
  | 5, _ => exact wy_X6_place
  | 6, _ => exact wy_X6_colour
  | 7, _ => exact wy_X6_isFreed
  | 8, _ => exact wy_X6_hasWish
  | 9, _ => exact wy_X6_moved
  | 10, _ => exact wy_X6_register
  | 11, _ => exact wy_X6_slot
  | 12, _ => exact wy_X6_wishes
  | 13, _ => exact wy_X6_wishAt
  | 14, _ => exact wy_X6_weakAt
  | 15, _ => exact wy_X6_pairs
  | 16, _ => exact wy_X6_key
  | 17, _ => exact wy_X6_value
  | 18, _ => exact wy_X6_isPair
  | 19, _ => exact wy_X6_half
  | 20, _ => exact wy_X6_top
  | 21, _ => exact wy_X6_way
  | 22, _ => exact wy_X6_next
  | 23, _ => exact wy_X6_freedMany
  | 24, _ => exact wy_X6_rounds
  | 25, _ => exact wy_X6_steps
  | 26, _ => exact wy_X6_shaded
  | 27, _ => exact wy_X6_movedMany
  | 28, _ => exact wy_X6_isReached
  | 29, _ => exact wy_X6_more
  | k + 30, h => exact absurd h (by omega)
