def lw_g : List Cond := lw_tbl.filter goodWord
theorem lg_in {w : Cond} (h : w ∈ lw_tbl) (g : goodWord w = true) : w ∈ lw_g := List.mem_filter.mpr ⟨h, g⟩
theorem lg_good {w : Cond} (h : w ∈ lw_g) : (w.onTables && w.keeps) = true ∨ ∃ ty, w = .arrayClass ty := good_of_word (List.mem_filter.mp h).2
theorem lg_tbl {w : Cond} (h : w ∈ lw_g) : w ∈ lw_tbl := (List.mem_filter.mp h).1
theorem tb_t : ∀ w ∈ tables_1, w ∈ lw_tbl := fun _ h => List.mem_append_right _ h
theorem tb_1 : ∀ w ∈ tables_1_1, w ∈ lw_tbl := fun w h => tb_t w (List.mem_append_left _ h)
theorem tb_2 : ∀ w ∈ tables_1_2, w ∈ lw_tbl := fun w h => tb_t w (List.mem_append_right _ (List.mem_append_left _ h))
theorem tb_3 : ∀ w ∈ tables_1_3, w ∈ lw_tbl := fun w h => tb_t w (List.mem_append_right _ (List.mem_append_right _ (List.mem_append_left _ h)))
theorem tb_4 : ∀ w ∈ tables_1_4, w ∈ lw_tbl := fun w h => tb_t w (List.mem_append_right _ (List.mem_append_right _ (List.mem_append_right _ (List.mem_append_left _ h))))
theorem tb_5 : ∀ w ∈ tables_1_5, w ∈ lw_tbl := fun w h => tb_t w (List.mem_append_right _ (List.mem_append_right _ (List.mem_append_right _ (List.mem_append_right _ (List.mem_append_left _ h)))))
theorem tb_6 : ∀ w ∈ tables_1_6, w ∈ lw_tbl := fun w h => tb_t w (List.mem_append_right _ (List.mem_append_right _ (List.mem_append_right _ (List.mem_append_right _ (List.mem_append_right _ (h))))))
set_option maxRecDepth 20000 in
theorem k_ii_L : Cond.initialized RL ∈ lw_g := lg_in (tb_1 _ (List.mem_of_getElem? (i := 0) rfl)) rfl
set_option maxRecDepth 20000 in
theorem k_ii_X10 : Cond.initialized RX10 ∈ lw_g := lg_in (tb_1 _ (List.mem_of_getElem? (i := 1) rfl)) rfl
set_option maxRecDepth 20000 in
theorem k_ii_X9 : Cond.initialized RX9 ∈ lw_g := lg_in (tb_1 _ (List.mem_of_getElem? (i := 2) rfl)) rfl
set_option maxRecDepth 20000 in
theorem k_ii_X6 : Cond.initialized RX6 ∈ lw_g := lg_in (tb_1 _ (List.mem_of_getElem? (i := 3) rfl)) rfl
set_option maxRecDepth 20000 in
theorem k_ii_J9 : Cond.initialized RJ9 ∈ lw_g := lg_in (tb_1 _ (List.mem_of_getElem? (i := 4) rfl)) rfl
set_option maxRecDepth 20000 in
theorem k_ii_X3 : Cond.initialized RX3 ∈ lw_g := lg_in (tb_1 _ (List.mem_of_getElem? (i := 5) rfl)) rfl
set_option maxRecDepth 20000 in
theorem k_ii_X5 : Cond.initialized RX5 ∈ lw_g := lg_in (tb_1 _ (List.mem_of_getElem? (i := 6) rfl)) rfl
set_option maxRecDepth 20000 in
theorem k_ii_X8 : Cond.initialized RX8 ∈ lw_g := lg_in (tb_1 _ (List.mem_of_getElem? (i := 7) rfl)) rfl
set_option maxRecDepth 20000 in
theorem k_ii_X7 : Cond.initialized RX7 ∈ lw_g := lg_in (tb_1 _ (List.mem_of_getElem? (i := 8) rfl)) rfl
set_option maxRecDepth 20000 in
theorem k_ii_X4 : Cond.initialized RX4 ∈ lw_g := lg_in (tb_1 _ (List.mem_of_getElem? (i := 9) rfl)) rfl
set_option maxRecDepth 20000 in
theorem k_ii_X1 : Cond.initialized RX1 ∈ lw_g := lg_in (tb_1 _ (List.mem_of_getElem? (i := 10) rfl)) rfl
set_option maxRecDepth 20000 in
theorem k_ii_X11 : Cond.initialized RX11 ∈ lw_g := lg_in (tb_1 _ (List.mem_of_getElem? (i := 11) rfl)) rfl
set_option maxRecDepth 20000 in
theorem k_ii_J7 : Cond.initialized RJ7 ∈ lw_g := lg_in (tb_1 _ (List.mem_of_getElem? (i := 12) rfl)) rfl
set_option maxRecDepth 20000 in
theorem k_ii_J0 : Cond.initialized RJ0 ∈ lw_g := lg_in (tb_1 _ (List.mem_of_getElem? (i := 13) rfl)) rfl
set_option maxRecDepth 20000 in
theorem k_ii_J1 : Cond.initialized RJ1 ∈ lw_g := lg_in (tb_1 _ (List.mem_of_getElem? (i := 14) rfl)) rfl
set_option maxRecDepth 20000 in
theorem k_ii_J3 : Cond.initialized RJ3 ∈ lw_g := lg_in (tb_1 _ (List.mem_of_getElem? (i := 15) rfl)) rfl
set_option maxRecDepth 20000 in
theorem k_ii_J2 : Cond.initialized RJ2 ∈ lw_g := lg_in (tb_1 _ (List.mem_of_getElem? (i := 16) rfl)) rfl
set_option maxRecDepth 20000 in
theorem k_ii_X2 : Cond.initialized RX2 ∈ lw_g := lg_in (tb_1 _ (List.mem_of_getElem? (i := 17) rfl)) rfl
set_option maxRecDepth 20000 in
theorem k_ii_J10 : Cond.initialized RJ10 ∈ lw_g := lg_in (tb_1 _ (List.mem_of_getElem? (i := 18) rfl)) rfl
set_option maxRecDepth 20000 in
theorem k_ii_J6 : Cond.initialized RJ6 ∈ lw_g := lg_in (tb_1 _ (List.mem_of_getElem? (i := 19) rfl)) rfl
set_option maxRecDepth 20000 in
theorem k_ii_X0 : Cond.initialized RX0 ∈ lw_g := lg_in (tb_1 _ (List.mem_of_getElem? (i := 20) rfl)) rfl
set_option maxRecDepth 20000 in
theorem k_cl_L_7 : Cond.classLink RL 7 RX10 ∈ lw_g := lg_in (tb_1 _ (List.mem_of_getElem? (i := 21) rfl)) rfl
set_option maxRecDepth 20000 in
theorem k_it_X10 : Cond.instantiable RX10 14 ∈ lw_g := lg_in (tb_1 _ (List.mem_of_getElem? (i := 22) rfl)) rfl
set_option maxRecDepth 20000 in
theorem k_ml_L_9 : Cond.methodLink RL 9 yX10_init ∈ lw_g := lg_in (tb_1 _ (List.mem_of_getElem? (i := 23) rfl)) rfl
set_option maxRecDepth 20000 in
theorem k_in_X10_init : Cond.instanceMethod yX10_init ∈ lw_g := lg_in (tb_1 _ (List.mem_of_getElem? (i := 24) rfl)) rfl
set_option maxRecDepth 20000 in
theorem k_co_X10_init : Cond.code yX10_init cX10_init 1 none ∈ lw_g := lg_in (tb_1 _ (List.mem_of_getElem? (i := 25) rfl)) rfl
set_option maxRecDepth 20000 in
theorem k_ml_X10_1 : Cond.methodLink RX10 1 objectInit ∈ lw_g := lg_in (tb_1 _ (List.mem_of_getElem? (i := 26) rfl)) rfl
set_option maxRecDepth 20000 in
theorem k_in_objectInit : Cond.instanceMethod objectInit ∈ lw_g := lg_in (tb_1 _ (List.mem_of_getElem? (i := 27) rfl)) rfl
set_option maxRecDepth 20000 in
theorem k_co_objectInit : Cond.code objectInit ⟨#[0xb1]⟩ 1 none ∈ lw_g := lg_in (tb_1 _ (List.mem_of_getElem? (i := 28) rfl)) rfl
set_option maxRecDepth 20000 in
theorem k_cl_X10_7 : Cond.classLink RX10 7 RX9 ∈ lw_g := lg_in (tb_1 _ (List.mem_of_getElem? (i := 29) rfl)) rfl
set_option maxRecDepth 20000 in
theorem k_it_X9 : Cond.instantiable RX9 8 ∈ lw_g := lg_in (tb_1 _ (List.mem_of_getElem? (i := 30) rfl)) rfl
set_option maxRecDepth 20000 in
theorem k_ml_X10_9 : Cond.methodLink RX10 9 yX9_init ∈ lw_g := lg_in (tb_1 _ (List.mem_of_getElem? (i := 31) rfl)) rfl
set_option maxRecDepth 20000 in
theorem k_in_X9_init : Cond.instanceMethod yX9_init ∈ lw_g := lg_in (tb_1 _ (List.mem_of_getElem? (i := 32) rfl)) rfl
set_option maxRecDepth 20000 in
theorem k_co_X9_init : Cond.code yX9_init cX9_init 1 none ∈ lw_g := lg_in (tb_1 _ (List.mem_of_getElem? (i := 33) rfl)) rfl
set_option maxRecDepth 20000 in
theorem k_ml_X9_3 : Cond.methodLink RX9 3 objectInit ∈ lw_g := lg_in (tb_1 _ (List.mem_of_getElem? (i := 34) rfl)) rfl
set_option maxRecDepth 20000 in
theorem k_cl_X9_22 : Cond.classLink RX9 22 RX6 ∈ lw_g := lg_in (tb_1 _ (List.mem_of_getElem? (i := 35) rfl)) rfl
set_option maxRecDepth 20000 in
theorem k_it_X6 : Cond.instantiable RX6 4 ∈ lw_g := lg_in (tb_1 _ (List.mem_of_getElem? (i := 36) rfl)) rfl
set_option maxRecDepth 20000 in
theorem k_ml_X9_24 : Cond.methodLink RX9 24 yX6_init ∈ lw_g := lg_in (tb_1 _ (List.mem_of_getElem? (i := 37) rfl)) rfl
set_option maxRecDepth 20000 in
theorem k_in_X6_init : Cond.instanceMethod yX6_init ∈ lw_g := lg_in (tb_1 _ (List.mem_of_getElem? (i := 38) rfl)) rfl
set_option maxRecDepth 20000 in
theorem k_co_X6_init : Cond.code yX6_init cX6_init 3 none ∈ lw_g := lg_in (tb_1 _ (List.mem_of_getElem? (i := 39) rfl)) rfl
set_option maxRecDepth 20000 in
theorem k_ml_X6_1 : Cond.methodLink RX6 1 objectInit ∈ lw_g := lg_in (tb_1 _ (List.mem_of_getElem? (i := 40) rfl)) rfl
set_option maxRecDepth 20000 in
theorem k_ml_X6_13 : Cond.methodLink RX6 13 Lib.Math.max.name ∈ lw_g := lg_in (tb_1 _ (List.mem_of_getElem? (i := 41) rfl)) rfl
set_option maxRecDepth 20000 in
theorem k_st_Math_max : Cond.static Lib.Math.max.name ∈ lw_g := lg_in (tb_1 _ (List.mem_of_getElem? (i := 42) rfl)) rfl
set_option maxRecDepth 20000 in
theorem k_co_Math_max : Cond.code Lib.Math.max.name Lib.Math.max.code 2 (some .int) ∈ lw_g := lg_in (tb_1 _ (List.mem_of_getElem? (i := 43) rfl)) rfl
set_option maxRecDepth 20000 in
theorem k_fl_X6_19 : Cond.fieldLink RX6 19 "TruthOver$Rows" "most" "I" ∈ lw_g := lg_in (tb_1 _ (List.mem_of_getElem? (i := 44) rfl)) rfl
set_option maxRecDepth 20000 in
theorem k_fl_X6_22 : Cond.fieldLink RX6 22 "TruthOver$Rows" "width" "I" ∈ lw_g := lg_in (tb_1 _ (List.mem_of_getElem? (i := 45) rfl)) rfl
set_option maxRecDepth 20000 in
theorem k_fl_X6_25 : Cond.fieldLink RX6 25 "TruthOver$Rows" "cells" "[I" ∈ lw_g := lg_in (tb_1 _ (List.mem_of_getElem? (i := 46) rfl)) rfl
set_option maxRecDepth 20000 in
theorem k_fl_X6_7 : Cond.fieldLink RX6 7 "TruthOver$Rows" "size" "I" ∈ lw_g := lg_in (tb_1 _ (List.mem_of_getElem? (i := 47) rfl)) rfl
set_option maxRecDepth 20000 in
theorem k_ac_int : Cond.arrayClass .int ∈ lw_g := lg_in (tb_1 _ (List.mem_of_getElem? (i := 57) rfl)) rfl
set_option maxRecDepth 20000 in
theorem k_cl_X9_40 : Cond.classLink RX9 40 RX3 ∈ lw_g := lg_in (tb_1 _ (List.mem_of_getElem? (i := 58) rfl)) rfl
set_option maxRecDepth 20000 in
theorem k_it_X3 : Cond.instantiable RX3 2 ∈ lw_g := lg_in (tb_1 _ (List.mem_of_getElem? (i := 59) rfl)) rfl
set_option maxRecDepth 20000 in
theorem k_in_X3_init : Cond.instanceMethod yX3_init ∈ lw_g := lg_in (tb_1 _ (List.mem_of_getElem? (i := 61) rfl)) rfl
set_option maxRecDepth 20000 in
theorem k_co_X3_init : Cond.code yX3_init cX3_init 1 none ∈ lw_g := lg_in (tb_1 _ (List.mem_of_getElem? (i := 62) rfl)) rfl
set_option maxRecDepth 20000 in
theorem k_ml_X3_3 : Cond.methodLink RX3 3 objectInit ∈ lw_g := lg_in (tb_1 _ (List.mem_of_getElem? (i := 63) rfl)) rfl
set_option maxRecDepth 20000 in
theorem k_fl_X3_11 : Cond.fieldLink RX3 11 "TruthOver$Past" "cells" "[I" ∈ lw_g := lg_in (tb_1 _ (List.mem_of_getElem? (i := 64) rfl)) rfl
set_option maxRecDepth 20000 in
theorem k_fl_X3_15 : Cond.fieldLink RX3 15 "TruthOver$Past" "size" "I" ∈ lw_g := lg_in (tb_1 _ (List.mem_of_getElem? (i := 65) rfl)) rfl
set_option maxRecDepth 20000 in
theorem k_fl_X9_9 : Cond.fieldLink RX9 9 "TruthOver$Valley" "wide" "I" ∈ lw_g := lg_in (tb_1 _ (List.mem_of_getElem? (i := 71) rfl)) rfl
set_option maxRecDepth 20000 in
theorem k_fl_X9_15 : Cond.fieldLink RX9 15 "TruthOver$Valley" "winds" "[I" ∈ lw_g := lg_in (tb_1 _ (List.mem_of_getElem? (i := 73) rfl)) rfl
set_option maxRecDepth 20000 in
theorem k_fl_X9_19 : Cond.fieldLink RX9 19 "TruthOver$Valley" "cock" "[I" ∈ lw_g := lg_in (tb_1 _ (List.mem_of_getElem? (i := 76) rfl)) rfl
set_option maxRecDepth 20000 in
theorem k_fl_X9_27 : Cond.fieldLink RX9 27 "TruthOver$Valley" "players" "LTruthOver$Rows;" ∈ lw_g := lg_in (tb_1 _ (List.mem_of_getElem? (i := 79) rfl)) rfl
set_option maxRecDepth 20000 in
theorem k_fl_X9_31 : Cond.fieldLink RX9 31 "TruthOver$Valley" "seen" "LTruthOver$Rows;" ∈ lw_g := lg_in (tb_1 _ (List.mem_of_getElem? (i := 83) rfl)) rfl
set_option maxRecDepth 20000 in
theorem k_fl_X9_34 : Cond.fieldLink RX9 34 "TruthOver$Valley" "notes" "LTruthOver$Rows;" ∈ lw_g := lg_in (tb_1 _ (List.mem_of_getElem? (i := 86) rfl)) rfl
set_option maxRecDepth 20000 in
theorem k_fl_X9_37 : Cond.fieldLink RX9 37 "TruthOver$Valley" "marks" "LTruthOver$Rows;" ∈ lw_g := lg_in (tb_1 _ (List.mem_of_getElem? (i := 89) rfl)) rfl
set_option maxRecDepth 20000 in
theorem k_fl_X9_43 : Cond.fieldLink RX9 43 "TruthOver$Valley" "past" "LTruthOver$Past;" ∈ lw_g := lg_in (tb_1 _ (List.mem_of_getElem? (i := 92) rfl)) rfl
set_option maxRecDepth 20000 in
theorem k_cl_X10_29 : Cond.classLink RX10 29 RX5 ∈ lw_g := lg_in (tb_1 _ (List.mem_of_getElem? (i := 111) rfl)) rfl
set_option maxRecDepth 20000 in
theorem k_it_X5 : Cond.instantiable RX5 3 ∈ lw_g := lg_in (tb_1 _ (List.mem_of_getElem? (i := 112) rfl)) rfl
set_option maxRecDepth 20000 in
theorem k_in_X5_init : Cond.instanceMethod yX5_init ∈ lw_g := lg_in (tb_1 _ (List.mem_of_getElem? (i := 114) rfl)) rfl
set_option maxRecDepth 20000 in
theorem k_co_X5_init : Cond.code yX5_init cX5_init 1 none ∈ lw_g := lg_in (tb_1 _ (List.mem_of_getElem? (i := 115) rfl)) rfl
set_option maxRecDepth 20000 in
theorem k_ml_X5_1 : Cond.methodLink RX5 1 objectInit ∈ lw_g := lg_in (tb_1 _ (List.mem_of_getElem? (i := 116) rfl)) rfl
set_option maxRecDepth 20000 in
theorem k_cl_X5_7 : Cond.classLink RX5 7 RX8 ∈ lw_g := lg_in (tb_1 _ (List.mem_of_getElem? (i := 117) rfl)) rfl
set_option maxRecDepth 20000 in
theorem k_it_X8 : Cond.instantiable RX8 5 ∈ lw_g := lg_in (tb_1 _ (List.mem_of_getElem? (i := 118) rfl)) rfl
set_option maxRecDepth 20000 in
theorem k_in_X8_init : Cond.instanceMethod yX8_init ∈ lw_g := lg_in (tb_1 _ (List.mem_of_getElem? (i := 120) rfl)) rfl
set_option maxRecDepth 20000 in
theorem k_co_X8_init : Cond.code yX8_init cX8_init 1 none ∈ lw_g := lg_in (tb_1 _ (List.mem_of_getElem? (i := 121) rfl)) rfl
set_option maxRecDepth 20000 in
theorem k_ml_X8_3 : Cond.methodLink RX8 3 objectInit ∈ lw_g := lg_in (tb_1 _ (List.mem_of_getElem? (i := 122) rfl)) rfl
set_option maxRecDepth 20000 in
theorem k_fl_X8_11 : Cond.fieldLink RX8 11 "TruthOver$Text" "bytes" "[I" ∈ lw_g := lg_in (tb_1 _ (List.mem_of_getElem? (i := 123) rfl)) rfl
set_option maxRecDepth 20000 in
theorem k_fl_X8_15 : Cond.fieldLink RX8 15 "TruthOver$Text" "size" "I" ∈ lw_g := lg_in (tb_1 _ (List.mem_of_getElem? (i := 124) rfl)) rfl
set_option maxRecDepth 20000 in
theorem k_fl_X8_19 : Cond.fieldLink RX8 19 "TruthOver$Text" "token" "I" ∈ lw_g := lg_in (tb_1 _ (List.mem_of_getElem? (i := 125) rfl)) rfl
set_option maxRecDepth 20000 in
theorem k_fl_X8_22 : Cond.fieldLink RX8 22 "TruthOver$Text" "start" "I" ∈ lw_g := lg_in (tb_1 _ (List.mem_of_getElem? (i := 126) rfl)) rfl
set_option maxRecDepth 20000 in
theorem k_fl_X8_25 : Cond.fieldLink RX8 25 "TruthOver$Text" "end" "I" ∈ lw_g := lg_in (tb_1 _ (List.mem_of_getElem? (i := 127) rfl)) rfl
set_option maxRecDepth 20000 in
theorem k_cl_X5_16 : Cond.classLink RX5 16 RX9 ∈ lw_g := lg_in (tb_1 _ (List.mem_of_getElem? (i := 139) rfl)) rfl
set_option maxRecDepth 20000 in
theorem k_ml_X5_18 : Cond.methodLink RX5 18 yX9_init ∈ lw_g := lg_in (tb_1 _ (List.mem_of_getElem? (i := 140) rfl)) rfl
set_option maxRecDepth 20000 in
theorem k_fl_X5_10 : Cond.fieldLink RX5 10 "TruthOver$Reader" "text" "LTruthOver$Text;" ∈ lw_g := lg_in (tb_1 _ (List.mem_of_getElem? (i := 141) rfl)) rfl
set_option maxRecDepth 20000 in
theorem k_fl_X5_19 : Cond.fieldLink RX5 19 "TruthOver$Reader" "draft" "LTruthOver$Valley;" ∈ lw_g := lg_in (tb_1 _ (List.mem_of_getElem? (i := 143) rfl)) rfl
set_option maxRecDepth 20000 in
theorem k_fl_X5_23 : Cond.fieldLink RX5 23 "TruthOver$Reader" "taken" "I" ∈ lw_g := lg_in (tb_1 _ (List.mem_of_getElem? (i := 145) rfl)) rfl
set_option maxRecDepth 20000 in
theorem k_cl_X10_36 : Cond.classLink RX10 36 RX7 ∈ lw_g := lg_in (tb_1 _ (List.mem_of_getElem? (i := 153) rfl)) rfl
set_option maxRecDepth 20000 in
theorem k_it_X7 : Cond.instantiable RX7 2 ∈ lw_g := lg_in (tb_1 _ (List.mem_of_getElem? (i := 154) rfl)) rfl
set_option maxRecDepth 20000 in
theorem k_in_X7_init : Cond.instanceMethod yX7_init ∈ lw_g := lg_in (tb_1 _ (List.mem_of_getElem? (i := 156) rfl)) rfl
set_option maxRecDepth 20000 in
theorem k_co_X7_init : Cond.code yX7_init cX7_init 1 none ∈ lw_g := lg_in (tb_1 _ (List.mem_of_getElem? (i := 157) rfl)) rfl
set_option maxRecDepth 20000 in
theorem k_ml_X7_1 : Cond.methodLink RX7 1 objectInit ∈ lw_g := lg_in (tb_1 _ (List.mem_of_getElem? (i := 158) rfl)) rfl
set_option maxRecDepth 20000 in
theorem k_fl_X7_9 : Cond.fieldLink RX7 9 "TruthOver$Standing" "carriers" "[I" ∈ lw_g := lg_in (tb_1 _ (List.mem_of_getElem? (i := 159) rfl)) rfl
set_option maxRecDepth 20000 in
theorem k_fl_X7_13 : Cond.fieldLink RX7 13 "TruthOver$Standing" "firstHill" "I" ∈ lw_g := lg_in (tb_1 _ (List.mem_of_getElem? (i := 160) rfl)) rfl
set_option maxRecDepth 20000 in
theorem k_cl_X10_43 : Cond.classLink RX10 43 RX4 ∈ lw_g := lg_in (tb_1 _ (List.mem_of_getElem? (i := 166) rfl)) rfl
set_option maxRecDepth 20000 in
theorem k_it_X4 : Cond.instantiable RX4 5 ∈ lw_g := lg_in (tb_1 _ (List.mem_of_getElem? (i := 167) rfl)) rfl
set_option maxRecDepth 20000 in
theorem k_in_X4_init : Cond.instanceMethod yX4_init ∈ lw_g := lg_in (tb_1 _ (List.mem_of_getElem? (i := 169) rfl)) rfl
set_option maxRecDepth 20000 in
theorem k_co_X4_init : Cond.code yX4_init cX4_init 1 none ∈ lw_g := lg_in (tb_1 _ (List.mem_of_getElem? (i := 170) rfl)) rfl
set_option maxRecDepth 20000 in
theorem k_ml_X4_5 : Cond.methodLink RX4 5 objectInit ∈ lw_g := lg_in (tb_1 _ (List.mem_of_getElem? (i := 171) rfl)) rfl
set_option maxRecDepth 20000 in
theorem k_fl_X4_11 : Cond.fieldLink RX4 11 "TruthOver$Rally" "carriers" "[I" ∈ lw_g := lg_in (tb_1 _ (List.mem_of_getElem? (i := 172) rfl)) rfl
set_option maxRecDepth 20000 in
theorem k_fl_X4_15 : Cond.fieldLink RX4 15 "TruthOver$Rally" "reached" "[I" ∈ lw_g := lg_in (tb_1 _ (List.mem_of_getElem? (i := 173) rfl)) rfl
set_option maxRecDepth 20000 in
theorem k_fl_X4_18 : Cond.fieldLink RX4 18 "TruthOver$Rally" "finishing" "[I" ∈ lw_g := lg_in (tb_1 _ (List.mem_of_getElem? (i := 174) rfl)) rfl
set_option maxRecDepth 20000 in
theorem k_fl_X4_21 : Cond.fieldLink RX4 21 "TruthOver$Rally" "told" "I" ∈ lw_g := lg_in (tb_1 _ (List.mem_of_getElem? (i := 175) rfl)) rfl
set_option maxRecDepth 20000 in
theorem k_fl_X4_25 : Cond.fieldLink RX4 25 "TruthOver$Rally" "first" "I" ∈ lw_g := lg_in (tb_1 _ (List.mem_of_getElem? (i := 176) rfl)) rfl
set_option maxRecDepth 20000 in
theorem k_cl_X10_50 : Cond.classLink RX10 50 RX1 ∈ lw_g := lg_in (tb_1 _ (List.mem_of_getElem? (i := 188) rfl)) rfl
set_option maxRecDepth 20000 in
theorem k_it_X1 : Cond.instantiable RX1 1 ∈ lw_g := lg_in (tb_1 _ (List.mem_of_getElem? (i := 189) rfl)) rfl
set_option maxRecDepth 20000 in
theorem k_in_X1_init : Cond.instanceMethod yX1_init ∈ lw_g := lg_in (tb_1 _ (List.mem_of_getElem? (i := 191) rfl)) rfl
set_option maxRecDepth 20000 in
theorem k_co_X1_init : Cond.code yX1_init cX1_init 1 none ∈ lw_g := lg_in (tb_1 _ (List.mem_of_getElem? (i := 192) rfl)) rfl
set_option maxRecDepth 20000 in
theorem k_ml_X1_3 : Cond.methodLink RX1 3 objectInit ∈ lw_g := lg_in (tb_1 _ (List.mem_of_getElem? (i := 193) rfl)) rfl
set_option maxRecDepth 20000 in
theorem k_fl_X1_11 : Cond.fieldLink RX1 11 "TruthOver$Guess" "measures" "[I" ∈ lw_g := lg_in (tb_1 _ (List.mem_of_getElem? (i := 194) rfl)) rfl
set_option maxRecDepth 20000 in
theorem k_fl_X10_10 : Cond.fieldLink RX10 10 "TruthOver" "live" "LTruthOver$Valley;" ∈ lw_g := lg_in (tb_1 _ (List.mem_of_getElem? (i := 198) rfl)) rfl
set_option maxRecDepth 20000 in
theorem k_fl_X10_16 : Cond.fieldLink RX10 16 "TruthOver" "firstImage" "LTruthOver$Valley;" ∈ lw_g := lg_in (tb_1 _ (List.mem_of_getElem? (i := 199) rfl)) rfl
set_option maxRecDepth 20000 in
theorem k_fl_X10_19 : Cond.fieldLink RX10 19 "TruthOver" "secondImage" "LTruthOver$Valley;" ∈ lw_g := lg_in (tb_1 _ (List.mem_of_getElem? (i := 200) rfl)) rfl
set_option maxRecDepth 20000 in
theorem k_fl_X10_22 : Cond.fieldLink RX10 22 "TruthOver" "firstKept" "Z" ∈ lw_g := lg_in (tb_1 _ (List.mem_of_getElem? (i := 201) rfl)) rfl
set_option maxRecDepth 20000 in
theorem k_fl_X10_26 : Cond.fieldLink RX10 26 "TruthOver" "secondKept" "Z" ∈ lw_g := lg_in (tb_1 _ (List.mem_of_getElem? (i := 202) rfl)) rfl
set_option maxRecDepth 20000 in
theorem k_fl_X10_32 : Cond.fieldLink RX10 32 "TruthOver" "reader" "LTruthOver$Reader;" ∈ lw_g := lg_in (tb_1 _ (List.mem_of_getElem? (i := 203) rfl)) rfl
set_option maxRecDepth 20000 in
theorem k_fl_X10_39 : Cond.fieldLink RX10 39 "TruthOver" "standing" "LTruthOver$Standing;" ∈ lw_g := lg_in (tb_1 _ (List.mem_of_getElem? (i := 204) rfl)) rfl
set_option maxRecDepth 20000 in
theorem k_fl_X10_46 : Cond.fieldLink RX10 46 "TruthOver" "rallies" "LTruthOver$Rally;" ∈ lw_g := lg_in (tb_1 _ (List.mem_of_getElem? (i := 205) rfl)) rfl
set_option maxRecDepth 20000 in
theorem k_fl_X10_53 : Cond.fieldLink RX10 53 "TruthOver" "guess" "LTruthOver$Guess;" ∈ lw_g := lg_in (tb_1 _ (List.mem_of_getElem? (i := 206) rfl)) rfl
set_option maxRecDepth 20000 in
theorem k_fl_X10_57 : Cond.fieldLink RX10 57 "TruthOver" "above" "I" ∈ lw_g := lg_in (tb_1 _ (List.mem_of_getElem? (i := 207) rfl)) rfl
set_option maxRecDepth 20000 in
theorem k_fl_X10_61 : Cond.fieldLink RX10 61 "TruthOver" "below" "I" ∈ lw_g := lg_in (tb_1 _ (List.mem_of_getElem? (i := 208) rfl)) rfl
set_option maxRecDepth 20000 in
theorem k_fl_X10_64 : Cond.fieldLink RX10 64 "TruthOver" "bads" "I" ∈ lw_g := lg_in (tb_1 _ (List.mem_of_getElem? (i := 209) rfl)) rfl
set_option maxRecDepth 20000 in
theorem k_fl_X10_67 : Cond.fieldLink RX10 67 "TruthOver" "noes" "I" ∈ lw_g := lg_in (tb_1 _ (List.mem_of_getElem? (i := 210) rfl)) rfl
set_option maxRecDepth 20000 in
theorem k_fl_X10_70 : Cond.fieldLink RX10 70 "TruthOver" "fulls" "I" ∈ lw_g := lg_in (tb_1 _ (List.mem_of_getElem? (i := 211) rfl)) rfl
set_option maxRecDepth 20000 in
theorem k_ml_L_13 : Cond.methodLink RL 13 yX10_valley ∈ lw_g := lg_in (tb_2 _ (List.mem_of_getElem? (i := 1) rfl)) rfl
set_option maxRecDepth 20000 in
theorem k_in_X10_valley : Cond.instanceMethod yX10_valley ∈ lw_g := lg_in (tb_2 _ (List.mem_of_getElem? (i := 2) rfl)) rfl
set_option maxRecDepth 20000 in
theorem k_se_X10_X10_valley : Cond.selects RX10 yX10_valley yX10_valley ∈ lw_g := lg_in (tb_2 _ (List.mem_of_getElem? (i := 3) rfl)) rfl
set_option maxRecDepth 20000 in
theorem k_co_X10_valley : Cond.code yX10_valley cX10_valley 3 (some .int) ∈ lw_g := lg_in (tb_2 _ (List.mem_of_getElem? (i := 4) rfl)) rfl
set_option maxRecDepth 20000 in
theorem k_ml_X10_73 : Cond.methodLink RX10 73 yX10_isWithin ∈ lw_g := lg_in (tb_2 _ (List.mem_of_getElem? (i := 5) rfl)) rfl
set_option maxRecDepth 20000 in
theorem k_st_X10_isWithin : Cond.static yX10_isWithin ∈ lw_g := lg_in (tb_2 _ (List.mem_of_getElem? (i := 6) rfl)) rfl
set_option maxRecDepth 20000 in
theorem k_co_X10_isWithin : Cond.code yX10_isWithin cX10_isWithin 3 (some .boolean) ∈ lw_g := lg_in (tb_2 _ (List.mem_of_getElem? (i := 7) rfl)) rfl
set_option maxRecDepth 20000 in
theorem k_ml_X10_77 : Cond.methodLink RX10 77 yX10_refuseBad ∈ lw_g := lg_in (tb_2 _ (List.mem_of_getElem? (i := 8) rfl)) rfl
set_option maxRecDepth 20000 in
theorem k_in_X10_refuseBad : Cond.instanceMethod yX10_refuseBad ∈ lw_g := lg_in (tb_2 _ (List.mem_of_getElem? (i := 10) rfl)) rfl
set_option maxRecDepth 20000 in
theorem k_co_X10_refuseBad : Cond.code yX10_refuseBad cX10_refuseBad 2 (some .int) ∈ lw_g := lg_in (tb_2 _ (List.mem_of_getElem? (i := 11) rfl)) rfl
set_option maxRecDepth 20000 in
theorem k_ml_X10_85 : Cond.methodLink RX10 85 yX6_size ∈ lw_g := lg_in (tb_2 _ (List.mem_of_getElem? (i := 12) rfl)) rfl
set_option maxRecDepth 20000 in
theorem k_in_X6_size : Cond.instanceMethod yX6_size ∈ lw_g := lg_in (tb_2 _ (List.mem_of_getElem? (i := 13) rfl)) rfl
set_option maxRecDepth 20000 in
theorem k_se_X6_X6_size : Cond.selects RX6 yX6_size yX6_size ∈ lw_g := lg_in (tb_2 _ (List.mem_of_getElem? (i := 14) rfl)) rfl
set_option maxRecDepth 20000 in
theorem k_co_X6_size : Cond.code yX6_size cX6_size 1 (some .int) ∈ lw_g := lg_in (tb_2 _ (List.mem_of_getElem? (i := 15) rfl)) rfl
set_option maxRecDepth 20000 in
theorem k_ml_X10_91 : Cond.methodLink RX10 91 yX9_start ∈ lw_g := lg_in (tb_2 _ (List.mem_of_getElem? (i := 16) rfl)) rfl
set_option maxRecDepth 20000 in
theorem k_in_X9_start : Cond.instanceMethod yX9_start ∈ lw_g := lg_in (tb_2 _ (List.mem_of_getElem? (i := 17) rfl)) rfl
set_option maxRecDepth 20000 in
theorem k_se_X9_X9_start : Cond.selects RX9 yX9_start yX9_start ∈ lw_g := lg_in (tb_2 _ (List.mem_of_getElem? (i := 18) rfl)) rfl
set_option maxRecDepth 20000 in
theorem k_co_X9_start : Cond.code yX9_start cX9_start 2 none ∈ lw_g := lg_in (tb_2 _ (List.mem_of_getElem? (i := 19) rfl)) rfl
set_option maxRecDepth 20000 in
theorem k_ml_X9_47 : Cond.methodLink RX9 47 yJ7_fill_53178 ∈ lw_g := lg_in (tb_2 _ (List.mem_of_getElem? (i := 20) rfl)) rfl
set_option maxRecDepth 20000 in
theorem k_st_J7_fill_53178 : Cond.static yJ7_fill_53178 ∈ lw_g := lg_in (tb_2 _ (List.mem_of_getElem? (i := 21) rfl)) rfl
set_option maxRecDepth 20000 in
theorem k_co_J7_fill_53178 : Cond.code yJ7_fill_53178 cJ7_fill_53178 4 none ∈ lw_g := lg_in (tb_2 _ (List.mem_of_getElem? (i := 22) rfl)) rfl
set_option maxRecDepth 20000 in
theorem k_ml_X9_53 : Cond.methodLink RX9 53 yX6_empty ∈ lw_g := lg_in (tb_2 _ (List.mem_of_getElem? (i := 23) rfl)) rfl
set_option maxRecDepth 20000 in
theorem k_in_X6_empty : Cond.instanceMethod yX6_empty ∈ lw_g := lg_in (tb_2 _ (List.mem_of_getElem? (i := 24) rfl)) rfl
set_option maxRecDepth 20000 in
theorem k_se_X6_X6_empty : Cond.selects RX6 yX6_empty yX6_empty ∈ lw_g := lg_in (tb_2 _ (List.mem_of_getElem? (i := 25) rfl)) rfl
set_option maxRecDepth 20000 in
theorem k_co_X6_empty : Cond.code yX6_empty cX6_empty 2 (some .int) ∈ lw_g := lg_in (tb_2 _ (List.mem_of_getElem? (i := 26) rfl)) rfl
set_option maxRecDepth 20000 in
theorem k_ml_X9_57 : Cond.methodLink RX9 57 yX3_forgetAll ∈ lw_g := lg_in (tb_2 _ (List.mem_of_getElem? (i := 27) rfl)) rfl
set_option maxRecDepth 20000 in
theorem k_in_X3_forgetAll : Cond.instanceMethod yX3_forgetAll ∈ lw_g := lg_in (tb_2 _ (List.mem_of_getElem? (i := 28) rfl)) rfl
set_option maxRecDepth 20000 in
theorem k_se_X3_X3_forgetAll : Cond.selects RX3 yX3_forgetAll yX3_forgetAll ∈ lw_g := lg_in (tb_2 _ (List.mem_of_getElem? (i := 29) rfl)) rfl
set_option maxRecDepth 20000 in
theorem k_co_X3_forgetAll : Cond.code yX3_forgetAll cX3_forgetAll 1 none ∈ lw_g := lg_in (tb_2 _ (List.mem_of_getElem? (i := 30) rfl)) rfl
set_option maxRecDepth 20000 in
theorem k_ml_L_18 : Cond.methodLink RL 18 yX10_wind ∈ lw_g := lg_in (tb_2 _ (List.mem_of_getElem? (i := 31) rfl)) rfl
set_option maxRecDepth 20000 in
theorem k_in_X10_wind : Cond.instanceMethod yX10_wind ∈ lw_g := lg_in (tb_2 _ (List.mem_of_getElem? (i := 32) rfl)) rfl
set_option maxRecDepth 20000 in
theorem k_se_X10_X10_wind : Cond.selects RX10 yX10_wind yX10_wind ∈ lw_g := lg_in (tb_2 _ (List.mem_of_getElem? (i := 33) rfl)) rfl
set_option maxRecDepth 20000 in
theorem k_co_X10_wind : Cond.code yX10_wind cX10_wind 4 (some .int) ∈ lw_g := lg_in (tb_2 _ (List.mem_of_getElem? (i := 34) rfl)) rfl
set_option maxRecDepth 20000 in
theorem k_ml_X10_103 : Cond.methodLink RX10 103 yX3_forgetAll ∈ lw_g := lg_in (tb_2 _ (List.mem_of_getElem? (i := 35) rfl)) rfl
set_option maxRecDepth 20000 in
theorem k_ml_L_23 : Cond.methodLink RL 23 yX10_player ∈ lw_g := lg_in (tb_2 _ (List.mem_of_getElem? (i := 36) rfl)) rfl
set_option maxRecDepth 20000 in
theorem k_in_X10_player : Cond.instanceMethod yX10_player ∈ lw_g := lg_in (tb_2 _ (List.mem_of_getElem? (i := 37) rfl)) rfl
set_option maxRecDepth 20000 in
theorem k_se_X10_X10_player : Cond.selects RX10 yX10_player yX10_player ∈ lw_g := lg_in (tb_2 _ (List.mem_of_getElem? (i := 38) rfl)) rfl
set_option maxRecDepth 20000 in
theorem k_co_X10_player : Cond.code yX10_player cX10_player 4 (some .int) ∈ lw_g := lg_in (tb_2 _ (List.mem_of_getElem? (i := 39) rfl)) rfl
set_option maxRecDepth 20000 in
theorem k_ml_X10_108 : Cond.methodLink RX10 108 yX10_isKind ∈ lw_g := lg_in (tb_2 _ (List.mem_of_getElem? (i := 40) rfl)) rfl
set_option maxRecDepth 20000 in
theorem k_st_X10_isKind : Cond.static yX10_isKind ∈ lw_g := lg_in (tb_2 _ (List.mem_of_getElem? (i := 41) rfl)) rfl
set_option maxRecDepth 20000 in
theorem k_co_X10_isKind : Cond.code yX10_isKind cX10_isKind 1 (some .boolean) ∈ lw_g := lg_in (tb_2 _ (List.mem_of_getElem? (i := 42) rfl)) rfl
set_option maxRecDepth 20000 in
theorem k_ml_X10_112 : Cond.methodLink RX10 112 yX10_isHill ∈ lw_g := lg_in (tb_2 _ (List.mem_of_getElem? (i := 43) rfl)) rfl
set_option maxRecDepth 20000 in
theorem k_st_X10_isHill : Cond.static yX10_isHill ∈ lw_g := lg_in (tb_2 _ (List.mem_of_getElem? (i := 44) rfl)) rfl
set_option maxRecDepth 20000 in
theorem k_co_X10_isHill : Cond.code yX10_isHill cX10_isHill 1 (some .boolean) ∈ lw_g := lg_in (tb_2 _ (List.mem_of_getElem? (i := 45) rfl)) rfl
set_option maxRecDepth 20000 in
theorem k_ml_X10_115 : Cond.methodLink RX10 115 yX6_isFull ∈ lw_g := lg_in (tb_2 _ (List.mem_of_getElem? (i := 46) rfl)) rfl
set_option maxRecDepth 20000 in
theorem k_in_X6_isFull : Cond.instanceMethod yX6_isFull ∈ lw_g := lg_in (tb_2 _ (List.mem_of_getElem? (i := 47) rfl)) rfl
set_option maxRecDepth 20000 in
theorem k_se_X6_X6_isFull : Cond.selects RX6 yX6_isFull yX6_isFull ∈ lw_g := lg_in (tb_2 _ (List.mem_of_getElem? (i := 48) rfl)) rfl
set_option maxRecDepth 20000 in
theorem k_co_X6_isFull : Cond.code yX6_isFull cX6_isFull 1 (some .boolean) ∈ lw_g := lg_in (tb_2 _ (List.mem_of_getElem? (i := 49) rfl)) rfl
set_option maxRecDepth 20000 in
theorem k_ml_X10_119 : Cond.methodLink RX10 119 yX10_refuseFull ∈ lw_g := lg_in (tb_2 _ (List.mem_of_getElem? (i := 50) rfl)) rfl
set_option maxRecDepth 20000 in
theorem k_in_X10_refuseFull : Cond.instanceMethod yX10_refuseFull ∈ lw_g := lg_in (tb_2 _ (List.mem_of_getElem? (i := 52) rfl)) rfl
set_option maxRecDepth 20000 in
theorem k_co_X10_refuseFull : Cond.code yX10_refuseFull cX10_refuseFull 1 (some .int) ∈ lw_g := lg_in (tb_2 _ (List.mem_of_getElem? (i := 53) rfl)) rfl
set_option maxRecDepth 20000 in
theorem k_ml_X10_122 : Cond.methodLink RX10 122 yX6_add ∈ lw_g := lg_in (tb_2 _ (List.mem_of_getElem? (i := 54) rfl)) rfl
set_option maxRecDepth 20000 in
theorem k_in_X6_add : Cond.instanceMethod yX6_add ∈ lw_g := lg_in (tb_2 _ (List.mem_of_getElem? (i := 55) rfl)) rfl
set_option maxRecDepth 20000 in
theorem k_se_X6_X6_add : Cond.selects RX6 yX6_add yX6_add ∈ lw_g := lg_in (tb_2 _ (List.mem_of_getElem? (i := 56) rfl)) rfl
set_option maxRecDepth 20000 in
theorem k_co_X6_add : Cond.code yX6_add cX6_add 5 (some .int) ∈ lw_g := lg_in (tb_2 _ (List.mem_of_getElem? (i := 57) rfl)) rfl
set_option maxRecDepth 20000 in
theorem k_ml_X6_29 : Cond.methodLink RX6 29 yX6_isFull ∈ lw_g := lg_in (tb_2 _ (List.mem_of_getElem? (i := 58) rfl)) rfl
set_option maxRecDepth 20000 in
theorem k_ml_X6_33 : Cond.methodLink RX6 33 yX6_put ∈ lw_g := lg_in (tb_2 _ (List.mem_of_getElem? (i := 59) rfl)) rfl
set_option maxRecDepth 20000 in
theorem k_in_X6_put : Cond.instanceMethod yX6_put ∈ lw_g := lg_in (tb_2 _ (List.mem_of_getElem? (i := 61) rfl)) rfl
set_option maxRecDepth 20000 in
theorem k_co_X6_put : Cond.code yX6_put cX6_put 3 none ∈ lw_g := lg_in (tb_2 _ (List.mem_of_getElem? (i := 62) rfl)) rfl
set_option maxRecDepth 20000 in
theorem k_ml_L_28 : Cond.methodLink RL 28 yX10_type ∈ lw_g := lg_in (tb_2 _ (List.mem_of_getElem? (i := 63) rfl)) rfl
set_option maxRecDepth 20000 in
theorem k_in_X10_type : Cond.instanceMethod yX10_type ∈ lw_g := lg_in (tb_2 _ (List.mem_of_getElem? (i := 64) rfl)) rfl
set_option maxRecDepth 20000 in
theorem k_se_X10_X10_type : Cond.selects RX10 yX10_type yX10_type ∈ lw_g := lg_in (tb_2 _ (List.mem_of_getElem? (i := 65) rfl)) rfl
set_option maxRecDepth 20000 in
theorem k_co_X10_type : Cond.code yX10_type cX10_type 2 (some .int) ∈ lw_g := lg_in (tb_2 _ (List.mem_of_getElem? (i := 66) rfl)) rfl
set_option maxRecDepth 20000 in
theorem k_ml_X10_130 : Cond.methodLink RX10 130 yX8_isFull ∈ lw_g := lg_in (tb_2 _ (List.mem_of_getElem? (i := 67) rfl)) rfl
set_option maxRecDepth 20000 in
theorem k_in_X8_isFull : Cond.instanceMethod yX8_isFull ∈ lw_g := lg_in (tb_2 _ (List.mem_of_getElem? (i := 68) rfl)) rfl
set_option maxRecDepth 20000 in
theorem k_se_X8_X8_isFull : Cond.selects RX8 yX8_isFull yX8_isFull ∈ lw_g := lg_in (tb_2 _ (List.mem_of_getElem? (i := 69) rfl)) rfl
set_option maxRecDepth 20000 in
theorem k_co_X8_isFull : Cond.code yX8_isFull cX8_isFull 1 (some .boolean) ∈ lw_g := lg_in (tb_2 _ (List.mem_of_getElem? (i := 70) rfl)) rfl
set_option maxRecDepth 20000 in
theorem k_ml_X10_133 : Cond.methodLink RX10 133 yX8_append ∈ lw_g := lg_in (tb_2 _ (List.mem_of_getElem? (i := 71) rfl)) rfl
set_option maxRecDepth 20000 in
theorem k_in_X8_append : Cond.instanceMethod yX8_append ∈ lw_g := lg_in (tb_2 _ (List.mem_of_getElem? (i := 72) rfl)) rfl
set_option maxRecDepth 20000 in
theorem k_se_X8_X8_append : Cond.selects RX8 yX8_append yX8_append ∈ lw_g := lg_in (tb_2 _ (List.mem_of_getElem? (i := 73) rfl)) rfl
set_option maxRecDepth 20000 in
theorem k_co_X8_append : Cond.code yX8_append cX8_append 2 (some .int) ∈ lw_g := lg_in (tb_2 _ (List.mem_of_getElem? (i := 74) rfl)) rfl
set_option maxRecDepth 20000 in
theorem k_ml_X8_28 : Cond.methodLink RX8 28 yX8_isFull ∈ lw_g := lg_in (tb_2 _ (List.mem_of_getElem? (i := 75) rfl)) rfl
set_option maxRecDepth 20000 in
theorem k_ml_L_32 : Cond.methodLink RL 32 yX10_clear ∈ lw_g := lg_in (tb_2 _ (List.mem_of_getElem? (i := 76) rfl)) rfl
set_option maxRecDepth 20000 in
theorem k_in_X10_clear : Cond.instanceMethod yX10_clear ∈ lw_g := lg_in (tb_2 _ (List.mem_of_getElem? (i := 77) rfl)) rfl
set_option maxRecDepth 20000 in
theorem k_se_X10_X10_clear : Cond.selects RX10 yX10_clear yX10_clear ∈ lw_g := lg_in (tb_2 _ (List.mem_of_getElem? (i := 78) rfl)) rfl
set_option maxRecDepth 20000 in
theorem k_co_X10_clear : Cond.code yX10_clear cX10_clear 1 (some .int) ∈ lw_g := lg_in (tb_2 _ (List.mem_of_getElem? (i := 79) rfl)) rfl
set_option maxRecDepth 20000 in
theorem k_ml_X10_136 : Cond.methodLink RX10 136 yX8_empty ∈ lw_g := lg_in (tb_2 _ (List.mem_of_getElem? (i := 80) rfl)) rfl
set_option maxRecDepth 20000 in
theorem k_in_X8_empty : Cond.instanceMethod yX8_empty ∈ lw_g := lg_in (tb_2 _ (List.mem_of_getElem? (i := 81) rfl)) rfl
set_option maxRecDepth 20000 in
theorem k_se_X8_X8_empty : Cond.selects RX8 yX8_empty yX8_empty ∈ lw_g := lg_in (tb_2 _ (List.mem_of_getElem? (i := 82) rfl)) rfl
set_option maxRecDepth 20000 in
theorem k_co_X8_empty : Cond.code yX8_empty cX8_empty 2 (some .int) ∈ lw_g := lg_in (tb_2 _ (List.mem_of_getElem? (i := 83) rfl)) rfl
set_option maxRecDepth 20000 in
theorem k_ml_L_37 : Cond.methodLink RL 37 yX10_read ∈ lw_g := lg_in (tb_2 _ (List.mem_of_getElem? (i := 84) rfl)) rfl
set_option maxRecDepth 20000 in
theorem k_in_X10_read : Cond.instanceMethod yX10_read ∈ lw_g := lg_in (tb_2 _ (List.mem_of_getElem? (i := 85) rfl)) rfl
set_option maxRecDepth 20000 in
theorem k_se_X10_X10_read : Cond.selects RX10 yX10_read yX10_read ∈ lw_g := lg_in (tb_2 _ (List.mem_of_getElem? (i := 86) rfl)) rfl
set_option maxRecDepth 20000 in
theorem k_co_X10_read : Cond.code yX10_read cX10_read 2 (some .int) ∈ lw_g := lg_in (tb_2 _ (List.mem_of_getElem? (i := 87) rfl)) rfl
set_option maxRecDepth 20000 in
theorem k_ml_X10_139 : Cond.methodLink RX10 139 yX8_rewind ∈ lw_g := lg_in (tb_2 _ (List.mem_of_getElem? (i := 88) rfl)) rfl
set_option maxRecDepth 20000 in
theorem k_in_X8_rewind : Cond.instanceMethod yX8_rewind ∈ lw_g := lg_in (tb_2 _ (List.mem_of_getElem? (i := 89) rfl)) rfl
set_option maxRecDepth 20000 in
theorem k_se_X8_X8_rewind : Cond.selects RX8 yX8_rewind yX8_rewind ∈ lw_g := lg_in (tb_2 _ (List.mem_of_getElem? (i := 90) rfl)) rfl
set_option maxRecDepth 20000 in
theorem k_co_X8_rewind : Cond.code yX8_rewind cX8_rewind 1 none ∈ lw_g := lg_in (tb_2 _ (List.mem_of_getElem? (i := 91) rfl)) rfl
set_option maxRecDepth 20000 in
theorem k_ml_X8_32 : Cond.methodLink RX8 32 yX8_advance ∈ lw_g := lg_in (tb_2 _ (List.mem_of_getElem? (i := 92) rfl)) rfl
set_option maxRecDepth 20000 in
theorem k_in_X8_advance : Cond.instanceMethod yX8_advance ∈ lw_g := lg_in (tb_2 _ (List.mem_of_getElem? (i := 93) rfl)) rfl
set_option maxRecDepth 20000 in
theorem k_se_X8_X8_advance : Cond.selects RX8 yX8_advance yX8_advance ∈ lw_g := lg_in (tb_2 _ (List.mem_of_getElem? (i := 94) rfl)) rfl
set_option maxRecDepth 20000 in
theorem k_co_X8_advance : Cond.code yX8_advance cX8_advance 1 none ∈ lw_g := lg_in (tb_2 _ (List.mem_of_getElem? (i := 95) rfl)) rfl
set_option maxRecDepth 20000 in
theorem k_ml_X8_35 : Cond.methodLink RX8 35 yX8_isLetter ∈ lw_g := lg_in (tb_2 _ (List.mem_of_getElem? (i := 96) rfl)) rfl
set_option maxRecDepth 20000 in
theorem k_st_X8_isLetter : Cond.static yX8_isLetter ∈ lw_g := lg_in (tb_2 _ (List.mem_of_getElem? (i := 97) rfl)) rfl
set_option maxRecDepth 20000 in
theorem k_co_X8_isLetter : Cond.code yX8_isLetter cX8_isLetter 1 (some .boolean) ∈ lw_g := lg_in (tb_2 _ (List.mem_of_getElem? (i := 98) rfl)) rfl
set_option maxRecDepth 20000 in
theorem k_ml_X8_39 : Cond.methodLink RX8 39 yX8_isFigure ∈ lw_g := lg_in (tb_2 _ (List.mem_of_getElem? (i := 99) rfl)) rfl
set_option maxRecDepth 20000 in
theorem k_st_X8_isFigure : Cond.static yX8_isFigure ∈ lw_g := lg_in (tb_2 _ (List.mem_of_getElem? (i := 100) rfl)) rfl
set_option maxRecDepth 20000 in
theorem k_co_X8_isFigure : Cond.code yX8_isFigure cX8_isFigure 1 (some .boolean) ∈ lw_g := lg_in (tb_2 _ (List.mem_of_getElem? (i := 101) rfl)) rfl
set_option maxRecDepth 20000 in
theorem k_ml_X10_142 : Cond.methodLink RX10 142 yX5_readValley ∈ lw_g := lg_in (tb_2 _ (List.mem_of_getElem? (i := 102) rfl)) rfl
set_option maxRecDepth 20000 in
theorem k_in_X5_readValley : Cond.instanceMethod yX5_readValley ∈ lw_g := lg_in (tb_2 _ (List.mem_of_getElem? (i := 103) rfl)) rfl
set_option maxRecDepth 20000 in
theorem k_se_X5_X5_readValley : Cond.selects RX5 yX5_readValley yX5_readValley ∈ lw_g := lg_in (tb_2 _ (List.mem_of_getElem? (i := 104) rfl)) rfl
set_option maxRecDepth 20000 in
theorem k_co_X5_readValley : Cond.code yX5_readValley cX5_readValley 1 (some .boolean) ∈ lw_g := lg_in (tb_2 _ (List.mem_of_getElem? (i := 105) rfl)) rfl
set_option maxRecDepth 20000 in
theorem k_ml_X5_29 : Cond.methodLink RX5 29 yX8_isWord ∈ lw_g := lg_in (tb_2 _ (List.mem_of_getElem? (i := 107) rfl)) rfl
set_option maxRecDepth 20000 in
theorem k_in_X8_isWord : Cond.instanceMethod yX8_isWord ∈ lw_g := lg_in (tb_2 _ (List.mem_of_getElem? (i := 108) rfl)) rfl
set_option maxRecDepth 20000 in
theorem k_se_X8_X8_isWord : Cond.selects RX8 yX8_isWord yX8_isWord ∈ lw_g := lg_in (tb_2 _ (List.mem_of_getElem? (i := 109) rfl)) rfl
set_option maxRecDepth 20000 in
theorem k_co_X8_isWord : Cond.code yX8_isWord cX8_isWord 3 (some .boolean) ∈ lw_g := lg_in (tb_2 _ (List.mem_of_getElem? (i := 110) rfl)) rfl
set_option maxRecDepth 20000 in
theorem k_ml_X8_42 : Cond.methodLink RX8 42 yJ0_length_8abf5 ∈ lw_g := lg_in (tb_2 _ (List.mem_of_getElem? (i := 111) rfl)) rfl
set_option maxRecDepth 20000 in
theorem k_in_J0_length_8abf5 : Cond.instanceMethod yJ0_length_8abf5 ∈ lw_g := lg_in (tb_2 _ (List.mem_of_getElem? (i := 112) rfl)) rfl
set_option maxRecDepth 20000 in
theorem k_se_J0_J0_length_8abf5 : Cond.selects RJ0 yJ0_length_8abf5 yJ0_length_8abf5 ∈ lw_g := lg_in (tb_2 _ (List.mem_of_getElem? (i := 113) rfl)) rfl
set_option maxRecDepth 20000 in
theorem k_co_J0_length_8abf5 : Cond.code yJ0_length_8abf5 cJ0_length_8abf5 1 (some .int) ∈ lw_g := lg_in (tb_2 _ (List.mem_of_getElem? (i := 114) rfl)) rfl
set_option maxRecDepth 20000 in
theorem k_ml_J0_335 : Cond.methodLink RJ0 335 yJ0_coder_7d493 ∈ lw_g := lg_in (tb_2 _ (List.mem_of_getElem? (i := 115) rfl)) rfl
set_option maxRecDepth 20000 in
theorem k_in_J0_coder_7d493 : Cond.instanceMethod yJ0_coder_7d493 ∈ lw_g := lg_in (tb_2 _ (List.mem_of_getElem? (i := 116) rfl)) rfl
set_option maxRecDepth 20000 in
theorem k_se_J0_J0_coder_7d493 : Cond.selects RJ0 yJ0_coder_7d493 yJ0_coder_7d493 ∈ lw_g := lg_in (tb_2 _ (List.mem_of_getElem? (i := 117) rfl)) rfl
set_option maxRecDepth 20000 in
theorem k_co_J0_coder_7d493 : Cond.code yJ0_coder_7d493 cJ0_coder_7d493 1 (some .byte) ∈ lw_g := lg_in (tb_2 _ (List.mem_of_getElem? (i := 118) rfl)) rfl
set_option maxRecDepth 20000 in
theorem k_fl_J0_38 : Cond.fieldLink RJ0 38 "java/lang/String" "COMPACT_STRINGS" "Z" ∈ lw_g := lg_in (tb_2 _ (List.mem_of_getElem? (i := 119) rfl)) rfl
set_option maxRecDepth 20000 in
theorem k_ml_X8_48 : Cond.methodLink RX8 48 yJ0_charAt_5068e ∈ lw_g := lg_in (tb_2 _ (List.mem_of_getElem? (i := 121) rfl)) rfl
set_option maxRecDepth 20000 in
theorem k_in_J0_charAt_5068e : Cond.instanceMethod yJ0_charAt_5068e ∈ lw_g := lg_in (tb_2 _ (List.mem_of_getElem? (i := 122) rfl)) rfl
set_option maxRecDepth 20000 in
theorem k_se_J0_J0_charAt_5068e : Cond.selects RJ0 yJ0_charAt_5068e yJ0_charAt_5068e ∈ lw_g := lg_in (tb_2 _ (List.mem_of_getElem? (i := 123) rfl)) rfl
set_option maxRecDepth 20000 in
theorem k_co_J0_charAt_5068e : Cond.code yJ0_charAt_5068e cJ0_charAt_5068e 2 (some .char) ∈ lw_g := lg_in (tb_2 _ (List.mem_of_getElem? (i := 124) rfl)) rfl
set_option maxRecDepth 20000 in
theorem k_ml_J0_492 : Cond.methodLink RJ0 492 yJ0_isLatin1_aae02 ∈ lw_g := lg_in (tb_2 _ (List.mem_of_getElem? (i := 125) rfl)) rfl
set_option maxRecDepth 20000 in
theorem k_in_J0_isLatin1_aae02 : Cond.instanceMethod yJ0_isLatin1_aae02 ∈ lw_g := lg_in (tb_2 _ (List.mem_of_getElem? (i := 126) rfl)) rfl
set_option maxRecDepth 20000 in
theorem k_se_J0_J0_isLatin1_aae02 : Cond.selects RJ0 yJ0_isLatin1_aae02 yJ0_isLatin1_aae02 ∈ lw_g := lg_in (tb_2 _ (List.mem_of_getElem? (i := 127) rfl)) rfl
set_option maxRecDepth 20000 in
theorem k_co_J0_isLatin1_aae02 : Cond.code yJ0_isLatin1_aae02 cJ0_isLatin1_aae02 1 (some .boolean) ∈ lw_g := lg_in (tb_2 _ (List.mem_of_getElem? (i := 128) rfl)) rfl
set_option maxRecDepth 20000 in
theorem k_ml_J0_495 : Cond.methodLink RJ0 495 yJ1_charAt_3b067 ∈ lw_g := lg_in (tb_2 _ (List.mem_of_getElem? (i := 129) rfl)) rfl
set_option maxRecDepth 20000 in
theorem k_st_J1_charAt_3b067 : Cond.static yJ1_charAt_3b067 ∈ lw_g := lg_in (tb_2 _ (List.mem_of_getElem? (i := 130) rfl)) rfl
set_option maxRecDepth 20000 in
theorem k_co_J1_charAt_3b067 : Cond.code yJ1_charAt_3b067 cJ1_charAt_3b067 2 (some .char) ∈ lw_g := lg_in (tb_2 _ (List.mem_of_getElem? (i := 131) rfl)) rfl
set_option maxRecDepth 20000 in
theorem k_ml_J1_9 : Cond.methodLink RJ1 9 yJ0_checkIndex_df160 ∈ lw_g := lg_in (tb_2 _ (List.mem_of_getElem? (i := 132) rfl)) rfl
set_option maxRecDepth 20000 in
theorem k_st_J0_checkIndex_df160 : Cond.static yJ0_checkIndex_df160 ∈ lw_g := lg_in (tb_2 _ (List.mem_of_getElem? (i := 133) rfl)) rfl
set_option maxRecDepth 20000 in
theorem k_co_J0_checkIndex_df160 : Cond.code yJ0_checkIndex_df160 cJ0_checkIndex_df160 2 none ∈ lw_g := lg_in (tb_2 _ (List.mem_of_getElem? (i := 134) rfl)) rfl
set_option maxRecDepth 20000 in
theorem k_fl_J0_1053 : Cond.fieldLink RJ0 1053 "jdk/internal/util/Preconditions" "SIOOBE_FORMATTER" "Ljava/util/function/BiFunction;" ∈ lw_g := lg_in (tb_2 _ (List.mem_of_getElem? (i := 135) rfl)) rfl
set_option maxRecDepth 20000 in
theorem k_ml_J0_1059 : Cond.methodLink RJ0 1059 yJ3_checkIndex_8e157 ∈ lw_g := lg_in (tb_2 _ (List.mem_of_getElem? (i := 137) rfl)) rfl
set_option maxRecDepth 20000 in
theorem k_st_J3_checkIndex_8e157 : Cond.static yJ3_checkIndex_8e157 ∈ lw_g := lg_in (tb_2 _ (List.mem_of_getElem? (i := 138) rfl)) rfl
set_option maxRecDepth 20000 in
theorem k_co_J3_checkIndex_8e157 : Cond.code yJ3_checkIndex_8e157 cJ3_checkIndex_8e157 3 (some .int) ∈ lw_g := lg_in (tb_2 _ (List.mem_of_getElem? (i := 139) rfl)) rfl
set_option maxRecDepth 20000 in
theorem k_ml_J0_498 : Cond.methodLink RJ0 498 yJ2_charAt_3b067 ∈ lw_g := lg_in (tb_2 _ (List.mem_of_getElem? (i := 140) rfl)) rfl
set_option maxRecDepth 20000 in
theorem k_st_J2_charAt_3b067 : Cond.static yJ2_charAt_3b067 ∈ lw_g := lg_in (tb_2 _ (List.mem_of_getElem? (i := 141) rfl)) rfl
set_option maxRecDepth 20000 in
theorem k_co_J2_charAt_3b067 : Cond.code yJ2_charAt_3b067 cJ2_charAt_3b067 2 (some .char) ∈ lw_g := lg_in (tb_2 _ (List.mem_of_getElem? (i := 142) rfl)) rfl
set_option maxRecDepth 20000 in
theorem k_ml_J2_67 : Cond.methodLink RJ2 67 yJ2_checkIndex_2214a ∈ lw_g := lg_in (tb_2 _ (List.mem_of_getElem? (i := 143) rfl)) rfl
set_option maxRecDepth 20000 in
theorem k_st_J2_checkIndex_2214a : Cond.static yJ2_checkIndex_2214a ∈ lw_g := lg_in (tb_2 _ (List.mem_of_getElem? (i := 144) rfl)) rfl
set_option maxRecDepth 20000 in
theorem k_co_J2_checkIndex_2214a : Cond.code yJ2_checkIndex_2214a cJ2_checkIndex_2214a 2 none ∈ lw_g := lg_in (tb_2 _ (List.mem_of_getElem? (i := 145) rfl)) rfl
set_option maxRecDepth 20000 in
theorem k_ml_J2_48 : Cond.methodLink RJ2 48 yJ2_length_9d52b ∈ lw_g := lg_in (tb_2 _ (List.mem_of_getElem? (i := 146) rfl)) rfl
set_option maxRecDepth 20000 in
theorem k_st_J2_length_9d52b : Cond.static yJ2_length_9d52b ∈ lw_g := lg_in (tb_2 _ (List.mem_of_getElem? (i := 147) rfl)) rfl
set_option maxRecDepth 20000 in
theorem k_co_J2_length_9d52b : Cond.code yJ2_length_9d52b cJ2_length_9d52b 1 (some .int) ∈ lw_g := lg_in (tb_2 _ (List.mem_of_getElem? (i := 148) rfl)) rfl
set_option maxRecDepth 20000 in
theorem k_ml_J2_414 : Cond.methodLink RJ2 414 yJ0_checkIndex_df160 ∈ lw_g := lg_in (tb_2 _ (List.mem_of_getElem? (i := 149) rfl)) rfl
set_option maxRecDepth 20000 in
theorem k_ml_J2_71 : Cond.methodLink RJ2 71 yJ2_getChar_3b067 ∈ lw_g := lg_in (tb_2 _ (List.mem_of_getElem? (i := 150) rfl)) rfl
set_option maxRecDepth 20000 in
theorem k_st_J2_getChar_3b067 : Cond.static yJ2_getChar_3b067 ∈ lw_g := lg_in (tb_2 _ (List.mem_of_getElem? (i := 151) rfl)) rfl
set_option maxRecDepth 20000 in
theorem k_co_J2_getChar_3b067 : Cond.code yJ2_getChar_3b067 cJ2_getChar_3b067 2 (some .char) ∈ lw_g := lg_in (tb_2 _ (List.mem_of_getElem? (i := 152) rfl)) rfl
set_option maxRecDepth 20000 in
theorem k_fl_J2_44 : Cond.fieldLink RJ2 44 "java/lang/StringUTF16" "$assertionsDisabled" "Z" ∈ lw_g := lg_in (tb_2 _ (List.mem_of_getElem? (i := 153) rfl)) rfl
set_option maxRecDepth 20000 in
theorem k_fl_J2_59 : Cond.fieldLink RJ2 59 "java/lang/StringUTF16" "HI_BYTE_SHIFT" "I" ∈ lw_g := lg_in (tb_2 _ (List.mem_of_getElem? (i := 155) rfl)) rfl
set_option maxRecDepth 20000 in
theorem k_fl_J2_63 : Cond.fieldLink RJ2 63 "java/lang/StringUTF16" "LO_BYTE_SHIFT" "I" ∈ lw_g := lg_in (tb_2 _ (List.mem_of_getElem? (i := 157) rfl)) rfl
set_option maxRecDepth 20000 in
theorem k_ml_X5_33 : Cond.methodLink RX5 33 yX8_advance ∈ lw_g := lg_in (tb_2 _ (List.mem_of_getElem? (i := 159) rfl)) rfl
set_option maxRecDepth 20000 in
theorem k_ml_X5_36 : Cond.methodLink RX5 36 yX5_takeNumber ∈ lw_g := lg_in (tb_2 _ (List.mem_of_getElem? (i := 160) rfl)) rfl
set_option maxRecDepth 20000 in
theorem k_in_X5_takeNumber : Cond.instanceMethod yX5_takeNumber ∈ lw_g := lg_in (tb_2 _ (List.mem_of_getElem? (i := 162) rfl)) rfl
set_option maxRecDepth 20000 in
theorem k_co_X5_takeNumber : Cond.code yX5_takeNumber cX5_takeNumber 4 (some .boolean) ∈ lw_g := lg_in (tb_2 _ (List.mem_of_getElem? (i := 163) rfl)) rfl
set_option maxRecDepth 20000 in
theorem k_ml_X5_101 : Cond.methodLink RX5 101 yX8_number ∈ lw_g := lg_in (tb_2 _ (List.mem_of_getElem? (i := 164) rfl)) rfl
set_option maxRecDepth 20000 in
theorem k_in_X8_number : Cond.instanceMethod yX8_number ∈ lw_g := lg_in (tb_2 _ (List.mem_of_getElem? (i := 165) rfl)) rfl
set_option maxRecDepth 20000 in
theorem k_se_X8_X8_number : Cond.selects RX8 yX8_number yX8_number ∈ lw_g := lg_in (tb_2 _ (List.mem_of_getElem? (i := 166) rfl)) rfl
set_option maxRecDepth 20000 in
theorem k_co_X8_number : Cond.code yX8_number cX8_number 3 (some .int) ∈ lw_g := lg_in (tb_2 _ (List.mem_of_getElem? (i := 167) rfl)) rfl
set_option maxRecDepth 20000 in
theorem k_ml_X5_40 : Cond.methodLink RX5 40 yX9_start ∈ lw_g := lg_in (tb_2 _ (List.mem_of_getElem? (i := 169) rfl)) rfl
set_option maxRecDepth 20000 in
theorem k_ml_X5_44 : Cond.methodLink RX5 44 yX5_takeStop ∈ lw_g := lg_in (tb_2 _ (List.mem_of_getElem? (i := 170) rfl)) rfl
set_option maxRecDepth 20000 in
theorem k_in_X5_takeStop : Cond.instanceMethod yX5_takeStop ∈ lw_g := lg_in (tb_2 _ (List.mem_of_getElem? (i := 172) rfl)) rfl
set_option maxRecDepth 20000 in
theorem k_co_X5_takeStop : Cond.code yX5_takeStop cX5_takeStop 1 (some .boolean) ∈ lw_g := lg_in (tb_2 _ (List.mem_of_getElem? (i := 173) rfl)) rfl
set_option maxRecDepth 20000 in
theorem k_ml_X5_128 : Cond.methodLink RX5 128 yX8_token ∈ lw_g := lg_in (tb_2 _ (List.mem_of_getElem? (i := 174) rfl)) rfl
set_option maxRecDepth 20000 in
theorem k_in_X8_token : Cond.instanceMethod yX8_token ∈ lw_g := lg_in (tb_2 _ (List.mem_of_getElem? (i := 175) rfl)) rfl
set_option maxRecDepth 20000 in
theorem k_se_X8_X8_token : Cond.selects RX8 yX8_token yX8_token ∈ lw_g := lg_in (tb_2 _ (List.mem_of_getElem? (i := 176) rfl)) rfl
set_option maxRecDepth 20000 in
theorem k_co_X8_token : Cond.code yX8_token cX8_token 1 (some .int) ∈ lw_g := lg_in (tb_2 _ (List.mem_of_getElem? (i := 177) rfl)) rfl
set_option maxRecDepth 20000 in
theorem k_ml_X10_145 : Cond.methodLink RX10 145 yX10_fault ∈ lw_g := lg_in (tb_2 _ (List.mem_of_getElem? (i := 178) rfl)) rfl
set_option maxRecDepth 20000 in
theorem k_in_X10_fault : Cond.instanceMethod yX10_fault ∈ lw_g := lg_in (tb_2 _ (List.mem_of_getElem? (i := 180) rfl)) rfl
set_option maxRecDepth 20000 in
theorem k_co_X10_fault : Cond.code yX10_fault cX10_fault 1 (some .int) ∈ lw_g := lg_in (tb_2 _ (List.mem_of_getElem? (i := 181) rfl)) rfl
set_option maxRecDepth 20000 in
theorem k_ml_X10_324 : Cond.methodLink RX10 324 yX8_tokenStart ∈ lw_g := lg_in (tb_2 _ (List.mem_of_getElem? (i := 182) rfl)) rfl
set_option maxRecDepth 20000 in
theorem k_in_X8_tokenStart : Cond.instanceMethod yX8_tokenStart ∈ lw_g := lg_in (tb_2 _ (List.mem_of_getElem? (i := 183) rfl)) rfl
set_option maxRecDepth 20000 in
theorem k_se_X8_X8_tokenStart : Cond.selects RX8 yX8_tokenStart yX8_tokenStart ∈ lw_g := lg_in (tb_2 _ (List.mem_of_getElem? (i := 184) rfl)) rfl
set_option maxRecDepth 20000 in
theorem k_co_X8_tokenStart : Cond.code yX8_tokenStart cX8_tokenStart 1 (some .int) ∈ lw_g := lg_in (tb_2 _ (List.mem_of_getElem? (i := 185) rfl)) rfl
set_option maxRecDepth 20000 in
theorem k_ml_X10_148 : Cond.methodLink RX10 148 yX8_token ∈ lw_g := lg_in (tb_2 _ (List.mem_of_getElem? (i := 186) rfl)) rfl
set_option maxRecDepth 20000 in
theorem k_ml_X10_151 : Cond.methodLink RX10 151 yX5_readItem ∈ lw_g := lg_in (tb_2 _ (List.mem_of_getElem? (i := 187) rfl)) rfl
set_option maxRecDepth 20000 in
theorem k_in_X5_readItem : Cond.instanceMethod yX5_readItem ∈ lw_g := lg_in (tb_2 _ (List.mem_of_getElem? (i := 188) rfl)) rfl
set_option maxRecDepth 20000 in
theorem k_se_X5_X5_readItem : Cond.selects RX5 yX5_readItem yX5_readItem ∈ lw_g := lg_in (tb_2 _ (List.mem_of_getElem? (i := 189) rfl)) rfl
set_option maxRecDepth 20000 in
theorem k_co_X5_readItem : Cond.code yX5_readItem cX5_readItem 1 (some .boolean) ∈ lw_g := lg_in (tb_2 _ (List.mem_of_getElem? (i := 190) rfl)) rfl
set_option maxRecDepth 20000 in
theorem k_ml_X5_50 : Cond.methodLink RX5 50 yX5_readWind ∈ lw_g := lg_in (tb_2 _ (List.mem_of_getElem? (i := 192) rfl)) rfl
set_option maxRecDepth 20000 in
theorem k_in_X5_readWind : Cond.instanceMethod yX5_readWind ∈ lw_g := lg_in (tb_2 _ (List.mem_of_getElem? (i := 194) rfl)) rfl
set_option maxRecDepth 20000 in
theorem k_co_X5_readWind : Cond.code yX5_readWind cX5_readWind 2 (some .boolean) ∈ lw_g := lg_in (tb_2 _ (List.mem_of_getElem? (i := 195) rfl)) rfl
set_option maxRecDepth 20000 in
theorem k_ml_X5_55 : Cond.methodLink RX5 55 yX5_readCock ∈ lw_g := lg_in (tb_2 _ (List.mem_of_getElem? (i := 197) rfl)) rfl
set_option maxRecDepth 20000 in
theorem k_in_X5_readCock : Cond.instanceMethod yX5_readCock ∈ lw_g := lg_in (tb_2 _ (List.mem_of_getElem? (i := 199) rfl)) rfl
set_option maxRecDepth 20000 in
theorem k_co_X5_readCock : Cond.code yX5_readCock cX5_readCock 2 (some .boolean) ∈ lw_g := lg_in (tb_2 _ (List.mem_of_getElem? (i := 200) rfl)) rfl
set_option maxRecDepth 20000 in
theorem k_ml_X5_84 : Cond.methodLink RX5 84 yX9_feather ∈ lw_g := lg_in (tb_2 _ (List.mem_of_getElem? (i := 201) rfl)) rfl
set_option maxRecDepth 20000 in
theorem k_in_X9_feather : Cond.instanceMethod yX9_feather ∈ lw_g := lg_in (tb_2 _ (List.mem_of_getElem? (i := 202) rfl)) rfl
set_option maxRecDepth 20000 in
theorem k_se_X9_X9_feather : Cond.selects RX9 yX9_feather yX9_feather ∈ lw_g := lg_in (tb_2 _ (List.mem_of_getElem? (i := 203) rfl)) rfl
set_option maxRecDepth 20000 in
theorem k_co_X9_feather : Cond.code yX9_feather cX9_feather 3 none ∈ lw_g := lg_in (tb_2 _ (List.mem_of_getElem? (i := 204) rfl)) rfl
set_option maxRecDepth 20000 in
theorem k_ml_X5_60 : Cond.methodLink RX5 60 yX5_readPlayer ∈ lw_g := lg_in (tb_2 _ (List.mem_of_getElem? (i := 206) rfl)) rfl
set_option maxRecDepth 20000 in
theorem k_in_X5_readPlayer : Cond.instanceMethod yX5_readPlayer ∈ lw_g := lg_in (tb_2 _ (List.mem_of_getElem? (i := 208) rfl)) rfl
set_option maxRecDepth 20000 in
theorem k_co_X5_readPlayer : Cond.code yX5_readPlayer cX5_readPlayer 3 (some .boolean) ∈ lw_g := lg_in (tb_2 _ (List.mem_of_getElem? (i := 209) rfl)) rfl
set_option maxRecDepth 20000 in
theorem k_ml_X5_92 : Cond.methodLink RX5 92 yX6_isFull ∈ lw_g := lg_in (tb_2 _ (List.mem_of_getElem? (i := 210) rfl)) rfl
set_option maxRecDepth 20000 in
theorem k_ml_X5_97 : Cond.methodLink RX5 97 yX6_add ∈ lw_g := lg_in (tb_2 _ (List.mem_of_getElem? (i := 211) rfl)) rfl
set_option maxRecDepth 20000 in
theorem k_ml_X5_65 : Cond.methodLink RX5 65 yX5_readHit ∈ lw_g := lg_in (tb_2 _ (List.mem_of_getElem? (i := 213) rfl)) rfl
set_option maxRecDepth 20000 in
theorem k_in_X5_readHit : Cond.instanceMethod yX5_readHit ∈ lw_g := lg_in (tb_2 _ (List.mem_of_getElem? (i := 215) rfl)) rfl
set_option maxRecDepth 20000 in
theorem k_co_X5_readHit : Cond.code yX5_readHit cX5_readHit 2 (some .boolean) ∈ lw_g := lg_in (tb_2 _ (List.mem_of_getElem? (i := 216) rfl)) rfl
set_option maxRecDepth 20000 in
theorem k_ml_X5_105 : Cond.methodLink RX5 105 yX9_canStrike ∈ lw_g := lg_in (tb_2 _ (List.mem_of_getElem? (i := 217) rfl)) rfl
set_option maxRecDepth 20000 in
theorem k_in_X9_canStrike : Cond.instanceMethod yX9_canStrike ∈ lw_g := lg_in (tb_2 _ (List.mem_of_getElem? (i := 218) rfl)) rfl
set_option maxRecDepth 20000 in
theorem k_se_X9_X9_canStrike : Cond.selects RX9 yX9_canStrike yX9_canStrike ∈ lw_g := lg_in (tb_2 _ (List.mem_of_getElem? (i := 219) rfl)) rfl
set_option maxRecDepth 20000 in
theorem k_co_X9_canStrike : Cond.code yX9_canStrike cX9_canStrike 2 (some .boolean) ∈ lw_g := lg_in (tb_2 _ (List.mem_of_getElem? (i := 220) rfl)) rfl
set_option maxRecDepth 20000 in
theorem k_ml_X9_111 : Cond.methodLink RX9 111 yX9_isUp ∈ lw_g := lg_in (tb_2 _ (List.mem_of_getElem? (i := 221) rfl)) rfl
set_option maxRecDepth 20000 in
theorem k_in_X9_isUp : Cond.instanceMethod yX9_isUp ∈ lw_g := lg_in (tb_2 _ (List.mem_of_getElem? (i := 222) rfl)) rfl
set_option maxRecDepth 20000 in
theorem k_se_X9_X9_isUp : Cond.selects RX9 yX9_isUp yX9_isUp ∈ lw_g := lg_in (tb_2 _ (List.mem_of_getElem? (i := 223) rfl)) rfl
set_option maxRecDepth 20000 in
theorem k_co_X9_isUp : Cond.code yX9_isUp cX9_isUp 1 (some .boolean) ∈ lw_g := lg_in (tb_2 _ (List.mem_of_getElem? (i := 224) rfl)) rfl
set_option maxRecDepth 20000 in
theorem k_ml_X9_115 : Cond.methodLink RX9 115 yX9_hill ∈ lw_g := lg_in (tb_2 _ (List.mem_of_getElem? (i := 225) rfl)) rfl
set_option maxRecDepth 20000 in
theorem k_in_X9_hill : Cond.instanceMethod yX9_hill ∈ lw_g := lg_in (tb_2 _ (List.mem_of_getElem? (i := 226) rfl)) rfl
set_option maxRecDepth 20000 in
theorem k_se_X9_X9_hill : Cond.selects RX9 yX9_hill yX9_hill ∈ lw_g := lg_in (tb_2 _ (List.mem_of_getElem? (i := 227) rfl)) rfl
set_option maxRecDepth 20000 in
theorem k_co_X9_hill : Cond.code yX9_hill cX9_hill 1 (some .int) ∈ lw_g := lg_in (tb_2 _ (List.mem_of_getElem? (i := 228) rfl)) rfl
set_option maxRecDepth 20000 in
theorem k_ml_X9_118 : Cond.methodLink RX9 118 yX9_isOn ∈ lw_g := lg_in (tb_2 _ (List.mem_of_getElem? (i := 229) rfl)) rfl
set_option maxRecDepth 20000 in
theorem k_in_X9_isOn : Cond.instanceMethod yX9_isOn ∈ lw_g := lg_in (tb_2 _ (List.mem_of_getElem? (i := 230) rfl)) rfl
set_option maxRecDepth 20000 in
theorem k_se_X9_X9_isOn : Cond.selects RX9 yX9_isOn yX9_isOn ∈ lw_g := lg_in (tb_2 _ (List.mem_of_getElem? (i := 231) rfl)) rfl
set_option maxRecDepth 20000 in
theorem k_co_X9_isOn : Cond.code yX9_isOn cX9_isOn 3 (some .boolean) ∈ lw_g := lg_in (tb_2 _ (List.mem_of_getElem? (i := 232) rfl)) rfl
set_option maxRecDepth 20000 in
theorem k_ml_X9_107 : Cond.methodLink RX9 107 yX6_has ∈ lw_g := lg_in (tb_2 _ (List.mem_of_getElem? (i := 233) rfl)) rfl
set_option maxRecDepth 20000 in
theorem k_in_X6_has : Cond.instanceMethod yX6_has ∈ lw_g := lg_in (tb_2 _ (List.mem_of_getElem? (i := 234) rfl)) rfl
set_option maxRecDepth 20000 in
theorem k_se_X6_X6_has : Cond.selects RX6 yX6_has yX6_has ∈ lw_g := lg_in (tb_2 _ (List.mem_of_getElem? (i := 235) rfl)) rfl
set_option maxRecDepth 20000 in
theorem k_co_X6_has : Cond.code yX6_has cX6_has 2 (some .boolean) ∈ lw_g := lg_in (tb_2 _ (List.mem_of_getElem? (i := 236) rfl)) rfl
set_option maxRecDepth 20000 in
theorem k_ml_X9_82 : Cond.methodLink RX9 82 yX6_cell ∈ lw_g := lg_in (tb_2 _ (List.mem_of_getElem? (i := 237) rfl)) rfl
set_option maxRecDepth 20000 in
theorem k_in_X6_cell : Cond.instanceMethod yX6_cell ∈ lw_g := lg_in (tb_2 _ (List.mem_of_getElem? (i := 238) rfl)) rfl
set_option maxRecDepth 20000 in
theorem k_se_X6_X6_cell : Cond.selects RX6 yX6_cell yX6_cell ∈ lw_g := lg_in (tb_2 _ (List.mem_of_getElem? (i := 239) rfl)) rfl
set_option maxRecDepth 20000 in
theorem k_co_X6_cell : Cond.code yX6_cell cX6_cell 3 (some .int) ∈ lw_g := lg_in (tb_3 _ (List.mem_of_getElem? (i := 0) rfl)) rfl
set_option maxRecDepth 20000 in
theorem k_ml_X9_104 : Cond.methodLink RX9 104 yX9_hour ∈ lw_g := lg_in (tb_3 _ (List.mem_of_getElem? (i := 1) rfl)) rfl
set_option maxRecDepth 20000 in
theorem k_in_X9_hour : Cond.instanceMethod yX9_hour ∈ lw_g := lg_in (tb_3 _ (List.mem_of_getElem? (i := 2) rfl)) rfl
set_option maxRecDepth 20000 in
theorem k_se_X9_X9_hour : Cond.selects RX9 yX9_hour yX9_hour ∈ lw_g := lg_in (tb_3 _ (List.mem_of_getElem? (i := 3) rfl)) rfl
set_option maxRecDepth 20000 in
theorem k_co_X9_hour : Cond.code yX9_hour cX9_hour 1 (some .int) ∈ lw_g := lg_in (tb_3 _ (List.mem_of_getElem? (i := 4) rfl)) rfl
set_option maxRecDepth 20000 in
theorem k_ml_X5_109 : Cond.methodLink RX5 109 yX9_strike ∈ lw_g := lg_in (tb_3 _ (List.mem_of_getElem? (i := 5) rfl)) rfl
set_option maxRecDepth 20000 in
theorem k_in_X9_strike : Cond.instanceMethod yX9_strike ∈ lw_g := lg_in (tb_3 _ (List.mem_of_getElem? (i := 6) rfl)) rfl
set_option maxRecDepth 20000 in
theorem k_se_X9_X9_strike : Cond.selects RX9 yX9_strike yX9_strike ∈ lw_g := lg_in (tb_3 _ (List.mem_of_getElem? (i := 7) rfl)) rfl
set_option maxRecDepth 20000 in
theorem k_co_X9_strike : Cond.code yX9_strike cX9_strike 3 (some .int) ∈ lw_g := lg_in (tb_3 _ (List.mem_of_getElem? (i := 8) rfl)) rfl
set_option maxRecDepth 20000 in
theorem k_ml_X9_125 : Cond.methodLink RX9 125 yX9_carries ∈ lw_g := lg_in (tb_3 _ (List.mem_of_getElem? (i := 9) rfl)) rfl
set_option maxRecDepth 20000 in
theorem k_in_X9_carries : Cond.instanceMethod yX9_carries ∈ lw_g := lg_in (tb_3 _ (List.mem_of_getElem? (i := 10) rfl)) rfl
set_option maxRecDepth 20000 in
theorem k_se_X9_X9_carries : Cond.selects RX9 yX9_carries yX9_carries ∈ lw_g := lg_in (tb_3 _ (List.mem_of_getElem? (i := 11) rfl)) rfl
set_option maxRecDepth 20000 in
theorem k_co_X9_carries : Cond.code yX9_carries cX9_carries 3 (some .boolean) ∈ lw_g := lg_in (tb_3 _ (List.mem_of_getElem? (i := 12) rfl)) rfl
set_option maxRecDepth 20000 in
theorem k_ml_X9_101 : Cond.methodLink RX9 101 yX9_flightFrom ∈ lw_g := lg_in (tb_3 _ (List.mem_of_getElem? (i := 13) rfl)) rfl
set_option maxRecDepth 20000 in
theorem k_in_X9_flightFrom : Cond.instanceMethod yX9_flightFrom ∈ lw_g := lg_in (tb_3 _ (List.mem_of_getElem? (i := 14) rfl)) rfl
set_option maxRecDepth 20000 in
theorem k_se_X9_X9_flightFrom : Cond.selects RX9 yX9_flightFrom yX9_flightFrom ∈ lw_g := lg_in (tb_3 _ (List.mem_of_getElem? (i := 15) rfl)) rfl
set_option maxRecDepth 20000 in
theorem k_co_X9_flightFrom : Cond.code yX9_flightFrom cX9_flightFrom 5 (some .int) ∈ lw_g := lg_in (tb_3 _ (List.mem_of_getElem? (i := 16) rfl)) rfl
set_option maxRecDepth 20000 in
theorem k_ml_X9_91 : Cond.methodLink RX9 91 yX9_force ∈ lw_g := lg_in (tb_3 _ (List.mem_of_getElem? (i := 17) rfl)) rfl
set_option maxRecDepth 20000 in
theorem k_in_X9_force : Cond.instanceMethod yX9_force ∈ lw_g := lg_in (tb_3 _ (List.mem_of_getElem? (i := 18) rfl)) rfl
set_option maxRecDepth 20000 in
theorem k_se_X9_X9_force : Cond.selects RX9 yX9_force yX9_force ∈ lw_g := lg_in (tb_3 _ (List.mem_of_getElem? (i := 19) rfl)) rfl
set_option maxRecDepth 20000 in
theorem k_co_X9_force : Cond.code yX9_force cX9_force 3 (some .int) ∈ lw_g := lg_in (tb_3 _ (List.mem_of_getElem? (i := 20) rfl)) rfl
set_option maxRecDepth 20000 in
theorem k_ml_X9_73 : Cond.methodLink RX9 73 yJ9_floorMod_7cf53 ∈ lw_g := lg_in (tb_3 _ (List.mem_of_getElem? (i := 21) rfl)) rfl
set_option maxRecDepth 20000 in
theorem k_st_J9_floorMod_7cf53 : Cond.static yJ9_floorMod_7cf53 ∈ lw_g := lg_in (tb_3 _ (List.mem_of_getElem? (i := 22) rfl)) rfl
set_option maxRecDepth 20000 in
theorem k_co_J9_floorMod_7cf53 : Cond.code yJ9_floorMod_7cf53 cJ9_floorMod_7cf53 3 (some .int) ∈ lw_g := lg_in (tb_3 _ (List.mem_of_getElem? (i := 23) rfl)) rfl
set_option maxRecDepth 20000 in
theorem k_ml_X9_85 : Cond.methodLink RX9 85 yX2_blow ∈ lw_g := lg_in (tb_3 _ (List.mem_of_getElem? (i := 24) rfl)) rfl
set_option maxRecDepth 20000 in
theorem k_st_X2_blow : Cond.static yX2_blow ∈ lw_g := lg_in (tb_3 _ (List.mem_of_getElem? (i := 25) rfl)) rfl
set_option maxRecDepth 20000 in
theorem k_co_X2_blow : Cond.code yX2_blow cX2_blow 6 (some .int) ∈ lw_g := lg_in (tb_3 _ (List.mem_of_getElem? (i := 26) rfl)) rfl
set_option maxRecDepth 20000 in
theorem k_ml_X9_94 : Cond.methodLink RX9 94 yX9_helpFrom ∈ lw_g := lg_in (tb_3 _ (List.mem_of_getElem? (i := 27) rfl)) rfl
set_option maxRecDepth 20000 in
theorem k_in_X9_helpFrom : Cond.instanceMethod yX9_helpFrom ∈ lw_g := lg_in (tb_3 _ (List.mem_of_getElem? (i := 28) rfl)) rfl
set_option maxRecDepth 20000 in
theorem k_se_X9_X9_helpFrom : Cond.selects RX9 yX9_helpFrom yX9_helpFrom ∈ lw_g := lg_in (tb_3 _ (List.mem_of_getElem? (i := 29) rfl)) rfl
set_option maxRecDepth 20000 in
theorem k_co_X9_helpFrom : Cond.code yX9_helpFrom cX9_helpFrom 3 (some .int) ∈ lw_g := lg_in (tb_3 _ (List.mem_of_getElem? (i := 30) rfl)) rfl
set_option maxRecDepth 20000 in
theorem k_ml_X9_79 : Cond.methodLink RX9 79 yX9_help ∈ lw_g := lg_in (tb_3 _ (List.mem_of_getElem? (i := 31) rfl)) rfl
set_option maxRecDepth 20000 in
theorem k_st_X9_help : Cond.static yX9_help ∈ lw_g := lg_in (tb_3 _ (List.mem_of_getElem? (i := 32) rfl)) rfl
set_option maxRecDepth 20000 in
theorem k_co_X9_help : Cond.code yX9_help cX9_help 2 (some .int) ∈ lw_g := lg_in (tb_3 _ (List.mem_of_getElem? (i := 33) rfl)) rfl
set_option maxRecDepth 20000 in
theorem k_ml_X9_97 : Cond.methodLink RX9 97 yX2_flight ∈ lw_g := lg_in (tb_3 _ (List.mem_of_getElem? (i := 34) rfl)) rfl
set_option maxRecDepth 20000 in
theorem k_st_X2_flight : Cond.static yX2_flight ∈ lw_g := lg_in (tb_3 _ (List.mem_of_getElem? (i := 35) rfl)) rfl
set_option maxRecDepth 20000 in
theorem k_co_X2_flight : Cond.code yX2_flight cX2_flight 6 (some .int) ∈ lw_g := lg_in (tb_3 _ (List.mem_of_getElem? (i := 36) rfl)) rfl
set_option maxRecDepth 20000 in
theorem k_ml_X2_7 : Cond.methodLink RX2 7 Lib.Math.max.name ∈ lw_g := lg_in (tb_3 _ (List.mem_of_getElem? (i := 37) rfl)) rfl
set_option maxRecDepth 20000 in
theorem k_ml_X9_132 : Cond.methodLink RX9 132 yX9_letPass ∈ lw_g := lg_in (tb_3 _ (List.mem_of_getElem? (i := 38) rfl)) rfl
set_option maxRecDepth 20000 in
theorem k_in_X9_letPass : Cond.instanceMethod yX9_letPass ∈ lw_g := lg_in (tb_3 _ (List.mem_of_getElem? (i := 39) rfl)) rfl
set_option maxRecDepth 20000 in
theorem k_se_X9_X9_letPass : Cond.selects RX9 yX9_letPass yX9_letPass ∈ lw_g := lg_in (tb_3 _ (List.mem_of_getElem? (i := 40) rfl)) rfl
set_option maxRecDepth 20000 in
theorem k_co_X9_letPass : Cond.code yX9_letPass cX9_letPass 2 none ∈ lw_g := lg_in (tb_3 _ (List.mem_of_getElem? (i := 41) rfl)) rfl
set_option maxRecDepth 20000 in
theorem k_ml_X9_136 : Cond.methodLink RX9 136 Lib.Math.min.name ∈ lw_g := lg_in (tb_3 _ (List.mem_of_getElem? (i := 42) rfl)) rfl
set_option maxRecDepth 20000 in
theorem k_st_Math_min : Cond.static Lib.Math.min.name ∈ lw_g := lg_in (tb_3 _ (List.mem_of_getElem? (i := 43) rfl)) rfl
set_option maxRecDepth 20000 in
theorem k_co_Math_min : Cond.code Lib.Math.min.name Lib.Math.min.code 2 (some .int) ∈ lw_g := lg_in (tb_3 _ (List.mem_of_getElem? (i := 44) rfl)) rfl
set_option maxRecDepth 20000 in
theorem k_ml_X5_70 : Cond.methodLink RX5 70 yX5_readPick ∈ lw_g := lg_in (tb_3 _ (List.mem_of_getElem? (i := 46) rfl)) rfl
set_option maxRecDepth 20000 in
theorem k_in_X5_readPick : Cond.instanceMethod yX5_readPick ∈ lw_g := lg_in (tb_3 _ (List.mem_of_getElem? (i := 48) rfl)) rfl
set_option maxRecDepth 20000 in
theorem k_co_X5_readPick : Cond.code yX5_readPick cX5_readPick 1 (some .boolean) ∈ lw_g := lg_in (tb_3 _ (List.mem_of_getElem? (i := 49) rfl)) rfl
set_option maxRecDepth 20000 in
theorem k_ml_X5_113 : Cond.methodLink RX5 113 yX9_isUp ∈ lw_g := lg_in (tb_3 _ (List.mem_of_getElem? (i := 50) rfl)) rfl
set_option maxRecDepth 20000 in
theorem k_ml_X5_116 : Cond.methodLink RX5 116 yX9_pickUp ∈ lw_g := lg_in (tb_3 _ (List.mem_of_getElem? (i := 51) rfl)) rfl
set_option maxRecDepth 20000 in
theorem k_in_X9_pickUp : Cond.instanceMethod yX9_pickUp ∈ lw_g := lg_in (tb_3 _ (List.mem_of_getElem? (i := 52) rfl)) rfl
set_option maxRecDepth 20000 in
theorem k_se_X9_X9_pickUp : Cond.selects RX9 yX9_pickUp yX9_pickUp ∈ lw_g := lg_in (tb_3 _ (List.mem_of_getElem? (i := 53) rfl)) rfl
set_option maxRecDepth 20000 in
theorem k_co_X9_pickUp : Cond.code yX9_pickUp cX9_pickUp 2 none ∈ lw_g := lg_in (tb_3 _ (List.mem_of_getElem? (i := 54) rfl)) rfl
set_option maxRecDepth 20000 in
theorem k_ml_X5_75 : Cond.methodLink RX5 75 yX5_readHours ∈ lw_g := lg_in (tb_3 _ (List.mem_of_getElem? (i := 56) rfl)) rfl
set_option maxRecDepth 20000 in
theorem k_in_X5_readHours : Cond.instanceMethod yX5_readHours ∈ lw_g := lg_in (tb_3 _ (List.mem_of_getElem? (i := 58) rfl)) rfl
set_option maxRecDepth 20000 in
theorem k_co_X5_readHours : Cond.code yX5_readHours cX5_readHours 1 (some .boolean) ∈ lw_g := lg_in (tb_3 _ (List.mem_of_getElem? (i := 59) rfl)) rfl
set_option maxRecDepth 20000 in
theorem k_ml_X5_119 : Cond.methodLink RX5 119 yX9_letPass ∈ lw_g := lg_in (tb_3 _ (List.mem_of_getElem? (i := 60) rfl)) rfl
set_option maxRecDepth 20000 in
theorem k_ml_X10_157 : Cond.methodLink RX10 157 yX9_copyFrom ∈ lw_g := lg_in (tb_3 _ (List.mem_of_getElem? (i := 61) rfl)) rfl
set_option maxRecDepth 20000 in
theorem k_in_X9_copyFrom : Cond.instanceMethod yX9_copyFrom ∈ lw_g := lg_in (tb_3 _ (List.mem_of_getElem? (i := 62) rfl)) rfl
set_option maxRecDepth 20000 in
theorem k_se_X9_X9_copyFrom : Cond.selects RX9 yX9_copyFrom yX9_copyFrom ∈ lw_g := lg_in (tb_3 _ (List.mem_of_getElem? (i := 63) rfl)) rfl
set_option maxRecDepth 20000 in
theorem k_co_X9_copyFrom : Cond.code yX9_copyFrom cX9_copyFrom 2 none ∈ lw_g := lg_in (tb_3 _ (List.mem_of_getElem? (i := 64) rfl)) rfl
set_option maxRecDepth 20000 in
theorem k_ml_X9_60 : Cond.methodLink RX9 60 arraycopyName ∈ lw_g := lg_in (tb_3 _ (List.mem_of_getElem? (i := 65) rfl)) rfl
set_option maxRecDepth 20000 in
theorem k_st_arraycopy : Cond.static arraycopyName ∈ lw_g := lg_in (tb_3 _ (List.mem_of_getElem? (i := 66) rfl)) rfl
set_option maxRecDepth 20000 in
theorem k_nt_arraycopy : Cond.native arraycopyName ∈ lw_g := lg_in (tb_3 _ (List.mem_of_getElem? (i := 67) rfl)) rfl
set_option maxRecDepth 20000 in
theorem k_ml_X9_66 : Cond.methodLink RX9 66 yX6_copyFrom ∈ lw_g := lg_in (tb_3 _ (List.mem_of_getElem? (i := 68) rfl)) rfl
set_option maxRecDepth 20000 in
theorem k_in_X6_copyFrom : Cond.instanceMethod yX6_copyFrom ∈ lw_g := lg_in (tb_3 _ (List.mem_of_getElem? (i := 69) rfl)) rfl
set_option maxRecDepth 20000 in
theorem k_se_X6_X6_copyFrom : Cond.selects RX6 yX6_copyFrom yX6_copyFrom ∈ lw_g := lg_in (tb_3 _ (List.mem_of_getElem? (i := 70) rfl)) rfl
set_option maxRecDepth 20000 in
theorem k_co_X6_copyFrom : Cond.code yX6_copyFrom cX6_copyFrom 3 none ∈ lw_g := lg_in (tb_3 _ (List.mem_of_getElem? (i := 71) rfl)) rfl
set_option maxRecDepth 20000 in
theorem k_ml_X6_37 : Cond.methodLink RX6 37 Lib.Math.min.name ∈ lw_g := lg_in (tb_3 _ (List.mem_of_getElem? (i := 72) rfl)) rfl
set_option maxRecDepth 20000 in
theorem k_ml_X6_40 : Cond.methodLink RX6 40 arraycopyName ∈ lw_g := lg_in (tb_3 _ (List.mem_of_getElem? (i := 73) rfl)) rfl
set_option maxRecDepth 20000 in
theorem k_ml_X9_70 : Cond.methodLink RX9 70 yX3_copyFrom ∈ lw_g := lg_in (tb_3 _ (List.mem_of_getElem? (i := 74) rfl)) rfl
set_option maxRecDepth 20000 in
theorem k_in_X3_copyFrom : Cond.instanceMethod yX3_copyFrom ∈ lw_g := lg_in (tb_3 _ (List.mem_of_getElem? (i := 75) rfl)) rfl
set_option maxRecDepth 20000 in
theorem k_se_X3_X3_copyFrom : Cond.selects RX3 yX3_copyFrom yX3_copyFrom ∈ lw_g := lg_in (tb_3 _ (List.mem_of_getElem? (i := 76) rfl)) rfl
set_option maxRecDepth 20000 in
theorem k_co_X3_copyFrom : Cond.code yX3_copyFrom cX3_copyFrom 2 none ∈ lw_g := lg_in (tb_3 _ (List.mem_of_getElem? (i := 77) rfl)) rfl
set_option maxRecDepth 20000 in
theorem k_ml_X3_19 : Cond.methodLink RX3 19 arraycopyName ∈ lw_g := lg_in (tb_3 _ (List.mem_of_getElem? (i := 78) rfl)) rfl
set_option maxRecDepth 20000 in
theorem k_ac_byte : Cond.arrayClass .byte ∈ lw_g := lg_in (tb_3 _ (List.mem_of_getElem? (i := 79) rfl)) rfl
set_option maxRecDepth 20000 in
theorem k_ml_L_41 : Cond.methodLink RL 41 yX10_hits ∈ lw_g := lg_in (tb_3 _ (List.mem_of_getElem? (i := 80) rfl)) rfl
set_option maxRecDepth 20000 in
theorem k_in_X10_hits : Cond.instanceMethod yX10_hits ∈ lw_g := lg_in (tb_3 _ (List.mem_of_getElem? (i := 81) rfl)) rfl
set_option maxRecDepth 20000 in
theorem k_se_X10_X10_hits : Cond.selects RX10 yX10_hits yX10_hits ∈ lw_g := lg_in (tb_3 _ (List.mem_of_getElem? (i := 82) rfl)) rfl
set_option maxRecDepth 20000 in
theorem k_co_X10_hits : Cond.code yX10_hits cX10_hits 2 (some .int) ∈ lw_g := lg_in (tb_3 _ (List.mem_of_getElem? (i := 83) rfl)) rfl
set_option maxRecDepth 20000 in
theorem k_ml_X10_161 : Cond.methodLink RX10 161 yX6_has ∈ lw_g := lg_in (tb_3 _ (List.mem_of_getElem? (i := 84) rfl)) rfl
set_option maxRecDepth 20000 in
theorem k_ml_X10_164 : Cond.methodLink RX10 164 yX9_canStrike ∈ lw_g := lg_in (tb_3 _ (List.mem_of_getElem? (i := 85) rfl)) rfl
set_option maxRecDepth 20000 in
theorem k_ml_X10_167 : Cond.methodLink RX10 167 yX10_refuseNo ∈ lw_g := lg_in (tb_3 _ (List.mem_of_getElem? (i := 86) rfl)) rfl
set_option maxRecDepth 20000 in
theorem k_in_X10_refuseNo : Cond.instanceMethod yX10_refuseNo ∈ lw_g := lg_in (tb_3 _ (List.mem_of_getElem? (i := 88) rfl)) rfl
set_option maxRecDepth 20000 in
theorem k_co_X10_refuseNo : Cond.code yX10_refuseNo cX10_refuseNo 1 (some .int) ∈ lw_g := lg_in (tb_3 _ (List.mem_of_getElem? (i := 89) rfl)) rfl
set_option maxRecDepth 20000 in
theorem k_ml_X10_170 : Cond.methodLink RX10 170 yX9_remember ∈ lw_g := lg_in (tb_3 _ (List.mem_of_getElem? (i := 90) rfl)) rfl
set_option maxRecDepth 20000 in
theorem k_in_X9_remember : Cond.instanceMethod yX9_remember ∈ lw_g := lg_in (tb_3 _ (List.mem_of_getElem? (i := 91) rfl)) rfl
set_option maxRecDepth 20000 in
theorem k_se_X9_X9_remember : Cond.selects RX9 yX9_remember yX9_remember ∈ lw_g := lg_in (tb_3 _ (List.mem_of_getElem? (i := 92) rfl)) rfl
set_option maxRecDepth 20000 in
theorem k_co_X9_remember : Cond.code yX9_remember cX9_remember 1 none ∈ lw_g := lg_in (tb_3 _ (List.mem_of_getElem? (i := 93) rfl)) rfl
set_option maxRecDepth 20000 in
theorem k_ml_X9_128 : Cond.methodLink RX9 128 yX3_push ∈ lw_g := lg_in (tb_3 _ (List.mem_of_getElem? (i := 94) rfl)) rfl
set_option maxRecDepth 20000 in
theorem k_in_X3_push : Cond.instanceMethod yX3_push ∈ lw_g := lg_in (tb_3 _ (List.mem_of_getElem? (i := 95) rfl)) rfl
set_option maxRecDepth 20000 in
theorem k_se_X3_X3_push : Cond.selects RX3 yX3_push yX3_push ∈ lw_g := lg_in (tb_3 _ (List.mem_of_getElem? (i := 96) rfl)) rfl
set_option maxRecDepth 20000 in
theorem k_co_X3_push : Cond.code yX3_push cX3_push 2 none ∈ lw_g := lg_in (tb_3 _ (List.mem_of_getElem? (i := 97) rfl)) rfl
set_option maxRecDepth 20000 in
theorem k_ml_X10_173 : Cond.methodLink RX10 173 yX9_strike ∈ lw_g := lg_in (tb_3 _ (List.mem_of_getElem? (i := 98) rfl)) rfl
set_option maxRecDepth 20000 in
theorem k_ml_L_45 : Cond.methodLink RL 45 yX10_picks ∈ lw_g := lg_in (tb_3 _ (List.mem_of_getElem? (i := 99) rfl)) rfl
set_option maxRecDepth 20000 in
theorem k_in_X10_picks : Cond.instanceMethod yX10_picks ∈ lw_g := lg_in (tb_3 _ (List.mem_of_getElem? (i := 100) rfl)) rfl
set_option maxRecDepth 20000 in
theorem k_se_X10_X10_picks : Cond.selects RX10 yX10_picks yX10_picks ∈ lw_g := lg_in (tb_3 _ (List.mem_of_getElem? (i := 101) rfl)) rfl
set_option maxRecDepth 20000 in
theorem k_co_X10_picks : Cond.code yX10_picks cX10_picks 2 (some .int) ∈ lw_g := lg_in (tb_3 _ (List.mem_of_getElem? (i := 102) rfl)) rfl
set_option maxRecDepth 20000 in
theorem k_ml_X10_176 : Cond.methodLink RX10 176 yX9_isUp ∈ lw_g := lg_in (tb_3 _ (List.mem_of_getElem? (i := 103) rfl)) rfl
set_option maxRecDepth 20000 in
theorem k_ml_X10_179 : Cond.methodLink RX10 179 yX9_pickUp ∈ lw_g := lg_in (tb_3 _ (List.mem_of_getElem? (i := 104) rfl)) rfl
set_option maxRecDepth 20000 in
theorem k_ml_L_49 : Cond.methodLink RL 49 yX10_cock ∈ lw_g := lg_in (tb_3 _ (List.mem_of_getElem? (i := 105) rfl)) rfl
set_option maxRecDepth 20000 in
theorem k_in_X10_cock : Cond.instanceMethod yX10_cock ∈ lw_g := lg_in (tb_3 _ (List.mem_of_getElem? (i := 106) rfl)) rfl
set_option maxRecDepth 20000 in
theorem k_se_X10_X10_cock : Cond.selects RX10 yX10_cock yX10_cock ∈ lw_g := lg_in (tb_3 _ (List.mem_of_getElem? (i := 107) rfl)) rfl
set_option maxRecDepth 20000 in
theorem k_co_X10_cock : Cond.code yX10_cock cX10_cock 4 (some .int) ∈ lw_g := lg_in (tb_3 _ (List.mem_of_getElem? (i := 108) rfl)) rfl
set_option maxRecDepth 20000 in
theorem k_ml_X10_185 : Cond.methodLink RX10 185 yX9_feather ∈ lw_g := lg_in (tb_3 _ (List.mem_of_getElem? (i := 109) rfl)) rfl
set_option maxRecDepth 20000 in
theorem k_ml_L_53 : Cond.methodLink RL 53 yX10_hours ∈ lw_g := lg_in (tb_3 _ (List.mem_of_getElem? (i := 110) rfl)) rfl
set_option maxRecDepth 20000 in
theorem k_in_X10_hours : Cond.instanceMethod yX10_hours ∈ lw_g := lg_in (tb_3 _ (List.mem_of_getElem? (i := 111) rfl)) rfl
set_option maxRecDepth 20000 in
theorem k_se_X10_X10_hours : Cond.selects RX10 yX10_hours yX10_hours ∈ lw_g := lg_in (tb_3 _ (List.mem_of_getElem? (i := 112) rfl)) rfl
set_option maxRecDepth 20000 in
theorem k_co_X10_hours : Cond.code yX10_hours cX10_hours 2 (some .int) ∈ lw_g := lg_in (tb_3 _ (List.mem_of_getElem? (i := 113) rfl)) rfl
set_option maxRecDepth 20000 in
theorem k_ml_X10_189 : Cond.methodLink RX10 189 yX9_letPass ∈ lw_g := lg_in (tb_3 _ (List.mem_of_getElem? (i := 114) rfl)) rfl
set_option maxRecDepth 20000 in
theorem k_ml_X10_192 : Cond.methodLink RX10 192 yX9_hour ∈ lw_g := lg_in (tb_3 _ (List.mem_of_getElem? (i := 115) rfl)) rfl
set_option maxRecDepth 20000 in
theorem k_ml_L_57 : Cond.methodLink RL 57 yX10_undo ∈ lw_g := lg_in (tb_3 _ (List.mem_of_getElem? (i := 116) rfl)) rfl
set_option maxRecDepth 20000 in
theorem k_in_X10_undo : Cond.instanceMethod yX10_undo ∈ lw_g := lg_in (tb_3 _ (List.mem_of_getElem? (i := 117) rfl)) rfl
set_option maxRecDepth 20000 in
theorem k_se_X10_X10_undo : Cond.selects RX10 yX10_undo yX10_undo ∈ lw_g := lg_in (tb_3 _ (List.mem_of_getElem? (i := 118) rfl)) rfl
set_option maxRecDepth 20000 in
theorem k_co_X10_undo : Cond.code yX10_undo cX10_undo 1 (some .int) ∈ lw_g := lg_in (tb_3 _ (List.mem_of_getElem? (i := 119) rfl)) rfl
set_option maxRecDepth 20000 in
theorem k_ml_X10_195 : Cond.methodLink RX10 195 yX3_size ∈ lw_g := lg_in (tb_3 _ (List.mem_of_getElem? (i := 120) rfl)) rfl
set_option maxRecDepth 20000 in
theorem k_in_X3_size : Cond.instanceMethod yX3_size ∈ lw_g := lg_in (tb_3 _ (List.mem_of_getElem? (i := 121) rfl)) rfl
set_option maxRecDepth 20000 in
theorem k_se_X3_X3_size : Cond.selects RX3 yX3_size yX3_size ∈ lw_g := lg_in (tb_3 _ (List.mem_of_getElem? (i := 122) rfl)) rfl
set_option maxRecDepth 20000 in
theorem k_co_X3_size : Cond.code yX3_size cX3_size 1 (some .int) ∈ lw_g := lg_in (tb_3 _ (List.mem_of_getElem? (i := 123) rfl)) rfl
set_option maxRecDepth 20000 in
theorem k_ml_X10_196 : Cond.methodLink RX10 196 yX3_pop ∈ lw_g := lg_in (tb_3 _ (List.mem_of_getElem? (i := 124) rfl)) rfl
set_option maxRecDepth 20000 in
theorem k_in_X3_pop : Cond.instanceMethod yX3_pop ∈ lw_g := lg_in (tb_3 _ (List.mem_of_getElem? (i := 125) rfl)) rfl
set_option maxRecDepth 20000 in
theorem k_se_X3_X3_pop : Cond.selects RX3 yX3_pop yX3_pop ∈ lw_g := lg_in (tb_3 _ (List.mem_of_getElem? (i := 126) rfl)) rfl
set_option maxRecDepth 20000 in
theorem k_co_X3_pop : Cond.code yX3_pop cX3_pop 2 none ∈ lw_g := lg_in (tb_3 _ (List.mem_of_getElem? (i := 127) rfl)) rfl
set_option maxRecDepth 20000 in
theorem k_ml_L_61 : Cond.methodLink RL 61 yX10_now ∈ lw_g := lg_in (tb_3 _ (List.mem_of_getElem? (i := 128) rfl)) rfl
set_option maxRecDepth 20000 in
theorem k_in_X10_now : Cond.instanceMethod yX10_now ∈ lw_g := lg_in (tb_3 _ (List.mem_of_getElem? (i := 129) rfl)) rfl
set_option maxRecDepth 20000 in
theorem k_se_X10_X10_now : Cond.selects RX10 yX10_now yX10_now ∈ lw_g := lg_in (tb_3 _ (List.mem_of_getElem? (i := 130) rfl)) rfl
set_option maxRecDepth 20000 in
theorem k_co_X10_now : Cond.code yX10_now cX10_now 2 (some .int) ∈ lw_g := lg_in (tb_3 _ (List.mem_of_getElem? (i := 131) rfl)) rfl
set_option maxRecDepth 20000 in
theorem k_ml_X10_200 : Cond.methodLink RX10 200 yX9_hill ∈ lw_g := lg_in (tb_3 _ (List.mem_of_getElem? (i := 132) rfl)) rfl
set_option maxRecDepth 20000 in
theorem k_ml_X10_203 : Cond.methodLink RX10 203 yX9_helpFrom ∈ lw_g := lg_in (tb_3 _ (List.mem_of_getElem? (i := 133) rfl)) rfl
set_option maxRecDepth 20000 in
theorem k_ml_L_65 : Cond.methodLink RL 65 yX10_of ∈ lw_g := lg_in (tb_3 _ (List.mem_of_getElem? (i := 134) rfl)) rfl
set_option maxRecDepth 20000 in
theorem k_in_X10_of : Cond.instanceMethod yX10_of ∈ lw_g := lg_in (tb_3 _ (List.mem_of_getElem? (i := 135) rfl)) rfl
set_option maxRecDepth 20000 in
theorem k_se_X10_X10_of : Cond.selects RX10 yX10_of yX10_of ∈ lw_g := lg_in (tb_3 _ (List.mem_of_getElem? (i := 136) rfl)) rfl
set_option maxRecDepth 20000 in
theorem k_co_X10_of : Cond.code yX10_of cX10_of 3 (some .int) ∈ lw_g := lg_in (tb_3 _ (List.mem_of_getElem? (i := 137) rfl)) rfl
set_option maxRecDepth 20000 in
theorem k_ml_X10_207 : Cond.methodLink RX10 207 yX9_force ∈ lw_g := lg_in (tb_3 _ (List.mem_of_getElem? (i := 138) rfl)) rfl
set_option maxRecDepth 20000 in
theorem k_ml_X10_210 : Cond.methodLink RX10 210 yX6_cell ∈ lw_g := lg_in (tb_3 _ (List.mem_of_getElem? (i := 139) rfl)) rfl
set_option maxRecDepth 20000 in
theorem k_ml_L_69 : Cond.methodLink RL 69 yX10_reach ∈ lw_g := lg_in (tb_3 _ (List.mem_of_getElem? (i := 140) rfl)) rfl
set_option maxRecDepth 20000 in
theorem k_in_X10_reach : Cond.instanceMethod yX10_reach ∈ lw_g := lg_in (tb_3 _ (List.mem_of_getElem? (i := 141) rfl)) rfl
set_option maxRecDepth 20000 in
theorem k_se_X10_X10_reach : Cond.selects RX10 yX10_reach yX10_reach ∈ lw_g := lg_in (tb_3 _ (List.mem_of_getElem? (i := 142) rfl)) rfl
set_option maxRecDepth 20000 in
theorem k_co_X10_reach : Cond.code yX10_reach cX10_reach 3 (some .int) ∈ lw_g := lg_in (tb_3 _ (List.mem_of_getElem? (i := 143) rfl)) rfl
set_option maxRecDepth 20000 in
theorem k_ml_X10_213 : Cond.methodLink RX10 213 yX9_reachOf ∈ lw_g := lg_in (tb_3 _ (List.mem_of_getElem? (i := 144) rfl)) rfl
set_option maxRecDepth 20000 in
theorem k_in_X9_reachOf : Cond.instanceMethod yX9_reachOf ∈ lw_g := lg_in (tb_3 _ (List.mem_of_getElem? (i := 145) rfl)) rfl
set_option maxRecDepth 20000 in
theorem k_se_X9_X9_reachOf : Cond.selects RX9 yX9_reachOf yX9_reachOf ∈ lw_g := lg_in (tb_3 _ (List.mem_of_getElem? (i := 146) rfl)) rfl
set_option maxRecDepth 20000 in
theorem k_co_X9_reachOf : Cond.code yX9_reachOf cX9_reachOf 3 (some .int) ∈ lw_g := lg_in (tb_3 _ (List.mem_of_getElem? (i := 147) rfl)) rfl
set_option maxRecDepth 20000 in
theorem k_ml_L_73 : Cond.methodLink RL 73 yX10_may ∈ lw_g := lg_in (tb_3 _ (List.mem_of_getElem? (i := 148) rfl)) rfl
set_option maxRecDepth 20000 in
theorem k_in_X10_may : Cond.instanceMethod yX10_may ∈ lw_g := lg_in (tb_3 _ (List.mem_of_getElem? (i := 149) rfl)) rfl
set_option maxRecDepth 20000 in
theorem k_se_X10_X10_may : Cond.selects RX10 yX10_may yX10_may ∈ lw_g := lg_in (tb_3 _ (List.mem_of_getElem? (i := 150) rfl)) rfl
set_option maxRecDepth 20000 in
theorem k_co_X10_may : Cond.code yX10_may cX10_may 1 (some .int) ∈ lw_g := lg_in (tb_3 _ (List.mem_of_getElem? (i := 151) rfl)) rfl
set_option maxRecDepth 20000 in
theorem k_ml_X10_216 : Cond.methodLink RX10 216 yX9_carriersOn ∈ lw_g := lg_in (tb_3 _ (List.mem_of_getElem? (i := 152) rfl)) rfl
set_option maxRecDepth 20000 in
theorem k_in_X9_carriersOn : Cond.instanceMethod yX9_carriersOn ∈ lw_g := lg_in (tb_3 _ (List.mem_of_getElem? (i := 153) rfl)) rfl
set_option maxRecDepth 20000 in
theorem k_se_X9_X9_carriersOn : Cond.selects RX9 yX9_carriersOn yX9_carriersOn ∈ lw_g := lg_in (tb_3 _ (List.mem_of_getElem? (i := 154) rfl)) rfl
set_option maxRecDepth 20000 in
theorem k_co_X9_carriersOn : Cond.code yX9_carriersOn cX9_carriersOn 5 (some .int) ∈ lw_g := lg_in (tb_3 _ (List.mem_of_getElem? (i := 155) rfl)) rfl
set_option maxRecDepth 20000 in
theorem k_ml_X9_122 : Cond.methodLink RX9 122 yX6_size ∈ lw_g := lg_in (tb_3 _ (List.mem_of_getElem? (i := 156) rfl)) rfl
set_option maxRecDepth 20000 in
theorem k_ml_L_77 : Cond.methodLink RL 77 yX10_rally ∈ lw_g := lg_in (tb_3 _ (List.mem_of_getElem? (i := 157) rfl)) rfl
set_option maxRecDepth 20000 in
theorem k_in_X10_rally : Cond.instanceMethod yX10_rally ∈ lw_g := lg_in (tb_3 _ (List.mem_of_getElem? (i := 158) rfl)) rfl
set_option maxRecDepth 20000 in
theorem k_se_X10_X10_rally : Cond.selects RX10 yX10_rally yX10_rally ∈ lw_g := lg_in (tb_3 _ (List.mem_of_getElem? (i := 159) rfl)) rfl
set_option maxRecDepth 20000 in
theorem k_co_X10_rally : Cond.code yX10_rally cX10_rally 4 (some .int) ∈ lw_g := lg_in (tb_3 _ (List.mem_of_getElem? (i := 160) rfl)) rfl
set_option maxRecDepth 20000 in
theorem k_ml_X10_219 : Cond.methodLink RX10 219 yX9_everybody ∈ lw_g := lg_in (tb_3 _ (List.mem_of_getElem? (i := 161) rfl)) rfl
set_option maxRecDepth 20000 in
theorem k_in_X9_everybody : Cond.instanceMethod yX9_everybody ∈ lw_g := lg_in (tb_3 _ (List.mem_of_getElem? (i := 162) rfl)) rfl
set_option maxRecDepth 20000 in
theorem k_se_X9_X9_everybody : Cond.selects RX9 yX9_everybody yX9_everybody ∈ lw_g := lg_in (tb_3 _ (List.mem_of_getElem? (i := 163) rfl)) rfl
set_option maxRecDepth 20000 in
theorem k_co_X9_everybody : Cond.code yX9_everybody cX9_everybody 1 (some .int) ∈ lw_g := lg_in (tb_3 _ (List.mem_of_getElem? (i := 164) rfl)) rfl
set_option maxRecDepth 20000 in
theorem k_ml_X10_222 : Cond.methodLink RX10 222 yX4_fewestHours ∈ lw_g := lg_in (tb_3 _ (List.mem_of_getElem? (i := 165) rfl)) rfl
set_option maxRecDepth 20000 in
theorem k_in_X4_fewestHours : Cond.instanceMethod yX4_fewestHours ∈ lw_g := lg_in (tb_3 _ (List.mem_of_getElem? (i := 166) rfl)) rfl
set_option maxRecDepth 20000 in
theorem k_se_X4_X4_fewestHours : Cond.selects RX4 yX4_fewestHours yX4_fewestHours ∈ lw_g := lg_in (tb_3 _ (List.mem_of_getElem? (i := 167) rfl)) rfl
set_option maxRecDepth 20000 in
theorem k_co_X4_fewestHours : Cond.code yX4_fewestHours cX4_fewestHours 4 (some .int) ∈ lw_g := lg_in (tb_3 _ (List.mem_of_getElem? (i := 168) rfl)) rfl
set_option maxRecDepth 20000 in
theorem k_ml_X4_28 : Cond.methodLink RX4 28 yX9_hill ∈ lw_g := lg_in (tb_3 _ (List.mem_of_getElem? (i := 169) rfl)) rfl
set_option maxRecDepth 20000 in
theorem k_ml_X4_34 : Cond.methodLink RX4 34 yX9_isUp ∈ lw_g := lg_in (tb_3 _ (List.mem_of_getElem? (i := 170) rfl)) rfl
set_option maxRecDepth 20000 in
theorem k_ml_X4_38 : Cond.methodLink RX4 38 yJ7_fill_53178 ∈ lw_g := lg_in (tb_3 _ (List.mem_of_getElem? (i := 171) rfl)) rfl
set_option maxRecDepth 20000 in
theorem k_ml_X4_44 : Cond.methodLink RX4 44 yX9_hour ∈ lw_g := lg_in (tb_3 _ (List.mem_of_getElem? (i := 172) rfl)) rfl
set_option maxRecDepth 20000 in
theorem k_ml_X4_47 : Cond.methodLink RX4 47 yX9_carriersOn ∈ lw_g := lg_in (tb_3 _ (List.mem_of_getElem? (i := 173) rfl)) rfl
set_option maxRecDepth 20000 in
theorem k_ml_X4_51 : Cond.methodLink RX4 51 yX4_spread ∈ lw_g := lg_in (tb_3 _ (List.mem_of_getElem? (i := 174) rfl)) rfl
set_option maxRecDepth 20000 in
theorem k_in_X4_spread : Cond.instanceMethod yX4_spread ∈ lw_g := lg_in (tb_3 _ (List.mem_of_getElem? (i := 176) rfl)) rfl
set_option maxRecDepth 20000 in
theorem k_co_X4_spread : Cond.code yX4_spread cX4_spread 4 none ∈ lw_g := lg_in (tb_3 _ (List.mem_of_getElem? (i := 177) rfl)) rfl
set_option maxRecDepth 20000 in
theorem k_ml_X4_69 : Cond.methodLink RX4 69 yX4_mayStep ∈ lw_g := lg_in (tb_3 _ (List.mem_of_getElem? (i := 178) rfl)) rfl
set_option maxRecDepth 20000 in
theorem k_in_X4_mayStep : Cond.instanceMethod yX4_mayStep ∈ lw_g := lg_in (tb_3 _ (List.mem_of_getElem? (i := 180) rfl)) rfl
set_option maxRecDepth 20000 in
theorem k_co_X4_mayStep : Cond.code yX4_mayStep cX4_mayStep 6 (some .boolean) ∈ lw_g := lg_in (tb_3 _ (List.mem_of_getElem? (i := 181) rfl)) rfl
set_option maxRecDepth 20000 in
theorem k_ml_X4_66 : Cond.methodLink RX4 66 yX4_after ∈ lw_g := lg_in (tb_3 _ (List.mem_of_getElem? (i := 182) rfl)) rfl
set_option maxRecDepth 20000 in
theorem k_in_X4_after : Cond.instanceMethod yX4_after ∈ lw_g := lg_in (tb_3 _ (List.mem_of_getElem? (i := 184) rfl)) rfl
set_option maxRecDepth 20000 in
theorem k_co_X4_after : Cond.code yX4_after cX4_after 3 (some .int) ∈ lw_g := lg_in (tb_3 _ (List.mem_of_getElem? (i := 185) rfl)) rfl
set_option maxRecDepth 20000 in
theorem k_ml_X10_226 : Cond.methodLink RX10 226 yX4_strikerIn ∈ lw_g := lg_in (tb_3 _ (List.mem_of_getElem? (i := 186) rfl)) rfl
set_option maxRecDepth 20000 in
theorem k_in_X4_strikerIn : Cond.instanceMethod yX4_strikerIn ∈ lw_g := lg_in (tb_3 _ (List.mem_of_getElem? (i := 187) rfl)) rfl
set_option maxRecDepth 20000 in
theorem k_se_X4_X4_strikerIn : Cond.selects RX4 yX4_strikerIn yX4_strikerIn ∈ lw_g := lg_in (tb_3 _ (List.mem_of_getElem? (i := 188) rfl)) rfl
set_option maxRecDepth 20000 in
theorem k_co_X4_strikerIn : Cond.code yX4_strikerIn cX4_strikerIn 6 (some .int) ∈ lw_g := lg_in (tb_3 _ (List.mem_of_getElem? (i := 189) rfl)) rfl
set_option maxRecDepth 20000 in
theorem k_ml_X4_55 : Cond.methodLink RX4 55 Lib.Math.min.name ∈ lw_g := lg_in (tb_3 _ (List.mem_of_getElem? (i := 190) rfl)) rfl
set_option maxRecDepth 20000 in
theorem k_ml_X4_60 : Cond.methodLink RX4 60 yX4_workBack ∈ lw_g := lg_in (tb_3 _ (List.mem_of_getElem? (i := 191) rfl)) rfl
set_option maxRecDepth 20000 in
theorem k_in_X4_workBack : Cond.instanceMethod yX4_workBack ∈ lw_g := lg_in (tb_3 _ (List.mem_of_getElem? (i := 193) rfl)) rfl
set_option maxRecDepth 20000 in
theorem k_co_X4_workBack : Cond.code yX4_workBack cX4_workBack 4 none ∈ lw_g := lg_in (tb_3 _ (List.mem_of_getElem? (i := 194) rfl)) rfl
set_option maxRecDepth 20000 in
theorem k_ml_X4_63 : Cond.methodLink RX4 63 yX4_firstStep ∈ lw_g := lg_in (tb_3 _ (List.mem_of_getElem? (i := 195) rfl)) rfl
set_option maxRecDepth 20000 in
theorem k_in_X4_firstStep : Cond.instanceMethod yX4_firstStep ∈ lw_g := lg_in (tb_3 _ (List.mem_of_getElem? (i := 197) rfl)) rfl
set_option maxRecDepth 20000 in
theorem k_co_X4_firstStep : Cond.code yX4_firstStep cX4_firstStep 4 (some .int) ∈ lw_g := lg_in (tb_3 _ (List.mem_of_getElem? (i := 198) rfl)) rfl
set_option maxRecDepth 20000 in
theorem k_ml_L_81 : Cond.methodLink RL 81 yX10_lasts ∈ lw_g := lg_in (tb_3 _ (List.mem_of_getElem? (i := 199) rfl)) rfl
set_option maxRecDepth 20000 in
theorem k_in_X10_lasts : Cond.instanceMethod yX10_lasts ∈ lw_g := lg_in (tb_3 _ (List.mem_of_getElem? (i := 200) rfl)) rfl
set_option maxRecDepth 20000 in
theorem k_se_X10_X10_lasts : Cond.selects RX10 yX10_lasts yX10_lasts ∈ lw_g := lg_in (tb_3 _ (List.mem_of_getElem? (i := 201) rfl)) rfl
set_option maxRecDepth 20000 in
theorem k_co_X10_lasts : Cond.code yX10_lasts cX10_lasts 1 (some .int) ∈ lw_g := lg_in (tb_3 _ (List.mem_of_getElem? (i := 202) rfl)) rfl
set_option maxRecDepth 20000 in
theorem k_ml_X10_229 : Cond.methodLink RX10 229 yX7_watch ∈ lw_g := lg_in (tb_3 _ (List.mem_of_getElem? (i := 203) rfl)) rfl
set_option maxRecDepth 20000 in
theorem k_in_X7_watch : Cond.instanceMethod yX7_watch ∈ lw_g := lg_in (tb_3 _ (List.mem_of_getElem? (i := 204) rfl)) rfl
set_option maxRecDepth 20000 in
theorem k_se_X7_X7_watch : Cond.selects RX7 yX7_watch yX7_watch ∈ lw_g := lg_in (tb_3 _ (List.mem_of_getElem? (i := 205) rfl)) rfl
set_option maxRecDepth 20000 in
theorem k_co_X7_watch : Cond.code yX7_watch cX7_watch 3 none ∈ lw_g := lg_in (tb_3 _ (List.mem_of_getElem? (i := 206) rfl)) rfl
set_option maxRecDepth 20000 in
theorem k_ml_X7_17 : Cond.methodLink RX7 17 yX9_hill ∈ lw_g := lg_in (tb_3 _ (List.mem_of_getElem? (i := 207) rfl)) rfl
set_option maxRecDepth 20000 in
theorem k_ml_X7_23 : Cond.methodLink RX7 23 yX7_hillIn ∈ lw_g := lg_in (tb_3 _ (List.mem_of_getElem? (i := 208) rfl)) rfl
set_option maxRecDepth 20000 in
theorem k_in_X7_hillIn : Cond.instanceMethod yX7_hillIn ∈ lw_g := lg_in (tb_3 _ (List.mem_of_getElem? (i := 210) rfl)) rfl
set_option maxRecDepth 20000 in
theorem k_co_X7_hillIn : Cond.code yX7_hillIn cX7_hillIn 2 (some .int) ∈ lw_g := lg_in (tb_3 _ (List.mem_of_getElem? (i := 211) rfl)) rfl
set_option maxRecDepth 20000 in
theorem k_ml_X7_27 : Cond.methodLink RX7 27 yX9_hour ∈ lw_g := lg_in (tb_3 _ (List.mem_of_getElem? (i := 212) rfl)) rfl
set_option maxRecDepth 20000 in
theorem k_ml_X7_30 : Cond.methodLink RX7 30 yX9_carriersFrom ∈ lw_g := lg_in (tb_3 _ (List.mem_of_getElem? (i := 213) rfl)) rfl
set_option maxRecDepth 20000 in
theorem k_in_X9_carriersFrom : Cond.instanceMethod yX9_carriersFrom ∈ lw_g := lg_in (tb_3 _ (List.mem_of_getElem? (i := 214) rfl)) rfl
set_option maxRecDepth 20000 in
theorem k_se_X9_X9_carriersFrom : Cond.selects RX9 yX9_carriersFrom yX9_carriersFrom ∈ lw_g := lg_in (tb_3 _ (List.mem_of_getElem? (i := 215) rfl)) rfl
set_option maxRecDepth 20000 in
theorem k_co_X9_carriersFrom : Cond.code yX9_carriersFrom cX9_carriersFrom 5 (some .int) ∈ lw_g := lg_in (tb_3 _ (List.mem_of_getElem? (i := 216) rfl)) rfl
set_option maxRecDepth 20000 in
theorem k_ml_X10_232 : Cond.methodLink RX10 232 yX9_playersOn ∈ lw_g := lg_in (tb_3 _ (List.mem_of_getElem? (i := 217) rfl)) rfl
set_option maxRecDepth 20000 in
theorem k_in_X9_playersOn : Cond.instanceMethod yX9_playersOn ∈ lw_g := lg_in (tb_3 _ (List.mem_of_getElem? (i := 218) rfl)) rfl
set_option maxRecDepth 20000 in
theorem k_se_X9_X9_playersOn : Cond.selects RX9 yX9_playersOn yX9_playersOn ∈ lw_g := lg_in (tb_3 _ (List.mem_of_getElem? (i := 219) rfl)) rfl
set_option maxRecDepth 20000 in
theorem k_co_X9_playersOn : Cond.code yX9_playersOn cX9_playersOn 4 (some .int) ∈ lw_g := lg_in (tb_3 _ (List.mem_of_getElem? (i := 220) rfl)) rfl
set_option maxRecDepth 20000 in
theorem k_ml_X10_235 : Cond.methodLink RX10 235 yX7_strokes ∈ lw_g := lg_in (tb_3 _ (List.mem_of_getElem? (i := 221) rfl)) rfl
set_option maxRecDepth 20000 in
theorem k_in_X7_strokes : Cond.instanceMethod yX7_strokes ∈ lw_g := lg_in (tb_3 _ (List.mem_of_getElem? (i := 222) rfl)) rfl
set_option maxRecDepth 20000 in
theorem k_se_X7_X7_strokes : Cond.selects RX7 yX7_strokes yX7_strokes ∈ lw_g := lg_in (tb_3 _ (List.mem_of_getElem? (i := 223) rfl)) rfl
set_option maxRecDepth 20000 in
theorem k_co_X7_strokes : Cond.code yX7_strokes cX7_strokes 4 (some .int) ∈ lw_g := lg_in (tb_3 _ (List.mem_of_getElem? (i := 224) rfl)) rfl
set_option maxRecDepth 20000 in
theorem k_ml_L_85 : Cond.methodLink RL 85 yX10_place ∈ lw_g := lg_in (tb_3 _ (List.mem_of_getElem? (i := 225) rfl)) rfl
set_option maxRecDepth 20000 in
theorem k_in_X10_place : Cond.instanceMethod yX10_place ∈ lw_g := lg_in (tb_3 _ (List.mem_of_getElem? (i := 226) rfl)) rfl
set_option maxRecDepth 20000 in
theorem k_se_X10_X10_place : Cond.selects RX10 yX10_place yX10_place ∈ lw_g := lg_in (tb_3 _ (List.mem_of_getElem? (i := 227) rfl)) rfl
set_option maxRecDepth 20000 in
theorem k_co_X10_place : Cond.code yX10_place cX10_place 3 (some .int) ∈ lw_g := lg_in (tb_3 _ (List.mem_of_getElem? (i := 228) rfl)) rfl
set_option maxRecDepth 20000 in
theorem k_ml_X10_238 : Cond.methodLink RX10 238 yX7_firstBestWay ∈ lw_g := lg_in (tb_3 _ (List.mem_of_getElem? (i := 229) rfl)) rfl
set_option maxRecDepth 20000 in
theorem k_in_X7_firstBestWay : Cond.instanceMethod yX7_firstBestWay ∈ lw_g := lg_in (tb_3 _ (List.mem_of_getElem? (i := 230) rfl)) rfl
set_option maxRecDepth 20000 in
theorem k_se_X7_X7_firstBestWay : Cond.selects RX7 yX7_firstBestWay yX7_firstBestWay ∈ lw_g := lg_in (tb_3 _ (List.mem_of_getElem? (i := 231) rfl)) rfl
set_option maxRecDepth 20000 in
theorem k_co_X7_firstBestWay : Cond.code yX7_firstBestWay cX7_firstBestWay 7 (some .int) ∈ lw_g := lg_in (tb_3 _ (List.mem_of_getElem? (i := 232) rfl)) rfl
set_option maxRecDepth 20000 in
theorem k_ml_X7_34 : Cond.methodLink RX7 34 yX7_mirrored ∈ lw_g := lg_in (tb_3 _ (List.mem_of_getElem? (i := 233) rfl)) rfl
set_option maxRecDepth 20000 in
theorem k_st_X7_mirrored : Cond.static yX7_mirrored ∈ lw_g := lg_in (tb_3 _ (List.mem_of_getElem? (i := 234) rfl)) rfl
set_option maxRecDepth 20000 in
theorem k_co_X7_mirrored : Cond.code yX7_mirrored cX7_mirrored 4 (some .int) ∈ lw_g := lg_in (tb_3 _ (List.mem_of_getElem? (i := 235) rfl)) rfl
set_option maxRecDepth 20000 in
theorem k_ml_X7_37 : Cond.methodLink RX7 37 yX7_strokes ∈ lw_g := lg_in (tb_3 _ (List.mem_of_getElem? (i := 236) rfl)) rfl
set_option maxRecDepth 20000 in
theorem k_ml_L_89 : Cond.methodLink RL 89 yX10_seen ∈ lw_g := lg_in (tb_3 _ (List.mem_of_getElem? (i := 237) rfl)) rfl
set_option maxRecDepth 20000 in
theorem k_in_X10_seen : Cond.instanceMethod yX10_seen ∈ lw_g := lg_in (tb_3 _ (List.mem_of_getElem? (i := 238) rfl)) rfl
set_option maxRecDepth 20000 in
theorem k_se_X10_X10_seen : Cond.selects RX10 yX10_seen yX10_seen ∈ lw_g := lg_in (tb_3 _ (List.mem_of_getElem? (i := 239) rfl)) rfl
set_option maxRecDepth 20000 in
theorem k_co_X10_seen : Cond.code yX10_seen cX10_seen 4 (some .int) ∈ lw_g := lg_in (tb_4 _ (List.mem_of_getElem? (i := 0) rfl)) rfl
set_option maxRecDepth 20000 in
theorem k_ml_L_93 : Cond.methodLink RL 93 yX10_heavy ∈ lw_g := lg_in (tb_4 _ (List.mem_of_getElem? (i := 1) rfl)) rfl
set_option maxRecDepth 20000 in
theorem k_in_X10_heavy : Cond.instanceMethod yX10_heavy ∈ lw_g := lg_in (tb_4 _ (List.mem_of_getElem? (i := 2) rfl)) rfl
set_option maxRecDepth 20000 in
theorem k_se_X10_X10_heavy : Cond.selects RX10 yX10_heavy yX10_heavy ∈ lw_g := lg_in (tb_4 _ (List.mem_of_getElem? (i := 3) rfl)) rfl
set_option maxRecDepth 20000 in
theorem k_co_X10_heavy : Cond.code yX10_heavy cX10_heavy 3 (some .int) ∈ lw_g := lg_in (tb_4 _ (List.mem_of_getElem? (i := 4) rfl)) rfl
set_option maxRecDepth 20000 in
theorem k_ml_X10_244 : Cond.methodLink RX10 244 yX1_weights ∈ lw_g := lg_in (tb_4 _ (List.mem_of_getElem? (i := 5) rfl)) rfl
set_option maxRecDepth 20000 in
theorem k_in_X1_weights : Cond.instanceMethod yX1_weights ∈ lw_g := lg_in (tb_4 _ (List.mem_of_getElem? (i := 6) rfl)) rfl
set_option maxRecDepth 20000 in
theorem k_se_X1_X1_weights : Cond.selects RX1 yX1_weights yX1_weights ∈ lw_g := lg_in (tb_4 _ (List.mem_of_getElem? (i := 7) rfl)) rfl
set_option maxRecDepth 20000 in
theorem k_co_X1_weights : Cond.code yX1_weights cX1_weights 4 (some .int) ∈ lw_g := lg_in (tb_4 _ (List.mem_of_getElem? (i := 8) rfl)) rfl
set_option maxRecDepth 20000 in
theorem k_ml_X1_19 : Cond.methodLink RX1 19 yX1_fitsSeen ∈ lw_g := lg_in (tb_4 _ (List.mem_of_getElem? (i := 9) rfl)) rfl
set_option maxRecDepth 20000 in
theorem k_st_X1_fitsSeen : Cond.static yX1_fitsSeen ∈ lw_g := lg_in (tb_4 _ (List.mem_of_getElem? (i := 10) rfl)) rfl
set_option maxRecDepth 20000 in
theorem k_co_X1_fitsSeen : Cond.code yX1_fitsSeen cX1_fitsSeen 5 (some .boolean) ∈ lw_g := lg_in (tb_4 _ (List.mem_of_getElem? (i := 11) rfl)) rfl
set_option maxRecDepth 20000 in
theorem k_ml_X1_79 : Cond.methodLink RX1 79 yX6_size ∈ lw_g := lg_in (tb_4 _ (List.mem_of_getElem? (i := 12) rfl)) rfl
set_option maxRecDepth 20000 in
theorem k_ml_X1_66 : Cond.methodLink RX1 66 yX6_cell ∈ lw_g := lg_in (tb_4 _ (List.mem_of_getElem? (i := 13) rfl)) rfl
set_option maxRecDepth 20000 in
theorem k_ml_X1_83 : Cond.methodLink RX1 83 yX9_carriesWeight ∈ lw_g := lg_in (tb_4 _ (List.mem_of_getElem? (i := 14) rfl)) rfl
set_option maxRecDepth 20000 in
theorem k_in_X9_carriesWeight : Cond.instanceMethod yX9_carriesWeight ∈ lw_g := lg_in (tb_4 _ (List.mem_of_getElem? (i := 15) rfl)) rfl
set_option maxRecDepth 20000 in
theorem k_se_X9_X9_carriesWeight : Cond.selects RX9 yX9_carriesWeight yX9_carriesWeight ∈ lw_g := lg_in (tb_4 _ (List.mem_of_getElem? (i := 16) rfl)) rfl
set_option maxRecDepth 20000 in
theorem k_co_X9_carriesWeight : Cond.code yX9_carriesWeight cX9_carriesWeight 4 (some .boolean) ∈ lw_g := lg_in (tb_4 _ (List.mem_of_getElem? (i := 17) rfl)) rfl
set_option maxRecDepth 20000 in
theorem k_ml_X10_248 : Cond.methodLink RX10 248 yJ6_bitCount_0f7a4 ∈ lw_g := lg_in (tb_4 _ (List.mem_of_getElem? (i := 18) rfl)) rfl
set_option maxRecDepth 20000 in
theorem k_st_J6_bitCount_0f7a4 : Cond.static yJ6_bitCount_0f7a4 ∈ lw_g := lg_in (tb_4 _ (List.mem_of_getElem? (i := 19) rfl)) rfl
set_option maxRecDepth 20000 in
theorem k_co_J6_bitCount_0f7a4 : Cond.code yJ6_bitCount_0f7a4 cJ6_bitCount_0f7a4 1 (some .int) ∈ lw_g := lg_in (tb_4 _ (List.mem_of_getElem? (i := 20) rfl)) rfl
set_option maxRecDepth 20000 in
theorem k_ct_J6_265 : Cond.constant RJ6 265 (1431655765) ∈ lw_g := lg_in (tb_4 _ (List.mem_of_getElem? (i := 21) rfl)) rfl
set_option maxRecDepth 20000 in
theorem k_ct_J6_266 : Cond.constant RJ6 266 (858993459) ∈ lw_g := lg_in (tb_4 _ (List.mem_of_getElem? (i := 22) rfl)) rfl
set_option maxRecDepth 20000 in
theorem k_ct_J6_267 : Cond.constant RJ6 267 (252645135) ∈ lw_g := lg_in (tb_4 _ (List.mem_of_getElem? (i := 23) rfl)) rfl
set_option maxRecDepth 20000 in
theorem k_ml_X10_253 : Cond.methodLink RX10 253 yX10_lowestBit ∈ lw_g := lg_in (tb_4 _ (List.mem_of_getElem? (i := 24) rfl)) rfl
set_option maxRecDepth 20000 in
theorem k_st_X10_lowestBit : Cond.static yX10_lowestBit ∈ lw_g := lg_in (tb_4 _ (List.mem_of_getElem? (i := 25) rfl)) rfl
set_option maxRecDepth 20000 in
theorem k_co_X10_lowestBit : Cond.code yX10_lowestBit cX10_lowestBit 2 (some .int) ∈ lw_g := lg_in (tb_4 _ (List.mem_of_getElem? (i := 26) rfl)) rfl
set_option maxRecDepth 20000 in
theorem k_ml_X10_256 : Cond.methodLink RX10 256 yX10_highestBit ∈ lw_g := lg_in (tb_4 _ (List.mem_of_getElem? (i := 27) rfl)) rfl
set_option maxRecDepth 20000 in
theorem k_st_X10_highestBit : Cond.static yX10_highestBit ∈ lw_g := lg_in (tb_4 _ (List.mem_of_getElem? (i := 28) rfl)) rfl
set_option maxRecDepth 20000 in
theorem k_co_X10_highestBit : Cond.code yX10_highestBit cX10_highestBit 2 (some .int) ∈ lw_g := lg_in (tb_4 _ (List.mem_of_getElem? (i := 29) rfl)) rfl
set_option maxRecDepth 20000 in
theorem k_ml_L_97 : Cond.methodLink RL 97 yX10_tell ∈ lw_g := lg_in (tb_4 _ (List.mem_of_getElem? (i := 30) rfl)) rfl
set_option maxRecDepth 20000 in
theorem k_in_X10_tell : Cond.instanceMethod yX10_tell ∈ lw_g := lg_in (tb_4 _ (List.mem_of_getElem? (i := 31) rfl)) rfl
set_option maxRecDepth 20000 in
theorem k_se_X10_X10_tell : Cond.selects RX10 yX10_tell yX10_tell ∈ lw_g := lg_in (tb_4 _ (List.mem_of_getElem? (i := 32) rfl)) rfl
set_option maxRecDepth 20000 in
theorem k_co_X10_tell : Cond.code yX10_tell cX10_tell 2 (some .int) ∈ lw_g := lg_in (tb_4 _ (List.mem_of_getElem? (i := 33) rfl)) rfl
set_option maxRecDepth 20000 in
theorem k_ml_X10_259 : Cond.methodLink RX10 259 yX1_tellingHour ∈ lw_g := lg_in (tb_4 _ (List.mem_of_getElem? (i := 34) rfl)) rfl
set_option maxRecDepth 20000 in
theorem k_in_X1_tellingHour : Cond.instanceMethod yX1_tellingHour ∈ lw_g := lg_in (tb_4 _ (List.mem_of_getElem? (i := 35) rfl)) rfl
set_option maxRecDepth 20000 in
theorem k_se_X1_X1_tellingHour : Cond.selects RX1 yX1_tellingHour yX1_tellingHour ∈ lw_g := lg_in (tb_4 _ (List.mem_of_getElem? (i := 36) rfl)) rfl
set_option maxRecDepth 20000 in
theorem k_co_X1_tellingHour : Cond.code yX1_tellingHour cX1_tellingHour 8 (some .int) ∈ lw_g := lg_in (tb_4 _ (List.mem_of_getElem? (i := 37) rfl)) rfl
set_option maxRecDepth 20000 in
theorem k_ml_X1_23 : Cond.methodLink RX1 23 yJ6_bitCount_0f7a4 ∈ lw_g := lg_in (tb_4 _ (List.mem_of_getElem? (i := 38) rfl)) rfl
set_option maxRecDepth 20000 in
theorem k_ml_X1_29 : Cond.methodLink RX1 29 yX1_greaterPart ∈ lw_g := lg_in (tb_4 _ (List.mem_of_getElem? (i := 39) rfl)) rfl
set_option maxRecDepth 20000 in
theorem k_st_X1_greaterPart : Cond.static yX1_greaterPart ∈ lw_g := lg_in (tb_4 _ (List.mem_of_getElem? (i := 40) rfl)) rfl
set_option maxRecDepth 20000 in
theorem k_co_X1_greaterPart : Cond.code yX1_greaterPart cX1_greaterPart 7 (some .int) ∈ lw_g := lg_in (tb_4 _ (List.mem_of_getElem? (i := 41) rfl)) rfl
set_option maxRecDepth 20000 in
theorem k_ml_X1_87 : Cond.methodLink RX1 87 Lib.Math.max.name ∈ lw_g := lg_in (tb_4 _ (List.mem_of_getElem? (i := 42) rfl)) rfl
set_option maxRecDepth 20000 in
theorem k_ml_L_101 : Cond.methodLink RL 101 yX10_note ∈ lw_g := lg_in (tb_4 _ (List.mem_of_getElem? (i := 43) rfl)) rfl
set_option maxRecDepth 20000 in
theorem k_in_X10_note : Cond.instanceMethod yX10_note ∈ lw_g := lg_in (tb_4 _ (List.mem_of_getElem? (i := 44) rfl)) rfl
set_option maxRecDepth 20000 in
theorem k_se_X10_X10_note : Cond.selects RX10 yX10_note yX10_note ∈ lw_g := lg_in (tb_4 _ (List.mem_of_getElem? (i := 45) rfl)) rfl
set_option maxRecDepth 20000 in
theorem k_co_X10_note : Cond.code yX10_note cX10_note 5 (some .int) ∈ lw_g := lg_in (tb_4 _ (List.mem_of_getElem? (i := 46) rfl)) rfl
set_option maxRecDepth 20000 in
theorem k_ml_L_106 : Cond.methodLink RL 106 yX10_mark ∈ lw_g := lg_in (tb_4 _ (List.mem_of_getElem? (i := 47) rfl)) rfl
set_option maxRecDepth 20000 in
theorem k_in_X10_mark : Cond.instanceMethod yX10_mark ∈ lw_g := lg_in (tb_4 _ (List.mem_of_getElem? (i := 48) rfl)) rfl
set_option maxRecDepth 20000 in
theorem k_se_X10_X10_mark : Cond.selects RX10 yX10_mark yX10_mark ∈ lw_g := lg_in (tb_4 _ (List.mem_of_getElem? (i := 49) rfl)) rfl
set_option maxRecDepth 20000 in
theorem k_co_X10_mark : Cond.code yX10_mark cX10_mark 5 (some .int) ∈ lw_g := lg_in (tb_4 _ (List.mem_of_getElem? (i := 50) rfl)) rfl
set_option maxRecDepth 20000 in
theorem k_ml_L_110 : Cond.methodLink RL 110 yX10_forget ∈ lw_g := lg_in (tb_4 _ (List.mem_of_getElem? (i := 51) rfl)) rfl
set_option maxRecDepth 20000 in
theorem k_in_X10_forget : Cond.instanceMethod yX10_forget ∈ lw_g := lg_in (tb_4 _ (List.mem_of_getElem? (i := 52) rfl)) rfl
set_option maxRecDepth 20000 in
theorem k_se_X10_X10_forget : Cond.selects RX10 yX10_forget yX10_forget ∈ lw_g := lg_in (tb_4 _ (List.mem_of_getElem? (i := 53) rfl)) rfl
set_option maxRecDepth 20000 in
theorem k_co_X10_forget : Cond.code yX10_forget cX10_forget 2 (some .int) ∈ lw_g := lg_in (tb_4 _ (List.mem_of_getElem? (i := 54) rfl)) rfl
set_option maxRecDepth 20000 in
theorem k_ml_X10_269 : Cond.methodLink RX10 269 yX6_empty ∈ lw_g := lg_in (tb_4 _ (List.mem_of_getElem? (i := 55) rfl)) rfl
set_option maxRecDepth 20000 in
theorem k_ml_L_114 : Cond.methodLink RL 114 yX10_is ∈ lw_g := lg_in (tb_4 _ (List.mem_of_getElem? (i := 56) rfl)) rfl
set_option maxRecDepth 20000 in
theorem k_in_X10_is : Cond.instanceMethod yX10_is ∈ lw_g := lg_in (tb_4 _ (List.mem_of_getElem? (i := 57) rfl)) rfl
set_option maxRecDepth 20000 in
theorem k_se_X10_X10_is : Cond.selects RX10 yX10_is yX10_is ∈ lw_g := lg_in (tb_4 _ (List.mem_of_getElem? (i := 58) rfl)) rfl
set_option maxRecDepth 20000 in
theorem k_co_X10_is : Cond.code yX10_is cX10_is 1 (some .int) ∈ lw_g := lg_in (tb_4 _ (List.mem_of_getElem? (i := 59) rfl)) rfl
set_option maxRecDepth 20000 in
theorem k_ml_X10_270 : Cond.methodLink RX10 270 yX1_cockKinds ∈ lw_g := lg_in (tb_4 _ (List.mem_of_getElem? (i := 60) rfl)) rfl
set_option maxRecDepth 20000 in
theorem k_in_X1_cockKinds : Cond.instanceMethod yX1_cockKinds ∈ lw_g := lg_in (tb_4 _ (List.mem_of_getElem? (i := 61) rfl)) rfl
set_option maxRecDepth 20000 in
theorem k_se_X1_X1_cockKinds : Cond.selects RX1 yX1_cockKinds yX1_cockKinds ∈ lw_g := lg_in (tb_4 _ (List.mem_of_getElem? (i := 62) rfl)) rfl
set_option maxRecDepth 20000 in
theorem k_co_X1_cockKinds : Cond.code yX1_cockKinds cX1_cockKinds 4 (some .int) ∈ lw_g := lg_in (tb_4 _ (List.mem_of_getElem? (i := 63) rfl)) rfl
set_option maxRecDepth 20000 in
theorem k_ml_X1_37 : Cond.methodLink RX1 37 yX1_fitsNotes ∈ lw_g := lg_in (tb_4 _ (List.mem_of_getElem? (i := 64) rfl)) rfl
set_option maxRecDepth 20000 in
theorem k_st_X1_fitsNotes : Cond.static yX1_fitsNotes ∈ lw_g := lg_in (tb_4 _ (List.mem_of_getElem? (i := 65) rfl)) rfl
set_option maxRecDepth 20000 in
theorem k_co_X1_fitsNotes : Cond.code yX1_fitsNotes cX1_fitsNotes 4 (some .boolean) ∈ lw_g := lg_in (tb_4 _ (List.mem_of_getElem? (i := 66) rfl)) rfl
set_option maxRecDepth 20000 in
theorem k_ml_X1_92 : Cond.methodLink RX1 92 yX2_flight ∈ lw_g := lg_in (tb_4 _ (List.mem_of_getElem? (i := 67) rfl)) rfl
set_option maxRecDepth 20000 in
theorem k_ml_L_118 : Cond.methodLink RL 118 yX10_look ∈ lw_g := lg_in (tb_4 _ (List.mem_of_getElem? (i := 68) rfl)) rfl
set_option maxRecDepth 20000 in
theorem k_in_X10_look : Cond.instanceMethod yX10_look ∈ lw_g := lg_in (tb_4 _ (List.mem_of_getElem? (i := 69) rfl)) rfl
set_option maxRecDepth 20000 in
theorem k_se_X10_X10_look : Cond.selects RX10 yX10_look yX10_look ∈ lw_g := lg_in (tb_4 _ (List.mem_of_getElem? (i := 70) rfl)) rfl
set_option maxRecDepth 20000 in
theorem k_co_X10_look : Cond.code yX10_look cX10_look 1 (some .int) ∈ lw_g := lg_in (tb_4 _ (List.mem_of_getElem? (i := 71) rfl)) rfl
set_option maxRecDepth 20000 in
theorem k_ml_X10_273 : Cond.methodLink RX10 273 yX1_nextLook ∈ lw_g := lg_in (tb_4 _ (List.mem_of_getElem? (i := 72) rfl)) rfl
set_option maxRecDepth 20000 in
theorem k_in_X1_nextLook : Cond.instanceMethod yX1_nextLook ∈ lw_g := lg_in (tb_4 _ (List.mem_of_getElem? (i := 73) rfl)) rfl
set_option maxRecDepth 20000 in
theorem k_se_X1_X1_nextLook : Cond.selects RX1 yX1_nextLook yX1_nextLook ∈ lw_g := lg_in (tb_4 _ (List.mem_of_getElem? (i := 74) rfl)) rfl
set_option maxRecDepth 20000 in
theorem k_co_X1_nextLook : Cond.code yX1_nextLook cX1_nextLook 9 (some .int) ∈ lw_g := lg_in (tb_4 _ (List.mem_of_getElem? (i := 75) rfl)) rfl
set_option maxRecDepth 20000 in
theorem k_ml_X1_41 : Cond.methodLink RX1 41 yX1_cockKinds ∈ lw_g := lg_in (tb_4 _ (List.mem_of_getElem? (i := 76) rfl)) rfl
set_option maxRecDepth 20000 in
theorem k_ml_X1_48 : Cond.methodLink RX1 48 yX1_mostAsFar ∈ lw_g := lg_in (tb_4 _ (List.mem_of_getElem? (i := 77) rfl)) rfl
set_option maxRecDepth 20000 in
theorem k_in_X1_mostAsFar : Cond.instanceMethod yX1_mostAsFar ∈ lw_g := lg_in (tb_4 _ (List.mem_of_getElem? (i := 79) rfl)) rfl
set_option maxRecDepth 20000 in
theorem k_co_X1_mostAsFar : Cond.code yX1_mostAsFar cX1_mostAsFar 6 (some .int) ∈ lw_g := lg_in (tb_4 _ (List.mem_of_getElem? (i := 80) rfl)) rfl
set_option maxRecDepth 20000 in
theorem k_ml_X1_98 : Cond.methodLink RX1 98 yX1_mostAlike ∈ lw_g := lg_in (tb_4 _ (List.mem_of_getElem? (i := 81) rfl)) rfl
set_option maxRecDepth 20000 in
theorem k_in_X1_mostAlike : Cond.instanceMethod yX1_mostAlike ∈ lw_g := lg_in (tb_4 _ (List.mem_of_getElem? (i := 83) rfl)) rfl
set_option maxRecDepth 20000 in
theorem k_co_X1_mostAlike : Cond.code yX1_mostAlike cX1_mostAlike 4 (some .int) ∈ lw_g := lg_in (tb_4 _ (List.mem_of_getElem? (i := 84) rfl)) rfl
set_option maxRecDepth 20000 in
theorem k_ml_X1_101 : Cond.methodLink RX1 101 yX1_asMany ∈ lw_g := lg_in (tb_4 _ (List.mem_of_getElem? (i := 85) rfl)) rfl
set_option maxRecDepth 20000 in
theorem k_in_X1_asMany : Cond.instanceMethod yX1_asMany ∈ lw_g := lg_in (tb_4 _ (List.mem_of_getElem? (i := 87) rfl)) rfl
set_option maxRecDepth 20000 in
theorem k_co_X1_asMany : Cond.code yX1_asMany cX1_asMany 5 (some .int) ∈ lw_g := lg_in (tb_4 _ (List.mem_of_getElem? (i := 88) rfl)) rfl
set_option maxRecDepth 20000 in
theorem k_ml_L_122 : Cond.methodLink RL 122 yX10_kinds ∈ lw_g := lg_in (tb_4 _ (List.mem_of_getElem? (i := 89) rfl)) rfl
set_option maxRecDepth 20000 in
theorem k_in_X10_kinds : Cond.instanceMethod yX10_kinds ∈ lw_g := lg_in (tb_4 _ (List.mem_of_getElem? (i := 90) rfl)) rfl
set_option maxRecDepth 20000 in
theorem k_se_X10_X10_kinds : Cond.selects RX10 yX10_kinds yX10_kinds ∈ lw_g := lg_in (tb_4 _ (List.mem_of_getElem? (i := 91) rfl)) rfl
set_option maxRecDepth 20000 in
theorem k_co_X10_kinds : Cond.code yX10_kinds cX10_kinds 2 (some .int) ∈ lw_g := lg_in (tb_4 _ (List.mem_of_getElem? (i := 92) rfl)) rfl
set_option maxRecDepth 20000 in
theorem k_ml_X10_276 : Cond.methodLink RX10 276 yX1_playerKinds ∈ lw_g := lg_in (tb_4 _ (List.mem_of_getElem? (i := 93) rfl)) rfl
set_option maxRecDepth 20000 in
theorem k_in_X1_playerKinds : Cond.instanceMethod yX1_playerKinds ∈ lw_g := lg_in (tb_4 _ (List.mem_of_getElem? (i := 94) rfl)) rfl
set_option maxRecDepth 20000 in
theorem k_se_X1_X1_playerKinds : Cond.selects RX1 yX1_playerKinds yX1_playerKinds ∈ lw_g := lg_in (tb_4 _ (List.mem_of_getElem? (i := 95) rfl)) rfl
set_option maxRecDepth 20000 in
theorem k_co_X1_playerKinds : Cond.code yX1_playerKinds cX1_playerKinds 5 (some .int) ∈ lw_g := lg_in (tb_4 _ (List.mem_of_getElem? (i := 96) rfl)) rfl
set_option maxRecDepth 20000 in
theorem k_ml_X1_55 : Cond.methodLink RX1 55 yX1_fitsMarks ∈ lw_g := lg_in (tb_4 _ (List.mem_of_getElem? (i := 97) rfl)) rfl
set_option maxRecDepth 20000 in
theorem k_st_X1_fitsMarks : Cond.static yX1_fitsMarks ∈ lw_g := lg_in (tb_4 _ (List.mem_of_getElem? (i := 98) rfl)) rfl
set_option maxRecDepth 20000 in
theorem k_co_X1_fitsMarks : Cond.code yX1_fitsMarks cX1_fitsMarks 5 (some .boolean) ∈ lw_g := lg_in (tb_4 _ (List.mem_of_getElem? (i := 99) rfl)) rfl
set_option maxRecDepth 20000 in
theorem k_ml_X1_95 : Cond.methodLink RX1 95 yX2_blow ∈ lw_g := lg_in (tb_4 _ (List.mem_of_getElem? (i := 100) rfl)) rfl
set_option maxRecDepth 20000 in
theorem k_ml_L_126 : Cond.methodLink RL 126 yX10_ask ∈ lw_g := lg_in (tb_4 _ (List.mem_of_getElem? (i := 101) rfl)) rfl
set_option maxRecDepth 20000 in
theorem k_in_X10_ask : Cond.instanceMethod yX10_ask ∈ lw_g := lg_in (tb_4 _ (List.mem_of_getElem? (i := 102) rfl)) rfl
set_option maxRecDepth 20000 in
theorem k_se_X10_X10_ask : Cond.selects RX10 yX10_ask yX10_ask ∈ lw_g := lg_in (tb_4 _ (List.mem_of_getElem? (i := 103) rfl)) rfl
set_option maxRecDepth 20000 in
theorem k_co_X10_ask : Cond.code yX10_ask cX10_ask 2 (some .int) ∈ lw_g := lg_in (tb_4 _ (List.mem_of_getElem? (i := 104) rfl)) rfl
set_option maxRecDepth 20000 in
theorem k_ml_X10_279 : Cond.methodLink RX10 279 yX1_askingHour ∈ lw_g := lg_in (tb_4 _ (List.mem_of_getElem? (i := 105) rfl)) rfl
set_option maxRecDepth 20000 in
theorem k_in_X1_askingHour : Cond.instanceMethod yX1_askingHour ∈ lw_g := lg_in (tb_4 _ (List.mem_of_getElem? (i := 106) rfl)) rfl
set_option maxRecDepth 20000 in
theorem k_se_X1_X1_askingHour : Cond.selects RX1 yX1_askingHour yX1_askingHour ∈ lw_g := lg_in (tb_4 _ (List.mem_of_getElem? (i := 107) rfl)) rfl
set_option maxRecDepth 20000 in
theorem k_co_X1_askingHour : Cond.code yX1_askingHour cX1_askingHour 9 (some .int) ∈ lw_g := lg_in (tb_4 _ (List.mem_of_getElem? (i := 108) rfl)) rfl
set_option maxRecDepth 20000 in
theorem k_ml_X1_59 : Cond.methodLink RX1 59 yX1_playerKinds ∈ lw_g := lg_in (tb_4 _ (List.mem_of_getElem? (i := 109) rfl)) rfl
set_option maxRecDepth 20000 in
theorem k_ml_X1_72 : Cond.methodLink RX1 72 yX1_mostAsHard ∈ lw_g := lg_in (tb_4 _ (List.mem_of_getElem? (i := 110) rfl)) rfl
set_option maxRecDepth 20000 in
theorem k_in_X1_mostAsHard : Cond.instanceMethod yX1_mostAsHard ∈ lw_g := lg_in (tb_4 _ (List.mem_of_getElem? (i := 112) rfl)) rfl
set_option maxRecDepth 20000 in
theorem k_co_X1_mostAsHard : Cond.code yX1_mostAsHard cX1_mostAsHard 5 (some .int) ∈ lw_g := lg_in (tb_4 _ (List.mem_of_getElem? (i := 113) rfl)) rfl
set_option maxRecDepth 20000 in
theorem k_ml_L_130 : Cond.methodLink RL 130 yX10_yours ∈ lw_g := lg_in (tb_4 _ (List.mem_of_getElem? (i := 114) rfl)) rfl
set_option maxRecDepth 20000 in
theorem k_in_X10_yours : Cond.instanceMethod yX10_yours ∈ lw_g := lg_in (tb_4 _ (List.mem_of_getElem? (i := 115) rfl)) rfl
set_option maxRecDepth 20000 in
theorem k_se_X10_X10_yours : Cond.selects RX10 yX10_yours yX10_yours ∈ lw_g := lg_in (tb_4 _ (List.mem_of_getElem? (i := 116) rfl)) rfl
set_option maxRecDepth 20000 in
theorem k_co_X10_yours : Cond.code yX10_yours cX10_yours 7 (some .int) ∈ lw_g := lg_in (tb_4 _ (List.mem_of_getElem? (i := 117) rfl)) rfl
set_option maxRecDepth 20000 in
theorem k_ml_X10_282 : Cond.methodLink RX10 282 yX9_isOn ∈ lw_g := lg_in (tb_4 _ (List.mem_of_getElem? (i := 118) rfl)) rfl
set_option maxRecDepth 20000 in
theorem k_ml_X10_286 : Cond.methodLink RX10 286 yX9_carries ∈ lw_g := lg_in (tb_4 _ (List.mem_of_getElem? (i := 119) rfl)) rfl
set_option maxRecDepth 20000 in
theorem k_ml_X10_289 : Cond.methodLink RX10 289 yX0_rests ∈ lw_g := lg_in (tb_4 _ (List.mem_of_getElem? (i := 120) rfl)) rfl
set_option maxRecDepth 20000 in
theorem k_st_X0_rests : Cond.static yX0_rests ∈ lw_g := lg_in (tb_4 _ (List.mem_of_getElem? (i := 121) rfl)) rfl
set_option maxRecDepth 20000 in
theorem k_co_X0_rests : Cond.code yX0_rests cX0_rests 4 (some .boolean) ∈ lw_g := lg_in (tb_4 _ (List.mem_of_getElem? (i := 122) rfl)) rfl
set_option maxRecDepth 20000 in
theorem k_ml_X0_7 : Cond.methodLink RX0 7 yX0_gain ∈ lw_g := lg_in (tb_4 _ (List.mem_of_getElem? (i := 123) rfl)) rfl
set_option maxRecDepth 20000 in
theorem k_st_X0_gain : Cond.static yX0_gain ∈ lw_g := lg_in (tb_4 _ (List.mem_of_getElem? (i := 124) rfl)) rfl
set_option maxRecDepth 20000 in
theorem k_co_X0_gain : Cond.code yX0_gain cX0_gain 4 (some .int) ∈ lw_g := lg_in (tb_4 _ (List.mem_of_getElem? (i := 125) rfl)) rfl
set_option maxRecDepth 20000 in
theorem k_ml_L_134 : Cond.methodLink RL 134 yX10_gusts ∈ lw_g := lg_in (tb_4 _ (List.mem_of_getElem? (i := 126) rfl)) rfl
set_option maxRecDepth 20000 in
theorem k_in_X10_gusts : Cond.instanceMethod yX10_gusts ∈ lw_g := lg_in (tb_4 _ (List.mem_of_getElem? (i := 127) rfl)) rfl
set_option maxRecDepth 20000 in
theorem k_se_X10_X10_gusts : Cond.selects RX10 yX10_gusts yX10_gusts ∈ lw_g := lg_in (tb_4 _ (List.mem_of_getElem? (i := 128) rfl)) rfl
set_option maxRecDepth 20000 in
theorem k_co_X10_gusts : Cond.code yX10_gusts cX10_gusts 6 (some .int) ∈ lw_g := lg_in (tb_4 _ (List.mem_of_getElem? (i := 129) rfl)) rfl
set_option maxRecDepth 20000 in
theorem k_ml_X10_295 : Cond.methodLink RX10 295 yX9_windIn ∈ lw_g := lg_in (tb_4 _ (List.mem_of_getElem? (i := 130) rfl)) rfl
set_option maxRecDepth 20000 in
theorem k_in_X9_windIn : Cond.instanceMethod yX9_windIn ∈ lw_g := lg_in (tb_4 _ (List.mem_of_getElem? (i := 131) rfl)) rfl
set_option maxRecDepth 20000 in
theorem k_se_X9_X9_windIn : Cond.selects RX9 yX9_windIn yX9_windIn ∈ lw_g := lg_in (tb_4 _ (List.mem_of_getElem? (i := 132) rfl)) rfl
set_option maxRecDepth 20000 in
theorem k_co_X9_windIn : Cond.code yX9_windIn cX9_windIn 2 (some .int) ∈ lw_g := lg_in (tb_4 _ (List.mem_of_getElem? (i := 133) rfl)) rfl
set_option maxRecDepth 20000 in
theorem k_ml_X10_298 : Cond.methodLink RX10 298 yX9_carriesInWind ∈ lw_g := lg_in (tb_4 _ (List.mem_of_getElem? (i := 134) rfl)) rfl
set_option maxRecDepth 20000 in
theorem k_in_X9_carriesInWind : Cond.instanceMethod yX9_carriesInWind ∈ lw_g := lg_in (tb_4 _ (List.mem_of_getElem? (i := 135) rfl)) rfl
set_option maxRecDepth 20000 in
theorem k_se_X9_X9_carriesInWind : Cond.selects RX9 yX9_carriesInWind yX9_carriesInWind ∈ lw_g := lg_in (tb_4 _ (List.mem_of_getElem? (i := 136) rfl)) rfl
set_option maxRecDepth 20000 in
theorem k_co_X9_carriesInWind : Cond.code yX9_carriesInWind cX9_carriesInWind 4 (some .boolean) ∈ lw_g := lg_in (tb_4 _ (List.mem_of_getElem? (i := 137) rfl)) rfl
set_option maxRecDepth 20000 in
theorem k_ml_X10_301 : Cond.methodLink RX10 301 Lib.Math.max.name ∈ lw_g := lg_in (tb_4 _ (List.mem_of_getElem? (i := 138) rfl)) rfl
set_option maxRecDepth 20000 in
theorem k_ml_X10_306 : Cond.methodLink RX10 306 yX10_keepTenths ∈ lw_g := lg_in (tb_4 _ (List.mem_of_getElem? (i := 139) rfl)) rfl
set_option maxRecDepth 20000 in
theorem k_in_X10_keepTenths : Cond.instanceMethod yX10_keepTenths ∈ lw_g := lg_in (tb_4 _ (List.mem_of_getElem? (i := 141) rfl)) rfl
set_option maxRecDepth 20000 in
theorem k_co_X10_keepTenths : Cond.code yX10_keepTenths cX10_keepTenths 3 none ∈ lw_g := lg_in (tb_4 _ (List.mem_of_getElem? (i := 142) rfl)) rfl
set_option maxRecDepth 20000 in
theorem k_ml_L_138 : Cond.methodLink RL 138 yX10_centuries ∈ lw_g := lg_in (tb_4 _ (List.mem_of_getElem? (i := 143) rfl)) rfl
set_option maxRecDepth 20000 in
theorem k_in_X10_centuries : Cond.instanceMethod yX10_centuries ∈ lw_g := lg_in (tb_4 _ (List.mem_of_getElem? (i := 144) rfl)) rfl
set_option maxRecDepth 20000 in
theorem k_se_X10_X10_centuries : Cond.selects RX10 yX10_centuries yX10_centuries ∈ lw_g := lg_in (tb_4 _ (List.mem_of_getElem? (i := 145) rfl)) rfl
set_option maxRecDepth 20000 in
theorem k_co_X10_centuries : Cond.code yX10_centuries cX10_centuries 3 (some .int) ∈ lw_g := lg_in (tb_4 _ (List.mem_of_getElem? (i := 146) rfl)) rfl
set_option maxRecDepth 20000 in
theorem k_ct_X10_309 : Cond.constant RX10 309 (999999) ∈ lw_g := lg_in (tb_4 _ (List.mem_of_getElem? (i := 147) rfl)) rfl
set_option maxRecDepth 20000 in
theorem k_ml_X10_310 : Cond.methodLink RX10 310 yX10_strokesOver ∈ lw_g := lg_in (tb_4 _ (List.mem_of_getElem? (i := 148) rfl)) rfl
set_option maxRecDepth 20000 in
theorem k_in_X10_strokesOver : Cond.instanceMethod yX10_strokesOver ∈ lw_g := lg_in (tb_4 _ (List.mem_of_getElem? (i := 150) rfl)) rfl
set_option maxRecDepth 20000 in
theorem k_co_X10_strokesOver : Cond.code yX10_strokesOver cX10_strokesOver 10 (some .int) ∈ lw_g := lg_in (tb_4 _ (List.mem_of_getElem? (i := 151) rfl)) rfl
set_option maxRecDepth 20000 in
theorem k_cg_X10_331 : Cond.constantLong RX10 331 (1103515245) ∈ lw_g := lg_in (tb_4 _ (List.mem_of_getElem? (i := 152) rfl)) rfl
set_option maxRecDepth 20000 in
theorem k_cg_X10_333 : Cond.constantLong RX10 333 (12345) ∈ lw_g := lg_in (tb_4 _ (List.mem_of_getElem? (i := 153) rfl)) rfl
set_option maxRecDepth 20000 in
theorem k_cg_X10_335 : Cond.constantLong RX10 335 (2147483648) ∈ lw_g := lg_in (tb_4 _ (List.mem_of_getElem? (i := 154) rfl)) rfl
set_option maxRecDepth 20000 in
theorem k_cg_X10_337 : Cond.constantLong RX10 337 (1048576) ∈ lw_g := lg_in (tb_4 _ (List.mem_of_getElem? (i := 155) rfl)) rfl
set_option maxRecDepth 20000 in
theorem k_cg_X10_339 : Cond.constantLong RX10 339 (2) ∈ lw_g := lg_in (tb_4 _ (List.mem_of_getElem? (i := 156) rfl)) rfl
set_option maxRecDepth 20000 in
theorem k_cg_X10_341 : Cond.constantLong RX10 341 (65536) ∈ lw_g := lg_in (tb_4 _ (List.mem_of_getElem? (i := 157) rfl)) rfl
set_option maxRecDepth 20000 in
theorem k_cg_X10_343 : Cond.constantLong RX10 343 (7) ∈ lw_g := lg_in (tb_4 _ (List.mem_of_getElem? (i := 158) rfl)) rfl
set_option maxRecDepth 20000 in
theorem k_ml_L_142 : Cond.methodLink RL 142 yX10_part ∈ lw_g := lg_in (tb_4 _ (List.mem_of_getElem? (i := 159) rfl)) rfl
set_option maxRecDepth 20000 in
theorem k_in_X10_part : Cond.instanceMethod yX10_part ∈ lw_g := lg_in (tb_4 _ (List.mem_of_getElem? (i := 160) rfl)) rfl
set_option maxRecDepth 20000 in
theorem k_se_X10_X10_part : Cond.selects RX10 yX10_part yX10_part ∈ lw_g := lg_in (tb_4 _ (List.mem_of_getElem? (i := 161) rfl)) rfl
set_option maxRecDepth 20000 in
theorem k_co_X10_part : Cond.code yX10_part cX10_part 2 (some .long) ∈ lw_g := lg_in (tb_4 _ (List.mem_of_getElem? (i := 162) rfl)) rfl
set_option maxRecDepth 20000 in
theorem k_ml_L_147 : Cond.methodLink RL 147 yX10_image ∈ lw_g := lg_in (tb_4 _ (List.mem_of_getElem? (i := 163) rfl)) rfl
set_option maxRecDepth 20000 in
theorem k_in_X10_image : Cond.instanceMethod yX10_image ∈ lw_g := lg_in (tb_4 _ (List.mem_of_getElem? (i := 164) rfl)) rfl
set_option maxRecDepth 20000 in
theorem k_se_X10_X10_image : Cond.selects RX10 yX10_image yX10_image ∈ lw_g := lg_in (tb_4 _ (List.mem_of_getElem? (i := 165) rfl)) rfl
set_option maxRecDepth 20000 in
theorem k_co_X10_image : Cond.code yX10_image cX10_image 2 (some .int) ∈ lw_g := lg_in (tb_4 _ (List.mem_of_getElem? (i := 166) rfl)) rfl
set_option maxRecDepth 20000 in
theorem k_ml_L_151 : Cond.methodLink RL 151 yX10_from ∈ lw_g := lg_in (tb_4 _ (List.mem_of_getElem? (i := 167) rfl)) rfl
set_option maxRecDepth 20000 in
theorem k_in_X10_from : Cond.instanceMethod yX10_from ∈ lw_g := lg_in (tb_4 _ (List.mem_of_getElem? (i := 168) rfl)) rfl
set_option maxRecDepth 20000 in
theorem k_se_X10_X10_from : Cond.selects RX10 yX10_from yX10_from ∈ lw_g := lg_in (tb_4 _ (List.mem_of_getElem? (i := 169) rfl)) rfl
set_option maxRecDepth 20000 in
theorem k_co_X10_from : Cond.code yX10_from cX10_from 2 (some .int) ∈ lw_g := lg_in (tb_4 _ (List.mem_of_getElem? (i := 170) rfl)) rfl
set_option maxRecDepth 20000 in
theorem k_ml_L_155 : Cond.methodLink RL 155 yX10_status ∈ lw_g := lg_in (tb_4 _ (List.mem_of_getElem? (i := 171) rfl)) rfl
set_option maxRecDepth 20000 in
theorem k_in_X10_status : Cond.instanceMethod yX10_status ∈ lw_g := lg_in (tb_4 _ (List.mem_of_getElem? (i := 172) rfl)) rfl
set_option maxRecDepth 20000 in
theorem k_se_X10_X10_status : Cond.selects RX10 yX10_status yX10_status ∈ lw_g := lg_in (tb_4 _ (List.mem_of_getElem? (i := 173) rfl)) rfl
set_option maxRecDepth 20000 in
theorem k_co_X10_status : Cond.code yX10_status cX10_status 2 (some .int) ∈ lw_g := lg_in (tb_4 _ (List.mem_of_getElem? (i := 174) rfl)) rfl
set_option maxRecDepth 20000 in
theorem k_ml_L_159 : Cond.methodLink RL 159 yX10_count ∈ lw_g := lg_in (tb_4 _ (List.mem_of_getElem? (i := 175) rfl)) rfl
set_option maxRecDepth 20000 in
theorem k_in_X10_count : Cond.instanceMethod yX10_count ∈ lw_g := lg_in (tb_4 _ (List.mem_of_getElem? (i := 176) rfl)) rfl
set_option maxRecDepth 20000 in
theorem k_se_X10_X10_count : Cond.selects RX10 yX10_count yX10_count ∈ lw_g := lg_in (tb_4 _ (List.mem_of_getElem? (i := 177) rfl)) rfl
set_option maxRecDepth 20000 in
theorem k_co_X10_count : Cond.code yX10_count cX10_count 2 (some .int) ∈ lw_g := lg_in (tb_4 _ (List.mem_of_getElem? (i := 178) rfl)) rfl
set_option maxRecDepth 20000 in
theorem k_ml_X10_313 : Cond.methodLink RX10 313 yX10_howMany ∈ lw_g := lg_in (tb_4 _ (List.mem_of_getElem? (i := 179) rfl)) rfl
set_option maxRecDepth 20000 in
theorem k_in_X10_howMany : Cond.instanceMethod yX10_howMany ∈ lw_g := lg_in (tb_4 _ (List.mem_of_getElem? (i := 181) rfl)) rfl
set_option maxRecDepth 20000 in
theorem k_co_X10_howMany : Cond.code yX10_howMany cX10_howMany 2 (some .int) ∈ lw_g := lg_in (tb_4 _ (List.mem_of_getElem? (i := 182) rfl)) rfl
set_option maxRecDepth 20000 in
theorem k_ml_X10_330 : Cond.methodLink RX10 330 yX8_size ∈ lw_g := lg_in (tb_4 _ (List.mem_of_getElem? (i := 183) rfl)) rfl
set_option maxRecDepth 20000 in
theorem k_in_X8_size : Cond.instanceMethod yX8_size ∈ lw_g := lg_in (tb_4 _ (List.mem_of_getElem? (i := 184) rfl)) rfl
set_option maxRecDepth 20000 in
theorem k_se_X8_X8_size : Cond.selects RX8 yX8_size yX8_size ∈ lw_g := lg_in (tb_4 _ (List.mem_of_getElem? (i := 185) rfl)) rfl
set_option maxRecDepth 20000 in
theorem k_co_X8_size : Cond.code yX8_size cX8_size 1 (some .int) ∈ lw_g := lg_in (tb_4 _ (List.mem_of_getElem? (i := 186) rfl)) rfl
set_option maxRecDepth 20000 in
theorem k_ml_L_163 : Cond.methodLink RL 163 yX10_digest ∈ lw_g := lg_in (tb_4 _ (List.mem_of_getElem? (i := 187) rfl)) rfl
set_option maxRecDepth 20000 in
theorem k_in_X10_digest : Cond.instanceMethod yX10_digest ∈ lw_g := lg_in (tb_4 _ (List.mem_of_getElem? (i := 188) rfl)) rfl
set_option maxRecDepth 20000 in
theorem k_se_X10_X10_digest : Cond.selects RX10 yX10_digest yX10_digest ∈ lw_g := lg_in (tb_4 _ (List.mem_of_getElem? (i := 189) rfl)) rfl
set_option maxRecDepth 20000 in
theorem k_co_X10_digest : Cond.code yX10_digest cX10_digest 4 (some .long) ∈ lw_g := lg_in (tb_4 _ (List.mem_of_getElem? (i := 190) rfl)) rfl
set_option maxRecDepth 20000 in
theorem k_cg_X10_316 : Cond.constantLong RX10 316 (1663) ∈ lw_g := lg_in (tb_4 _ (List.mem_of_getElem? (i := 191) rfl)) rfl
set_option maxRecDepth 20000 in
theorem k_cg_X10_318 : Cond.constantLong RX10 318 (31) ∈ lw_g := lg_in (tb_4 _ (List.mem_of_getElem? (i := 192) rfl)) rfl
set_option maxRecDepth 20000 in
theorem k_ml_X10_320 : Cond.methodLink RX10 320 yX9_foldInto ∈ lw_g := lg_in (tb_4 _ (List.mem_of_getElem? (i := 193) rfl)) rfl
set_option maxRecDepth 20000 in
theorem k_in_X9_foldInto : Cond.instanceMethod yX9_foldInto ∈ lw_g := lg_in (tb_4 _ (List.mem_of_getElem? (i := 194) rfl)) rfl
set_option maxRecDepth 20000 in
theorem k_se_X9_X9_foldInto : Cond.selects RX9 yX9_foldInto yX9_foldInto ∈ lw_g := lg_in (tb_4 _ (List.mem_of_getElem? (i := 195) rfl)) rfl
set_option maxRecDepth 20000 in
theorem k_co_X9_foldInto : Cond.code yX9_foldInto cX9_foldInto 6 (some .long) ∈ lw_g := lg_in (tb_4 _ (List.mem_of_getElem? (i := 196) rfl)) rfl
set_option maxRecDepth 20000 in
theorem k_cg_X9_139 : Cond.constantLong RX9 139 (31) ∈ lw_g := lg_in (tb_4 _ (List.mem_of_getElem? (i := 197) rfl)) rfl
set_option maxRecDepth 20000 in
theorem k_ml_X9_141 : Cond.methodLink RX9 141 yX6_foldInto ∈ lw_g := lg_in (tb_4 _ (List.mem_of_getElem? (i := 198) rfl)) rfl
set_option maxRecDepth 20000 in
theorem k_in_X6_foldInto : Cond.instanceMethod yX6_foldInto ∈ lw_g := lg_in (tb_4 _ (List.mem_of_getElem? (i := 199) rfl)) rfl
set_option maxRecDepth 20000 in
theorem k_se_X6_X6_foldInto : Cond.selects RX6 yX6_foldInto yX6_foldInto ∈ lw_g := lg_in (tb_4 _ (List.mem_of_getElem? (i := 200) rfl)) rfl
set_option maxRecDepth 20000 in
theorem k_co_X6_foldInto : Cond.code yX6_foldInto cX6_foldInto 6 (some .long) ∈ lw_g := lg_in (tb_4 _ (List.mem_of_getElem? (i := 201) rfl)) rfl
set_option maxRecDepth 20000 in
theorem k_cg_X6_46 : Cond.constantLong RX6 46 (31) ∈ lw_g := lg_in (tb_4 _ (List.mem_of_getElem? (i := 202) rfl)) rfl
set_option maxRecDepth 20000 in
theorem k_cl_L_10 : Cond.classLink RL 10 RX11 ∈ lw_g := lg_in (tb_4 _ (List.mem_of_getElem? (i := 203) rfl)) rfl
set_option maxRecDepth 20000 in
theorem k_it_X11 : Cond.instantiable RX11 17 ∈ lw_g := lg_in (tb_4 _ (List.mem_of_getElem? (i := 204) rfl)) rfl
set_option maxRecDepth 20000 in
theorem k_ml_L_12 : Cond.methodLink RL 12 yX11_init ∈ lw_g := lg_in (tb_4 _ (List.mem_of_getElem? (i := 205) rfl)) rfl
set_option maxRecDepth 20000 in
theorem k_in_X11_init : Cond.instanceMethod yX11_init ∈ lw_g := lg_in (tb_4 _ (List.mem_of_getElem? (i := 206) rfl)) rfl
set_option maxRecDepth 20000 in
theorem k_co_X11_init : Cond.code yX11_init cX11_init 1 none ∈ lw_g := lg_in (tb_4 _ (List.mem_of_getElem? (i := 207) rfl)) rfl
set_option maxRecDepth 20000 in
theorem k_ml_X11_1 : Cond.methodLink RX11 1 objectInit ∈ lw_g := lg_in (tb_4 _ (List.mem_of_getElem? (i := 208) rfl)) rfl
set_option maxRecDepth 20000 in
theorem k_ml_X11_45 : Cond.methodLink RX11 45 yX11_begin ∈ lw_g := lg_in (tb_4 _ (List.mem_of_getElem? (i := 209) rfl)) rfl
set_option maxRecDepth 20000 in
theorem k_st_X11_begin : Cond.static yX11_begin ∈ lw_g := lg_in (tb_4 _ (List.mem_of_getElem? (i := 210) rfl)) rfl
set_option maxRecDepth 20000 in
theorem k_co_X11_begin : Cond.code yX11_begin cX11_begin 3 none ∈ lw_g := lg_in (tb_4 _ (List.mem_of_getElem? (i := 211) rfl)) rfl
set_option maxRecDepth 20000 in
theorem k_fl_X11_7 : Cond.fieldLink RX11 7 "TruthOverModel" "all" "[I" ∈ lw_g := lg_in (tb_4 _ (List.mem_of_getElem? (i := 212) rfl)) rfl
set_option maxRecDepth 20000 in
theorem k_fl_X11_13 : Cond.fieldLink RX11 13 "TruthOverModel" "kept" "[I" ∈ lw_g := lg_in (tb_4 _ (List.mem_of_getElem? (i := 213) rfl)) rfl
set_option maxRecDepth 20000 in
theorem k_fl_X11_16 : Cond.fieldLink RX11 16 "TruthOverModel" "isKept" "[Z" ∈ lw_g := lg_in (tb_4 _ (List.mem_of_getElem? (i := 214) rfl)) rfl
set_option maxRecDepth 20000 in
theorem k_fl_X11_20 : Cond.fieldLink RX11 20 "TruthOverModel" "refused" "[I" ∈ lw_g := lg_in (tb_4 _ (List.mem_of_getElem? (i := 215) rfl)) rfl
set_option maxRecDepth 20000 in
theorem k_fl_X11_197 : Cond.fieldLink RX11 197 "TruthOverModel" "above" "J" ∈ lw_g := lg_in (tb_4 _ (List.mem_of_getElem? (i := 216) rfl)) rfl
set_option maxRecDepth 20000 in
theorem k_fl_X11_23 : Cond.fieldLink RX11 23 "TruthOverModel" "below" "J" ∈ lw_g := lg_in (tb_4 _ (List.mem_of_getElem? (i := 217) rfl)) rfl
set_option maxRecDepth 20000 in
theorem k_fl_X11_27 : Cond.fieldLink RX11 27 "TruthOverModel" "soonest" "[I" ∈ lw_g := lg_in (tb_4 _ (List.mem_of_getElem? (i := 218) rfl)) rfl
set_option maxRecDepth 20000 in
theorem k_fl_X11_30 : Cond.fieldLink RX11 30 "TruthOverModel" "hand" "[I" ∈ lw_g := lg_in (tb_4 _ (List.mem_of_getElem? (i := 219) rfl)) rfl
set_option maxRecDepth 20000 in
theorem k_fl_X11_33 : Cond.fieldLink RX11 33 "TruthOverModel" "tells" "[I" ∈ lw_g := lg_in (tb_4 _ (List.mem_of_getElem? (i := 220) rfl)) rfl
set_option maxRecDepth 20000 in
theorem k_fl_X11_36 : Cond.fieldLink RX11 36 "TruthOverModel" "bytes" "[I" ∈ lw_g := lg_in (tb_4 _ (List.mem_of_getElem? (i := 221) rfl)) rfl
set_option maxRecDepth 20000 in
theorem k_fl_X11_224 : Cond.fieldLink RX11 224 "TruthOverModel" "bytesLong" "I" ∈ lw_g := lg_in (tb_4 _ (List.mem_of_getElem? (i := 222) rfl)) rfl
set_option maxRecDepth 20000 in
theorem k_fl_X11_236 : Cond.fieldLink RX11 236 "TruthOverModel" "tokenAt" "I" ∈ lw_g := lg_in (tb_4 _ (List.mem_of_getElem? (i := 223) rfl)) rfl
set_option maxRecDepth 20000 in
theorem k_fl_X11_239 : Cond.fieldLink RX11 239 "TruthOverModel" "tokenLong" "I" ∈ lw_g := lg_in (tb_4 _ (List.mem_of_getElem? (i := 224) rfl)) rfl
set_option maxRecDepth 20000 in
theorem k_fl_X11_242 : Cond.fieldLink RX11 242 "TruthOverModel" "token" "I" ∈ lw_g := lg_in (tb_4 _ (List.mem_of_getElem? (i := 225) rfl)) rfl
set_option maxRecDepth 20000 in
theorem k_fl_X11_245 : Cond.fieldLink RX11 245 "TruthOverModel" "value" "I" ∈ lw_g := lg_in (tb_4 _ (List.mem_of_getElem? (i := 226) rfl)) rfl
set_option maxRecDepth 20000 in
theorem k_fl_X11_39 : Cond.fieldLink RX11 39 "TruthOverModel" "anew" "[I" ∈ lw_g := lg_in (tb_4 _ (List.mem_of_getElem? (i := 227) rfl)) rfl
set_option maxRecDepth 20000 in
theorem k_fl_X11_42 : Cond.fieldLink RX11 42 "TruthOverModel" "values" "[I" ∈ lw_g := lg_in (tb_4 _ (List.mem_of_getElem? (i := 228) rfl)) rfl
set_option maxRecDepth 20000 in
theorem k_ac_boolean : Cond.arrayClass .boolean ∈ lw_g := lg_in (tb_5 _ (List.mem_of_getElem? (i := 24) rfl)) rfl
set_option maxRecDepth 20000 in
theorem k_ml_L_17 : Cond.methodLink RL 17 yX11_valley ∈ lw_g := lg_in (tb_5 _ (List.mem_of_getElem? (i := 25) rfl)) rfl
set_option maxRecDepth 20000 in
theorem k_in_X11_valley : Cond.instanceMethod yX11_valley ∈ lw_g := lg_in (tb_5 _ (List.mem_of_getElem? (i := 26) rfl)) rfl
set_option maxRecDepth 20000 in
theorem k_se_X11_X11_valley : Cond.selects RX11 yX11_valley yX11_valley ∈ lw_g := lg_in (tb_5 _ (List.mem_of_getElem? (i := 27) rfl)) rfl
set_option maxRecDepth 20000 in
theorem k_co_X11_valley : Cond.code yX11_valley cX11_valley 3 (some .int) ∈ lw_g := lg_in (tb_5 _ (List.mem_of_getElem? (i := 28) rfl)) rfl
set_option maxRecDepth 20000 in
theorem k_cg_X11_65 : Cond.constantLong RX11 65 (40) ∈ lw_g := lg_in (tb_5 _ (List.mem_of_getElem? (i := 29) rfl)) rfl
set_option maxRecDepth 20000 in
theorem k_ml_X11_53 : Cond.methodLink RX11 53 yX11_in ∈ lw_g := lg_in (tb_5 _ (List.mem_of_getElem? (i := 30) rfl)) rfl
set_option maxRecDepth 20000 in
theorem k_st_X11_in : Cond.static yX11_in ∈ lw_g := lg_in (tb_5 _ (List.mem_of_getElem? (i := 31) rfl)) rfl
set_option maxRecDepth 20000 in
theorem k_co_X11_in : Cond.code yX11_in cX11_in 6 (some .boolean) ∈ lw_g := lg_in (tb_5 _ (List.mem_of_getElem? (i := 32) rfl)) rfl
set_option maxRecDepth 20000 in
theorem k_ml_X11_67 : Cond.methodLink RX11 67 yX11_bad ∈ lw_g := lg_in (tb_5 _ (List.mem_of_getElem? (i := 33) rfl)) rfl
set_option maxRecDepth 20000 in
theorem k_in_X11_bad : Cond.instanceMethod yX11_bad ∈ lw_g := lg_in (tb_5 _ (List.mem_of_getElem? (i := 35) rfl)) rfl
set_option maxRecDepth 20000 in
theorem k_co_X11_bad : Cond.code yX11_bad cX11_bad 2 (some .int) ∈ lw_g := lg_in (tb_5 _ (List.mem_of_getElem? (i := 36) rfl)) rfl
set_option maxRecDepth 20000 in
theorem k_ml_X11_49 : Cond.methodLink RX11 49 yX11_many ∈ lw_g := lg_in (tb_5 _ (List.mem_of_getElem? (i := 37) rfl)) rfl
set_option maxRecDepth 20000 in
theorem k_in_X11_many : Cond.instanceMethod yX11_many ∈ lw_g := lg_in (tb_5 _ (List.mem_of_getElem? (i := 39) rfl)) rfl
set_option maxRecDepth 20000 in
theorem k_co_X11_many : Cond.code yX11_many cX11_many 1 (some .int) ∈ lw_g := lg_in (tb_5 _ (List.mem_of_getElem? (i := 40) rfl)) rfl
set_option maxRecDepth 20000 in
theorem k_ml_L_22 : Cond.methodLink RL 22 yX11_wind ∈ lw_g := lg_in (tb_5 _ (List.mem_of_getElem? (i := 41) rfl)) rfl
set_option maxRecDepth 20000 in
theorem k_in_X11_wind : Cond.instanceMethod yX11_wind ∈ lw_g := lg_in (tb_5 _ (List.mem_of_getElem? (i := 42) rfl)) rfl
set_option maxRecDepth 20000 in
theorem k_se_X11_X11_wind : Cond.selects RX11 yX11_wind yX11_wind ∈ lw_g := lg_in (tb_5 _ (List.mem_of_getElem? (i := 43) rfl)) rfl
set_option maxRecDepth 20000 in
theorem k_co_X11_wind : Cond.code yX11_wind cX11_wind 4 (some .int) ∈ lw_g := lg_in (tb_5 _ (List.mem_of_getElem? (i := 44) rfl)) rfl
set_option maxRecDepth 20000 in
theorem k_cg_X11_57 : Cond.constantLong RX11 57 (5) ∈ lw_g := lg_in (tb_5 _ (List.mem_of_getElem? (i := 45) rfl)) rfl
set_option maxRecDepth 20000 in
theorem k_ml_X11_71 : Cond.methodLink RX11 71 yX11_isWind ∈ lw_g := lg_in (tb_5 _ (List.mem_of_getElem? (i := 46) rfl)) rfl
set_option maxRecDepth 20000 in
theorem k_st_X11_isWind : Cond.static yX11_isWind ∈ lw_g := lg_in (tb_5 _ (List.mem_of_getElem? (i := 47) rfl)) rfl
set_option maxRecDepth 20000 in
theorem k_co_X11_isWind : Cond.code yX11_isWind cX11_isWind 1 (some .boolean) ∈ lw_g := lg_in (tb_5 _ (List.mem_of_getElem? (i := 48) rfl)) rfl
set_option maxRecDepth 20000 in
theorem k_cg_X11_61 : Cond.constantLong RX11 61 (-4) ∈ lw_g := lg_in (tb_5 _ (List.mem_of_getElem? (i := 49) rfl)) rfl
set_option maxRecDepth 20000 in
theorem k_cg_X11_63 : Cond.constantLong RX11 63 (4) ∈ lw_g := lg_in (tb_5 _ (List.mem_of_getElem? (i := 50) rfl)) rfl
set_option maxRecDepth 20000 in
theorem k_ml_L_27 : Cond.methodLink RL 27 yX11_player ∈ lw_g := lg_in (tb_5 _ (List.mem_of_getElem? (i := 51) rfl)) rfl
set_option maxRecDepth 20000 in
theorem k_in_X11_player : Cond.instanceMethod yX11_player ∈ lw_g := lg_in (tb_5 _ (List.mem_of_getElem? (i := 52) rfl)) rfl
set_option maxRecDepth 20000 in
theorem k_se_X11_X11_player : Cond.selects RX11 yX11_player yX11_player ∈ lw_g := lg_in (tb_5 _ (List.mem_of_getElem? (i := 53) rfl)) rfl
set_option maxRecDepth 20000 in
theorem k_co_X11_player : Cond.code yX11_player cX11_player 4 (some .int) ∈ lw_g := lg_in (tb_5 _ (List.mem_of_getElem? (i := 54) rfl)) rfl
set_option maxRecDepth 20000 in
theorem k_ml_X11_75 : Cond.methodLink RX11 75 yX11_isKind ∈ lw_g := lg_in (tb_5 _ (List.mem_of_getElem? (i := 55) rfl)) rfl
set_option maxRecDepth 20000 in
theorem k_st_X11_isKind : Cond.static yX11_isKind ∈ lw_g := lg_in (tb_5 _ (List.mem_of_getElem? (i := 56) rfl)) rfl
set_option maxRecDepth 20000 in
theorem k_co_X11_isKind : Cond.code yX11_isKind cX11_isKind 1 (some .boolean) ∈ lw_g := lg_in (tb_5 _ (List.mem_of_getElem? (i := 57) rfl)) rfl
set_option maxRecDepth 20000 in
theorem k_ml_X11_78 : Cond.methodLink RX11 78 yX11_isHill ∈ lw_g := lg_in (tb_5 _ (List.mem_of_getElem? (i := 58) rfl)) rfl
set_option maxRecDepth 20000 in
theorem k_st_X11_isHill : Cond.static yX11_isHill ∈ lw_g := lg_in (tb_5 _ (List.mem_of_getElem? (i := 59) rfl)) rfl
set_option maxRecDepth 20000 in
theorem k_co_X11_isHill : Cond.code yX11_isHill cX11_isHill 1 (some .boolean) ∈ lw_g := lg_in (tb_5 _ (List.mem_of_getElem? (i := 60) rfl)) rfl
set_option maxRecDepth 20000 in
theorem k_ml_X11_81 : Cond.methodLink RX11 81 yX11_isNine ∈ lw_g := lg_in (tb_5 _ (List.mem_of_getElem? (i := 61) rfl)) rfl
set_option maxRecDepth 20000 in
theorem k_st_X11_isNine : Cond.static yX11_isNine ∈ lw_g := lg_in (tb_5 _ (List.mem_of_getElem? (i := 62) rfl)) rfl
set_option maxRecDepth 20000 in
theorem k_co_X11_isNine : Cond.code yX11_isNine cX11_isNine 1 (some .boolean) ∈ lw_g := lg_in (tb_5 _ (List.mem_of_getElem? (i := 63) rfl)) rfl
set_option maxRecDepth 20000 in
theorem k_cg_X11_59 : Cond.constantLong RX11 59 (9) ∈ lw_g := lg_in (tb_5 _ (List.mem_of_getElem? (i := 64) rfl)) rfl
set_option maxRecDepth 20000 in
theorem k_ml_X11_84 : Cond.methodLink RX11 84 yX11_full ∈ lw_g := lg_in (tb_5 _ (List.mem_of_getElem? (i := 65) rfl)) rfl
set_option maxRecDepth 20000 in
theorem k_in_X11_full : Cond.instanceMethod yX11_full ∈ lw_g := lg_in (tb_5 _ (List.mem_of_getElem? (i := 67) rfl)) rfl
set_option maxRecDepth 20000 in
theorem k_co_X11_full : Cond.code yX11_full cX11_full 1 (some .int) ∈ lw_g := lg_in (tb_5 _ (List.mem_of_getElem? (i := 68) rfl)) rfl
set_option maxRecDepth 20000 in
theorem k_ml_X11_87 : Cond.methodLink RX11 87 yX11_layPlayer ∈ lw_g := lg_in (tb_5 _ (List.mem_of_getElem? (i := 69) rfl)) rfl
set_option maxRecDepth 20000 in
theorem k_st_X11_layPlayer : Cond.static yX11_layPlayer ∈ lw_g := lg_in (tb_5 _ (List.mem_of_getElem? (i := 70) rfl)) rfl
set_option maxRecDepth 20000 in
theorem k_co_X11_layPlayer : Cond.code yX11_layPlayer cX11_layPlayer 5 none ∈ lw_g := lg_in (tb_5 _ (List.mem_of_getElem? (i := 71) rfl)) rfl
set_option maxRecDepth 20000 in
theorem k_ml_L_44 : Cond.methodLink RL 44 yX11_hits ∈ lw_g := lg_in (tb_5 _ (List.mem_of_getElem? (i := 72) rfl)) rfl
set_option maxRecDepth 20000 in
theorem k_in_X11_hits : Cond.instanceMethod yX11_hits ∈ lw_g := lg_in (tb_5 _ (List.mem_of_getElem? (i := 73) rfl)) rfl
set_option maxRecDepth 20000 in
theorem k_se_X11_X11_hits : Cond.selects RX11 yX11_hits yX11_hits ∈ lw_g := lg_in (tb_5 _ (List.mem_of_getElem? (i := 74) rfl)) rfl
set_option maxRecDepth 20000 in
theorem k_co_X11_hits : Cond.code yX11_hits cX11_hits 2 (some .int) ∈ lw_g := lg_in (tb_5 _ (List.mem_of_getElem? (i := 75) rfl)) rfl
set_option maxRecDepth 20000 in
theorem k_ml_X11_118 : Cond.methodLink RX11 118 yX11_isPlayer ∈ lw_g := lg_in (tb_5 _ (List.mem_of_getElem? (i := 76) rfl)) rfl
set_option maxRecDepth 20000 in
theorem k_in_X11_isPlayer : Cond.instanceMethod yX11_isPlayer ∈ lw_g := lg_in (tb_5 _ (List.mem_of_getElem? (i := 78) rfl)) rfl
set_option maxRecDepth 20000 in
theorem k_co_X11_isPlayer : Cond.code yX11_isPlayer cX11_isPlayer 2 (some .boolean) ∈ lw_g := lg_in (tb_5 _ (List.mem_of_getElem? (i := 79) rfl)) rfl
set_option maxRecDepth 20000 in
theorem k_ml_X11_121 : Cond.methodLink RX11 121 yX11_canHit ∈ lw_g := lg_in (tb_5 _ (List.mem_of_getElem? (i := 80) rfl)) rfl
set_option maxRecDepth 20000 in
theorem k_st_X11_canHit : Cond.static yX11_canHit ∈ lw_g := lg_in (tb_5 _ (List.mem_of_getElem? (i := 81) rfl)) rfl
set_option maxRecDepth 20000 in
theorem k_co_X11_canHit : Cond.code yX11_canHit cX11_canHit 2 (some .boolean) ∈ lw_g := lg_in (tb_5 _ (List.mem_of_getElem? (i := 82) rfl)) rfl
set_option maxRecDepth 20000 in
theorem k_ml_X11_107 : Cond.methodLink RX11 107 yX11_isAt ∈ lw_g := lg_in (tb_5 _ (List.mem_of_getElem? (i := 83) rfl)) rfl
set_option maxRecDepth 20000 in
theorem k_st_X11_isAt : Cond.static yX11_isAt ∈ lw_g := lg_in (tb_5 _ (List.mem_of_getElem? (i := 84) rfl)) rfl
set_option maxRecDepth 20000 in
theorem k_co_X11_isAt : Cond.code yX11_isAt cX11_isAt 2 (some .boolean) ∈ lw_g := lg_in (tb_5 _ (List.mem_of_getElem? (i := 85) rfl)) rfl
set_option maxRecDepth 20000 in
theorem k_ml_X11_124 : Cond.methodLink RX11 124 yX11_no ∈ lw_g := lg_in (tb_5 _ (List.mem_of_getElem? (i := 86) rfl)) rfl
set_option maxRecDepth 20000 in
theorem k_in_X11_no : Cond.instanceMethod yX11_no ∈ lw_g := lg_in (tb_5 _ (List.mem_of_getElem? (i := 88) rfl)) rfl
set_option maxRecDepth 20000 in
theorem k_co_X11_no : Cond.code yX11_no cX11_no 1 (some .int) ∈ lw_g := lg_in (tb_5 _ (List.mem_of_getElem? (i := 89) rfl)) rfl
set_option maxRecDepth 20000 in
theorem k_ml_X11_127 : Cond.methodLink RX11 127 yX11_save ∈ lw_g := lg_in (tb_5 _ (List.mem_of_getElem? (i := 90) rfl)) rfl
set_option maxRecDepth 20000 in
theorem k_in_X11_save : Cond.instanceMethod yX11_save ∈ lw_g := lg_in (tb_5 _ (List.mem_of_getElem? (i := 92) rfl)) rfl
set_option maxRecDepth 20000 in
theorem k_co_X11_save : Cond.code yX11_save cX11_save 2 none ∈ lw_g := lg_in (tb_5 _ (List.mem_of_getElem? (i := 93) rfl)) rfl
set_option maxRecDepth 20000 in
theorem k_ml_X11_130 : Cond.methodLink RX11 130 yX11_goHit ∈ lw_g := lg_in (tb_5 _ (List.mem_of_getElem? (i := 94) rfl)) rfl
set_option maxRecDepth 20000 in
theorem k_st_X11_goHit : Cond.static yX11_goHit ∈ lw_g := lg_in (tb_5 _ (List.mem_of_getElem? (i := 95) rfl)) rfl
set_option maxRecDepth 20000 in
theorem k_co_X11_goHit : Cond.code yX11_goHit cX11_goHit 3 (some .int) ∈ lw_g := lg_in (tb_5 _ (List.mem_of_getElem? (i := 96) rfl)) rfl
set_option maxRecDepth 20000 in
theorem k_ml_X11_111 : Cond.methodLink RX11 111 yX11_carries ∈ lw_g := lg_in (tb_5 _ (List.mem_of_getElem? (i := 97) rfl)) rfl
set_option maxRecDepth 20000 in
theorem k_st_X11_carries : Cond.static yX11_carries ∈ lw_g := lg_in (tb_5 _ (List.mem_of_getElem? (i := 98) rfl)) rfl
set_option maxRecDepth 20000 in
theorem k_co_X11_carries : Cond.code yX11_carries cX11_carries 4 (some .boolean) ∈ lw_g := lg_in (tb_5 _ (List.mem_of_getElem? (i := 99) rfl)) rfl
set_option maxRecDepth 20000 in
theorem k_ml_X11_103 : Cond.methodLink RX11 103 yX11_reachFrom ∈ lw_g := lg_in (tb_5 _ (List.mem_of_getElem? (i := 100) rfl)) rfl
set_option maxRecDepth 20000 in
theorem k_st_X11_reachFrom : Cond.static yX11_reachFrom ∈ lw_g := lg_in (tb_5 _ (List.mem_of_getElem? (i := 101) rfl)) rfl
set_option maxRecDepth 20000 in
theorem k_co_X11_reachFrom : Cond.code yX11_reachFrom cX11_reachFrom 5 (some .int) ∈ lw_g := lg_in (tb_5 _ (List.mem_of_getElem? (i := 102) rfl)) rfl
set_option maxRecDepth 20000 in
theorem k_ml_X11_91 : Cond.methodLink RX11 91 yX11_hitsAs ∈ lw_g := lg_in (tb_5 _ (List.mem_of_getElem? (i := 103) rfl)) rfl
set_option maxRecDepth 20000 in
theorem k_st_X11_hitsAs : Cond.static yX11_hitsAs ∈ lw_g := lg_in (tb_5 _ (List.mem_of_getElem? (i := 104) rfl)) rfl
set_option maxRecDepth 20000 in
theorem k_co_X11_hitsAs : Cond.code yX11_hitsAs cX11_hitsAs 5 (some .int) ∈ lw_g := lg_in (tb_5 _ (List.mem_of_getElem? (i := 105) rfl)) rfl
set_option maxRecDepth 20000 in
theorem k_ml_X11_95 : Cond.methodLink RX11 95 yX11_helps ∈ lw_g := lg_in (tb_5 _ (List.mem_of_getElem? (i := 106) rfl)) rfl
set_option maxRecDepth 20000 in
theorem k_st_X11_helps : Cond.static yX11_helps ∈ lw_g := lg_in (tb_5 _ (List.mem_of_getElem? (i := 107) rfl)) rfl
set_option maxRecDepth 20000 in
theorem k_co_X11_helps : Cond.code yX11_helps cX11_helps 4 (some .int) ∈ lw_g := lg_in (tb_5 _ (List.mem_of_getElem? (i := 108) rfl)) rfl
set_option maxRecDepth 20000 in
theorem k_ml_X11_99 : Cond.methodLink RX11 99 yX11_fliesAs ∈ lw_g := lg_in (tb_5 _ (List.mem_of_getElem? (i := 109) rfl)) rfl
set_option maxRecDepth 20000 in
theorem k_st_X11_fliesAs : Cond.static yX11_fliesAs ∈ lw_g := lg_in (tb_5 _ (List.mem_of_getElem? (i := 110) rfl)) rfl
set_option maxRecDepth 20000 in
theorem k_co_X11_fliesAs : Cond.code yX11_fliesAs cX11_fliesAs 6 (some .int) ∈ lw_g := lg_in (tb_5 _ (List.mem_of_getElem? (i := 111) rfl)) rfl
set_option maxRecDepth 20000 in
theorem k_ml_X11_115 : Cond.methodLink RX11 115 yX11_more ∈ lw_g := lg_in (tb_5 _ (List.mem_of_getElem? (i := 112) rfl)) rfl
set_option maxRecDepth 20000 in
theorem k_st_X11_more : Cond.static yX11_more ∈ lw_g := lg_in (tb_5 _ (List.mem_of_getElem? (i := 113) rfl)) rfl
set_option maxRecDepth 20000 in
theorem k_co_X11_more : Cond.code yX11_more cX11_more 1 (some .int) ∈ lw_g := lg_in (tb_5 _ (List.mem_of_getElem? (i := 114) rfl)) rfl
set_option maxRecDepth 20000 in
theorem k_ml_L_48 : Cond.methodLink RL 48 yX11_picks ∈ lw_g := lg_in (tb_5 _ (List.mem_of_getElem? (i := 115) rfl)) rfl
set_option maxRecDepth 20000 in
theorem k_in_X11_picks : Cond.instanceMethod yX11_picks ∈ lw_g := lg_in (tb_5 _ (List.mem_of_getElem? (i := 116) rfl)) rfl
set_option maxRecDepth 20000 in
theorem k_se_X11_X11_picks : Cond.selects RX11 yX11_picks yX11_picks ∈ lw_g := lg_in (tb_5 _ (List.mem_of_getElem? (i := 117) rfl)) rfl
set_option maxRecDepth 20000 in
theorem k_co_X11_picks : Cond.code yX11_picks cX11_picks 2 (some .int) ∈ lw_g := lg_in (tb_5 _ (List.mem_of_getElem? (i := 118) rfl)) rfl
set_option maxRecDepth 20000 in
theorem k_ml_L_52 : Cond.methodLink RL 52 yX11_cock ∈ lw_g := lg_in (tb_5 _ (List.mem_of_getElem? (i := 119) rfl)) rfl
set_option maxRecDepth 20000 in
theorem k_in_X11_cock : Cond.instanceMethod yX11_cock ∈ lw_g := lg_in (tb_5 _ (List.mem_of_getElem? (i := 120) rfl)) rfl
set_option maxRecDepth 20000 in
theorem k_se_X11_X11_cock : Cond.selects RX11 yX11_cock yX11_cock ∈ lw_g := lg_in (tb_5 _ (List.mem_of_getElem? (i := 121) rfl)) rfl
set_option maxRecDepth 20000 in
theorem k_co_X11_cock : Cond.code yX11_cock cX11_cock 4 (some .int) ∈ lw_g := lg_in (tb_5 _ (List.mem_of_getElem? (i := 122) rfl)) rfl
set_option maxRecDepth 20000 in
theorem k_ml_L_56 : Cond.methodLink RL 56 yX11_hours ∈ lw_g := lg_in (tb_5 _ (List.mem_of_getElem? (i := 123) rfl)) rfl
set_option maxRecDepth 20000 in
theorem k_in_X11_hours : Cond.instanceMethod yX11_hours ∈ lw_g := lg_in (tb_5 _ (List.mem_of_getElem? (i := 124) rfl)) rfl
set_option maxRecDepth 20000 in
theorem k_se_X11_X11_hours : Cond.selects RX11 yX11_hours yX11_hours ∈ lw_g := lg_in (tb_5 _ (List.mem_of_getElem? (i := 125) rfl)) rfl
set_option maxRecDepth 20000 in
theorem k_co_X11_hours : Cond.code yX11_hours cX11_hours 2 (some .int) ∈ lw_g := lg_in (tb_5 _ (List.mem_of_getElem? (i := 126) rfl)) rfl
set_option maxRecDepth 20000 in
theorem k_cg_X11_134 : Cond.constantLong RX11 134 (99) ∈ lw_g := lg_in (tb_5 _ (List.mem_of_getElem? (i := 127) rfl)) rfl
set_option maxRecDepth 20000 in
theorem k_ml_X11_136 : Cond.methodLink RX11 136 yX11_goHours ∈ lw_g := lg_in (tb_5 _ (List.mem_of_getElem? (i := 128) rfl)) rfl
set_option maxRecDepth 20000 in
theorem k_st_X11_goHours : Cond.static yX11_goHours ∈ lw_g := lg_in (tb_5 _ (List.mem_of_getElem? (i := 129) rfl)) rfl
set_option maxRecDepth 20000 in
theorem k_co_X11_goHours : Cond.code yX11_goHours cX11_goHours 2 none ∈ lw_g := lg_in (tb_5 _ (List.mem_of_getElem? (i := 130) rfl)) rfl
set_option maxRecDepth 20000 in
theorem k_ml_L_60 : Cond.methodLink RL 60 yX11_undo ∈ lw_g := lg_in (tb_5 _ (List.mem_of_getElem? (i := 131) rfl)) rfl
set_option maxRecDepth 20000 in
theorem k_in_X11_undo : Cond.instanceMethod yX11_undo ∈ lw_g := lg_in (tb_5 _ (List.mem_of_getElem? (i := 132) rfl)) rfl
set_option maxRecDepth 20000 in
theorem k_se_X11_X11_undo : Cond.selects RX11 yX11_undo yX11_undo ∈ lw_g := lg_in (tb_5 _ (List.mem_of_getElem? (i := 133) rfl)) rfl
set_option maxRecDepth 20000 in
theorem k_co_X11_undo : Cond.code yX11_undo cX11_undo 2 (some .int) ∈ lw_g := lg_in (tb_5 _ (List.mem_of_getElem? (i := 134) rfl)) rfl
set_option maxRecDepth 20000 in
theorem k_ml_L_64 : Cond.methodLink RL 64 yX11_now ∈ lw_g := lg_in (tb_5 _ (List.mem_of_getElem? (i := 135) rfl)) rfl
set_option maxRecDepth 20000 in
theorem k_in_X11_now : Cond.instanceMethod yX11_now ∈ lw_g := lg_in (tb_5 _ (List.mem_of_getElem? (i := 136) rfl)) rfl
set_option maxRecDepth 20000 in
theorem k_se_X11_X11_now : Cond.selects RX11 yX11_now yX11_now ∈ lw_g := lg_in (tb_5 _ (List.mem_of_getElem? (i := 137) rfl)) rfl
set_option maxRecDepth 20000 in
theorem k_co_X11_now : Cond.code yX11_now cX11_now 2 (some .int) ∈ lw_g := lg_in (tb_5 _ (List.mem_of_getElem? (i := 138) rfl)) rfl
set_option maxRecDepth 20000 in
theorem k_cg_X11_139 : Cond.constantLong RX11 139 (6) ∈ lw_g := lg_in (tb_5 _ (List.mem_of_getElem? (i := 139) rfl)) rfl
set_option maxRecDepth 20000 in
theorem k_ml_L_68 : Cond.methodLink RL 68 yX11_of ∈ lw_g := lg_in (tb_5 _ (List.mem_of_getElem? (i := 140) rfl)) rfl
set_option maxRecDepth 20000 in
theorem k_in_X11_of : Cond.instanceMethod yX11_of ∈ lw_g := lg_in (tb_5 _ (List.mem_of_getElem? (i := 141) rfl)) rfl
set_option maxRecDepth 20000 in
theorem k_se_X11_X11_of : Cond.selects RX11 yX11_of yX11_of ∈ lw_g := lg_in (tb_5 _ (List.mem_of_getElem? (i := 142) rfl)) rfl
set_option maxRecDepth 20000 in
theorem k_co_X11_of : Cond.code yX11_of cX11_of 3 (some .int) ∈ lw_g := lg_in (tb_5 _ (List.mem_of_getElem? (i := 143) rfl)) rfl
set_option maxRecDepth 20000 in
theorem k_cg_X11_141 : Cond.constantLong RX11 141 (3) ∈ lw_g := lg_in (tb_5 _ (List.mem_of_getElem? (i := 144) rfl)) rfl
set_option maxRecDepth 20000 in
theorem k_ml_L_72 : Cond.methodLink RL 72 yX11_reach ∈ lw_g := lg_in (tb_5 _ (List.mem_of_getElem? (i := 145) rfl)) rfl
set_option maxRecDepth 20000 in
theorem k_in_X11_reach : Cond.instanceMethod yX11_reach ∈ lw_g := lg_in (tb_5 _ (List.mem_of_getElem? (i := 146) rfl)) rfl
set_option maxRecDepth 20000 in
theorem k_se_X11_X11_reach : Cond.selects RX11 yX11_reach yX11_reach ∈ lw_g := lg_in (tb_5 _ (List.mem_of_getElem? (i := 147) rfl)) rfl
set_option maxRecDepth 20000 in
theorem k_co_X11_reach : Cond.code yX11_reach cX11_reach 3 (some .int) ∈ lw_g := lg_in (tb_5 _ (List.mem_of_getElem? (i := 148) rfl)) rfl
set_option maxRecDepth 20000 in
theorem k_cg_X11_143 : Cond.constantLong RX11 143 (47) ∈ lw_g := lg_in (tb_5 _ (List.mem_of_getElem? (i := 149) rfl)) rfl
set_option maxRecDepth 20000 in
theorem k_ml_L_76 : Cond.methodLink RL 76 yX11_may ∈ lw_g := lg_in (tb_5 _ (List.mem_of_getElem? (i := 150) rfl)) rfl
set_option maxRecDepth 20000 in
theorem k_in_X11_may : Cond.instanceMethod yX11_may ∈ lw_g := lg_in (tb_5 _ (List.mem_of_getElem? (i := 151) rfl)) rfl
set_option maxRecDepth 20000 in
theorem k_se_X11_X11_may : Cond.selects RX11 yX11_may yX11_may ∈ lw_g := lg_in (tb_5 _ (List.mem_of_getElem? (i := 152) rfl)) rfl
set_option maxRecDepth 20000 in
theorem k_co_X11_may : Cond.code yX11_may cX11_may 3 (some .int) ∈ lw_g := lg_in (tb_5 _ (List.mem_of_getElem? (i := 153) rfl)) rfl
set_option maxRecDepth 20000 in
theorem k_ml_L_80 : Cond.methodLink RL 80 yX11_rally ∈ lw_g := lg_in (tb_5 _ (List.mem_of_getElem? (i := 154) rfl)) rfl
set_option maxRecDepth 20000 in
theorem k_in_X11_rally : Cond.instanceMethod yX11_rally ∈ lw_g := lg_in (tb_5 _ (List.mem_of_getElem? (i := 155) rfl)) rfl
set_option maxRecDepth 20000 in
theorem k_se_X11_X11_rally : Cond.selects RX11 yX11_rally yX11_rally ∈ lw_g := lg_in (tb_5 _ (List.mem_of_getElem? (i := 156) rfl)) rfl
set_option maxRecDepth 20000 in
theorem k_co_X11_rally : Cond.code yX11_rally cX11_rally 4 (some .int) ∈ lw_g := lg_in (tb_5 _ (List.mem_of_getElem? (i := 157) rfl)) rfl
set_option maxRecDepth 20000 in
theorem k_ml_X11_149 : Cond.methodLink RX11 149 yX11_laySoonest ∈ lw_g := lg_in (tb_5 _ (List.mem_of_getElem? (i := 158) rfl)) rfl
set_option maxRecDepth 20000 in
theorem k_in_X11_laySoonest : Cond.instanceMethod yX11_laySoonest ∈ lw_g := lg_in (tb_5 _ (List.mem_of_getElem? (i := 160) rfl)) rfl
set_option maxRecDepth 20000 in
theorem k_co_X11_laySoonest : Cond.code yX11_laySoonest cX11_laySoonest 8 none ∈ lw_g := lg_in (tb_5 _ (List.mem_of_getElem? (i := 161) rfl)) rfl
set_option maxRecDepth 20000 in
theorem k_ct_X11_145 : Cond.constant RX11 145 (1000000) ∈ lw_g := lg_in (tb_5 _ (List.mem_of_getElem? (i := 162) rfl)) rfl
set_option maxRecDepth 20000 in
theorem k_ml_X11_146 : Cond.methodLink RX11 146 yX11_spot ∈ lw_g := lg_in (tb_5 _ (List.mem_of_getElem? (i := 163) rfl)) rfl
set_option maxRecDepth 20000 in
theorem k_st_X11_spot : Cond.static yX11_spot ∈ lw_g := lg_in (tb_5 _ (List.mem_of_getElem? (i := 164) rfl)) rfl
set_option maxRecDepth 20000 in
theorem k_co_X11_spot : Cond.code yX11_spot cX11_spot 3 (some .int) ∈ lw_g := lg_in (tb_5 _ (List.mem_of_getElem? (i := 165) rfl)) rfl
set_option maxRecDepth 20000 in
theorem k_ml_X11_153 : Cond.methodLink RX11 153 yX11_strikerIn ∈ lw_g := lg_in (tb_5 _ (List.mem_of_getElem? (i := 166) rfl)) rfl
set_option maxRecDepth 20000 in
theorem k_in_X11_strikerIn : Cond.instanceMethod yX11_strikerIn ∈ lw_g := lg_in (tb_5 _ (List.mem_of_getElem? (i := 168) rfl)) rfl
set_option maxRecDepth 20000 in
theorem k_co_X11_strikerIn : Cond.code yX11_strikerIn cX11_strikerIn 7 (some .int) ∈ lw_g := lg_in (tb_5 _ (List.mem_of_getElem? (i := 169) rfl)) rfl
set_option maxRecDepth 20000 in
theorem k_ml_L_84 : Cond.methodLink RL 84 yX11_lasts ∈ lw_g := lg_in (tb_5 _ (List.mem_of_getElem? (i := 170) rfl)) rfl
set_option maxRecDepth 20000 in
theorem k_in_X11_lasts : Cond.instanceMethod yX11_lasts ∈ lw_g := lg_in (tb_5 _ (List.mem_of_getElem? (i := 171) rfl)) rfl
set_option maxRecDepth 20000 in
theorem k_se_X11_X11_lasts : Cond.selects RX11 yX11_lasts yX11_lasts ∈ lw_g := lg_in (tb_5 _ (List.mem_of_getElem? (i := 172) rfl)) rfl
set_option maxRecDepth 20000 in
theorem k_co_X11_lasts : Cond.code yX11_lasts cX11_lasts 1 (some .int) ∈ lw_g := lg_in (tb_5 _ (List.mem_of_getElem? (i := 173) rfl)) rfl
set_option maxRecDepth 20000 in
theorem k_ml_X11_157 : Cond.methodLink RX11 157 yX11_layHand ∈ lw_g := lg_in (tb_5 _ (List.mem_of_getElem? (i := 174) rfl)) rfl
set_option maxRecDepth 20000 in
theorem k_in_X11_layHand : Cond.instanceMethod yX11_layHand ∈ lw_g := lg_in (tb_5 _ (List.mem_of_getElem? (i := 176) rfl)) rfl
set_option maxRecDepth 20000 in
theorem k_co_X11_layHand : Cond.code yX11_layHand cX11_layHand 2 none ∈ lw_g := lg_in (tb_5 _ (List.mem_of_getElem? (i := 177) rfl)) rfl
set_option maxRecDepth 20000 in
theorem k_ml_X11_160 : Cond.methodLink RX11 160 yX11_lastsBy ∈ lw_g := lg_in (tb_5 _ (List.mem_of_getElem? (i := 178) rfl)) rfl
set_option maxRecDepth 20000 in
theorem k_in_X11_lastsBy : Cond.instanceMethod yX11_lastsBy ∈ lw_g := lg_in (tb_5 _ (List.mem_of_getElem? (i := 180) rfl)) rfl
set_option maxRecDepth 20000 in
theorem k_co_X11_lastsBy : Cond.code yX11_lastsBy cX11_lastsBy 6 (some .int) ∈ lw_g := lg_in (tb_5 _ (List.mem_of_getElem? (i := 181) rfl)) rfl
set_option maxRecDepth 20000 in
theorem k_ml_L_88 : Cond.methodLink RL 88 yX11_place ∈ lw_g := lg_in (tb_5 _ (List.mem_of_getElem? (i := 182) rfl)) rfl
set_option maxRecDepth 20000 in
theorem k_in_X11_place : Cond.instanceMethod yX11_place ∈ lw_g := lg_in (tb_5 _ (List.mem_of_getElem? (i := 183) rfl)) rfl
set_option maxRecDepth 20000 in
theorem k_se_X11_X11_place : Cond.selects RX11 yX11_place yX11_place ∈ lw_g := lg_in (tb_5 _ (List.mem_of_getElem? (i := 184) rfl)) rfl
set_option maxRecDepth 20000 in
theorem k_co_X11_place : Cond.code yX11_place cX11_place 6 (some .int) ∈ lw_g := lg_in (tb_5 _ (List.mem_of_getElem? (i := 185) rfl)) rfl
set_option maxRecDepth 20000 in
theorem k_ml_L_92 : Cond.methodLink RL 92 yX11_seen ∈ lw_g := lg_in (tb_5 _ (List.mem_of_getElem? (i := 186) rfl)) rfl
set_option maxRecDepth 20000 in
theorem k_in_X11_seen : Cond.instanceMethod yX11_seen ∈ lw_g := lg_in (tb_5 _ (List.mem_of_getElem? (i := 187) rfl)) rfl
set_option maxRecDepth 20000 in
theorem k_se_X11_X11_seen : Cond.selects RX11 yX11_seen yX11_seen ∈ lw_g := lg_in (tb_5 _ (List.mem_of_getElem? (i := 188) rfl)) rfl
set_option maxRecDepth 20000 in
theorem k_co_X11_seen : Cond.code yX11_seen cX11_seen 5 (some .int) ∈ lw_g := lg_in (tb_5 _ (List.mem_of_getElem? (i := 189) rfl)) rfl
set_option maxRecDepth 20000 in
theorem k_ml_L_96 : Cond.methodLink RL 96 yX11_heavy ∈ lw_g := lg_in (tb_5 _ (List.mem_of_getElem? (i := 190) rfl)) rfl
set_option maxRecDepth 20000 in
theorem k_in_X11_heavy : Cond.instanceMethod yX11_heavy ∈ lw_g := lg_in (tb_5 _ (List.mem_of_getElem? (i := 191) rfl)) rfl
set_option maxRecDepth 20000 in
theorem k_se_X11_X11_heavy : Cond.selects RX11 yX11_heavy yX11_heavy ∈ lw_g := lg_in (tb_5 _ (List.mem_of_getElem? (i := 192) rfl)) rfl
set_option maxRecDepth 20000 in
theorem k_co_X11_heavy : Cond.code yX11_heavy cX11_heavy 6 (some .int) ∈ lw_g := lg_in (tb_5 _ (List.mem_of_getElem? (i := 193) rfl)) rfl
set_option maxRecDepth 20000 in
theorem k_cg_X11_167 : Cond.constantLong RX11 167 (2) ∈ lw_g := lg_in (tb_5 _ (List.mem_of_getElem? (i := 194) rfl)) rfl
set_option maxRecDepth 20000 in
theorem k_ml_X11_169 : Cond.methodLink RX11 169 yX11_isHeavy ∈ lw_g := lg_in (tb_5 _ (List.mem_of_getElem? (i := 195) rfl)) rfl
set_option maxRecDepth 20000 in
theorem k_in_X11_isHeavy : Cond.instanceMethod yX11_isHeavy ∈ lw_g := lg_in (tb_5 _ (List.mem_of_getElem? (i := 197) rfl)) rfl
set_option maxRecDepth 20000 in
theorem k_co_X11_isHeavy : Cond.code yX11_isHeavy cX11_isHeavy 5 (some .boolean) ∈ lw_g := lg_in (tb_5 _ (List.mem_of_getElem? (i := 198) rfl)) rfl
set_option maxRecDepth 20000 in
theorem k_ml_X11_163 : Cond.methodLink RX11 163 yX11_isOverBy ∈ lw_g := lg_in (tb_5 _ (List.mem_of_getElem? (i := 199) rfl)) rfl
set_option maxRecDepth 20000 in
theorem k_in_X11_isOverBy : Cond.instanceMethod yX11_isOverBy ∈ lw_g := lg_in (tb_5 _ (List.mem_of_getElem? (i := 201) rfl)) rfl
set_option maxRecDepth 20000 in
theorem k_co_X11_isOverBy : Cond.code yX11_isOverBy cX11_isOverBy 4 (some .boolean) ∈ lw_g := lg_in (tb_5 _ (List.mem_of_getElem? (i := 202) rfl)) rfl
set_option maxRecDepth 20000 in
theorem k_ml_L_100 : Cond.methodLink RL 100 yX11_tell ∈ lw_g := lg_in (tb_5 _ (List.mem_of_getElem? (i := 203) rfl)) rfl
set_option maxRecDepth 20000 in
theorem k_in_X11_tell : Cond.instanceMethod yX11_tell ∈ lw_g := lg_in (tb_5 _ (List.mem_of_getElem? (i := 204) rfl)) rfl
set_option maxRecDepth 20000 in
theorem k_se_X11_X11_tell : Cond.selects RX11 yX11_tell yX11_tell ∈ lw_g := lg_in (tb_5 _ (List.mem_of_getElem? (i := 205) rfl)) rfl
set_option maxRecDepth 20000 in
theorem k_co_X11_tell : Cond.code yX11_tell cX11_tell 9 (some .int) ∈ lw_g := lg_in (tb_5 _ (List.mem_of_getElem? (i := 206) rfl)) rfl
set_option maxRecDepth 20000 in
theorem k_ml_L_105 : Cond.methodLink RL 105 yX11_note ∈ lw_g := lg_in (tb_5 _ (List.mem_of_getElem? (i := 207) rfl)) rfl
set_option maxRecDepth 20000 in
theorem k_in_X11_note : Cond.instanceMethod yX11_note ∈ lw_g := lg_in (tb_5 _ (List.mem_of_getElem? (i := 208) rfl)) rfl
set_option maxRecDepth 20000 in
theorem k_se_X11_X11_note : Cond.selects RX11 yX11_note yX11_note ∈ lw_g := lg_in (tb_5 _ (List.mem_of_getElem? (i := 209) rfl)) rfl
set_option maxRecDepth 20000 in
theorem k_co_X11_note : Cond.code yX11_note cX11_note 5 (some .int) ∈ lw_g := lg_in (tb_5 _ (List.mem_of_getElem? (i := 210) rfl)) rfl
set_option maxRecDepth 20000 in
theorem k_cg_X11_172 : Cond.constantLong RX11 172 (30) ∈ lw_g := lg_in (tb_5 _ (List.mem_of_getElem? (i := 211) rfl)) rfl
set_option maxRecDepth 20000 in
theorem k_ml_X11_174 : Cond.methodLink RX11 174 yX11_layFour ∈ lw_g := lg_in (tb_5 _ (List.mem_of_getElem? (i := 212) rfl)) rfl
set_option maxRecDepth 20000 in
theorem k_in_X11_layFour : Cond.instanceMethod yX11_layFour ∈ lw_g := lg_in (tb_5 _ (List.mem_of_getElem? (i := 214) rfl)) rfl
set_option maxRecDepth 20000 in
theorem k_co_X11_layFour : Cond.code yX11_layFour cX11_layFour 6 none ∈ lw_g := lg_in (tb_5 _ (List.mem_of_getElem? (i := 215) rfl)) rfl
set_option maxRecDepth 20000 in
theorem k_ml_L_109 : Cond.methodLink RL 109 yX11_mark ∈ lw_g := lg_in (tb_5 _ (List.mem_of_getElem? (i := 216) rfl)) rfl
set_option maxRecDepth 20000 in
theorem k_in_X11_mark : Cond.instanceMethod yX11_mark ∈ lw_g := lg_in (tb_5 _ (List.mem_of_getElem? (i := 217) rfl)) rfl
set_option maxRecDepth 20000 in
theorem k_se_X11_X11_mark : Cond.selects RX11 yX11_mark yX11_mark ∈ lw_g := lg_in (tb_5 _ (List.mem_of_getElem? (i := 218) rfl)) rfl
set_option maxRecDepth 20000 in
theorem k_co_X11_mark : Cond.code yX11_mark cX11_mark 5 (some .int) ∈ lw_g := lg_in (tb_5 _ (List.mem_of_getElem? (i := 219) rfl)) rfl
set_option maxRecDepth 20000 in
theorem k_cg_X11_178 : Cond.constantLong RX11 178 (23) ∈ lw_g := lg_in (tb_5 _ (List.mem_of_getElem? (i := 220) rfl)) rfl
set_option maxRecDepth 20000 in
theorem k_ml_L_113 : Cond.methodLink RL 113 yX11_forget ∈ lw_g := lg_in (tb_5 _ (List.mem_of_getElem? (i := 221) rfl)) rfl
set_option maxRecDepth 20000 in
theorem k_in_X11_forget : Cond.instanceMethod yX11_forget ∈ lw_g := lg_in (tb_5 _ (List.mem_of_getElem? (i := 222) rfl)) rfl
set_option maxRecDepth 20000 in
theorem k_se_X11_X11_forget : Cond.selects RX11 yX11_forget yX11_forget ∈ lw_g := lg_in (tb_5 _ (List.mem_of_getElem? (i := 223) rfl)) rfl
set_option maxRecDepth 20000 in
theorem k_co_X11_forget : Cond.code yX11_forget cX11_forget 3 (some .int) ∈ lw_g := lg_in (tb_5 _ (List.mem_of_getElem? (i := 224) rfl)) rfl
set_option maxRecDepth 20000 in
theorem k_ml_L_117 : Cond.methodLink RL 117 yX11_is ∈ lw_g := lg_in (tb_5 _ (List.mem_of_getElem? (i := 225) rfl)) rfl
set_option maxRecDepth 20000 in
theorem k_in_X11_is : Cond.instanceMethod yX11_is ∈ lw_g := lg_in (tb_5 _ (List.mem_of_getElem? (i := 226) rfl)) rfl
set_option maxRecDepth 20000 in
theorem k_se_X11_X11_is : Cond.selects RX11 yX11_is yX11_is ∈ lw_g := lg_in (tb_5 _ (List.mem_of_getElem? (i := 227) rfl)) rfl
set_option maxRecDepth 20000 in
theorem k_co_X11_is : Cond.code yX11_is cX11_is 1 (some .int) ∈ lw_g := lg_in (tb_5 _ (List.mem_of_getElem? (i := 228) rfl)) rfl
set_option maxRecDepth 20000 in
theorem k_ml_X11_184 : Cond.methodLink RX11 184 yX11_kindsOfCock ∈ lw_g := lg_in (tb_5 _ (List.mem_of_getElem? (i := 229) rfl)) rfl
set_option maxRecDepth 20000 in
theorem k_in_X11_kindsOfCock : Cond.instanceMethod yX11_kindsOfCock ∈ lw_g := lg_in (tb_5 _ (List.mem_of_getElem? (i := 231) rfl)) rfl
set_option maxRecDepth 20000 in
theorem k_co_X11_kindsOfCock : Cond.code yX11_kindsOfCock cX11_kindsOfCock 6 (some .int) ∈ lw_g := lg_in (tb_5 _ (List.mem_of_getElem? (i := 232) rfl)) rfl
set_option maxRecDepth 20000 in
theorem k_ml_L_121 : Cond.methodLink RL 121 yX11_look ∈ lw_g := lg_in (tb_5 _ (List.mem_of_getElem? (i := 233) rfl)) rfl
set_option maxRecDepth 20000 in
theorem k_in_X11_look : Cond.instanceMethod yX11_look ∈ lw_g := lg_in (tb_5 _ (List.mem_of_getElem? (i := 234) rfl)) rfl
set_option maxRecDepth 20000 in
theorem k_se_X11_X11_look : Cond.selects RX11 yX11_look yX11_look ∈ lw_g := lg_in (tb_5 _ (List.mem_of_getElem? (i := 235) rfl)) rfl
set_option maxRecDepth 20000 in
theorem k_co_X11_look : Cond.code yX11_look cX11_look 7 (some .int) ∈ lw_g := lg_in (tb_5 _ (List.mem_of_getElem? (i := 236) rfl)) rfl
set_option maxRecDepth 20000 in
theorem k_ml_X11_187 : Cond.methodLink RX11 187 yX11_mostAlike ∈ lw_g := lg_in (tb_5 _ (List.mem_of_getElem? (i := 237) rfl)) rfl
set_option maxRecDepth 20000 in
theorem k_in_X11_mostAlike : Cond.instanceMethod yX11_mostAlike ∈ lw_g := lg_in (tb_5 _ (List.mem_of_getElem? (i := 239) rfl)) rfl
set_option maxRecDepth 20000 in
theorem k_co_X11_mostAlike : Cond.code yX11_mostAlike cX11_mostAlike 6 (some .int) ∈ lw_g := lg_in (tb_6 _ (List.mem_of_getElem? (i := 0) rfl)) rfl
set_option maxRecDepth 20000 in
theorem k_ml_X11_180 : Cond.methodLink RX11 180 yX11_has ∈ lw_g := lg_in (tb_6 _ (List.mem_of_getElem? (i := 1) rfl)) rfl
set_option maxRecDepth 20000 in
theorem k_st_X11_has : Cond.static yX11_has ∈ lw_g := lg_in (tb_6 _ (List.mem_of_getElem? (i := 2) rfl)) rfl
set_option maxRecDepth 20000 in
theorem k_co_X11_has : Cond.code yX11_has cX11_has 2 (some .boolean) ∈ lw_g := lg_in (tb_6 _ (List.mem_of_getElem? (i := 3) rfl)) rfl
set_option maxRecDepth 20000 in
theorem k_ml_L_125 : Cond.methodLink RL 125 yX11_kinds ∈ lw_g := lg_in (tb_6 _ (List.mem_of_getElem? (i := 4) rfl)) rfl
set_option maxRecDepth 20000 in
theorem k_in_X11_kinds : Cond.instanceMethod yX11_kinds ∈ lw_g := lg_in (tb_6 _ (List.mem_of_getElem? (i := 5) rfl)) rfl
set_option maxRecDepth 20000 in
theorem k_se_X11_X11_kinds : Cond.selects RX11 yX11_kinds yX11_kinds ∈ lw_g := lg_in (tb_6 _ (List.mem_of_getElem? (i := 6) rfl)) rfl
set_option maxRecDepth 20000 in
theorem k_co_X11_kinds : Cond.code yX11_kinds cX11_kinds 2 (some .int) ∈ lw_g := lg_in (tb_6 _ (List.mem_of_getElem? (i := 7) rfl)) rfl
set_option maxRecDepth 20000 in
theorem k_ml_X11_190 : Cond.methodLink RX11 190 yX11_kindsOfPlayer ∈ lw_g := lg_in (tb_6 _ (List.mem_of_getElem? (i := 8) rfl)) rfl
set_option maxRecDepth 20000 in
theorem k_in_X11_kindsOfPlayer : Cond.instanceMethod yX11_kindsOfPlayer ∈ lw_g := lg_in (tb_6 _ (List.mem_of_getElem? (i := 10) rfl)) rfl
set_option maxRecDepth 20000 in
theorem k_co_X11_kindsOfPlayer : Cond.code yX11_kindsOfPlayer cX11_kindsOfPlayer 7 (some .int) ∈ lw_g := lg_in (tb_6 _ (List.mem_of_getElem? (i := 11) rfl)) rfl
set_option maxRecDepth 20000 in
theorem k_ml_L_129 : Cond.methodLink RL 129 yX11_ask ∈ lw_g := lg_in (tb_6 _ (List.mem_of_getElem? (i := 12) rfl)) rfl
set_option maxRecDepth 20000 in
theorem k_in_X11_ask : Cond.instanceMethod yX11_ask ∈ lw_g := lg_in (tb_6 _ (List.mem_of_getElem? (i := 13) rfl)) rfl
set_option maxRecDepth 20000 in
theorem k_se_X11_X11_ask : Cond.selects RX11 yX11_ask yX11_ask ∈ lw_g := lg_in (tb_6 _ (List.mem_of_getElem? (i := 14) rfl)) rfl
set_option maxRecDepth 20000 in
theorem k_co_X11_ask : Cond.code yX11_ask cX11_ask 7 (some .int) ∈ lw_g := lg_in (tb_6 _ (List.mem_of_getElem? (i := 15) rfl)) rfl
set_option maxRecDepth 20000 in
theorem k_ml_L_133 : Cond.methodLink RL 133 yX11_yours ∈ lw_g := lg_in (tb_6 _ (List.mem_of_getElem? (i := 16) rfl)) rfl
set_option maxRecDepth 20000 in
theorem k_in_X11_yours : Cond.instanceMethod yX11_yours ∈ lw_g := lg_in (tb_6 _ (List.mem_of_getElem? (i := 17) rfl)) rfl
set_option maxRecDepth 20000 in
theorem k_se_X11_X11_yours : Cond.selects RX11 yX11_yours yX11_yours ∈ lw_g := lg_in (tb_6 _ (List.mem_of_getElem? (i := 18) rfl)) rfl
set_option maxRecDepth 20000 in
theorem k_co_X11_yours : Cond.code yX11_yours cX11_yours 10 (some .int) ∈ lw_g := lg_in (tb_6 _ (List.mem_of_getElem? (i := 19) rfl)) rfl
set_option maxRecDepth 20000 in
theorem k_ml_X11_193 : Cond.methodLink RX11 193 yX11_getsBy ∈ lw_g := lg_in (tb_6 _ (List.mem_of_getElem? (i := 20) rfl)) rfl
set_option maxRecDepth 20000 in
theorem k_st_X11_getsBy : Cond.static yX11_getsBy ∈ lw_g := lg_in (tb_6 _ (List.mem_of_getElem? (i := 21) rfl)) rfl
set_option maxRecDepth 20000 in
theorem k_co_X11_getsBy : Cond.code yX11_getsBy cX11_getsBy 5 (some .int) ∈ lw_g := lg_in (tb_6 _ (List.mem_of_getElem? (i := 22) rfl)) rfl
set_option maxRecDepth 20000 in
theorem k_ml_L_137 : Cond.methodLink RL 137 yX11_gusts ∈ lw_g := lg_in (tb_6 _ (List.mem_of_getElem? (i := 23) rfl)) rfl
set_option maxRecDepth 20000 in
theorem k_in_X11_gusts : Cond.instanceMethod yX11_gusts ∈ lw_g := lg_in (tb_6 _ (List.mem_of_getElem? (i := 24) rfl)) rfl
set_option maxRecDepth 20000 in
theorem k_se_X11_X11_gusts : Cond.selects RX11 yX11_gusts yX11_gusts ∈ lw_g := lg_in (tb_6 _ (List.mem_of_getElem? (i := 25) rfl)) rfl
set_option maxRecDepth 20000 in
theorem k_co_X11_gusts : Cond.code yX11_gusts cX11_gusts 6 (some .int) ∈ lw_g := lg_in (tb_6 _ (List.mem_of_getElem? (i := 26) rfl)) rfl
set_option maxRecDepth 20000 in
theorem k_cg_X11_200 : Cond.constantLong RX11 200 (10) ∈ lw_g := lg_in (tb_6 _ (List.mem_of_getElem? (i := 27) rfl)) rfl
set_option maxRecDepth 20000 in
theorem k_ml_X11_202 : Cond.methodLink RX11 202 yX11_fraction ∈ lw_g := lg_in (tb_6 _ (List.mem_of_getElem? (i := 28) rfl)) rfl
set_option maxRecDepth 20000 in
theorem k_in_X11_fraction : Cond.instanceMethod yX11_fraction ∈ lw_g := lg_in (tb_6 _ (List.mem_of_getElem? (i := 30) rfl)) rfl
set_option maxRecDepth 20000 in
theorem k_co_X11_fraction : Cond.code yX11_fraction cX11_fraction 11 none ∈ lw_g := lg_in (tb_6 _ (List.mem_of_getElem? (i := 31) rfl)) rfl
set_option maxRecDepth 20000 in
theorem k_ml_L_141 : Cond.methodLink RL 141 yX11_centuries ∈ lw_g := lg_in (tb_6 _ (List.mem_of_getElem? (i := 32) rfl)) rfl
set_option maxRecDepth 20000 in
theorem k_in_X11_centuries : Cond.instanceMethod yX11_centuries ∈ lw_g := lg_in (tb_6 _ (List.mem_of_getElem? (i := 33) rfl)) rfl
set_option maxRecDepth 20000 in
theorem k_se_X11_X11_centuries : Cond.selects RX11 yX11_centuries yX11_centuries ∈ lw_g := lg_in (tb_6 _ (List.mem_of_getElem? (i := 34) rfl)) rfl
set_option maxRecDepth 20000 in
theorem k_co_X11_centuries : Cond.code yX11_centuries cX11_centuries 8 (some .int) ∈ lw_g := lg_in (tb_6 _ (List.mem_of_getElem? (i := 35) rfl)) rfl
set_option maxRecDepth 20000 in
theorem k_cg_X11_206 : Cond.constantLong RX11 206 (999999) ∈ lw_g := lg_in (tb_6 _ (List.mem_of_getElem? (i := 36) rfl)) rfl
set_option maxRecDepth 20000 in
theorem k_cg_X11_208 : Cond.constantLong RX11 208 (60) ∈ lw_g := lg_in (tb_6 _ (List.mem_of_getElem? (i := 37) rfl)) rfl
set_option maxRecDepth 20000 in
theorem k_cg_X11_210 : Cond.constantLong RX11 210 (1103515245) ∈ lw_g := lg_in (tb_6 _ (List.mem_of_getElem? (i := 38) rfl)) rfl
set_option maxRecDepth 20000 in
theorem k_cg_X11_212 : Cond.constantLong RX11 212 (12345) ∈ lw_g := lg_in (tb_6 _ (List.mem_of_getElem? (i := 39) rfl)) rfl
set_option maxRecDepth 20000 in
theorem k_cg_X11_214 : Cond.constantLong RX11 214 (2147483648) ∈ lw_g := lg_in (tb_6 _ (List.mem_of_getElem? (i := 40) rfl)) rfl
set_option maxRecDepth 20000 in
theorem k_cg_X11_216 : Cond.constantLong RX11 216 (65536) ∈ lw_g := lg_in (tb_6 _ (List.mem_of_getElem? (i := 41) rfl)) rfl
set_option maxRecDepth 20000 in
theorem k_cg_X11_218 : Cond.constantLong RX11 218 (7) ∈ lw_g := lg_in (tb_6 _ (List.mem_of_getElem? (i := 42) rfl)) rfl
set_option maxRecDepth 20000 in
theorem k_cg_X11_220 : Cond.constantLong RX11 220 (1048576) ∈ lw_g := lg_in (tb_6 _ (List.mem_of_getElem? (i := 43) rfl)) rfl
set_option maxRecDepth 20000 in
theorem k_ml_L_31 : Cond.methodLink RL 31 yX11_type ∈ lw_g := lg_in (tb_6 _ (List.mem_of_getElem? (i := 44) rfl)) rfl
set_option maxRecDepth 20000 in
theorem k_in_X11_type : Cond.instanceMethod yX11_type ∈ lw_g := lg_in (tb_6 _ (List.mem_of_getElem? (i := 45) rfl)) rfl
set_option maxRecDepth 20000 in
theorem k_se_X11_X11_type : Cond.selects RX11 yX11_type yX11_type ∈ lw_g := lg_in (tb_6 _ (List.mem_of_getElem? (i := 46) rfl)) rfl
set_option maxRecDepth 20000 in
theorem k_co_X11_type : Cond.code yX11_type cX11_type 2 (some .int) ∈ lw_g := lg_in (tb_6 _ (List.mem_of_getElem? (i := 47) rfl)) rfl
set_option maxRecDepth 20000 in
theorem k_cg_X11_222 : Cond.constantLong RX11 222 (127) ∈ lw_g := lg_in (tb_6 _ (List.mem_of_getElem? (i := 48) rfl)) rfl
set_option maxRecDepth 20000 in
theorem k_ml_L_36 : Cond.methodLink RL 36 yX11_clear ∈ lw_g := lg_in (tb_6 _ (List.mem_of_getElem? (i := 49) rfl)) rfl
set_option maxRecDepth 20000 in
theorem k_in_X11_clear : Cond.instanceMethod yX11_clear ∈ lw_g := lg_in (tb_6 _ (List.mem_of_getElem? (i := 50) rfl)) rfl
set_option maxRecDepth 20000 in
theorem k_se_X11_X11_clear : Cond.selects RX11 yX11_clear yX11_clear ∈ lw_g := lg_in (tb_6 _ (List.mem_of_getElem? (i := 51) rfl)) rfl
set_option maxRecDepth 20000 in
theorem k_co_X11_clear : Cond.code yX11_clear cX11_clear 2 (some .int) ∈ lw_g := lg_in (tb_6 _ (List.mem_of_getElem? (i := 52) rfl)) rfl
set_option maxRecDepth 20000 in
theorem k_ml_L_40 : Cond.methodLink RL 40 yX11_read ∈ lw_g := lg_in (tb_6 _ (List.mem_of_getElem? (i := 53) rfl)) rfl
set_option maxRecDepth 20000 in
theorem k_in_X11_read : Cond.instanceMethod yX11_read ∈ lw_g := lg_in (tb_6 _ (List.mem_of_getElem? (i := 54) rfl)) rfl
set_option maxRecDepth 20000 in
theorem k_se_X11_X11_read : Cond.selects RX11 yX11_read yX11_read ∈ lw_g := lg_in (tb_6 _ (List.mem_of_getElem? (i := 55) rfl)) rfl
set_option maxRecDepth 20000 in
theorem k_co_X11_read : Cond.code yX11_read cX11_read 3 (some .int) ∈ lw_g := lg_in (tb_6 _ (List.mem_of_getElem? (i := 56) rfl)) rfl
set_option maxRecDepth 20000 in
theorem k_ml_X11_254 : Cond.methodLink RX11 254 yX11_lookAt ∈ lw_g := lg_in (tb_6 _ (List.mem_of_getElem? (i := 57) rfl)) rfl
set_option maxRecDepth 20000 in
theorem k_in_X11_lookAt : Cond.instanceMethod yX11_lookAt ∈ lw_g := lg_in (tb_6 _ (List.mem_of_getElem? (i := 59) rfl)) rfl
set_option maxRecDepth 20000 in
theorem k_co_X11_lookAt : Cond.code yX11_lookAt cX11_lookAt 5 none ∈ lw_g := lg_in (tb_6 _ (List.mem_of_getElem? (i := 60) rfl)) rfl
set_option maxRecDepth 20000 in
theorem k_ml_X11_248 : Cond.methodLink RX11 248 yX11_isSmall ∈ lw_g := lg_in (tb_6 _ (List.mem_of_getElem? (i := 61) rfl)) rfl
set_option maxRecDepth 20000 in
theorem k_st_X11_isSmall : Cond.static yX11_isSmall ∈ lw_g := lg_in (tb_6 _ (List.mem_of_getElem? (i := 62) rfl)) rfl
set_option maxRecDepth 20000 in
theorem k_co_X11_isSmall : Cond.code yX11_isSmall cX11_isSmall 1 (some .boolean) ∈ lw_g := lg_in (tb_6 _ (List.mem_of_getElem? (i := 63) rfl)) rfl
set_option maxRecDepth 20000 in
theorem k_cg_X11_228 : Cond.constantLong RX11 228 (97) ∈ lw_g := lg_in (tb_6 _ (List.mem_of_getElem? (i := 64) rfl)) rfl
set_option maxRecDepth 20000 in
theorem k_cg_X11_230 : Cond.constantLong RX11 230 (122) ∈ lw_g := lg_in (tb_6 _ (List.mem_of_getElem? (i := 65) rfl)) rfl
set_option maxRecDepth 20000 in
theorem k_ml_X11_251 : Cond.methodLink RX11 251 yX11_isFigure ∈ lw_g := lg_in (tb_6 _ (List.mem_of_getElem? (i := 66) rfl)) rfl
set_option maxRecDepth 20000 in
theorem k_st_X11_isFigure : Cond.static yX11_isFigure ∈ lw_g := lg_in (tb_6 _ (List.mem_of_getElem? (i := 67) rfl)) rfl
set_option maxRecDepth 20000 in
theorem k_co_X11_isFigure : Cond.code yX11_isFigure cX11_isFigure 1 (some .boolean) ∈ lw_g := lg_in (tb_6 _ (List.mem_of_getElem? (i := 68) rfl)) rfl
set_option maxRecDepth 20000 in
theorem k_cg_X11_232 : Cond.constantLong RX11 232 (48) ∈ lw_g := lg_in (tb_6 _ (List.mem_of_getElem? (i := 69) rfl)) rfl
set_option maxRecDepth 20000 in
theorem k_cg_X11_234 : Cond.constantLong RX11 234 (57) ∈ lw_g := lg_in (tb_6 _ (List.mem_of_getElem? (i := 70) rfl)) rfl
set_option maxRecDepth 20000 in
theorem k_ml_X11_263 : Cond.methodLink RX11 263 yX11_spells ∈ lw_g := lg_in (tb_6 _ (List.mem_of_getElem? (i := 71) rfl)) rfl
set_option maxRecDepth 20000 in
theorem k_in_X11_spells : Cond.instanceMethod yX11_spells ∈ lw_g := lg_in (tb_6 _ (List.mem_of_getElem? (i := 73) rfl)) rfl
set_option maxRecDepth 20000 in
theorem k_co_X11_spells : Cond.code yX11_spells cX11_spells 10 (some .boolean) ∈ lw_g := lg_in (tb_6 _ (List.mem_of_getElem? (i := 74) rfl)) rfl
set_option maxRecDepth 20000 in
theorem k_ml_X11_257 : Cond.methodLink RX11 257 yX11_goBehind ∈ lw_g := lg_in (tb_6 _ (List.mem_of_getElem? (i := 75) rfl)) rfl
set_option maxRecDepth 20000 in
theorem k_in_X11_goBehind : Cond.instanceMethod yX11_goBehind ∈ lw_g := lg_in (tb_6 _ (List.mem_of_getElem? (i := 77) rfl)) rfl
set_option maxRecDepth 20000 in
theorem k_co_X11_goBehind : Cond.code yX11_goBehind cX11_goBehind 1 none ∈ lw_g := lg_in (tb_6 _ (List.mem_of_getElem? (i := 78) rfl)) rfl
set_option maxRecDepth 20000 in
theorem k_ml_X11_260 : Cond.methodLink RX11 260 yX11_gives ∈ lw_g := lg_in (tb_6 _ (List.mem_of_getElem? (i := 79) rfl)) rfl
set_option maxRecDepth 20000 in
theorem k_in_X11_gives : Cond.instanceMethod yX11_gives ∈ lw_g := lg_in (tb_6 _ (List.mem_of_getElem? (i := 81) rfl)) rfl
set_option maxRecDepth 20000 in
theorem k_co_X11_gives : Cond.code yX11_gives cX11_gives 4 (some .boolean) ∈ lw_g := lg_in (tb_6 _ (List.mem_of_getElem? (i := 82) rfl)) rfl
set_option maxRecDepth 20000 in
theorem k_ml_X11_286 : Cond.methodLink RX11 286 yX11_givesItem ∈ lw_g := lg_in (tb_6 _ (List.mem_of_getElem? (i := 83) rfl)) rfl
set_option maxRecDepth 20000 in
theorem k_in_X11_givesItem : Cond.instanceMethod yX11_givesItem ∈ lw_g := lg_in (tb_6 _ (List.mem_of_getElem? (i := 85) rfl)) rfl
set_option maxRecDepth 20000 in
theorem k_co_X11_givesItem : Cond.code yX11_givesItem cX11_givesItem 1 (some .boolean) ∈ lw_g := lg_in (tb_6 _ (List.mem_of_getElem? (i := 86) rfl)) rfl
set_option maxRecDepth 20000 in
theorem k_ml_X11_267 : Cond.methodLink RX11 267 yX11_givesWind ∈ lw_g := lg_in (tb_6 _ (List.mem_of_getElem? (i := 87) rfl)) rfl
set_option maxRecDepth 20000 in
theorem k_in_X11_givesWind : Cond.instanceMethod yX11_givesWind ∈ lw_g := lg_in (tb_6 _ (List.mem_of_getElem? (i := 89) rfl)) rfl
set_option maxRecDepth 20000 in
theorem k_co_X11_givesWind : Cond.code yX11_givesWind cX11_givesWind 2 (some .boolean) ∈ lw_g := lg_in (tb_6 _ (List.mem_of_getElem? (i := 90) rfl)) rfl
set_option maxRecDepth 20000 in
theorem k_ml_X11_271 : Cond.methodLink RX11 271 yX11_givesCock ∈ lw_g := lg_in (tb_6 _ (List.mem_of_getElem? (i := 91) rfl)) rfl
set_option maxRecDepth 20000 in
theorem k_in_X11_givesCock : Cond.instanceMethod yX11_givesCock ∈ lw_g := lg_in (tb_6 _ (List.mem_of_getElem? (i := 93) rfl)) rfl
set_option maxRecDepth 20000 in
theorem k_co_X11_givesCock : Cond.code yX11_givesCock cX11_givesCock 1 (some .boolean) ∈ lw_g := lg_in (tb_6 _ (List.mem_of_getElem? (i := 94) rfl)) rfl
set_option maxRecDepth 20000 in
theorem k_ml_X11_274 : Cond.methodLink RX11 274 yX11_givesPlayer ∈ lw_g := lg_in (tb_6 _ (List.mem_of_getElem? (i := 95) rfl)) rfl
set_option maxRecDepth 20000 in
theorem k_in_X11_givesPlayer : Cond.instanceMethod yX11_givesPlayer ∈ lw_g := lg_in (tb_6 _ (List.mem_of_getElem? (i := 97) rfl)) rfl
set_option maxRecDepth 20000 in
theorem k_co_X11_givesPlayer : Cond.code yX11_givesPlayer cX11_givesPlayer 1 (some .boolean) ∈ lw_g := lg_in (tb_6 _ (List.mem_of_getElem? (i := 98) rfl)) rfl
set_option maxRecDepth 20000 in
theorem k_ml_X11_277 : Cond.methodLink RX11 277 yX11_givesHit ∈ lw_g := lg_in (tb_6 _ (List.mem_of_getElem? (i := 99) rfl)) rfl
set_option maxRecDepth 20000 in
theorem k_in_X11_givesHit : Cond.instanceMethod yX11_givesHit ∈ lw_g := lg_in (tb_6 _ (List.mem_of_getElem? (i := 101) rfl)) rfl
set_option maxRecDepth 20000 in
theorem k_co_X11_givesHit : Cond.code yX11_givesHit cX11_givesHit 2 (some .boolean) ∈ lw_g := lg_in (tb_6 _ (List.mem_of_getElem? (i := 102) rfl)) rfl
set_option maxRecDepth 20000 in
theorem k_ml_X11_280 : Cond.methodLink RX11 280 yX11_givesPick ∈ lw_g := lg_in (tb_6 _ (List.mem_of_getElem? (i := 103) rfl)) rfl
set_option maxRecDepth 20000 in
theorem k_in_X11_givesPick : Cond.instanceMethod yX11_givesPick ∈ lw_g := lg_in (tb_6 _ (List.mem_of_getElem? (i := 105) rfl)) rfl
set_option maxRecDepth 20000 in
theorem k_co_X11_givesPick : Cond.code yX11_givesPick cX11_givesPick 1 (some .boolean) ∈ lw_g := lg_in (tb_6 _ (List.mem_of_getElem? (i := 106) rfl)) rfl
set_option maxRecDepth 20000 in
theorem k_ml_X11_283 : Cond.methodLink RX11 283 yX11_givesHours ∈ lw_g := lg_in (tb_6 _ (List.mem_of_getElem? (i := 107) rfl)) rfl
set_option maxRecDepth 20000 in
theorem k_in_X11_givesHours : Cond.instanceMethod yX11_givesHours ∈ lw_g := lg_in (tb_6 _ (List.mem_of_getElem? (i := 109) rfl)) rfl
set_option maxRecDepth 20000 in
theorem k_co_X11_givesHours : Cond.code yX11_givesHours cX11_givesHours 1 (some .boolean) ∈ lw_g := lg_in (tb_6 _ (List.mem_of_getElem? (i := 110) rfl)) rfl
set_option maxRecDepth 20000 in
theorem k_ml_L_146 : Cond.methodLink RL 146 yX11_part ∈ lw_g := lg_in (tb_6 _ (List.mem_of_getElem? (i := 111) rfl)) rfl
set_option maxRecDepth 20000 in
theorem k_in_X11_part : Cond.instanceMethod yX11_part ∈ lw_g := lg_in (tb_6 _ (List.mem_of_getElem? (i := 112) rfl)) rfl
set_option maxRecDepth 20000 in
theorem k_se_X11_X11_part : Cond.selects RX11 yX11_part yX11_part ∈ lw_g := lg_in (tb_6 _ (List.mem_of_getElem? (i := 113) rfl)) rfl
set_option maxRecDepth 20000 in
theorem k_co_X11_part : Cond.code yX11_part cX11_part 2 (some .long) ∈ lw_g := lg_in (tb_6 _ (List.mem_of_getElem? (i := 114) rfl)) rfl
set_option maxRecDepth 20000 in
theorem k_ml_L_150 : Cond.methodLink RL 150 yX11_image ∈ lw_g := lg_in (tb_6 _ (List.mem_of_getElem? (i := 115) rfl)) rfl
set_option maxRecDepth 20000 in
theorem k_in_X11_image : Cond.instanceMethod yX11_image ∈ lw_g := lg_in (tb_6 _ (List.mem_of_getElem? (i := 116) rfl)) rfl
set_option maxRecDepth 20000 in
theorem k_se_X11_X11_image : Cond.selects RX11 yX11_image yX11_image ∈ lw_g := lg_in (tb_6 _ (List.mem_of_getElem? (i := 117) rfl)) rfl
set_option maxRecDepth 20000 in
theorem k_co_X11_image : Cond.code yX11_image cX11_image 3 (some .int) ∈ lw_g := lg_in (tb_6 _ (List.mem_of_getElem? (i := 118) rfl)) rfl
set_option maxRecDepth 20000 in
theorem k_ml_L_154 : Cond.methodLink RL 154 yX11_from ∈ lw_g := lg_in (tb_6 _ (List.mem_of_getElem? (i := 119) rfl)) rfl
set_option maxRecDepth 20000 in
theorem k_in_X11_from : Cond.instanceMethod yX11_from ∈ lw_g := lg_in (tb_6 _ (List.mem_of_getElem? (i := 120) rfl)) rfl
set_option maxRecDepth 20000 in
theorem k_se_X11_X11_from : Cond.selects RX11 yX11_from yX11_from ∈ lw_g := lg_in (tb_6 _ (List.mem_of_getElem? (i := 121) rfl)) rfl
set_option maxRecDepth 20000 in
theorem k_co_X11_from : Cond.code yX11_from cX11_from 3 (some .int) ∈ lw_g := lg_in (tb_6 _ (List.mem_of_getElem? (i := 122) rfl)) rfl
set_option maxRecDepth 20000 in
theorem k_ml_L_158 : Cond.methodLink RL 158 yX11_status ∈ lw_g := lg_in (tb_6 _ (List.mem_of_getElem? (i := 123) rfl)) rfl
set_option maxRecDepth 20000 in
theorem k_in_X11_status : Cond.instanceMethod yX11_status ∈ lw_g := lg_in (tb_6 _ (List.mem_of_getElem? (i := 124) rfl)) rfl
set_option maxRecDepth 20000 in
theorem k_se_X11_X11_status : Cond.selects RX11 yX11_status yX11_status ∈ lw_g := lg_in (tb_6 _ (List.mem_of_getElem? (i := 125) rfl)) rfl
set_option maxRecDepth 20000 in
theorem k_co_X11_status : Cond.code yX11_status cX11_status 2 (some .int) ∈ lw_g := lg_in (tb_6 _ (List.mem_of_getElem? (i := 126) rfl)) rfl
set_option maxRecDepth 20000 in
theorem k_ml_L_162 : Cond.methodLink RL 162 yX11_count ∈ lw_g := lg_in (tb_6 _ (List.mem_of_getElem? (i := 127) rfl)) rfl
set_option maxRecDepth 20000 in
theorem k_in_X11_count : Cond.instanceMethod yX11_count ∈ lw_g := lg_in (tb_6 _ (List.mem_of_getElem? (i := 128) rfl)) rfl
set_option maxRecDepth 20000 in
theorem k_se_X11_X11_count : Cond.selects RX11 yX11_count yX11_count ∈ lw_g := lg_in (tb_6 _ (List.mem_of_getElem? (i := 129) rfl)) rfl
set_option maxRecDepth 20000 in
theorem k_co_X11_count : Cond.code yX11_count cX11_count 2 (some .int) ∈ lw_g := lg_in (tb_6 _ (List.mem_of_getElem? (i := 130) rfl)) rfl
set_option maxRecDepth 20000 in
theorem k_cg_X11_289 : Cond.constantLong RX11 289 (8) ∈ lw_g := lg_in (tb_6 _ (List.mem_of_getElem? (i := 131) rfl)) rfl
set_option maxRecDepth 20000 in
theorem k_ml_X11_291 : Cond.methodLink RX11 291 yX11_counted ∈ lw_g := lg_in (tb_6 _ (List.mem_of_getElem? (i := 132) rfl)) rfl
set_option maxRecDepth 20000 in
theorem k_in_X11_counted : Cond.instanceMethod yX11_counted ∈ lw_g := lg_in (tb_6 _ (List.mem_of_getElem? (i := 134) rfl)) rfl
set_option maxRecDepth 20000 in
theorem k_co_X11_counted : Cond.code yX11_counted cX11_counted 4 (some .int) ∈ lw_g := lg_in (tb_6 _ (List.mem_of_getElem? (i := 135) rfl)) rfl
set_option maxRecDepth 20000 in
theorem k_ml_L_167 : Cond.methodLink RL 167 yX11_digest ∈ lw_g := lg_in (tb_6 _ (List.mem_of_getElem? (i := 136) rfl)) rfl
set_option maxRecDepth 20000 in
theorem k_in_X11_digest : Cond.instanceMethod yX11_digest ∈ lw_g := lg_in (tb_6 _ (List.mem_of_getElem? (i := 137) rfl)) rfl
set_option maxRecDepth 20000 in
theorem k_se_X11_X11_digest : Cond.selects RX11 yX11_digest yX11_digest ∈ lw_g := lg_in (tb_6 _ (List.mem_of_getElem? (i := 138) rfl)) rfl
set_option maxRecDepth 20000 in
theorem k_co_X11_digest : Cond.code yX11_digest cX11_digest 4 (some .long) ∈ lw_g := lg_in (tb_6 _ (List.mem_of_getElem? (i := 139) rfl)) rfl
set_option maxRecDepth 20000 in
theorem k_cg_X11_296 : Cond.constantLong RX11 296 (1663) ∈ lw_g := lg_in (tb_6 _ (List.mem_of_getElem? (i := 140) rfl)) rfl
set_option maxRecDepth 20000 in
theorem k_cg_X11_294 : Cond.constantLong RX11 294 (31) ∈ lw_g := lg_in (tb_6 _ (List.mem_of_getElem? (i := 141) rfl)) rfl
set_option maxRecDepth 20000 in
theorem k_ml_X11_298 : Cond.methodLink RX11 298 yX11_sums ∈ lw_g := lg_in (tb_6 _ (List.mem_of_getElem? (i := 142) rfl)) rfl
set_option maxRecDepth 20000 in
theorem k_in_X11_sums : Cond.instanceMethod yX11_sums ∈ lw_g := lg_in (tb_6 _ (List.mem_of_getElem? (i := 144) rfl)) rfl
set_option maxRecDepth 20000 in
theorem k_co_X11_sums : Cond.code yX11_sums cX11_sums 8 (some .long) ∈ lw_g := lg_in (tb_6 _ (List.mem_of_getElem? (i := 145) rfl)) rfl
set_option maxRecDepth 20000 in
theorem k_fl_J0_9 : Cond.fieldLink RJ0 9 "java/lang/String" "value" "[B" ∈ lw_g := lg_in (tb_6 _ (List.mem_of_getElem? (i := 146) rfl)) rfl
set_option maxRecDepth 20000 in
theorem k_fl_J0_15 : Cond.fieldLink RJ0 15 "java/lang/String" "coder" "B" ∈ lw_g := lg_in (tb_6 _ (List.mem_of_getElem? (i := 147) rfl)) rfl
set_option maxRecDepth 20000 in
theorem k_se_X10_X10_refuseBad : Cond.selects RX10 yX10_refuseBad yX10_refuseBad ∈ lw_g := lg_in (List.mem_of_getElem? (i := 0) rfl) rfl
set_option maxRecDepth 20000 in
theorem k_se_X10_X10_refuseFull : Cond.selects RX10 yX10_refuseFull yX10_refuseFull ∈ lw_g := lg_in (List.mem_of_getElem? (i := 1) rfl) rfl
set_option maxRecDepth 20000 in
theorem k_se_X6_X6_put : Cond.selects RX6 yX6_put yX6_put ∈ lw_g := lg_in (List.mem_of_getElem? (i := 2) rfl) rfl
set_option maxRecDepth 20000 in
theorem k_se_X5_X5_takeNumber : Cond.selects RX5 yX5_takeNumber yX5_takeNumber ∈ lw_g := lg_in (List.mem_of_getElem? (i := 3) rfl) rfl
set_option maxRecDepth 20000 in
theorem k_se_X5_X5_takeStop : Cond.selects RX5 yX5_takeStop yX5_takeStop ∈ lw_g := lg_in (List.mem_of_getElem? (i := 4) rfl) rfl
set_option maxRecDepth 20000 in
theorem k_se_X10_X10_fault : Cond.selects RX10 yX10_fault yX10_fault ∈ lw_g := lg_in (List.mem_of_getElem? (i := 5) rfl) rfl
set_option maxRecDepth 20000 in
theorem k_se_X5_X5_readWind : Cond.selects RX5 yX5_readWind yX5_readWind ∈ lw_g := lg_in (List.mem_of_getElem? (i := 6) rfl) rfl
set_option maxRecDepth 20000 in
theorem k_se_X5_X5_readCock : Cond.selects RX5 yX5_readCock yX5_readCock ∈ lw_g := lg_in (List.mem_of_getElem? (i := 7) rfl) rfl
set_option maxRecDepth 20000 in
theorem k_se_X5_X5_readPlayer : Cond.selects RX5 yX5_readPlayer yX5_readPlayer ∈ lw_g := lg_in (List.mem_of_getElem? (i := 8) rfl) rfl
set_option maxRecDepth 20000 in
theorem k_se_X5_X5_readHit : Cond.selects RX5 yX5_readHit yX5_readHit ∈ lw_g := lg_in (List.mem_of_getElem? (i := 9) rfl) rfl
set_option maxRecDepth 20000 in
theorem k_se_X5_X5_readPick : Cond.selects RX5 yX5_readPick yX5_readPick ∈ lw_g := lg_in (List.mem_of_getElem? (i := 10) rfl) rfl
set_option maxRecDepth 20000 in
theorem k_se_X5_X5_readHours : Cond.selects RX5 yX5_readHours yX5_readHours ∈ lw_g := lg_in (List.mem_of_getElem? (i := 11) rfl) rfl
set_option maxRecDepth 20000 in
theorem k_se_X10_X10_refuseNo : Cond.selects RX10 yX10_refuseNo yX10_refuseNo ∈ lw_g := lg_in (List.mem_of_getElem? (i := 12) rfl) rfl
set_option maxRecDepth 20000 in
theorem k_se_X4_X4_spread : Cond.selects RX4 yX4_spread yX4_spread ∈ lw_g := lg_in (List.mem_of_getElem? (i := 13) rfl) rfl
set_option maxRecDepth 20000 in
theorem k_se_X4_X4_mayStep : Cond.selects RX4 yX4_mayStep yX4_mayStep ∈ lw_g := lg_in (List.mem_of_getElem? (i := 14) rfl) rfl
set_option maxRecDepth 20000 in
theorem k_se_X4_X4_after : Cond.selects RX4 yX4_after yX4_after ∈ lw_g := lg_in (List.mem_of_getElem? (i := 15) rfl) rfl
set_option maxRecDepth 20000 in
theorem k_se_X4_X4_workBack : Cond.selects RX4 yX4_workBack yX4_workBack ∈ lw_g := lg_in (List.mem_of_getElem? (i := 16) rfl) rfl
set_option maxRecDepth 20000 in
theorem k_se_X4_X4_firstStep : Cond.selects RX4 yX4_firstStep yX4_firstStep ∈ lw_g := lg_in (List.mem_of_getElem? (i := 17) rfl) rfl
set_option maxRecDepth 20000 in
theorem k_se_X7_X7_hillIn : Cond.selects RX7 yX7_hillIn yX7_hillIn ∈ lw_g := lg_in (List.mem_of_getElem? (i := 18) rfl) rfl
set_option maxRecDepth 20000 in
theorem k_se_X1_X1_mostAsFar : Cond.selects RX1 yX1_mostAsFar yX1_mostAsFar ∈ lw_g := lg_in (List.mem_of_getElem? (i := 19) rfl) rfl
set_option maxRecDepth 20000 in
theorem k_se_X1_X1_mostAlike : Cond.selects RX1 yX1_mostAlike yX1_mostAlike ∈ lw_g := lg_in (List.mem_of_getElem? (i := 20) rfl) rfl
set_option maxRecDepth 20000 in
theorem k_se_X1_X1_asMany : Cond.selects RX1 yX1_asMany yX1_asMany ∈ lw_g := lg_in (List.mem_of_getElem? (i := 21) rfl) rfl
set_option maxRecDepth 20000 in
theorem k_se_X1_X1_mostAsHard : Cond.selects RX1 yX1_mostAsHard yX1_mostAsHard ∈ lw_g := lg_in (List.mem_of_getElem? (i := 22) rfl) rfl
set_option maxRecDepth 20000 in
theorem k_se_X10_X10_keepTenths : Cond.selects RX10 yX10_keepTenths yX10_keepTenths ∈ lw_g := lg_in (List.mem_of_getElem? (i := 23) rfl) rfl
set_option maxRecDepth 20000 in
theorem k_se_X10_X10_strokesOver : Cond.selects RX10 yX10_strokesOver yX10_strokesOver ∈ lw_g := lg_in (List.mem_of_getElem? (i := 24) rfl) rfl
set_option maxRecDepth 20000 in
theorem k_se_X10_X10_howMany : Cond.selects RX10 yX10_howMany yX10_howMany ∈ lw_g := lg_in (List.mem_of_getElem? (i := 25) rfl) rfl
set_option maxRecDepth 20000 in
theorem k_se_X11_X11_bad : Cond.selects RX11 yX11_bad yX11_bad ∈ lw_g := lg_in (List.mem_of_getElem? (i := 26) rfl) rfl
set_option maxRecDepth 20000 in
theorem k_se_X11_X11_many : Cond.selects RX11 yX11_many yX11_many ∈ lw_g := lg_in (List.mem_of_getElem? (i := 27) rfl) rfl
set_option maxRecDepth 20000 in
theorem k_se_X11_X11_full : Cond.selects RX11 yX11_full yX11_full ∈ lw_g := lg_in (List.mem_of_getElem? (i := 28) rfl) rfl
set_option maxRecDepth 20000 in
theorem k_se_X11_X11_isPlayer : Cond.selects RX11 yX11_isPlayer yX11_isPlayer ∈ lw_g := lg_in (List.mem_of_getElem? (i := 29) rfl) rfl
set_option maxRecDepth 20000 in
theorem k_se_X11_X11_no : Cond.selects RX11 yX11_no yX11_no ∈ lw_g := lg_in (List.mem_of_getElem? (i := 30) rfl) rfl
set_option maxRecDepth 20000 in
theorem k_se_X11_X11_save : Cond.selects RX11 yX11_save yX11_save ∈ lw_g := lg_in (List.mem_of_getElem? (i := 31) rfl) rfl
set_option maxRecDepth 20000 in
theorem k_se_X11_X11_laySoonest : Cond.selects RX11 yX11_laySoonest yX11_laySoonest ∈ lw_g := lg_in (List.mem_of_getElem? (i := 32) rfl) rfl
set_option maxRecDepth 20000 in
theorem k_se_X11_X11_strikerIn : Cond.selects RX11 yX11_strikerIn yX11_strikerIn ∈ lw_g := lg_in (List.mem_of_getElem? (i := 33) rfl) rfl
set_option maxRecDepth 20000 in
theorem k_se_X11_X11_layHand : Cond.selects RX11 yX11_layHand yX11_layHand ∈ lw_g := lg_in (List.mem_of_getElem? (i := 34) rfl) rfl
set_option maxRecDepth 20000 in
theorem k_se_X11_X11_lastsBy : Cond.selects RX11 yX11_lastsBy yX11_lastsBy ∈ lw_g := lg_in (List.mem_of_getElem? (i := 35) rfl) rfl
set_option maxRecDepth 20000 in
theorem k_se_X11_X11_isHeavy : Cond.selects RX11 yX11_isHeavy yX11_isHeavy ∈ lw_g := lg_in (List.mem_of_getElem? (i := 36) rfl) rfl
set_option maxRecDepth 20000 in
theorem k_se_X11_X11_isOverBy : Cond.selects RX11 yX11_isOverBy yX11_isOverBy ∈ lw_g := lg_in (List.mem_of_getElem? (i := 37) rfl) rfl
set_option maxRecDepth 20000 in
theorem k_se_X11_X11_layFour : Cond.selects RX11 yX11_layFour yX11_layFour ∈ lw_g := lg_in (List.mem_of_getElem? (i := 38) rfl) rfl
set_option maxRecDepth 20000 in
theorem k_se_X11_X11_kindsOfCock : Cond.selects RX11 yX11_kindsOfCock yX11_kindsOfCock ∈ lw_g := lg_in (List.mem_of_getElem? (i := 39) rfl) rfl
set_option maxRecDepth 20000 in
theorem k_se_X11_X11_mostAlike : Cond.selects RX11 yX11_mostAlike yX11_mostAlike ∈ lw_g := lg_in (List.mem_of_getElem? (i := 40) rfl) rfl
set_option maxRecDepth 20000 in
theorem k_se_X11_X11_kindsOfPlayer : Cond.selects RX11 yX11_kindsOfPlayer yX11_kindsOfPlayer ∈ lw_g := lg_in (List.mem_of_getElem? (i := 41) rfl) rfl
set_option maxRecDepth 20000 in
theorem k_se_X11_X11_fraction : Cond.selects RX11 yX11_fraction yX11_fraction ∈ lw_g := lg_in (List.mem_of_getElem? (i := 42) rfl) rfl
set_option maxRecDepth 20000 in
theorem k_se_X11_X11_lookAt : Cond.selects RX11 yX11_lookAt yX11_lookAt ∈ lw_g := lg_in (List.mem_of_getElem? (i := 43) rfl) rfl
set_option maxRecDepth 20000 in
theorem k_se_X11_X11_spells : Cond.selects RX11 yX11_spells yX11_spells ∈ lw_g := lg_in (List.mem_of_getElem? (i := 44) rfl) rfl
set_option maxRecDepth 20000 in
theorem k_se_X11_X11_goBehind : Cond.selects RX11 yX11_goBehind yX11_goBehind ∈ lw_g := lg_in (List.mem_of_getElem? (i := 45) rfl) rfl
set_option maxRecDepth 20000 in
theorem k_se_X11_X11_gives : Cond.selects RX11 yX11_gives yX11_gives ∈ lw_g := lg_in (List.mem_of_getElem? (i := 46) rfl) rfl
set_option maxRecDepth 20000 in
theorem k_se_X11_X11_givesItem : Cond.selects RX11 yX11_givesItem yX11_givesItem ∈ lw_g := lg_in (List.mem_of_getElem? (i := 47) rfl) rfl
set_option maxRecDepth 20000 in
theorem k_se_X11_X11_givesWind : Cond.selects RX11 yX11_givesWind yX11_givesWind ∈ lw_g := lg_in (List.mem_of_getElem? (i := 48) rfl) rfl
set_option maxRecDepth 20000 in
theorem k_se_X11_X11_givesCock : Cond.selects RX11 yX11_givesCock yX11_givesCock ∈ lw_g := lg_in (List.mem_of_getElem? (i := 49) rfl) rfl
set_option maxRecDepth 20000 in
theorem k_se_X11_X11_givesPlayer : Cond.selects RX11 yX11_givesPlayer yX11_givesPlayer ∈ lw_g := lg_in (List.mem_of_getElem? (i := 50) rfl) rfl
set_option maxRecDepth 20000 in
theorem k_se_X11_X11_givesHit : Cond.selects RX11 yX11_givesHit yX11_givesHit ∈ lw_g := lg_in (List.mem_of_getElem? (i := 51) rfl) rfl
set_option maxRecDepth 20000 in
theorem k_se_X11_X11_givesPick : Cond.selects RX11 yX11_givesPick yX11_givesPick ∈ lw_g := lg_in (List.mem_of_getElem? (i := 52) rfl) rfl
set_option maxRecDepth 20000 in
theorem k_se_X11_X11_givesHours : Cond.selects RX11 yX11_givesHours yX11_givesHours ∈ lw_g := lg_in (List.mem_of_getElem? (i := 53) rfl) rfl
set_option maxRecDepth 20000 in
theorem k_se_X11_X11_counted : Cond.selects RX11 yX11_counted yX11_counted ∈ lw_g := lg_in (List.mem_of_getElem? (i := 54) rfl) rfl
set_option maxRecDepth 20000 in
theorem k_se_X11_X11_sums : Cond.selects RX11 yX11_sums yX11_sums ∈ lw_g := lg_in (List.mem_of_getElem? (i := 55) rfl) rfl
theorem jnX0 : ∀ w ∈ wsX00, w ∈ lw_g := fun w h => lg_in (inX0 w h) (List.all_eq_true.mp (show wsX00.all goodWord = true by decide +kernel) w h)
theorem jnX1 : ∀ w ∈ wsX10, w ∈ lw_g := fun w h => lg_in (inX1 w h) (List.all_eq_true.mp (show wsX10.all goodWord = true by decide +kernel) w h)
theorem jnX2 : ∀ w ∈ wsX20, w ∈ lw_g := fun w h => lg_in (inX2 w h) (List.all_eq_true.mp (show wsX20.all goodWord = true by decide +kernel) w h)
theorem jnX3 : ∀ w ∈ wsX30, w ∈ lw_g := fun w h => lg_in (inX3 w h) (List.all_eq_true.mp (show wsX30.all goodWord = true by decide +kernel) w h)
theorem jnX4 : ∀ w ∈ wsX40, w ∈ lw_g := fun w h => lg_in (inX4 w h) (List.all_eq_true.mp (show wsX40.all goodWord = true by decide +kernel) w h)
theorem jnX5 : ∀ w ∈ wsX50, w ∈ lw_g := fun w h => lg_in (inX5 w h) (List.all_eq_true.mp (show wsX50.all goodWord = true by decide +kernel) w h)
theorem jnX6 : ∀ w ∈ wsX60, w ∈ lw_g := fun w h => lg_in (inX6 w h) (List.all_eq_true.mp (show wsX60.all goodWord = true by decide +kernel) w h)
theorem jnX7 : ∀ w ∈ wsX70, w ∈ lw_g := fun w h => lg_in (inX7 w h) (List.all_eq_true.mp (show wsX70.all goodWord = true by decide +kernel) w h)
theorem jnX8 : ∀ w ∈ wsX80, w ∈ lw_g := fun w h => lg_in (inX8 w h) (List.all_eq_true.mp (show wsX80.all goodWord = true by decide +kernel) w h)
theorem jnX9 : ∀ w ∈ wsX90, w ∈ lw_g := fun w h => lg_in (inX9 w h) (List.all_eq_true.mp (show wsX90.all goodWord = true by decide +kernel) w h)
theorem jnX10 : ∀ w ∈ wsX100, w ∈ lw_g := fun w h => lg_in (inX10 w h) (List.all_eq_true.mp (show wsX100.all goodWord = true by decide +kernel) w h)
theorem jnX11 : ∀ w ∈ wsX110, w ∈ lw_g := fun w h => lg_in (inX11 w h) (List.all_eq_true.mp (show wsX110.all goodWord = true by decide +kernel) w h)
def ns_F : List (String × Nat × String × String × String × String) := [(RX10, 327, "TruthOver$Valley", "wide", "I", RX10), (RX10, 95, "TruthOver$Valley", "winds", "[I", RX10), (RX5, 78, "TruthOver$Valley", "winds", "[I", RX10), (RX1, 45, "TruthOver$Valley", "cock", "[I", RX10), (RX10, 182, "TruthOver$Valley", "cock", "[I", RX10), (RX10, 81, "TruthOver$Valley", "players", "LTruthOver$Rows;", RX10), (RX5, 88, "TruthOver$Valley", "players", "LTruthOver$Rows;", RX10), (RX1, 63, "TruthOver$Valley", "players", "LTruthOver$Rows;", RX10), (RX1, 76, "TruthOver$Valley", "seen", "LTruthOver$Rows;", RX10), (RX10, 241, "TruthOver$Valley", "seen", "LTruthOver$Rows;", RX10), (RX1, 33, "TruthOver$Valley", "notes", "LTruthOver$Rows;", RX10), (RX10, 263, "TruthOver$Valley", "notes", "LTruthOver$Rows;", RX10), (RX1, 52, "TruthOver$Valley", "marks", "LTruthOver$Rows;", RX10), (RX10, 266, "TruthOver$Valley", "marks", "LTruthOver$Rows;", RX10), (RX10, 99, "TruthOver$Valley", "past", "LTruthOver$Past;", RX10), (RX10, 126, "TruthOver$Reader", "text", "LTruthOver$Text;", RX10), (RX10, 154, "TruthOver$Reader", "draft", "LTruthOver$Valley;", RX10)]
def ns_M : List (String × Nat × MethodName × String) := [(RX9, 42, yX3_init, RX10), (RX10, 31, yX5_init, RX10), (RX5, 9, yX8_init, RX10), (RX10, 38, yX7_init, RX10), (RX10, 45, yX4_init, RX10), (RX10, 52, yX1_init, RX10), (RX5, 122, yX10_isWithin, RX10)]
def sk_i : List Nat := [27, 48, 53, 58, 63, 68, 73]
def sk_t : List String := ["valley", "wind", "cock", "player", "hit", "pick", "hours"]
def sk_n : List Nat := [6, 4, 4, 6, 3, 4, 5]
def sk_b : List (List Int32) := [[118, 97, 108, 108, 101, 121], [119, 105, 110, 100], [99, 111, 99, 107], [112, 108, 97, 121, 101, 114], [104, 105, 116], [112, 105, 99, 107], [104, 111, 117, 114, 115]]
