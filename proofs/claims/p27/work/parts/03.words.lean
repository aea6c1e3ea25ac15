/-- all good words of the tables -/
def AW : List Cond := lw_tbl.filter goodWord
theorem AW_tbl {w : Cond} (h : w ∈ AW) : w ∈ lw_tbl := (List.mem_filter.mp h).1
theorem AW_good {w : Cond} (h : w ∈ AW) : goodWord w = true := (List.mem_filter.mp h).2
theorem AW_in {w : Cond} (h : w ∈ lw_tbl) (g : goodWord w = true) : w ∈ AW := List.mem_filter.mpr ⟨h, g⟩
theorem tks {w : Cond} (h : w ∈ k2_sels lw_privs) : w ∈ lw_tbl := List.mem_append_left _ h
theorem tk_1 {w : Cond} (h : w ∈ tables_1_1) : w ∈ lw_tbl := List.mem_append_right _ (List.mem_append_left _ h)
theorem tk_2 {w : Cond} (h : w ∈ tables_1_2) : w ∈ lw_tbl := List.mem_append_right _ (List.mem_append_right _ (List.mem_append_left _ h))
theorem tk_3 {w : Cond} (h : w ∈ tables_1_3) : w ∈ lw_tbl := List.mem_append_right _ (List.mem_append_right _ (List.mem_append_right _ (List.mem_append_left _ h)))
theorem tk_4 {w : Cond} (h : w ∈ tables_1_4) : w ∈ lw_tbl := List.mem_append_right _ (List.mem_append_right _ (List.mem_append_right _ (List.mem_append_right _ (h))))
theorem qK_L : Cond.initialized RL ∈ AW := AW_in (tk_1 (List.mem_of_getElem? (i := 0) rfl)) rfl
theorem qK_X6 : Cond.initialized RX6 ∈ AW := AW_in (tk_1 (List.mem_of_getElem? (i := 1) rfl)) rfl
theorem qK_X0 : Cond.initialized RX0 ∈ AW := AW_in (tk_1 (List.mem_of_getElem? (i := 2) rfl)) rfl
theorem qK_X3 : Cond.initialized RX3 ∈ AW := AW_in (tk_1 (List.mem_of_getElem? (i := 3) rfl)) rfl
theorem qK_X1 : Cond.initialized RX1 ∈ AW := AW_in (tk_1 (List.mem_of_getElem? (i := 4) rfl)) rfl
theorem qK_X4 : Cond.initialized RX4 ∈ AW := AW_in (tk_1 (List.mem_of_getElem? (i := 5) rfl)) rfl
theorem qK_X2 : Cond.initialized RX2 ∈ AW := AW_in (tk_1 (List.mem_of_getElem? (i := 6) rfl)) rfl
theorem qK_X5 : Cond.initialized RX5 ∈ AW := AW_in (tk_1 (List.mem_of_getElem? (i := 7) rfl)) rfl
theorem qK_Throwable : Cond.initialized "java/lang/Throwable" ∈ AW := AW_in (tk_1 (List.mem_of_getElem? (i := 8) rfl)) rfl
theorem qK_Exception : Cond.initialized "java/lang/Exception" ∈ AW := AW_in (tk_1 (List.mem_of_getElem? (i := 9) rfl)) rfl
theorem qK_RuntimeException : Cond.initialized "java/lang/RuntimeException" ∈ AW := AW_in (tk_1 (List.mem_of_getElem? (i := 10) rfl)) rfl
theorem qK_IllegalArgumentException : Cond.initialized "java/lang/IllegalArgumentException" ∈ AW := AW_in (tk_1 (List.mem_of_getElem? (i := 11) rfl)) rfl
theorem qK_IllegalStateException : Cond.initialized "java/lang/IllegalStateException" ∈ AW := AW_in (tk_1 (List.mem_of_getElem? (i := 12) rfl)) rfl
theorem qK_System : Cond.initialized "java/lang/System" ∈ AW := AW_in (tk_1 (List.mem_of_getElem? (i := 13) rfl)) rfl
theorem qK_IndexOutOfBoundsException : Cond.initialized "java/lang/IndexOutOfBoundsException" ∈ AW := AW_in (tk_1 (List.mem_of_getElem? (i := 14) rfl)) rfl
theorem qK_Math : Cond.initialized "java/lang/Math" ∈ AW := AW_in (tk_1 (List.mem_of_getElem? (i := 15) rfl)) rfl
theorem qL_L_10 : Cond.classLink RL 10 RX6 ∈ AW := AW_in (tk_1 (List.mem_of_getElem? (i := 16) rfl)) rfl
theorem qN_X6 : Cond.instantiable RX6 4 ∈ AW := AW_in (tk_1 (List.mem_of_getElem? (i := 17) rfl)) rfl
theorem qM_L_150 : Cond.methodLink RL 150 yX6_init ∈ AW := AW_in (tk_1 (List.mem_of_getElem? (i := 18) rfl)) rfl
theorem qI_X6_init : Cond.instanceMethod yX6_init ∈ AW := AW_in (tk_1 (List.mem_of_getElem? (i := 19) rfl)) rfl
theorem qC_X6_init : Cond.code yX6_init cX6_init 1 none ∈ AW := AW_in (tk_1 (List.mem_of_getElem? (i := 20) rfl)) rfl
theorem qM_X6_1 : Cond.methodLink RX6 1 objectInit ∈ AW := AW_in (tk_1 (List.mem_of_getElem? (i := 21) rfl)) rfl
theorem qI_Object_init : Cond.instanceMethod objectInit ∈ AW := AW_in (tk_1 (List.mem_of_getElem? (i := 22) rfl)) rfl
theorem qC_Object_init : Cond.code objectInit object_method_1_code 1 none ∈ AW := AW_in (tk_1 (List.mem_of_getElem? (i := 23) rfl)) rfl
theorem qL_X6_7 : Cond.classLink RX6 7 RX0 ∈ AW := AW_in (tk_1 (List.mem_of_getElem? (i := 24) rfl)) rfl
theorem qN_X0 : Cond.instantiable RX0 11 ∈ AW := AW_in (tk_1 (List.mem_of_getElem? (i := 25) rfl)) rfl
theorem qM_X6_9 : Cond.methodLink RX6 9 yX0_init ∈ AW := AW_in (tk_1 (List.mem_of_getElem? (i := 26) rfl)) rfl
theorem qI_X0_init : Cond.instanceMethod yX0_init ∈ AW := AW_in (tk_1 (List.mem_of_getElem? (i := 27) rfl)) rfl
theorem qC_X0_init : Cond.code yX0_init cX0_init 2 none ∈ AW := AW_in (tk_1 (List.mem_of_getElem? (i := 28) rfl)) rfl
theorem qM_X0_3 : Cond.methodLink RX0 3 objectInit ∈ AW := AW_in (tk_1 (List.mem_of_getElem? (i := 29) rfl)) rfl
theorem qL_X0_9 : Cond.classLink RX0 9 RX3 ∈ AW := AW_in (tk_1 (List.mem_of_getElem? (i := 30) rfl)) rfl
theorem qL_X0_17 : Cond.classLink RX0 17 RX1 ∈ AW := AW_in (tk_1 (List.mem_of_getElem? (i := 32) rfl)) rfl
theorem qL_X0_23 : Cond.classLink RX0 23 RX4 ∈ AW := AW_in (tk_1 (List.mem_of_getElem? (i := 34) rfl)) rfl
theorem qN_X3 : Cond.instantiable RX3 8 ∈ AW := AW_in (tk_1 (List.mem_of_getElem? (i := 36) rfl)) rfl
theorem qI_X3_init : Cond.instanceMethod yX3_init ∈ AW := AW_in (tk_1 (List.mem_of_getElem? (i := 38) rfl)) rfl
theorem qC_X3_init : Cond.code yX3_init cX3_init 1 none ∈ AW := AW_in (tk_1 (List.mem_of_getElem? (i := 39) rfl)) rfl
theorem qM_X3_3 : Cond.methodLink RX3 3 objectInit ∈ AW := AW_in (tk_1 (List.mem_of_getElem? (i := 40) rfl)) rfl
theorem qF_X3_9 : Cond.fieldLink RX3 9 RX3 "length" "I" ∈ AW := AW_in (tk_1 (List.mem_of_getElem? (i := 41) rfl)) rfl
theorem qF_X0_76 : Cond.fieldLink RX0 76 RX3 "length" "I" ∈ AW := AW_in (tk_1 (List.mem_of_getElem? (i := 42) rfl)) rfl
theorem qF_X6_156 : Cond.fieldLink RX6 156 RX3 "length" "I" ∈ AW := AW_in (tk_1 (List.mem_of_getElem? (i := 43) rfl)) rfl
theorem qF_X3_15 : Cond.fieldLink RX3 15 RX3 "priority" "I" ∈ AW := AW_in (tk_1 (List.mem_of_getElem? (i := 44) rfl)) rfl
theorem qF_X0_79 : Cond.fieldLink RX0 79 RX3 "priority" "I" ∈ AW := AW_in (tk_1 (List.mem_of_getElem? (i := 45) rfl)) rfl
theorem qF_X3_18 : Cond.fieldLink RX3 18 RX3 "depth" "I" ∈ AW := AW_in (tk_1 (List.mem_of_getElem? (i := 46) rfl)) rfl
theorem qF_X0_82 : Cond.fieldLink RX0 82 RX3 "depth" "I" ∈ AW := AW_in (tk_1 (List.mem_of_getElem? (i := 47) rfl)) rfl
theorem qF_X6_153 : Cond.fieldLink RX6 153 RX3 "depth" "I" ∈ AW := AW_in (tk_1 (List.mem_of_getElem? (i := 48) rfl)) rfl
theorem qF_X3_21 : Cond.fieldLink RX3 21 RX3 "wetness" "I" ∈ AW := AW_in (tk_1 (List.mem_of_getElem? (i := 49) rfl)) rfl
theorem qF_X0_85 : Cond.fieldLink RX0 85 RX3 "wetness" "I" ∈ AW := AW_in (tk_1 (List.mem_of_getElem? (i := 50) rfl)) rfl
theorem qF_X3_24 : Cond.fieldLink RX3 24 RX3 "ice" "I" ∈ AW := AW_in (tk_1 (List.mem_of_getElem? (i := 51) rfl)) rfl
theorem qF_X0_88 : Cond.fieldLink RX0 88 RX3 "ice" "I" ∈ AW := AW_in (tk_1 (List.mem_of_getElem? (i := 52) rfl)) rfl
theorem qF_X3_27 : Cond.fieldLink RX3 27 RX3 "waiting" "I" ∈ AW := AW_in (tk_1 (List.mem_of_getElem? (i := 53) rfl)) rfl
theorem qF_X0_91 : Cond.fieldLink RX0 91 RX3 "waiting" "I" ∈ AW := AW_in (tk_1 (List.mem_of_getElem? (i := 54) rfl)) rfl
theorem qF_X3_30 : Cond.fieldLink RX3 30 RX3 "clearings" "I" ∈ AW := AW_in (tk_1 (List.mem_of_getElem? (i := 55) rfl)) rfl
theorem qF_X0_98 : Cond.fieldLink RX0 98 RX3 "clearings" "I" ∈ AW := AW_in (tk_1 (List.mem_of_getElem? (i := 56) rfl)) rfl
theorem qF_X3_33 : Cond.fieldLink RX3 33 RX3 "lastCleared" "I" ∈ AW := AW_in (tk_1 (List.mem_of_getElem? (i := 57) rfl)) rfl
theorem qF_X0_101 : Cond.fieldLink RX0 101 RX3 "lastCleared" "I" ∈ AW := AW_in (tk_1 (List.mem_of_getElem? (i := 58) rfl)) rfl
theorem qD_X3_length : Cond.lays RX3 RX3 "length" "I" ∈ AW := AW_in (tk_1 (List.mem_of_getElem? (i := 59) rfl)) rfl
theorem qD_X3_priority : Cond.lays RX3 RX3 "priority" "I" ∈ AW := AW_in (tk_1 (List.mem_of_getElem? (i := 61) rfl)) rfl
theorem qD_X3_depth : Cond.lays RX3 RX3 "depth" "I" ∈ AW := AW_in (tk_1 (List.mem_of_getElem? (i := 63) rfl)) rfl
theorem qD_X3_wetness : Cond.lays RX3 RX3 "wetness" "I" ∈ AW := AW_in (tk_1 (List.mem_of_getElem? (i := 65) rfl)) rfl
theorem qD_X3_ice : Cond.lays RX3 RX3 "ice" "I" ∈ AW := AW_in (tk_1 (List.mem_of_getElem? (i := 67) rfl)) rfl
theorem qD_X3_waiting : Cond.lays RX3 RX3 "waiting" "I" ∈ AW := AW_in (tk_1 (List.mem_of_getElem? (i := 69) rfl)) rfl
theorem qD_X3_clearings : Cond.lays RX3 RX3 "clearings" "I" ∈ AW := AW_in (tk_1 (List.mem_of_getElem? (i := 71) rfl)) rfl
theorem qD_X3_lastCleared : Cond.lays RX3 RX3 "lastCleared" "I" ∈ AW := AW_in (tk_1 (List.mem_of_getElem? (i := 73) rfl)) rfl
theorem qN_X1 : Cond.instantiable RX1 9 ∈ AW := AW_in (tk_1 (List.mem_of_getElem? (i := 76) rfl)) rfl
theorem qI_X1_init : Cond.instanceMethod yX1_init ∈ AW := AW_in (tk_1 (List.mem_of_getElem? (i := 78) rfl)) rfl
theorem qC_X1_init : Cond.code yX1_init cX1_init 1 none ∈ AW := AW_in (tk_1 (List.mem_of_getElem? (i := 79) rfl)) rfl
theorem qM_X1_3 : Cond.methodLink RX1 3 objectInit ∈ AW := AW_in (tk_1 (List.mem_of_getElem? (i := 80) rfl)) rfl
theorem qF_X1_15 : Cond.fieldLink RX1 15 RX1 "speed" "I" ∈ AW := AW_in (tk_1 (List.mem_of_getElem? (i := 81) rfl)) rfl
theorem qF_X0_132 : Cond.fieldLink RX0 132 RX1 "speed" "I" ∈ AW := AW_in (tk_1 (List.mem_of_getElem? (i := 82) rfl)) rfl
theorem qF_X6_162 : Cond.fieldLink RX6 162 RX1 "speed" "I" ∈ AW := AW_in (tk_1 (List.mem_of_getElem? (i := 83) rfl)) rfl
theorem qF_X1_19 : Cond.fieldLink RX1 19 RX1 "capacity" "I" ∈ AW := AW_in (tk_1 (List.mem_of_getElem? (i := 84) rfl)) rfl
theorem qF_X0_156 : Cond.fieldLink RX0 156 RX1 "capacity" "I" ∈ AW := AW_in (tk_1 (List.mem_of_getElem? (i := 85) rfl)) rfl
theorem qF_X1_22 : Cond.fieldLink RX1 22 RX1 "load" "I" ∈ AW := AW_in (tk_1 (List.mem_of_getElem? (i := 86) rfl)) rfl
theorem qF_X0_159 : Cond.fieldLink RX0 159 RX1 "load" "I" ∈ AW := AW_in (tk_1 (List.mem_of_getElem? (i := 87) rfl)) rfl
theorem qF_X1_9 : Cond.fieldLink RX1 9 RX1 "route" "[I" ∈ AW := AW_in (tk_1 (List.mem_of_getElem? (i := 88) rfl)) rfl
theorem qF_X6_86 : Cond.fieldLink RX6 86 RX1 "route" "[I" ∈ AW := AW_in (tk_1 (List.mem_of_getElem? (i := 89) rfl)) rfl
theorem qF_X0_135 : Cond.fieldLink RX0 135 RX1 "route" "[I" ∈ AW := AW_in (tk_1 (List.mem_of_getElem? (i := 90) rfl)) rfl
theorem qF_X1_25 : Cond.fieldLink RX1 25 RX1 "stopCount" "I" ∈ AW := AW_in (tk_1 (List.mem_of_getElem? (i := 91) rfl)) rfl
theorem qF_X6_81 : Cond.fieldLink RX6 81 RX1 "stopCount" "I" ∈ AW := AW_in (tk_1 (List.mem_of_getElem? (i := 92) rfl)) rfl
theorem qF_X0_116 : Cond.fieldLink RX0 116 RX1 "stopCount" "I" ∈ AW := AW_in (tk_1 (List.mem_of_getElem? (i := 93) rfl)) rfl
theorem qF_X1_28 : Cond.fieldLink RX1 28 RX1 "place" "I" ∈ AW := AW_in (tk_1 (List.mem_of_getElem? (i := 94) rfl)) rfl
theorem qF_X0_139 : Cond.fieldLink RX0 139 RX1 "place" "I" ∈ AW := AW_in (tk_1 (List.mem_of_getElem? (i := 95) rfl)) rfl
theorem qF_X1_31 : Cond.fieldLink RX1 31 RX1 "progress" "I" ∈ AW := AW_in (tk_1 (List.mem_of_getElem? (i := 96) rfl)) rfl
theorem qF_X0_142 : Cond.fieldLink RX0 142 RX1 "progress" "I" ∈ AW := AW_in (tk_1 (List.mem_of_getElem? (i := 97) rfl)) rfl
theorem qF_X1_34 : Cond.fieldLink RX1 34 RX1 "rounds" "I" ∈ AW := AW_in (tk_1 (List.mem_of_getElem? (i := 98) rfl)) rfl
theorem qF_X1_37 : Cond.fieldLink RX1 37 RX1 "meters" "I" ∈ AW := AW_in (tk_1 (List.mem_of_getElem? (i := 99) rfl)) rfl
theorem qD_X1_speed : Cond.lays RX1 RX1 "speed" "I" ∈ AW := AW_in (tk_1 (List.mem_of_getElem? (i := 100) rfl)) rfl
theorem qD_X1_capacity : Cond.lays RX1 RX1 "capacity" "I" ∈ AW := AW_in (tk_1 (List.mem_of_getElem? (i := 102) rfl)) rfl
theorem qD_X1_load : Cond.lays RX1 RX1 "load" "I" ∈ AW := AW_in (tk_1 (List.mem_of_getElem? (i := 104) rfl)) rfl
theorem qD_X1_route : Cond.laysFinal RX1 RX1 "route" "[I" ∈ AW := AW_in (tk_1 (List.mem_of_getElem? (i := 106) rfl)) rfl
theorem qD_X1_stopCount : Cond.lays RX1 RX1 "stopCount" "I" ∈ AW := AW_in (tk_1 (List.mem_of_getElem? (i := 108) rfl)) rfl
theorem qD_X1_place : Cond.lays RX1 RX1 "place" "I" ∈ AW := AW_in (tk_1 (List.mem_of_getElem? (i := 110) rfl)) rfl
theorem qD_X1_progress : Cond.lays RX1 RX1 "progress" "I" ∈ AW := AW_in (tk_1 (List.mem_of_getElem? (i := 112) rfl)) rfl
theorem qD_X1_rounds : Cond.lays RX1 RX1 "rounds" "I" ∈ AW := AW_in (tk_1 (List.mem_of_getElem? (i := 114) rfl)) rfl
theorem qD_X1_meters : Cond.lays RX1 RX1 "meters" "I" ∈ AW := AW_in (tk_1 (List.mem_of_getElem? (i := 116) rfl)) rfl
theorem qA_int : Cond.arrayClass .int ∈ AW := AW_in (tk_1 (List.mem_of_getElem? (i := 119) rfl)) rfl
theorem qN_X4 : Cond.instantiable RX4 4 ∈ AW := AW_in (tk_1 (List.mem_of_getElem? (i := 120) rfl)) rfl
theorem qM_X0_41 : Cond.methodLink RX0 41 yX4_init ∈ AW := AW_in (tk_1 (List.mem_of_getElem? (i := 121) rfl)) rfl
theorem qI_X4_init : Cond.instanceMethod yX4_init ∈ AW := AW_in (tk_1 (List.mem_of_getElem? (i := 122) rfl)) rfl
theorem qC_X4_init : Cond.code yX4_init cX4_init 4 none ∈ AW := AW_in (tk_1 (List.mem_of_getElem? (i := 123) rfl)) rfl
theorem qM_X4_1 : Cond.methodLink RX4 1 objectInit ∈ AW := AW_in (tk_1 (List.mem_of_getElem? (i := 124) rfl)) rfl
theorem qF_X4_7 : Cond.fieldLink RX4 7 RX4 "trigger" "I" ∈ AW := AW_in (tk_1 (List.mem_of_getElem? (i := 125) rfl)) rfl
theorem qF_X0_106 : Cond.fieldLink RX0 106 RX4 "trigger" "I" ∈ AW := AW_in (tk_1 (List.mem_of_getElem? (i := 126) rfl)) rfl
theorem qF_X6_110 : Cond.fieldLink RX6 110 RX4 "trigger" "I" ∈ AW := AW_in (tk_1 (List.mem_of_getElem? (i := 127) rfl)) rfl
theorem qF_X4_13 : Cond.fieldLink RX4 13 RX4 "limit" "I" ∈ AW := AW_in (tk_1 (List.mem_of_getElem? (i := 128) rfl)) rfl
theorem qF_X6_115 : Cond.fieldLink RX6 115 RX4 "limit" "I" ∈ AW := AW_in (tk_1 (List.mem_of_getElem? (i := 129) rfl)) rfl
theorem qF_X0_170 : Cond.fieldLink RX0 170 RX4 "limit" "I" ∈ AW := AW_in (tk_1 (List.mem_of_getElem? (i := 130) rfl)) rfl
theorem qF_X4_16 : Cond.fieldLink RX4 16 RX4 "credit" "I" ∈ AW := AW_in (tk_1 (List.mem_of_getElem? (i := 131) rfl)) rfl
theorem qF_X6_118 : Cond.fieldLink RX6 118 RX4 "credit" "I" ∈ AW := AW_in (tk_1 (List.mem_of_getElem? (i := 132) rfl)) rfl
theorem qF_X0_173 : Cond.fieldLink RX0 173 RX4 "credit" "I" ∈ AW := AW_in (tk_1 (List.mem_of_getElem? (i := 133) rfl)) rfl
theorem qF_X4_19 : Cond.fieldLink RX4 19 RX4 "complaints" "I" ∈ AW := AW_in (tk_1 (List.mem_of_getElem? (i := 134) rfl)) rfl
theorem qF_X0_104 : Cond.fieldLink RX0 104 RX4 "complaints" "I" ∈ AW := AW_in (tk_1 (List.mem_of_getElem? (i := 135) rfl)) rfl
theorem qD_X4_trigger : Cond.lays RX4 RX4 "trigger" "I" ∈ AW := AW_in (tk_1 (List.mem_of_getElem? (i := 136) rfl)) rfl
theorem qD_X4_limit : Cond.lays RX4 RX4 "limit" "I" ∈ AW := AW_in (tk_1 (List.mem_of_getElem? (i := 138) rfl)) rfl
theorem qD_X4_credit : Cond.lays RX4 RX4 "credit" "I" ∈ AW := AW_in (tk_1 (List.mem_of_getElem? (i := 140) rfl)) rfl
theorem qD_X4_complaints : Cond.lays RX4 RX4 "complaints" "I" ∈ AW := AW_in (tk_1 (List.mem_of_getElem? (i := 142) rfl)) rfl
theorem qF_X0_11 : Cond.fieldLink RX0 11 RX0 "streets" "[LSnowRounds$Street;" ∈ AW := AW_in (tk_1 (List.mem_of_getElem? (i := 145) rfl)) rfl
theorem qF_X6_52 : Cond.fieldLink RX6 52 RX0 "streets" "[LSnowRounds$Street;" ∈ AW := AW_in (tk_1 (List.mem_of_getElem? (i := 146) rfl)) rfl
theorem qF_X0_44 : Cond.fieldLink RX0 44 RX0 "streetCount" "I" ∈ AW := AW_in (tk_1 (List.mem_of_getElem? (i := 147) rfl)) rfl
theorem qF_X6_37 : Cond.fieldLink RX6 37 RX0 "streetCount" "I" ∈ AW := AW_in (tk_1 (List.mem_of_getElem? (i := 148) rfl)) rfl
theorem qF_X0_19 : Cond.fieldLink RX0 19 RX0 "plows" "[LSnowRounds$Plow;" ∈ AW := AW_in (tk_1 (List.mem_of_getElem? (i := 149) rfl)) rfl
theorem qF_X6_67 : Cond.fieldLink RX6 67 RX0 "plows" "[LSnowRounds$Plow;" ∈ AW := AW_in (tk_1 (List.mem_of_getElem? (i := 150) rfl)) rfl
theorem qF_X0_51 : Cond.fieldLink RX0 51 RX0 "plowCount" "I" ∈ AW := AW_in (tk_1 (List.mem_of_getElem? (i := 151) rfl)) rfl
theorem qF_X6_62 : Cond.fieldLink RX6 62 RX0 "plowCount" "I" ∈ AW := AW_in (tk_1 (List.mem_of_getElem? (i := 152) rfl)) rfl
theorem qF_X0_25 : Cond.fieldLink RX0 25 RX0 "terms" "[LSnowRounds$Terms;" ∈ AW := AW_in (tk_1 (List.mem_of_getElem? (i := 153) rfl)) rfl
theorem qF_X6_106 : Cond.fieldLink RX6 106 RX0 "terms" "[LSnowRounds$Terms;" ∈ AW := AW_in (tk_1 (List.mem_of_getElem? (i := 154) rfl)) rfl
theorem qF_X0_60 : Cond.fieldLink RX0 60 RX0 "hours" "I" ∈ AW := AW_in (tk_1 (List.mem_of_getElem? (i := 155) rfl)) rfl
theorem qF_X6_234 : Cond.fieldLink RX6 234 RX0 "hours" "I" ∈ AW := AW_in (tk_1 (List.mem_of_getElem? (i := 156) rfl)) rfl
theorem qF_X0_29 : Cond.fieldLink RX0 29 RX0 "store" "I" ∈ AW := AW_in (tk_1 (List.mem_of_getElem? (i := 157) rfl)) rfl
theorem qF_X6_125 : Cond.fieldLink RX6 125 RX0 "store" "I" ∈ AW := AW_in (tk_1 (List.mem_of_getElem? (i := 158) rfl)) rfl
theorem qF_X0_33 : Cond.fieldLink RX0 33 RX0 "spread" "I" ∈ AW := AW_in (tk_1 (List.mem_of_getElem? (i := 159) rfl)) rfl
theorem qF_X6_121 : Cond.fieldLink RX6 121 RX0 "spread" "I" ∈ AW := AW_in (tk_1 (List.mem_of_getElem? (i := 160) rfl)) rfl
theorem qF_X0_63 : Cond.fieldLink RX0 63 RX0 "credits" "I" ∈ AW := AW_in (tk_1 (List.mem_of_getElem? (i := 161) rfl)) rfl
theorem qF_X0_36 : Cond.fieldLink RX0 36 RX0 "delivered" "I" ∈ AW := AW_in (tk_1 (List.mem_of_getElem? (i := 162) rfl)) rfl
theorem qF_X6_130 : Cond.fieldLink RX6 130 RX0 "delivered" "I" ∈ AW := AW_in (tk_1 (List.mem_of_getElem? (i := 163) rfl)) rfl
theorem qF_X0_66 : Cond.fieldLink RX0 66 RX0 "used" "I" ∈ AW := AW_in (tk_1 (List.mem_of_getElem? (i := 164) rfl)) rfl
theorem qD_X0_streets : Cond.laysFinal RX0 RX0 "streets" "[LSnowRounds$Street;" ∈ AW := AW_in (tk_1 (List.mem_of_getElem? (i := 165) rfl)) rfl
theorem qD_X0_streetCount : Cond.lays RX0 RX0 "streetCount" "I" ∈ AW := AW_in (tk_1 (List.mem_of_getElem? (i := 167) rfl)) rfl
theorem qD_X0_plows : Cond.laysFinal RX0 RX0 "plows" "[LSnowRounds$Plow;" ∈ AW := AW_in (tk_1 (List.mem_of_getElem? (i := 169) rfl)) rfl
theorem qD_X0_plowCount : Cond.lays RX0 RX0 "plowCount" "I" ∈ AW := AW_in (tk_1 (List.mem_of_getElem? (i := 171) rfl)) rfl
theorem qD_X0_terms : Cond.laysFinal RX0 RX0 "terms" "[LSnowRounds$Terms;" ∈ AW := AW_in (tk_1 (List.mem_of_getElem? (i := 173) rfl)) rfl
theorem qD_X0_hours : Cond.lays RX0 RX0 "hours" "I" ∈ AW := AW_in (tk_1 (List.mem_of_getElem? (i := 175) rfl)) rfl
theorem qD_X0_store : Cond.lays RX0 RX0 "store" "I" ∈ AW := AW_in (tk_1 (List.mem_of_getElem? (i := 177) rfl)) rfl
theorem qD_X0_spread : Cond.lays RX0 RX0 "spread" "I" ∈ AW := AW_in (tk_1 (List.mem_of_getElem? (i := 179) rfl)) rfl
theorem qD_X0_credits : Cond.lays RX0 RX0 "credits" "I" ∈ AW := AW_in (tk_1 (List.mem_of_getElem? (i := 181) rfl)) rfl
theorem qD_X0_delivered : Cond.lays RX0 RX0 "delivered" "I" ∈ AW := AW_in (tk_1 (List.mem_of_getElem? (i := 183) rfl)) rfl
theorem qD_X0_used : Cond.lays RX0 RX0 "used" "I" ∈ AW := AW_in (tk_1 (List.mem_of_getElem? (i := 185) rfl)) rfl
theorem qL_X6_19 : Cond.classLink RX6 19 RX2 ∈ AW := AW_in (tk_1 (List.mem_of_getElem? (i := 188) rfl)) rfl
theorem qN_X2 : Cond.instantiable RX2 2 ∈ AW := AW_in (tk_1 (List.mem_of_getElem? (i := 189) rfl)) rfl
theorem qM_X6_21 : Cond.methodLink RX6 21 yX2_init ∈ AW := AW_in (tk_1 (List.mem_of_getElem? (i := 190) rfl)) rfl
theorem qI_X2_init : Cond.instanceMethod yX2_init ∈ AW := AW_in (tk_1 (List.mem_of_getElem? (i := 191) rfl)) rfl
theorem qC_X2_init : Cond.code yX2_init cX2_init 2 none ∈ AW := AW_in (tk_1 (List.mem_of_getElem? (i := 192) rfl)) rfl
theorem qM_X2_3 : Cond.methodLink RX2 3 objectInit ∈ AW := AW_in (tk_1 (List.mem_of_getElem? (i := 193) rfl)) rfl
theorem qL_X2_9 : Cond.classLink RX2 9 RX0 ∈ AW := AW_in (tk_1 (List.mem_of_getElem? (i := 194) rfl)) rfl
theorem qM_X2_17 : Cond.methodLink RX2 17 yX0_init ∈ AW := AW_in (tk_1 (List.mem_of_getElem? (i := 196) rfl)) rfl
theorem qF_X2_11 : Cond.fieldLink RX2 11 RX2 "saved" "[LSnowRounds$Contract;" ∈ AW := AW_in (tk_1 (List.mem_of_getElem? (i := 197) rfl)) rfl
theorem qF_X2_18 : Cond.fieldLink RX2 18 RX2 "count" "I" ∈ AW := AW_in (tk_1 (List.mem_of_getElem? (i := 198) rfl)) rfl
theorem qF_X6_196 : Cond.fieldLink RX6 196 RX2 "count" "I" ∈ AW := AW_in (tk_1 (List.mem_of_getElem? (i := 199) rfl)) rfl
theorem qD_X2_saved : Cond.laysFinal RX2 RX2 "saved" "[LSnowRounds$Contract;" ∈ AW := AW_in (tk_1 (List.mem_of_getElem? (i := 200) rfl)) rfl
theorem qD_X2_count : Cond.lays RX2 RX2 "count" "I" ∈ AW := AW_in (tk_1 (List.mem_of_getElem? (i := 202) rfl)) rfl
theorem qL_X6_26 : Cond.classLink RX6 26 RX5 ∈ AW := AW_in (tk_1 (List.mem_of_getElem? (i := 205) rfl)) rfl
theorem qN_X5 : Cond.instantiable RX5 8 ∈ AW := AW_in (tk_1 (List.mem_of_getElem? (i := 206) rfl)) rfl
theorem qI_X5_init : Cond.instanceMethod yX5_init ∈ AW := AW_in (tk_1 (List.mem_of_getElem? (i := 208) rfl)) rfl
theorem qC_X5_init : Cond.code yX5_init cX5_init 1 none ∈ AW := AW_in (tk_1 (List.mem_of_getElem? (i := 209) rfl)) rfl
theorem qM_X5_3 : Cond.methodLink RX5 3 objectInit ∈ AW := AW_in (tk_1 (List.mem_of_getElem? (i := 210) rfl)) rfl
theorem qF_X5_9 : Cond.fieldLink RX5 9 RX5 "bytes" "[I" ∈ AW := AW_in (tk_1 (List.mem_of_getElem? (i := 211) rfl)) rfl
theorem qF_X6_175 : Cond.fieldLink RX6 175 RX5 "bytes" "[I" ∈ AW := AW_in (tk_1 (List.mem_of_getElem? (i := 212) rfl)) rfl
theorem qF_X5_34 : Cond.fieldLink RX5 34 RX5 "length" "I" ∈ AW := AW_in (tk_1 (List.mem_of_getElem? (i := 213) rfl)) rfl
theorem qF_X6_172 : Cond.fieldLink RX6 172 RX5 "length" "I" ∈ AW := AW_in (tk_1 (List.mem_of_getElem? (i := 214) rfl)) rfl
theorem qF_X5_15 : Cond.fieldLink RX5 15 RX5 "temperatures" "[I" ∈ AW := AW_in (tk_1 (List.mem_of_getElem? (i := 215) rfl)) rfl
theorem qF_X6_187 : Cond.fieldLink RX6 187 RX5 "temperatures" "[I" ∈ AW := AW_in (tk_1 (List.mem_of_getElem? (i := 216) rfl)) rfl
theorem qF_X5_18 : Cond.fieldLink RX5 18 RX5 "snows" "[I" ∈ AW := AW_in (tk_1 (List.mem_of_getElem? (i := 217) rfl)) rfl
theorem qF_X6_190 : Cond.fieldLink RX6 190 RX5 "snows" "[I" ∈ AW := AW_in (tk_1 (List.mem_of_getElem? (i := 218) rfl)) rfl
theorem qF_X5_21 : Cond.fieldLink RX5 21 RX5 "hours" "[I" ∈ AW := AW_in (tk_1 (List.mem_of_getElem? (i := 219) rfl)) rfl
theorem qF_X6_193 : Cond.fieldLink RX6 193 RX5 "hours" "[I" ∈ AW := AW_in (tk_1 (List.mem_of_getElem? (i := 220) rfl)) rfl
theorem qF_X5_24 : Cond.fieldLink RX5 24 RX5 "itemCount" "I" ∈ AW := AW_in (tk_1 (List.mem_of_getElem? (i := 221) rfl)) rfl
theorem qF_X6_184 : Cond.fieldLink RX6 184 RX5 "itemCount" "I" ∈ AW := AW_in (tk_1 (List.mem_of_getElem? (i := 222) rfl)) rfl
theorem qF_X5_28 : Cond.fieldLink RX5 28 RX5 "at" "I" ∈ AW := AW_in (tk_1 (List.mem_of_getElem? (i := 223) rfl)) rfl
theorem qF_X5_31 : Cond.fieldLink RX5 31 RX5 "error" "I" ∈ AW := AW_in (tk_1 (List.mem_of_getElem? (i := 224) rfl)) rfl
theorem qD_X5_bytes : Cond.laysFinal RX5 RX5 "bytes" "[I" ∈ AW := AW_in (tk_1 (List.mem_of_getElem? (i := 225) rfl)) rfl
theorem qD_X5_length : Cond.lays RX5 RX5 "length" "I" ∈ AW := AW_in (tk_1 (List.mem_of_getElem? (i := 227) rfl)) rfl
theorem qD_X5_temperatures : Cond.laysFinal RX5 RX5 "temperatures" "[I" ∈ AW := AW_in (tk_1 (List.mem_of_getElem? (i := 229) rfl)) rfl
theorem qD_X5_snows : Cond.laysFinal RX5 RX5 "snows" "[I" ∈ AW := AW_in (tk_1 (List.mem_of_getElem? (i := 231) rfl)) rfl
theorem qD_X5_hours : Cond.laysFinal RX5 RX5 "hours" "[I" ∈ AW := AW_in (tk_1 (List.mem_of_getElem? (i := 233) rfl)) rfl
theorem qD_X5_itemCount : Cond.lays RX5 RX5 "itemCount" "I" ∈ AW := AW_in (tk_1 (List.mem_of_getElem? (i := 235) rfl)) rfl
theorem qD_X5_at : Cond.lays RX5 RX5 "at" "I" ∈ AW := AW_in (tk_1 (List.mem_of_getElem? (i := 237) rfl)) rfl
theorem qD_X5_error : Cond.lays RX5 RX5 "error" "I" ∈ AW := AW_in (tk_1 (List.mem_of_getElem? (i := 239) rfl)) rfl
theorem qF_X6_10 : Cond.fieldLink RX6 10 RX6 "contract" "LSnowRounds$Contract;" ∈ AW := AW_in (tk_2 (List.mem_of_getElem? (i := 2) rfl)) rfl
theorem qF_X6_16 : Cond.fieldLink RX6 16 RX6 "trial" "LSnowRounds$Contract;" ∈ AW := AW_in (tk_2 (List.mem_of_getElem? (i := 3) rfl)) rfl
theorem qF_X6_22 : Cond.fieldLink RX6 22 RX6 "savedStates" "LSnowRounds$SavedStates;" ∈ AW := AW_in (tk_2 (List.mem_of_getElem? (i := 4) rfl)) rfl
theorem qF_X6_29 : Cond.fieldLink RX6 29 RX6 "text" "LSnowRounds$WeatherText;" ∈ AW := AW_in (tk_2 (List.mem_of_getElem? (i := 5) rfl)) rfl
theorem qD_X6_contract : Cond.laysFinal RX6 RX6 "contract" "LSnowRounds$Contract;" ∈ AW := AW_in (tk_2 (List.mem_of_getElem? (i := 6) rfl)) rfl
theorem qD_X6_trial : Cond.laysFinal RX6 RX6 "trial" "LSnowRounds$Contract;" ∈ AW := AW_in (tk_2 (List.mem_of_getElem? (i := 8) rfl)) rfl
theorem qD_X6_savedStates : Cond.laysFinal RX6 RX6 "savedStates" "LSnowRounds$SavedStates;" ∈ AW := AW_in (tk_2 (List.mem_of_getElem? (i := 10) rfl)) rfl
theorem qD_X6_text : Cond.laysFinal RX6 RX6 "text" "LSnowRounds$WeatherText;" ∈ AW := AW_in (tk_2 (List.mem_of_getElem? (i := 12) rfl)) rfl
theorem qM_L_104 : Cond.methodLink RL 104 yX6_meanDepth ∈ AW := AW_in (tk_2 (List.mem_of_getElem? (i := 15) rfl)) rfl
theorem qI_X6_meanDepth : Cond.instanceMethod yX6_meanDepth ∈ AW := AW_in (tk_2 (List.mem_of_getElem? (i := 16) rfl)) rfl
theorem qS_X6_meanDepth : Cond.selects RX6 yX6_meanDepth yX6_meanDepth ∈ AW := AW_in (tk_2 (List.mem_of_getElem? (i := 17) rfl)) rfl
theorem qC_X6_meanDepth : Cond.code yX6_meanDepth cX6_meanDepth 7 (some .double) ∈ AW := AW_in (tk_2 (List.mem_of_getElem? (i := 18) rfl)) rfl
theorem qM_L_160 : Cond.methodLink RL 160 yL_lot ∈ AW := AW_in (tk_2 (List.mem_of_getElem? (i := 19) rfl)) rfl
theorem qT_L_lot : Cond.static yL_lot ∈ AW := AW_in (tk_2 (List.mem_of_getElem? (i := 20) rfl)) rfl
theorem qC_L_lot : Cond.code yL_lot cL_lot 2 (some .int) ∈ AW := AW_in (tk_2 (List.mem_of_getElem? (i := 21) rfl)) rfl
theorem qV_L_7 : Cond.constant RL 7 (1742064035 : Int32) ∈ AW := AW_in (tk_2 (List.mem_of_getElem? (i := 22) rfl)) rfl
theorem qM_L_121 : Cond.methodLink RL 121 yL_low ∈ AW := AW_in (tk_2 (List.mem_of_getElem? (i := 23) rfl)) rfl
theorem qT_L_low : Cond.static yL_low ∈ AW := AW_in (tk_2 (List.mem_of_getElem? (i := 24) rfl)) rfl
theorem qC_L_low : Cond.code yL_low cL_low 2 (some .int) ∈ AW := AW_in (tk_2 (List.mem_of_getElem? (i := 25) rfl)) rfl
theorem qV_L_8 : Cond.constant RL 8 (2147483647 : Int32) ∈ AW := AW_in (tk_2 (List.mem_of_getElem? (i := 26) rfl)) rfl
theorem qM_L_133 : Cond.methodLink RL 133 yL_addStreet ∈ AW := AW_in (tk_2 (List.mem_of_getElem? (i := 27) rfl)) rfl
theorem qT_L_addStreet : Cond.static yL_addStreet ∈ AW := AW_in (tk_2 (List.mem_of_getElem? (i := 28) rfl)) rfl
theorem qC_L_addStreet : Cond.codeWith yL_addStreet cL_addStreet 4 (some .int) [(0, 6, 7, 15), (0, 6, 11, 18)] ∈ AW := AW_in (tk_2 (List.mem_of_getElem? (i := 29) rfl)) rfl
theorem qL_L_15 : Cond.classLink RL 15 "java/lang/IllegalArgumentException" ∈ AW := AW_in (tk_2 (List.mem_of_getElem? (i := 30) rfl)) rfl
theorem qL_L_18 : Cond.classLink RL 18 "java/lang/IllegalStateException" ∈ AW := AW_in (tk_2 (List.mem_of_getElem? (i := 31) rfl)) rfl
theorem qM_L_9 : Cond.methodLink RL 9 yX6_addStreet ∈ AW := AW_in (tk_2 (List.mem_of_getElem? (i := 32) rfl)) rfl
theorem qI_X6_addStreet : Cond.instanceMethod yX6_addStreet ∈ AW := AW_in (tk_2 (List.mem_of_getElem? (i := 33) rfl)) rfl
theorem qS_X6_addStreet : Cond.selects RX6 yX6_addStreet yX6_addStreet ∈ AW := AW_in (tk_2 (List.mem_of_getElem? (i := 34) rfl)) rfl
theorem qC_X6_addStreet : Cond.code yX6_addStreet cX6_addStreet 3 (some .int) ∈ AW := AW_in (tk_2 (List.mem_of_getElem? (i := 35) rfl)) rfl
theorem qM_X6_33 : Cond.methodLink RX6 33 yX6_checkArgument ∈ AW := AW_in (tk_2 (List.mem_of_getElem? (i := 36) rfl)) rfl
theorem qT_X6_checkArgument : Cond.static yX6_checkArgument ∈ AW := AW_in (tk_2 (List.mem_of_getElem? (i := 37) rfl)) rfl
theorem qC_X6_checkArgument : Cond.code yX6_checkArgument cX6_checkArgument 3 none ∈ AW := AW_in (tk_2 (List.mem_of_getElem? (i := 38) rfl)) rfl
theorem qL_X6_224 : Cond.classLink RX6 224 "java/lang/IllegalArgumentException" ∈ AW := AW_in (tk_2 (List.mem_of_getElem? (i := 39) rfl)) rfl
theorem qN_IllegalArgumentException : Cond.instantiable "java/lang/IllegalArgumentException" 6 ∈ AW := AW_in (tk_2 (List.mem_of_getElem? (i := 40) rfl)) rfl
theorem qS_Throwable_fillInStackTrace : Cond.selects "java/lang/IllegalArgumentException" ⟨"java/lang/Throwable", "fillInStackTrace", "(I)Ljava/lang/Throwable;"⟩ ⟨"java/lang/Throwable", "fillInStackTrace", "(I)Ljava/lang/Throwable;"⟩ ∈ AW := AW_in (tk_2 (List.mem_of_getElem? (i := 48) rfl)) rfl
theorem qD_IllegalArgumentException_Throwable_cause : Cond.lays "java/lang/IllegalArgumentException" "java/lang/Throwable" "cause" "Ljava/lang/Throwable;" ∈ AW := AW_in (tk_2 (List.mem_of_getElem? (i := 50) rfl)) rfl
theorem qD_Throwable_cause : Cond.lays "java/lang/Throwable" "java/lang/Throwable" "cause" "Ljava/lang/Throwable;" ∈ AW := AW_in (tk_2 (List.mem_of_getElem? (i := 51) rfl)) rfl
theorem qD_IllegalArgumentException_Throwable_stackTrace : Cond.lays "java/lang/IllegalArgumentException" "java/lang/Throwable" "stackTrace" "[Ljava/lang/StackTraceElement;" ∈ AW := AW_in (tk_2 (List.mem_of_getElem? (i := 52) rfl)) rfl
theorem qD_Throwable_stackTrace : Cond.lays "java/lang/Throwable" "java/lang/Throwable" "stackTrace" "[Ljava/lang/StackTraceElement;" ∈ AW := AW_in (tk_2 (List.mem_of_getElem? (i := 53) rfl)) rfl
theorem qD_IllegalArgumentException_Throwable_suppressedExceptions : Cond.lays "java/lang/IllegalArgumentException" "java/lang/Throwable" "suppressedExceptions" "Ljava/util/List;" ∈ AW := AW_in (tk_2 (List.mem_of_getElem? (i := 54) rfl)) rfl
theorem qD_Throwable_suppressedExceptions : Cond.lays "java/lang/Throwable" "java/lang/Throwable" "suppressedExceptions" "Ljava/util/List;" ∈ AW := AW_in (tk_2 (List.mem_of_getElem? (i := 55) rfl)) rfl
theorem qD_IllegalArgumentException_Throwable_detailMessage : Cond.lays "java/lang/IllegalArgumentException" "java/lang/Throwable" "detailMessage" "Ljava/lang/String;" ∈ AW := AW_in (tk_2 (List.mem_of_getElem? (i := 56) rfl)) rfl
theorem qD_Throwable_detailMessage : Cond.lays "java/lang/Throwable" "java/lang/Throwable" "detailMessage" "Ljava/lang/String;" ∈ AW := AW_in (tk_2 (List.mem_of_getElem? (i := 57) rfl)) rfl
theorem qD_IllegalArgumentException_Throwable_backtrace : Cond.lays "java/lang/IllegalArgumentException" "java/lang/Throwable" "backtrace" "Ljava/lang/Object;" ∈ AW := AW_in (tk_2 (List.mem_of_getElem? (i := 58) rfl)) rfl
theorem qD_Throwable_backtrace : Cond.lays "java/lang/Throwable" "java/lang/Throwable" "backtrace" "Ljava/lang/Object;" ∈ AW := AW_in (tk_2 (List.mem_of_getElem? (i := 59) rfl)) rfl
theorem qF_Throwable_198 : Cond.fieldLink "java/lang/Throwable" 198 "java/lang/Throwable" "backtrace" "Ljava/lang/Object;" ∈ AW := AW_in (tk_2 (List.mem_of_getElem? (i := 60) rfl)) rfl
theorem qI_Throwable_init : Cond.instanceMethod ⟨"java/lang/Throwable", "<init>", "()V"⟩ ∈ AW := AW_in (tk_2 (List.mem_of_getElem? (i := 62) rfl)) rfl
theorem qC_Throwable_init : Cond.code ⟨"java/lang/Throwable", "<init>", "()V"⟩ prog_18_method_1_code 1 none ∈ AW := AW_in (tk_2 (List.mem_of_getElem? (i := 63) rfl)) rfl
theorem qM_Throwable_1 : Cond.methodLink "java/lang/Throwable" 1 objectInit ∈ AW := AW_in (tk_2 (List.mem_of_getElem? (i := 64) rfl)) rfl
theorem qF_Throwable_13 : Cond.fieldLink "java/lang/Throwable" 13 "java/lang/Throwable" "UNASSIGNED_STACK" "[Ljava/lang/StackTraceElement;" ∈ AW := AW_in (tk_2 (List.mem_of_getElem? (i := 65) rfl)) rfl
theorem qF_Throwable_20 : Cond.fieldLink "java/lang/Throwable" 20 "java/lang/Throwable" "SUPPRESSED_SENTINEL" "Ljava/util/List;" ∈ AW := AW_in (tk_2 (List.mem_of_getElem? (i := 67) rfl)) rfl
theorem qM_Throwable_27 : Cond.methodLink "java/lang/Throwable" 27 ⟨"java/lang/Throwable", "fillInStackTrace", "()Ljava/lang/Throwable;"⟩ ∈ AW := AW_in (tk_2 (List.mem_of_getElem? (i := 69) rfl)) rfl
theorem qI_Throwable_fillInStackTrace : Cond.instanceMethod ⟨"java/lang/Throwable", "fillInStackTrace", "()Ljava/lang/Throwable;"⟩ ∈ AW := AW_in (tk_2 (List.mem_of_getElem? (i := 70) rfl)) rfl
theorem qM_Throwable_202 : Cond.methodLink "java/lang/Throwable" 202 ⟨"java/lang/Throwable", "fillInStackTrace", "(I)Ljava/lang/Throwable;"⟩ ∈ AW := AW_in (tk_2 (List.mem_of_getElem? (i := 75) rfl)) rfl
theorem qN_Throwable : Cond.instantiable "java/lang/Throwable" 6 ∈ AW := AW_in (tk_2 (List.mem_of_getElem? (i := 78) rfl)) rfl
theorem qE_Throwable_fillInStackTrace : Cond.native ⟨"java/lang/Throwable", "fillInStackTrace", "(I)Ljava/lang/Throwable;"⟩ ∈ AW := AW_in (tk_2 (List.mem_of_getElem? (i := 79) rfl)) rfl
theorem qM_X6_228 : Cond.methodLink RX6 228 ⟨"java/lang/IllegalArgumentException", "<init>", "(Ljava/lang/String;)V"⟩ ∈ AW := AW_in (tk_2 (List.mem_of_getElem? (i := 81) rfl)) rfl
theorem qI_IllegalArgumentException_init : Cond.instanceMethod ⟨"java/lang/IllegalArgumentException", "<init>", "(Ljava/lang/String;)V"⟩ ∈ AW := AW_in (tk_2 (List.mem_of_getElem? (i := 82) rfl)) rfl
theorem qC_IllegalArgumentException_init : Cond.code ⟨"java/lang/IllegalArgumentException", "<init>", "(Ljava/lang/String;)V"⟩ prog_11_method_2_code 2 none ∈ AW := AW_in (tk_2 (List.mem_of_getElem? (i := 83) rfl)) rfl
theorem qM_IllegalArgumentException_7 : Cond.methodLink "java/lang/IllegalArgumentException" 7 ⟨"java/lang/RuntimeException", "<init>", "(Ljava/lang/String;)V"⟩ ∈ AW := AW_in (tk_2 (List.mem_of_getElem? (i := 84) rfl)) rfl
theorem qI_RuntimeException_init : Cond.instanceMethod ⟨"java/lang/RuntimeException", "<init>", "(Ljava/lang/String;)V"⟩ ∈ AW := AW_in (tk_2 (List.mem_of_getElem? (i := 85) rfl)) rfl
theorem qC_RuntimeException_init : Cond.code ⟨"java/lang/RuntimeException", "<init>", "(Ljava/lang/String;)V"⟩ prog_15_method_2_code 2 none ∈ AW := AW_in (tk_2 (List.mem_of_getElem? (i := 86) rfl)) rfl
theorem qM_RuntimeException_7 : Cond.methodLink "java/lang/RuntimeException" 7 ⟨"java/lang/Exception", "<init>", "(Ljava/lang/String;)V"⟩ ∈ AW := AW_in (tk_2 (List.mem_of_getElem? (i := 87) rfl)) rfl
theorem qI_Exception_init : Cond.instanceMethod ⟨"java/lang/Exception", "<init>", "(Ljava/lang/String;)V"⟩ ∈ AW := AW_in (tk_2 (List.mem_of_getElem? (i := 88) rfl)) rfl
theorem qC_Exception_init : Cond.code ⟨"java/lang/Exception", "<init>", "(Ljava/lang/String;)V"⟩ prog_10_method_2_code 2 none ∈ AW := AW_in (tk_2 (List.mem_of_getElem? (i := 89) rfl)) rfl
theorem qM_Exception_7 : Cond.methodLink "java/lang/Exception" 7 ⟨"java/lang/Throwable", "<init>", "(Ljava/lang/String;)V"⟩ ∈ AW := AW_in (tk_2 (List.mem_of_getElem? (i := 90) rfl)) rfl
theorem qF_Throwable_31 : Cond.fieldLink "java/lang/Throwable" 31 "java/lang/Throwable" "detailMessage" "Ljava/lang/String;" ∈ AW := AW_in (tk_2 (List.mem_of_getElem? (i := 94) rfl)) rfl
theorem qF_Throwable_7 : Cond.fieldLink "java/lang/Throwable" 7 "java/lang/Throwable" "cause" "Ljava/lang/Throwable;" ∈ AW := AW_in (tk_2 (List.mem_of_getElem? (i := 95) rfl)) rfl
theorem qF_Throwable_17 : Cond.fieldLink "java/lang/Throwable" 17 "java/lang/Throwable" "stackTrace" "[Ljava/lang/StackTraceElement;" ∈ AW := AW_in (tk_2 (List.mem_of_getElem? (i := 96) rfl)) rfl
theorem qF_Throwable_24 : Cond.fieldLink "java/lang/Throwable" 24 "java/lang/Throwable" "suppressedExceptions" "Ljava/util/List;" ∈ AW := AW_in (tk_2 (List.mem_of_getElem? (i := 97) rfl)) rfl
theorem qD_IllegalArgumentException_Throwable_depth : Cond.lays "java/lang/IllegalArgumentException" "java/lang/Throwable" "depth" "I" ∈ AW := AW_in (tk_2 (List.mem_of_getElem? (i := 102) rfl)) rfl
theorem qA_byte : Cond.arrayClass .byte ∈ AW := AW_in (tk_2 (List.mem_of_getElem? (i := 106) rfl)) rfl
theorem qL_X6_41 : Cond.classLink RX6 41 "java/lang/IllegalStateException" ∈ AW := AW_in (tk_2 (List.mem_of_getElem? (i := 107) rfl)) rfl
theorem qN_IllegalStateException : Cond.instantiable "java/lang/IllegalStateException" 6 ∈ AW := AW_in (tk_2 (List.mem_of_getElem? (i := 108) rfl)) rfl
theorem qD_IllegalStateException_Throwable_cause : Cond.lays "java/lang/IllegalStateException" "java/lang/Throwable" "cause" "Ljava/lang/Throwable;" ∈ AW := AW_in (tk_2 (List.mem_of_getElem? (i := 111) rfl)) rfl
theorem qD_IllegalStateException_Throwable_stackTrace : Cond.lays "java/lang/IllegalStateException" "java/lang/Throwable" "stackTrace" "[Ljava/lang/StackTraceElement;" ∈ AW := AW_in (tk_2 (List.mem_of_getElem? (i := 112) rfl)) rfl
theorem qD_IllegalStateException_Throwable_suppressedExceptions : Cond.lays "java/lang/IllegalStateException" "java/lang/Throwable" "suppressedExceptions" "Ljava/util/List;" ∈ AW := AW_in (tk_2 (List.mem_of_getElem? (i := 113) rfl)) rfl
theorem qD_IllegalStateException_Throwable_detailMessage : Cond.lays "java/lang/IllegalStateException" "java/lang/Throwable" "detailMessage" "Ljava/lang/String;" ∈ AW := AW_in (tk_2 (List.mem_of_getElem? (i := 114) rfl)) rfl
theorem qD_IllegalStateException_Throwable_backtrace : Cond.lays "java/lang/IllegalStateException" "java/lang/Throwable" "backtrace" "Ljava/lang/Object;" ∈ AW := AW_in (tk_2 (List.mem_of_getElem? (i := 115) rfl)) rfl
theorem qM_X6_45 : Cond.methodLink RX6 45 ⟨"java/lang/IllegalStateException", "<init>", "(Ljava/lang/String;)V"⟩ ∈ AW := AW_in (tk_2 (List.mem_of_getElem? (i := 117) rfl)) rfl
theorem qI_IllegalStateException_init : Cond.instanceMethod ⟨"java/lang/IllegalStateException", "<init>", "(Ljava/lang/String;)V"⟩ ∈ AW := AW_in (tk_2 (List.mem_of_getElem? (i := 118) rfl)) rfl
theorem qC_IllegalStateException_init : Cond.code ⟨"java/lang/IllegalStateException", "<init>", "(Ljava/lang/String;)V"⟩ prog_12_method_2_code 2 none ∈ AW := AW_in (tk_2 (List.mem_of_getElem? (i := 119) rfl)) rfl
theorem qM_IllegalStateException_7 : Cond.methodLink "java/lang/IllegalStateException" 7 ⟨"java/lang/RuntimeException", "<init>", "(Ljava/lang/String;)V"⟩ ∈ AW := AW_in (tk_2 (List.mem_of_getElem? (i := 120) rfl)) rfl
theorem qD_IllegalStateException_Throwable_depth : Cond.lays "java/lang/IllegalStateException" "java/lang/Throwable" "depth" "I" ∈ AW := AW_in (tk_2 (List.mem_of_getElem? (i := 121) rfl)) rfl
theorem qM_X6_48 : Cond.methodLink RX6 48 yX2_save ∈ AW := AW_in (tk_2 (List.mem_of_getElem? (i := 123) rfl)) rfl
theorem qI_X2_save : Cond.instanceMethod yX2_save ∈ AW := AW_in (tk_2 (List.mem_of_getElem? (i := 124) rfl)) rfl
theorem qS_X2_save : Cond.selects RX2 yX2_save yX2_save ∈ AW := AW_in (tk_2 (List.mem_of_getElem? (i := 125) rfl)) rfl
theorem qC_X2_save : Cond.code yX2_save cX2_save 2 none ∈ AW := AW_in (tk_2 (List.mem_of_getElem? (i := 126) rfl)) rfl
theorem qM_X2_22 : Cond.methodLink RX2 22 yX2_dropOldest ∈ AW := AW_in (tk_2 (List.mem_of_getElem? (i := 127) rfl)) rfl
theorem qI_X2_dropOldest : Cond.instanceMethod yX2_dropOldest ∈ AW := AW_in (tk_2 (List.mem_of_getElem? (i := 129) rfl)) rfl
theorem qC_X2_dropOldest : Cond.code yX2_dropOldest cX2_dropOldest 3 none ∈ AW := AW_in (tk_2 (List.mem_of_getElem? (i := 130) rfl)) rfl
theorem qM_X2_25 : Cond.methodLink RX2 25 yX0_copyFrom ∈ AW := AW_in (tk_2 (List.mem_of_getElem? (i := 131) rfl)) rfl
theorem qI_X0_copyFrom : Cond.instanceMethod yX0_copyFrom ∈ AW := AW_in (tk_2 (List.mem_of_getElem? (i := 132) rfl)) rfl
theorem qS_X0_copyFrom : Cond.selects RX0 yX0_copyFrom yX0_copyFrom ∈ AW := AW_in (tk_2 (List.mem_of_getElem? (i := 133) rfl)) rfl
theorem qC_X0_copyFrom : Cond.code yX0_copyFrom cX0_copyFrom 3 none ∈ AW := AW_in (tk_2 (List.mem_of_getElem? (i := 134) rfl)) rfl
theorem qM_X0_47 : Cond.methodLink RX0 47 yX3_copyFrom ∈ AW := AW_in (tk_2 (List.mem_of_getElem? (i := 135) rfl)) rfl
theorem qI_X3_copyFrom : Cond.instanceMethod yX3_copyFrom ∈ AW := AW_in (tk_2 (List.mem_of_getElem? (i := 136) rfl)) rfl
theorem qS_X3_copyFrom : Cond.selects RX3 yX3_copyFrom yX3_copyFrom ∈ AW := AW_in (tk_2 (List.mem_of_getElem? (i := 137) rfl)) rfl
theorem qC_X3_copyFrom : Cond.code yX3_copyFrom cX3_copyFrom 2 none ∈ AW := AW_in (tk_2 (List.mem_of_getElem? (i := 138) rfl)) rfl
theorem qM_X0_54 : Cond.methodLink RX0 54 yX1_copyFrom ∈ AW := AW_in (tk_2 (List.mem_of_getElem? (i := 139) rfl)) rfl
theorem qI_X1_copyFrom : Cond.instanceMethod yX1_copyFrom ∈ AW := AW_in (tk_2 (List.mem_of_getElem? (i := 140) rfl)) rfl
theorem qS_X1_copyFrom : Cond.selects RX1 yX1_copyFrom yX1_copyFrom ∈ AW := AW_in (tk_2 (List.mem_of_getElem? (i := 141) rfl)) rfl
theorem qC_X1_copyFrom : Cond.code yX1_copyFrom cX1_copyFrom 2 none ∈ AW := AW_in (tk_2 (List.mem_of_getElem? (i := 142) rfl)) rfl
theorem qM_X1_40 : Cond.methodLink RX1 40 arraycopyName ∈ AW := AW_in (tk_2 (List.mem_of_getElem? (i := 143) rfl)) rfl
theorem qT_System_arraycopy : Cond.static arraycopyName ∈ AW := AW_in (tk_2 (List.mem_of_getElem? (i := 144) rfl)) rfl
theorem qE_System_arraycopy : Cond.native arraycopyName ∈ AW := AW_in (tk_2 (List.mem_of_getElem? (i := 145) rfl)) rfl
theorem qM_X0_57 : Cond.methodLink RX0 57 yX4_copyFrom ∈ AW := AW_in (tk_2 (List.mem_of_getElem? (i := 146) rfl)) rfl
theorem qI_X4_copyFrom : Cond.instanceMethod yX4_copyFrom ∈ AW := AW_in (tk_2 (List.mem_of_getElem? (i := 147) rfl)) rfl
theorem qS_X4_copyFrom : Cond.selects RX4 yX4_copyFrom yX4_copyFrom ∈ AW := AW_in (tk_2 (List.mem_of_getElem? (i := 148) rfl)) rfl
theorem qC_X4_copyFrom : Cond.code yX4_copyFrom cX4_copyFrom 2 none ∈ AW := AW_in (tk_2 (List.mem_of_getElem? (i := 149) rfl)) rfl
theorem qM_X6_56 : Cond.methodLink RX6 56 yX3_begin ∈ AW := AW_in (tk_2 (List.mem_of_getElem? (i := 150) rfl)) rfl
theorem qI_X3_begin : Cond.instanceMethod yX3_begin ∈ AW := AW_in (tk_2 (List.mem_of_getElem? (i := 151) rfl)) rfl
theorem qS_X3_begin : Cond.selects RX3 yX3_begin yX3_begin ∈ AW := AW_in (tk_2 (List.mem_of_getElem? (i := 152) rfl)) rfl
theorem qC_X3_begin : Cond.code yX3_begin cX3_begin 3 none ∈ AW := AW_in (tk_2 (List.mem_of_getElem? (i := 153) rfl)) rfl
theorem qV_L_17 : Cond.constant RL 17 (-90100 : Int32) ∈ AW := AW_in (tk_2 (List.mem_of_getElem? (i := 154) rfl)) rfl
theorem qV_L_20 : Cond.constant RL 20 (-90200 : Int32) ∈ AW := AW_in (tk_2 (List.mem_of_getElem? (i := 155) rfl)) rfl
theorem qM_L_135 : Cond.methodLink RL 135 yL_addPlow ∈ AW := AW_in (tk_2 (List.mem_of_getElem? (i := 156) rfl)) rfl
theorem qT_L_addPlow : Cond.static yL_addPlow ∈ AW := AW_in (tk_2 (List.mem_of_getElem? (i := 157) rfl)) rfl
theorem qC_L_addPlow : Cond.codeWith yL_addPlow cL_addPlow 4 (some .int) [(0, 6, 7, 15), (0, 6, 11, 18)] ∈ AW := AW_in (tk_2 (List.mem_of_getElem? (i := 158) rfl)) rfl
theorem qM_L_21 : Cond.methodLink RL 21 yX6_addPlow ∈ AW := AW_in (tk_2 (List.mem_of_getElem? (i := 159) rfl)) rfl
theorem qI_X6_addPlow : Cond.instanceMethod yX6_addPlow ∈ AW := AW_in (tk_2 (List.mem_of_getElem? (i := 160) rfl)) rfl
theorem qS_X6_addPlow : Cond.selects RX6 yX6_addPlow yX6_addPlow ∈ AW := AW_in (tk_2 (List.mem_of_getElem? (i := 161) rfl)) rfl
theorem qC_X6_addPlow : Cond.code yX6_addPlow cX6_addPlow 3 (some .int) ∈ AW := AW_in (tk_2 (List.mem_of_getElem? (i := 162) rfl)) rfl
theorem qM_X6_71 : Cond.methodLink RX6 71 yX1_begin ∈ AW := AW_in (tk_2 (List.mem_of_getElem? (i := 164) rfl)) rfl
theorem qI_X1_begin : Cond.instanceMethod yX1_begin ∈ AW := AW_in (tk_2 (List.mem_of_getElem? (i := 165) rfl)) rfl
theorem qS_X1_begin : Cond.selects RX1 yX1_begin yX1_begin ∈ AW := AW_in (tk_2 (List.mem_of_getElem? (i := 166) rfl)) rfl
theorem qC_X1_begin : Cond.code yX1_begin cX1_begin 3 none ∈ AW := AW_in (tk_2 (List.mem_of_getElem? (i := 167) rfl)) rfl
theorem qM_L_137 : Cond.methodLink RL 137 yL_addStop ∈ AW := AW_in (tk_2 (List.mem_of_getElem? (i := 168) rfl)) rfl
theorem qT_L_addStop : Cond.static yL_addStop ∈ AW := AW_in (tk_2 (List.mem_of_getElem? (i := 169) rfl)) rfl
theorem qC_L_addStop : Cond.codeWith yL_addStop cL_addStop 4 (some .int) [(0, 6, 7, 27), (0, 6, 11, 18)] ∈ AW := AW_in (tk_2 (List.mem_of_getElem? (i := 170) rfl)) rfl
theorem qL_L_27 : Cond.classLink RL 27 "java/lang/IndexOutOfBoundsException" ∈ AW := AW_in (tk_2 (List.mem_of_getElem? (i := 171) rfl)) rfl
theorem qM_L_24 : Cond.methodLink RL 24 yX6_addStop ∈ AW := AW_in (tk_2 (List.mem_of_getElem? (i := 172) rfl)) rfl
theorem qI_X6_addStop : Cond.instanceMethod yX6_addStop ∈ AW := AW_in (tk_2 (List.mem_of_getElem? (i := 173) rfl)) rfl
theorem qS_X6_addStop : Cond.selects RX6 yX6_addStop yX6_addStop ∈ AW := AW_in (tk_2 (List.mem_of_getElem? (i := 174) rfl)) rfl
theorem qC_X6_addStop : Cond.code yX6_addStop cX6_addStop 4 (some .int) ∈ AW := AW_in (tk_2 (List.mem_of_getElem? (i := 175) rfl)) rfl
theorem qM_X6_74 : Cond.methodLink RX6 74 yX6_checkPlow ∈ AW := AW_in (tk_2 (List.mem_of_getElem? (i := 176) rfl)) rfl
theorem qI_X6_checkPlow : Cond.instanceMethod yX6_checkPlow ∈ AW := AW_in (tk_2 (List.mem_of_getElem? (i := 178) rfl)) rfl
theorem qC_X6_checkPlow : Cond.code yX6_checkPlow cX6_checkPlow 2 none ∈ AW := AW_in (tk_2 (List.mem_of_getElem? (i := 179) rfl)) rfl
theorem qM_X6_94 : Cond.methodLink RX6 94 yX6_checkIndex ∈ AW := AW_in (tk_2 (List.mem_of_getElem? (i := 180) rfl)) rfl
theorem qT_X6_checkIndex : Cond.static yX6_checkIndex ∈ AW := AW_in (tk_2 (List.mem_of_getElem? (i := 181) rfl)) rfl
theorem qC_X6_checkIndex : Cond.code yX6_checkIndex cX6_checkIndex 2 none ∈ AW := AW_in (tk_2 (List.mem_of_getElem? (i := 182) rfl)) rfl
theorem qL_X6_229 : Cond.classLink RX6 229 "java/lang/IndexOutOfBoundsException" ∈ AW := AW_in (tk_2 (List.mem_of_getElem? (i := 183) rfl)) rfl
theorem qN_IndexOutOfBoundsException : Cond.instantiable "java/lang/IndexOutOfBoundsException" 6 ∈ AW := AW_in (tk_2 (List.mem_of_getElem? (i := 184) rfl)) rfl
theorem qD_IndexOutOfBoundsException_Throwable_cause : Cond.lays "java/lang/IndexOutOfBoundsException" "java/lang/Throwable" "cause" "Ljava/lang/Throwable;" ∈ AW := AW_in (tk_2 (List.mem_of_getElem? (i := 187) rfl)) rfl
theorem qD_IndexOutOfBoundsException_Throwable_stackTrace : Cond.lays "java/lang/IndexOutOfBoundsException" "java/lang/Throwable" "stackTrace" "[Ljava/lang/StackTraceElement;" ∈ AW := AW_in (tk_2 (List.mem_of_getElem? (i := 188) rfl)) rfl
theorem qD_IndexOutOfBoundsException_Throwable_suppressedExceptions : Cond.lays "java/lang/IndexOutOfBoundsException" "java/lang/Throwable" "suppressedExceptions" "Ljava/util/List;" ∈ AW := AW_in (tk_2 (List.mem_of_getElem? (i := 189) rfl)) rfl
theorem qD_IndexOutOfBoundsException_Throwable_detailMessage : Cond.lays "java/lang/IndexOutOfBoundsException" "java/lang/Throwable" "detailMessage" "Ljava/lang/String;" ∈ AW := AW_in (tk_2 (List.mem_of_getElem? (i := 190) rfl)) rfl
theorem qD_IndexOutOfBoundsException_Throwable_backtrace : Cond.lays "java/lang/IndexOutOfBoundsException" "java/lang/Throwable" "backtrace" "Ljava/lang/Object;" ∈ AW := AW_in (tk_2 (List.mem_of_getElem? (i := 191) rfl)) rfl
theorem qM_X6_233 : Cond.methodLink RX6 233 ⟨"java/lang/IndexOutOfBoundsException", "<init>", "(Ljava/lang/String;)V"⟩ ∈ AW := AW_in (tk_2 (List.mem_of_getElem? (i := 193) rfl)) rfl
theorem qI_IndexOutOfBoundsException_init : Cond.instanceMethod ⟨"java/lang/IndexOutOfBoundsException", "<init>", "(Ljava/lang/String;)V"⟩ ∈ AW := AW_in (tk_2 (List.mem_of_getElem? (i := 194) rfl)) rfl
theorem qC_IndexOutOfBoundsException_init : Cond.code ⟨"java/lang/IndexOutOfBoundsException", "<init>", "(Ljava/lang/String;)V"⟩ prog_13_method_2_code 2 none ∈ AW := AW_in (tk_2 (List.mem_of_getElem? (i := 195) rfl)) rfl
theorem qM_IndexOutOfBoundsException_7 : Cond.methodLink "java/lang/IndexOutOfBoundsException" 7 ⟨"java/lang/RuntimeException", "<init>", "(Ljava/lang/String;)V"⟩ ∈ AW := AW_in (tk_2 (List.mem_of_getElem? (i := 196) rfl)) rfl
theorem qD_IndexOutOfBoundsException_Throwable_depth : Cond.lays "java/lang/IndexOutOfBoundsException" "java/lang/Throwable" "depth" "I" ∈ AW := AW_in (tk_2 (List.mem_of_getElem? (i := 197) rfl)) rfl
theorem qM_X6_78 : Cond.methodLink RX6 78 yX6_checkStreet ∈ AW := AW_in (tk_2 (List.mem_of_getElem? (i := 199) rfl)) rfl
theorem qI_X6_checkStreet : Cond.instanceMethod yX6_checkStreet ∈ AW := AW_in (tk_2 (List.mem_of_getElem? (i := 201) rfl)) rfl
theorem qC_X6_checkStreet : Cond.code yX6_checkStreet cX6_checkStreet 2 none ∈ AW := AW_in (tk_2 (List.mem_of_getElem? (i := 202) rfl)) rfl
theorem qV_L_29 : Cond.constant RL 29 (-90300 : Int32) ∈ AW := AW_in (tk_2 (List.mem_of_getElem? (i := 204) rfl)) rfl
theorem qM_L_139 : Cond.methodLink RL 139 yL_clearRoute ∈ AW := AW_in (tk_2 (List.mem_of_getElem? (i := 205) rfl)) rfl
theorem qT_L_clearRoute : Cond.static yL_clearRoute ∈ AW := AW_in (tk_2 (List.mem_of_getElem? (i := 206) rfl)) rfl
theorem qC_L_clearRoute : Cond.codeWith yL_clearRoute cL_clearRoute 3 (some .int) [(0, 5, 6, 27)] ∈ AW := AW_in (tk_2 (List.mem_of_getElem? (i := 207) rfl)) rfl
theorem qM_L_30 : Cond.methodLink RL 30 yX6_clearRoute ∈ AW := AW_in (tk_2 (List.mem_of_getElem? (i := 208) rfl)) rfl
theorem qI_X6_clearRoute : Cond.instanceMethod yX6_clearRoute ∈ AW := AW_in (tk_2 (List.mem_of_getElem? (i := 209) rfl)) rfl
theorem qS_X6_clearRoute : Cond.selects RX6 yX6_clearRoute yX6_clearRoute ∈ AW := AW_in (tk_2 (List.mem_of_getElem? (i := 210) rfl)) rfl
theorem qC_X6_clearRoute : Cond.code yX6_clearRoute cX6_clearRoute 2 (some .int) ∈ AW := AW_in (tk_2 (List.mem_of_getElem? (i := 211) rfl)) rfl
theorem qM_X6_90 : Cond.methodLink RX6 90 yX1_forgetRoute ∈ AW := AW_in (tk_2 (List.mem_of_getElem? (i := 212) rfl)) rfl
theorem qI_X1_forgetRoute : Cond.instanceMethod yX1_forgetRoute ∈ AW := AW_in (tk_2 (List.mem_of_getElem? (i := 213) rfl)) rfl
theorem qS_X1_forgetRoute : Cond.selects RX1 yX1_forgetRoute yX1_forgetRoute ∈ AW := AW_in (tk_2 (List.mem_of_getElem? (i := 214) rfl)) rfl
theorem qC_X1_forgetRoute : Cond.code yX1_forgetRoute cX1_forgetRoute 2 (some .int) ∈ AW := AW_in (tk_2 (List.mem_of_getElem? (i := 215) rfl)) rfl
theorem qM_L_131 : Cond.methodLink RL 131 yL_exchange ∈ AW := AW_in (tk_2 (List.mem_of_getElem? (i := 216) rfl)) rfl
theorem qT_L_exchange : Cond.static yL_exchange ∈ AW := AW_in (tk_2 (List.mem_of_getElem? (i := 217) rfl)) rfl
theorem qC_L_exchange : Cond.codeWith yL_exchange cL_exchange 4 (some .int) [(0, 6, 7, 27), (0, 6, 11, 18)] ∈ AW := AW_in (tk_2 (List.mem_of_getElem? (i := 218) rfl)) rfl
theorem qM_L_34 : Cond.methodLink RL 34 yX6_exchange ∈ AW := AW_in (tk_2 (List.mem_of_getElem? (i := 219) rfl)) rfl
theorem qI_X6_exchange : Cond.instanceMethod yX6_exchange ∈ AW := AW_in (tk_2 (List.mem_of_getElem? (i := 220) rfl)) rfl
theorem qS_X6_exchange : Cond.selects RX6 yX6_exchange yX6_exchange ∈ AW := AW_in (tk_2 (List.mem_of_getElem? (i := 221) rfl)) rfl
theorem qC_X6_exchange : Cond.code yX6_exchange cX6_exchange 4 (some .int) ∈ AW := AW_in (tk_2 (List.mem_of_getElem? (i := 222) rfl)) rfl
theorem qM_X6_97 : Cond.methodLink RX6 97 yX1_isBusyAtPair ∈ AW := AW_in (tk_2 (List.mem_of_getElem? (i := 223) rfl)) rfl
theorem qI_X1_isBusyAtPair : Cond.instanceMethod yX1_isBusyAtPair ∈ AW := AW_in (tk_2 (List.mem_of_getElem? (i := 224) rfl)) rfl
theorem qS_X1_isBusyAtPair : Cond.selects RX1 yX1_isBusyAtPair yX1_isBusyAtPair ∈ AW := AW_in (tk_2 (List.mem_of_getElem? (i := 225) rfl)) rfl
theorem qC_X1_isBusyAtPair : Cond.code yX1_isBusyAtPair cX1_isBusyAtPair 2 (some .boolean) ∈ AW := AW_in (tk_2 (List.mem_of_getElem? (i := 226) rfl)) rfl
theorem qM_X6_103 : Cond.methodLink RX6 103 yX1_swapWithNext ∈ AW := AW_in (tk_2 (List.mem_of_getElem? (i := 228) rfl)) rfl
theorem qI_X1_swapWithNext : Cond.instanceMethod yX1_swapWithNext ∈ AW := AW_in (tk_2 (List.mem_of_getElem? (i := 229) rfl)) rfl
theorem qS_X1_swapWithNext : Cond.selects RX1 yX1_swapWithNext yX1_swapWithNext ∈ AW := AW_in (tk_2 (List.mem_of_getElem? (i := 230) rfl)) rfl
theorem qC_X1_swapWithNext : Cond.code yX1_swapWithNext cX1_swapWithNext 3 none ∈ AW := AW_in (tk_2 (List.mem_of_getElem? (i := 231) rfl)) rfl
theorem qM_L_141 : Cond.methodLink RL 141 yL_setTerms ∈ AW := AW_in (tk_2 (List.mem_of_getElem? (i := 232) rfl)) rfl
theorem qT_L_setTerms : Cond.static yL_setTerms ∈ AW := AW_in (tk_2 (List.mem_of_getElem? (i := 233) rfl)) rfl
theorem qC_L_setTerms : Cond.codeWith yL_setTerms cL_setTerms 6 (some .int) [(0, 9, 10, 27), (0, 9, 15, 15)] ∈ AW := AW_in (tk_2 (List.mem_of_getElem? (i := 234) rfl)) rfl
theorem qM_L_37 : Cond.methodLink RL 37 yX6_setTerms ∈ AW := AW_in (tk_2 (List.mem_of_getElem? (i := 235) rfl)) rfl
theorem qI_X6_setTerms : Cond.instanceMethod yX6_setTerms ∈ AW := AW_in (tk_2 (List.mem_of_getElem? (i := 236) rfl)) rfl
theorem qS_X6_setTerms : Cond.selects RX6 yX6_setTerms yX6_setTerms ∈ AW := AW_in (tk_2 (List.mem_of_getElem? (i := 237) rfl)) rfl
theorem qC_X6_setTerms : Cond.code yX6_setTerms cX6_setTerms 7 (some .int) ∈ AW := AW_in (tk_2 (List.mem_of_getElem? (i := 238) rfl)) rfl
theorem qM_L_143 : Cond.methodLink RL 143 yL_setSpread ∈ AW := AW_in (tk_2 (List.mem_of_getElem? (i := 239) rfl)) rfl
theorem qT_L_setSpread : Cond.static yL_setSpread ∈ AW := AW_in (tk_3 (List.mem_of_getElem? (i := 0) rfl)) rfl
theorem qC_L_setSpread : Cond.codeWith yL_setSpread cL_setSpread 3 (some .int) [(0, 5, 6, 15)] ∈ AW := AW_in (tk_3 (List.mem_of_getElem? (i := 1) rfl)) rfl
theorem qM_L_41 : Cond.methodLink RL 41 yX6_setSpread ∈ AW := AW_in (tk_3 (List.mem_of_getElem? (i := 2) rfl)) rfl
theorem qI_X6_setSpread : Cond.instanceMethod yX6_setSpread ∈ AW := AW_in (tk_3 (List.mem_of_getElem? (i := 3) rfl)) rfl
theorem qS_X6_setSpread : Cond.selects RX6 yX6_setSpread yX6_setSpread ∈ AW := AW_in (tk_3 (List.mem_of_getElem? (i := 4) rfl)) rfl
theorem qC_X6_setSpread : Cond.code yX6_setSpread cX6_setSpread 3 (some .int) ∈ AW := AW_in (tk_3 (List.mem_of_getElem? (i := 5) rfl)) rfl
theorem qM_L_145 : Cond.methodLink RL 145 yL_deliver ∈ AW := AW_in (tk_3 (List.mem_of_getElem? (i := 6) rfl)) rfl
theorem qT_L_deliver : Cond.static yL_deliver ∈ AW := AW_in (tk_3 (List.mem_of_getElem? (i := 7) rfl)) rfl
theorem qC_L_deliver : Cond.codeWith yL_deliver cL_deliver 3 (some .int) [(0, 5, 6, 15), (0, 5, 10, 18)] ∈ AW := AW_in (tk_3 (List.mem_of_getElem? (i := 8) rfl)) rfl
theorem qM_L_44 : Cond.methodLink RL 44 yX6_deliver ∈ AW := AW_in (tk_3 (List.mem_of_getElem? (i := 9) rfl)) rfl
theorem qI_X6_deliver : Cond.instanceMethod yX6_deliver ∈ AW := AW_in (tk_3 (List.mem_of_getElem? (i := 10) rfl)) rfl
theorem qS_X6_deliver : Cond.selects RX6 yX6_deliver yX6_deliver ∈ AW := AW_in (tk_3 (List.mem_of_getElem? (i := 11) rfl)) rfl
theorem qC_X6_deliver : Cond.code yX6_deliver cX6_deliver 2 (some .int) ∈ AW := AW_in (tk_3 (List.mem_of_getElem? (i := 12) rfl)) rfl
theorem qV_X6_124 : Cond.constant RX6 124 (100000 : Int32) ∈ AW := AW_in (tk_3 (List.mem_of_getElem? (i := 13) rfl)) rfl
theorem qM_L_88 : Cond.methodLink RL 88 yL_value ∈ AW := AW_in (tk_3 (List.mem_of_getElem? (i := 15) rfl)) rfl
theorem qT_L_value : Cond.static yL_value ∈ AW := AW_in (tk_3 (List.mem_of_getElem? (i := 16) rfl)) rfl
theorem qC_L_value : Cond.codeWith yL_value cL_value 3 (some .int) [(0, 5, 6, 15)] ∈ AW := AW_in (tk_3 (List.mem_of_getElem? (i := 17) rfl)) rfl
theorem qM_L_51 : Cond.methodLink RL 51 yX6_value ∈ AW := AW_in (tk_3 (List.mem_of_getElem? (i := 18) rfl)) rfl
theorem qI_X6_value : Cond.instanceMethod yX6_value ∈ AW := AW_in (tk_3 (List.mem_of_getElem? (i := 19) rfl)) rfl
theorem qS_X6_value : Cond.selects RX6 yX6_value yX6_value ∈ AW := AW_in (tk_3 (List.mem_of_getElem? (i := 20) rfl)) rfl
theorem qC_X6_value : Cond.code yX6_value cX6_value 2 (some .int) ∈ AW := AW_in (tk_3 (List.mem_of_getElem? (i := 21) rfl)) rfl
theorem qM_X6_143 : Cond.methodLink RX6 143 yX0_number ∈ AW := AW_in (tk_3 (List.mem_of_getElem? (i := 22) rfl)) rfl
theorem qI_X0_number : Cond.instanceMethod yX0_number ∈ AW := AW_in (tk_3 (List.mem_of_getElem? (i := 23) rfl)) rfl
theorem qS_X0_number : Cond.selects RX0 yX0_number yX0_number ∈ AW := AW_in (tk_3 (List.mem_of_getElem? (i := 24) rfl)) rfl
theorem qC_X0_number : Cond.code yX0_number cX0_number 2 (some .int) ∈ AW := AW_in (tk_3 (List.mem_of_getElem? (i := 25) rfl)) rfl
theorem qM_X0_69 : Cond.methodLink RX0 69 yX0_complaints ∈ AW := AW_in (tk_3 (List.mem_of_getElem? (i := 26) rfl)) rfl
theorem qI_X0_complaints : Cond.instanceMethod yX0_complaints ∈ AW := AW_in (tk_3 (List.mem_of_getElem? (i := 27) rfl)) rfl
theorem qS_X0_complaints : Cond.selects RX0 yX0_complaints yX0_complaints ∈ AW := AW_in (tk_3 (List.mem_of_getElem? (i := 28) rfl)) rfl
theorem qC_X0_complaints : Cond.code yX0_complaints cX0_complaints 3 (some .int) ∈ AW := AW_in (tk_3 (List.mem_of_getElem? (i := 29) rfl)) rfl
theorem qM_X0_73 : Cond.methodLink RX0 73 yX0_dueStreets ∈ AW := AW_in (tk_3 (List.mem_of_getElem? (i := 30) rfl)) rfl
theorem qI_X0_dueStreets : Cond.instanceMethod yX0_dueStreets ∈ AW := AW_in (tk_3 (List.mem_of_getElem? (i := 32) rfl)) rfl
theorem qC_X0_dueStreets : Cond.code yX0_dueStreets cX0_dueStreets 3 (some .int) ∈ AW := AW_in (tk_3 (List.mem_of_getElem? (i := 33) rfl)) rfl
theorem qM_X0_94 : Cond.methodLink RX0 94 yX0_isDue ∈ AW := AW_in (tk_3 (List.mem_of_getElem? (i := 34) rfl)) rfl
theorem qI_X0_isDue : Cond.instanceMethod yX0_isDue ∈ AW := AW_in (tk_3 (List.mem_of_getElem? (i := 36) rfl)) rfl
theorem qC_X0_isDue : Cond.code yX0_isDue cX0_isDue 2 (some .boolean) ∈ AW := AW_in (tk_3 (List.mem_of_getElem? (i := 37) rfl)) rfl
theorem qM_L_95 : Cond.methodLink RL 95 yL_street ∈ AW := AW_in (tk_3 (List.mem_of_getElem? (i := 38) rfl)) rfl
theorem qT_L_street : Cond.static yL_street ∈ AW := AW_in (tk_3 (List.mem_of_getElem? (i := 39) rfl)) rfl
theorem qC_L_street : Cond.codeWith yL_street cL_street 4 (some .int) [(0, 6, 7, 27), (0, 6, 11, 15)] ∈ AW := AW_in (tk_3 (List.mem_of_getElem? (i := 40) rfl)) rfl
theorem qM_L_54 : Cond.methodLink RL 54 yX6_street ∈ AW := AW_in (tk_3 (List.mem_of_getElem? (i := 41) rfl)) rfl
theorem qI_X6_street : Cond.instanceMethod yX6_street ∈ AW := AW_in (tk_3 (List.mem_of_getElem? (i := 42) rfl)) rfl
theorem qS_X6_street : Cond.selects RX6 yX6_street yX6_street ∈ AW := AW_in (tk_3 (List.mem_of_getElem? (i := 43) rfl)) rfl
theorem qC_X6_street : Cond.code yX6_street cX6_street 3 (some .int) ∈ AW := AW_in (tk_3 (List.mem_of_getElem? (i := 44) rfl)) rfl
theorem qM_X6_147 : Cond.methodLink RX6 147 yX0_numberOfStreet ∈ AW := AW_in (tk_3 (List.mem_of_getElem? (i := 45) rfl)) rfl
theorem qI_X0_numberOfStreet : Cond.instanceMethod yX0_numberOfStreet ∈ AW := AW_in (tk_3 (List.mem_of_getElem? (i := 46) rfl)) rfl
theorem qS_X0_numberOfStreet : Cond.selects RX0 yX0_numberOfStreet yX0_numberOfStreet ∈ AW := AW_in (tk_3 (List.mem_of_getElem? (i := 47) rfl)) rfl
theorem qC_X0_numberOfStreet : Cond.code yX0_numberOfStreet cX0_numberOfStreet 3 (some .int) ∈ AW := AW_in (tk_3 (List.mem_of_getElem? (i := 48) rfl)) rfl
theorem qM_L_100 : Cond.methodLink RL 100 yL_plow ∈ AW := AW_in (tk_3 (List.mem_of_getElem? (i := 49) rfl)) rfl
theorem qT_L_plow : Cond.static yL_plow ∈ AW := AW_in (tk_3 (List.mem_of_getElem? (i := 50) rfl)) rfl
theorem qC_L_plow : Cond.codeWith yL_plow cL_plow 4 (some .int) [(0, 6, 7, 27), (0, 6, 11, 15)] ∈ AW := AW_in (tk_3 (List.mem_of_getElem? (i := 51) rfl)) rfl
theorem qM_L_57 : Cond.methodLink RL 57 yX6_plow ∈ AW := AW_in (tk_3 (List.mem_of_getElem? (i := 52) rfl)) rfl
theorem qI_X6_plow : Cond.instanceMethod yX6_plow ∈ AW := AW_in (tk_3 (List.mem_of_getElem? (i := 53) rfl)) rfl
theorem qS_X6_plow : Cond.selects RX6 yX6_plow yX6_plow ∈ AW := AW_in (tk_3 (List.mem_of_getElem? (i := 54) rfl)) rfl
theorem qC_X6_plow : Cond.code yX6_plow cX6_plow 3 (some .int) ∈ AW := AW_in (tk_3 (List.mem_of_getElem? (i := 55) rfl)) rfl
theorem qM_X6_151 : Cond.methodLink RX6 151 yX1_number ∈ AW := AW_in (tk_3 (List.mem_of_getElem? (i := 56) rfl)) rfl
theorem qI_X1_number : Cond.instanceMethod yX1_number ∈ AW := AW_in (tk_3 (List.mem_of_getElem? (i := 57) rfl)) rfl
theorem qS_X1_number : Cond.selects RX1 yX1_number yX1_number ∈ AW := AW_in (tk_3 (List.mem_of_getElem? (i := 58) rfl)) rfl
theorem qC_X1_number : Cond.code yX1_number cX1_number 2 (some .int) ∈ AW := AW_in (tk_3 (List.mem_of_getElem? (i := 59) rfl)) rfl
theorem qM_L_102 : Cond.methodLink RL 102 yL_stop ∈ AW := AW_in (tk_3 (List.mem_of_getElem? (i := 60) rfl)) rfl
theorem qT_L_stop : Cond.static yL_stop ∈ AW := AW_in (tk_3 (List.mem_of_getElem? (i := 61) rfl)) rfl
theorem qC_L_stop : Cond.codeWith yL_stop cL_stop 4 (some .int) [(0, 6, 7, 27)] ∈ AW := AW_in (tk_3 (List.mem_of_getElem? (i := 62) rfl)) rfl
theorem qM_L_60 : Cond.methodLink RL 60 yX6_stop ∈ AW := AW_in (tk_3 (List.mem_of_getElem? (i := 63) rfl)) rfl
theorem qI_X6_stop : Cond.instanceMethod yX6_stop ∈ AW := AW_in (tk_3 (List.mem_of_getElem? (i := 64) rfl)) rfl
theorem qS_X6_stop : Cond.selects RX6 yX6_stop yX6_stop ∈ AW := AW_in (tk_3 (List.mem_of_getElem? (i := 65) rfl)) rfl
theorem qC_X6_stop : Cond.code yX6_stop cX6_stop 4 (some .int) ∈ AW := AW_in (tk_3 (List.mem_of_getElem? (i := 66) rfl)) rfl
theorem qM_L_98 : Cond.methodLink RL 98 yL_terms ∈ AW := AW_in (tk_3 (List.mem_of_getElem? (i := 67) rfl)) rfl
theorem qT_L_terms : Cond.static yL_terms ∈ AW := AW_in (tk_3 (List.mem_of_getElem? (i := 68) rfl)) rfl
theorem qC_L_terms : Cond.codeWith yL_terms cL_terms 4 (some .int) [(0, 6, 7, 27), (0, 6, 11, 15)] ∈ AW := AW_in (tk_3 (List.mem_of_getElem? (i := 69) rfl)) rfl
theorem qM_L_63 : Cond.methodLink RL 63 yX6_terms ∈ AW := AW_in (tk_3 (List.mem_of_getElem? (i := 70) rfl)) rfl
theorem qI_X6_terms : Cond.instanceMethod yX6_terms ∈ AW := AW_in (tk_3 (List.mem_of_getElem? (i := 71) rfl)) rfl
theorem qS_X6_terms : Cond.selects RX6 yX6_terms yX6_terms ∈ AW := AW_in (tk_3 (List.mem_of_getElem? (i := 72) rfl)) rfl
theorem qC_X6_terms : Cond.code yX6_terms cX6_terms 3 (some .int) ∈ AW := AW_in (tk_3 (List.mem_of_getElem? (i := 73) rfl)) rfl
theorem qM_X6_152 : Cond.methodLink RX6 152 yX4_number ∈ AW := AW_in (tk_3 (List.mem_of_getElem? (i := 74) rfl)) rfl
theorem qI_X4_number : Cond.instanceMethod yX4_number ∈ AW := AW_in (tk_3 (List.mem_of_getElem? (i := 75) rfl)) rfl
theorem qS_X4_number : Cond.selects RX4 yX4_number yX4_number ∈ AW := AW_in (tk_3 (List.mem_of_getElem? (i := 76) rfl)) rfl
theorem qC_X4_number : Cond.code yX4_number cX4_number 2 (some .int) ∈ AW := AW_in (tk_3 (List.mem_of_getElem? (i := 77) rfl)) rfl
theorem qM_L_158 : Cond.methodLink RL 158 yL_runText ∈ AW := AW_in (tk_3 (List.mem_of_getElem? (i := 78) rfl)) rfl
theorem qT_L_runText : Cond.static yL_runText ∈ AW := AW_in (tk_3 (List.mem_of_getElem? (i := 79) rfl)) rfl
theorem qC_L_runText : Cond.codeWith yL_runText cL_runText 2 (some .int) [(0, 4, 5, 18)] ∈ AW := AW_in (tk_3 (List.mem_of_getElem? (i := 80) rfl)) rfl
theorem qM_L_81 : Cond.methodLink RL 81 yX6_runText ∈ AW := AW_in (tk_3 (List.mem_of_getElem? (i := 81) rfl)) rfl
theorem qI_X6_runText : Cond.instanceMethod yX6_runText ∈ AW := AW_in (tk_3 (List.mem_of_getElem? (i := 82) rfl)) rfl
theorem qS_X6_runText : Cond.selects RX6 yX6_runText yX6_runText ∈ AW := AW_in (tk_3 (List.mem_of_getElem? (i := 83) rfl)) rfl
theorem qC_X6_runText : Cond.code yX6_runText cX6_runText 4 (some .int) ∈ AW := AW_in (tk_3 (List.mem_of_getElem? (i := 84) rfl)) rfl
theorem qM_X6_178 : Cond.methodLink RX6 178 yX5_readItems ∈ AW := AW_in (tk_3 (List.mem_of_getElem? (i := 85) rfl)) rfl
theorem qI_X5_readItems : Cond.instanceMethod yX5_readItems ∈ AW := AW_in (tk_3 (List.mem_of_getElem? (i := 86) rfl)) rfl
theorem qS_X5_readItems : Cond.selects RX5 yX5_readItems yX5_readItems ∈ AW := AW_in (tk_3 (List.mem_of_getElem? (i := 87) rfl)) rfl
theorem qC_X5_readItems : Cond.code yX5_readItems cX5_readItems 1 (some .int) ∈ AW := AW_in (tk_3 (List.mem_of_getElem? (i := 88) rfl)) rfl
theorem qM_X5_37 : Cond.methodLink RX5 37 yX5_readItem ∈ AW := AW_in (tk_3 (List.mem_of_getElem? (i := 89) rfl)) rfl
theorem qI_X5_readItem : Cond.instanceMethod yX5_readItem ∈ AW := AW_in (tk_3 (List.mem_of_getElem? (i := 91) rfl)) rfl
theorem qC_X5_readItem : Cond.code yX5_readItem cX5_readItem 1 none ∈ AW := AW_in (tk_3 (List.mem_of_getElem? (i := 92) rfl)) rfl
theorem qM_X5_40 : Cond.methodLink RX5 40 yX5_readTemperature ∈ AW := AW_in (tk_3 (List.mem_of_getElem? (i := 93) rfl)) rfl
theorem qI_X5_readTemperature : Cond.instanceMethod yX5_readTemperature ∈ AW := AW_in (tk_3 (List.mem_of_getElem? (i := 95) rfl)) rfl
theorem qC_X5_readTemperature : Cond.code yX5_readTemperature cX5_readTemperature 1 (some .int) ∈ AW := AW_in (tk_3 (List.mem_of_getElem? (i := 96) rfl)) rfl
theorem qM_X5_52 : Cond.methodLink RX5 52 yX5_here ∈ AW := AW_in (tk_3 (List.mem_of_getElem? (i := 97) rfl)) rfl
theorem qI_X5_here : Cond.instanceMethod yX5_here ∈ AW := AW_in (tk_3 (List.mem_of_getElem? (i := 99) rfl)) rfl
theorem qC_X5_here : Cond.code yX5_here cX5_here 1 (some .int) ∈ AW := AW_in (tk_3 (List.mem_of_getElem? (i := 100) rfl)) rfl
theorem qM_X5_48 : Cond.methodLink RX5 48 yX5_readNumber ∈ AW := AW_in (tk_3 (List.mem_of_getElem? (i := 101) rfl)) rfl
theorem qI_X5_readNumber : Cond.instanceMethod yX5_readNumber ∈ AW := AW_in (tk_3 (List.mem_of_getElem? (i := 103) rfl)) rfl
theorem qC_X5_readNumber : Cond.code yX5_readNumber cX5_readNumber 7 (some .int) ∈ AW := AW_in (tk_3 (List.mem_of_getElem? (i := 104) rfl)) rfl
theorem qM_X5_55 : Cond.methodLink RX5 55 yX5_isDigitHere ∈ AW := AW_in (tk_3 (List.mem_of_getElem? (i := 105) rfl)) rfl
theorem qI_X5_isDigitHere : Cond.instanceMethod yX5_isDigitHere ∈ AW := AW_in (tk_3 (List.mem_of_getElem? (i := 107) rfl)) rfl
theorem qC_X5_isDigitHere : Cond.code yX5_isDigitHere cX5_isDigitHere 1 (some .boolean) ∈ AW := AW_in (tk_3 (List.mem_of_getElem? (i := 108) rfl)) rfl
theorem qM_X5_59 : Cond.methodLink RX5 59 yX5_fail ∈ AW := AW_in (tk_3 (List.mem_of_getElem? (i := 109) rfl)) rfl
theorem qI_X5_fail : Cond.instanceMethod yX5_fail ∈ AW := AW_in (tk_3 (List.mem_of_getElem? (i := 111) rfl)) rfl
theorem qC_X5_fail : Cond.code yX5_fail cX5_fail 2 none ∈ AW := AW_in (tk_3 (List.mem_of_getElem? (i := 112) rfl)) rfl
theorem qM_X5_44 : Cond.methodLink RX5 44 yX5_expect ∈ AW := AW_in (tk_3 (List.mem_of_getElem? (i := 113) rfl)) rfl
theorem qI_X5_expect : Cond.instanceMethod yX5_expect ∈ AW := AW_in (tk_3 (List.mem_of_getElem? (i := 115) rfl)) rfl
theorem qC_X5_expect : Cond.code yX5_expect cX5_expect 2 none ∈ AW := AW_in (tk_3 (List.mem_of_getElem? (i := 116) rfl)) rfl
theorem qM_X6_181 : Cond.methodLink RX6 181 yX5_hoursOfItems ∈ AW := AW_in (tk_3 (List.mem_of_getElem? (i := 117) rfl)) rfl
theorem qI_X5_hoursOfItems : Cond.instanceMethod yX5_hoursOfItems ∈ AW := AW_in (tk_3 (List.mem_of_getElem? (i := 118) rfl)) rfl
theorem qS_X5_hoursOfItems : Cond.selects RX5 yX5_hoursOfItems yX5_hoursOfItems ∈ AW := AW_in (tk_3 (List.mem_of_getElem? (i := 119) rfl)) rfl
theorem qC_X5_hoursOfItems : Cond.code yX5_hoursOfItems cX5_hoursOfItems 3 (some .int) ∈ AW := AW_in (tk_3 (List.mem_of_getElem? (i := 120) rfl)) rfl
theorem qM_X6_136 : Cond.methodLink RX6 136 yX6_checkHoursToCome ∈ AW := AW_in (tk_3 (List.mem_of_getElem? (i := 121) rfl)) rfl
theorem qI_X6_checkHoursToCome : Cond.instanceMethod yX6_checkHoursToCome ∈ AW := AW_in (tk_3 (List.mem_of_getElem? (i := 123) rfl)) rfl
theorem qC_X6_checkHoursToCome : Cond.code yX6_checkHoursToCome cX6_checkHoursToCome 2 none ∈ AW := AW_in (tk_3 (List.mem_of_getElem? (i := 124) rfl)) rfl
theorem qM_X6_139 : Cond.methodLink RX6 139 yX0_passHours ∈ AW := AW_in (tk_3 (List.mem_of_getElem? (i := 126) rfl)) rfl
theorem qI_X0_passHours : Cond.instanceMethod yX0_passHours ∈ AW := AW_in (tk_3 (List.mem_of_getElem? (i := 127) rfl)) rfl
theorem qS_X0_passHours : Cond.selects RX0 yX0_passHours yX0_passHours ∈ AW := AW_in (tk_3 (List.mem_of_getElem? (i := 128) rfl)) rfl
theorem qC_X0_passHours : Cond.code yX0_passHours cX0_passHours 6 (some .int) ∈ AW := AW_in (tk_3 (List.mem_of_getElem? (i := 129) rfl)) rfl
theorem qM_X0_109 : Cond.methodLink RX0 109 yX0_passHour ∈ AW := AW_in (tk_3 (List.mem_of_getElem? (i := 130) rfl)) rfl
theorem qI_X0_passHour : Cond.instanceMethod yX0_passHour ∈ AW := AW_in (tk_3 (List.mem_of_getElem? (i := 131) rfl)) rfl
theorem qS_X0_passHour : Cond.selects RX0 yX0_passHour yX0_passHour ∈ AW := AW_in (tk_3 (List.mem_of_getElem? (i := 132) rfl)) rfl
theorem qC_X0_passHour : Cond.code yX0_passHour cX0_passHour 4 none ∈ AW := AW_in (tk_3 (List.mem_of_getElem? (i := 133) rfl)) rfl
theorem qM_X0_113 : Cond.methodLink RX0 113 yX3_takeWeather ∈ AW := AW_in (tk_3 (List.mem_of_getElem? (i := 134) rfl)) rfl
theorem qI_X3_takeWeather : Cond.instanceMethod yX3_takeWeather ∈ AW := AW_in (tk_3 (List.mem_of_getElem? (i := 135) rfl)) rfl
theorem qS_X3_takeWeather : Cond.selects RX3 yX3_takeWeather yX3_takeWeather ∈ AW := AW_in (tk_3 (List.mem_of_getElem? (i := 136) rfl)) rfl
theorem qC_X3_takeWeather : Cond.code yX3_takeWeather cX3_takeWeather 3 none ∈ AW := AW_in (tk_3 (List.mem_of_getElem? (i := 137) rfl)) rfl
theorem qM_X3_36 : Cond.methodLink RX3 36 yX3_thaw ∈ AW := AW_in (tk_3 (List.mem_of_getElem? (i := 138) rfl)) rfl
theorem qI_X3_thaw : Cond.instanceMethod yX3_thaw ∈ AW := AW_in (tk_3 (List.mem_of_getElem? (i := 140) rfl)) rfl
theorem qC_X3_thaw : Cond.code yX3_thaw cX3_thaw 3 none ∈ AW := AW_in (tk_3 (List.mem_of_getElem? (i := 141) rfl)) rfl
theorem qM_X3_43 : Cond.methodLink RX3 43 Lib.Math.min.name ∈ AW := AW_in (tk_3 (List.mem_of_getElem? (i := 142) rfl)) rfl
theorem qT_Math_min : Cond.static Lib.Math.min.name ∈ AW := AW_in (tk_3 (List.mem_of_getElem? (i := 143) rfl)) rfl
theorem qC_Math_min : Cond.code Lib.Math.min.name Lib.Math.min.code 2 (some .int) ∈ AW := AW_in (tk_3 (List.mem_of_getElem? (i := 144) rfl)) rfl
theorem qM_X3_49 : Cond.methodLink RX3 49 Lib.Math.max.name ∈ AW := AW_in (tk_3 (List.mem_of_getElem? (i := 145) rfl)) rfl
theorem qT_Math_max : Cond.static Lib.Math.max.name ∈ AW := AW_in (tk_3 (List.mem_of_getElem? (i := 146) rfl)) rfl
theorem qC_Math_max : Cond.code Lib.Math.max.name Lib.Math.max.code 2 (some .int) ∈ AW := AW_in (tk_3 (List.mem_of_getElem? (i := 147) rfl)) rfl
theorem qM_X3_40 : Cond.methodLink RX3 40 yX3_freeze ∈ AW := AW_in (tk_3 (List.mem_of_getElem? (i := 148) rfl)) rfl
theorem qI_X3_freeze : Cond.instanceMethod yX3_freeze ∈ AW := AW_in (tk_3 (List.mem_of_getElem? (i := 150) rfl)) rfl
theorem qC_X3_freeze : Cond.code yX3_freeze cX3_freeze 3 none ∈ AW := AW_in (tk_3 (List.mem_of_getElem? (i := 151) rfl)) rfl
theorem qM_X0_119 : Cond.methodLink RX0 119 yX0_letWork ∈ AW := AW_in (tk_3 (List.mem_of_getElem? (i := 152) rfl)) rfl
theorem qI_X0_letWork : Cond.instanceMethod yX0_letWork ∈ AW := AW_in (tk_3 (List.mem_of_getElem? (i := 154) rfl)) rfl
theorem qC_X0_letWork : Cond.code yX0_letWork cX0_letWork 6 none ∈ AW := AW_in (tk_3 (List.mem_of_getElem? (i := 155) rfl)) rfl
theorem qM_X0_125 : Cond.methodLink RX0 125 yX1_isAtStart ∈ AW := AW_in (tk_3 (List.mem_of_getElem? (i := 156) rfl)) rfl
theorem qI_X1_isAtStart : Cond.instanceMethod yX1_isAtStart ∈ AW := AW_in (tk_3 (List.mem_of_getElem? (i := 157) rfl)) rfl
theorem qS_X1_isAtStart : Cond.selects RX1 yX1_isAtStart yX1_isAtStart ∈ AW := AW_in (tk_3 (List.mem_of_getElem? (i := 158) rfl)) rfl
theorem qC_X1_isAtStart : Cond.code yX1_isAtStart cX1_isAtStart 1 (some .boolean) ∈ AW := AW_in (tk_3 (List.mem_of_getElem? (i := 159) rfl)) rfl
theorem qM_X0_129 : Cond.methodLink RX0 129 yX0_fill ∈ AW := AW_in (tk_3 (List.mem_of_getElem? (i := 160) rfl)) rfl
theorem qI_X0_fill : Cond.instanceMethod yX0_fill ∈ AW := AW_in (tk_3 (List.mem_of_getElem? (i := 162) rfl)) rfl
theorem qC_X0_fill : Cond.code yX0_fill cX0_fill 3 none ∈ AW := AW_in (tk_3 (List.mem_of_getElem? (i := 163) rfl)) rfl
theorem qM_X0_162 : Cond.methodLink RX0 162 Lib.Math.min.name ∈ AW := AW_in (tk_3 (List.mem_of_getElem? (i := 164) rfl)) rfl
theorem qM_X0_145 : Cond.methodLink RX0 145 yX1_goOn ∈ AW := AW_in (tk_3 (List.mem_of_getElem? (i := 165) rfl)) rfl
theorem qI_X1_goOn : Cond.instanceMethod yX1_goOn ∈ AW := AW_in (tk_3 (List.mem_of_getElem? (i := 166) rfl)) rfl
theorem qS_X1_goOn : Cond.selects RX1 yX1_goOn yX1_goOn ∈ AW := AW_in (tk_3 (List.mem_of_getElem? (i := 167) rfl)) rfl
theorem qC_X1_goOn : Cond.code yX1_goOn cX1_goOn 1 (some .boolean) ∈ AW := AW_in (tk_3 (List.mem_of_getElem? (i := 168) rfl)) rfl
theorem qM_X0_148 : Cond.methodLink RX0 148 yX1_plowOn ∈ AW := AW_in (tk_3 (List.mem_of_getElem? (i := 169) rfl)) rfl
theorem qI_X1_plowOn : Cond.instanceMethod yX1_plowOn ∈ AW := AW_in (tk_3 (List.mem_of_getElem? (i := 170) rfl)) rfl
theorem qS_X1_plowOn : Cond.selects RX1 yX1_plowOn yX1_plowOn ∈ AW := AW_in (tk_3 (List.mem_of_getElem? (i := 171) rfl)) rfl
theorem qC_X1_plowOn : Cond.code yX1_plowOn cX1_plowOn 4 (some .int) ∈ AW := AW_in (tk_3 (List.mem_of_getElem? (i := 172) rfl)) rfl
theorem qM_X1_46 : Cond.methodLink RX1 46 Lib.Math.min.name ∈ AW := AW_in (tk_3 (List.mem_of_getElem? (i := 173) rfl)) rfl
theorem qM_X0_152 : Cond.methodLink RX0 152 yX0_clear ∈ AW := AW_in (tk_3 (List.mem_of_getElem? (i := 174) rfl)) rfl
theorem qI_X0_clear : Cond.instanceMethod yX0_clear ∈ AW := AW_in (tk_3 (List.mem_of_getElem? (i := 176) rfl)) rfl
theorem qC_X0_clear : Cond.code yX0_clear cX0_clear 5 none ∈ AW := AW_in (tk_3 (List.mem_of_getElem? (i := 177) rfl)) rfl
theorem qM_X0_167 : Cond.methodLink RX0 167 yX3_becomeClear ∈ AW := AW_in (tk_3 (List.mem_of_getElem? (i := 178) rfl)) rfl
theorem qI_X3_becomeClear : Cond.instanceMethod yX3_becomeClear ∈ AW := AW_in (tk_3 (List.mem_of_getElem? (i := 179) rfl)) rfl
theorem qS_X3_becomeClear : Cond.selects RX3 yX3_becomeClear yX3_becomeClear ∈ AW := AW_in (tk_3 (List.mem_of_getElem? (i := 180) rfl)) rfl
theorem qC_X3_becomeClear : Cond.code yX3_becomeClear cX3_becomeClear 4 none ∈ AW := AW_in (tk_3 (List.mem_of_getElem? (i := 181) rfl)) rfl
theorem qM_X0_122 : Cond.methodLink RX0 122 yX0_letWait ∈ AW := AW_in (tk_3 (List.mem_of_getElem? (i := 182) rfl)) rfl
theorem qI_X0_letWait : Cond.instanceMethod yX0_letWait ∈ AW := AW_in (tk_3 (List.mem_of_getElem? (i := 184) rfl)) rfl
theorem qC_X0_letWait : Cond.code yX0_letWait cX0_letWait 3 none ∈ AW := AW_in (tk_3 (List.mem_of_getElem? (i := 185) rfl)) rfl
theorem qM_L_118 : Cond.methodLink RL 118 yL_undo ∈ AW := AW_in (tk_3 (List.mem_of_getElem? (i := 186) rfl)) rfl
theorem qT_L_undo : Cond.static yL_undo ∈ AW := AW_in (tk_3 (List.mem_of_getElem? (i := 187) rfl)) rfl
theorem qC_L_undo : Cond.codeWith yL_undo cL_undo 2 (some .int) [(0, 4, 5, 18)] ∈ AW := AW_in (tk_3 (List.mem_of_getElem? (i := 188) rfl)) rfl
theorem qM_L_85 : Cond.methodLink RL 85 yX6_undo ∈ AW := AW_in (tk_3 (List.mem_of_getElem? (i := 189) rfl)) rfl
theorem qI_X6_undo : Cond.instanceMethod yX6_undo ∈ AW := AW_in (tk_3 (List.mem_of_getElem? (i := 190) rfl)) rfl
theorem qS_X6_undo : Cond.selects RX6 yX6_undo yX6_undo ∈ AW := AW_in (tk_3 (List.mem_of_getElem? (i := 191) rfl)) rfl
theorem qC_X6_undo : Cond.code yX6_undo cX6_undo 1 (some .int) ∈ AW := AW_in (tk_3 (List.mem_of_getElem? (i := 192) rfl)) rfl
theorem qM_X6_201 : Cond.methodLink RX6 201 yX2_restore ∈ AW := AW_in (tk_3 (List.mem_of_getElem? (i := 194) rfl)) rfl
theorem qI_X2_restore : Cond.instanceMethod yX2_restore ∈ AW := AW_in (tk_3 (List.mem_of_getElem? (i := 195) rfl)) rfl
theorem qS_X2_restore : Cond.selects RX2 yX2_restore yX2_restore ∈ AW := AW_in (tk_3 (List.mem_of_getElem? (i := 196) rfl)) rfl
theorem qC_X2_restore : Cond.code yX2_restore cX2_restore 2 none ∈ AW := AW_in (tk_3 (List.mem_of_getElem? (i := 197) rfl)) rfl
theorem qM_L_155 : Cond.methodLink RL 155 yL_sound ∈ AW := AW_in (tk_3 (List.mem_of_getElem? (i := 198) rfl)) rfl
theorem qT_L_sound : Cond.static yL_sound ∈ AW := AW_in (tk_3 (List.mem_of_getElem? (i := 199) rfl)) rfl
theorem qC_L_sound : Cond.code yL_sound cL_sound 14 (some .boolean) ∈ AW := AW_in (tk_3 (List.mem_of_getElem? (i := 200) rfl)) rfl
theorem qV_L_108 : Cond.constant RL 108 (100000 : Int32) ∈ AW := AW_in (tk_3 (List.mem_of_getElem? (i := 202) rfl)) rfl
theorem qM_L_164 : Cond.methodLink RL 164 yL_passes ∈ AW := AW_in (tk_3 (List.mem_of_getElem? (i := 203) rfl)) rfl
theorem qT_L_passes : Cond.static yL_passes ∈ AW := AW_in (tk_3 (List.mem_of_getElem? (i := 204) rfl)) rfl
theorem qC_L_passes : Cond.code yL_passes cL_passes 15 (some .boolean) ∈ AW := AW_in (tk_3 (List.mem_of_getElem? (i := 205) rfl)) rfl
theorem qM_L_109 : Cond.methodLink RL 109 yX6_digest ∈ AW := AW_in (tk_3 (List.mem_of_getElem? (i := 206) rfl)) rfl
theorem qI_X6_digest : Cond.instanceMethod yX6_digest ∈ AW := AW_in (tk_3 (List.mem_of_getElem? (i := 207) rfl)) rfl
theorem qS_X6_digest : Cond.selects RX6 yX6_digest yX6_digest ∈ AW := AW_in (tk_3 (List.mem_of_getElem? (i := 208) rfl)) rfl
theorem qC_X6_digest : Cond.code yX6_digest cX6_digest 4 (some .long) ∈ AW := AW_in (tk_3 (List.mem_of_getElem? (i := 209) rfl)) rfl
theorem qV_X6_204 : Cond.constantLong RX6 204 (3307 : Int64) ∈ AW := AW_in (tk_3 (List.mem_of_getElem? (i := 210) rfl)) rfl
theorem qM_X6_206 : Cond.methodLink RX6 206 yX6_mix ∈ AW := AW_in (tk_3 (List.mem_of_getElem? (i := 211) rfl)) rfl
theorem qT_X6_mix : Cond.static yX6_mix ∈ AW := AW_in (tk_3 (List.mem_of_getElem? (i := 212) rfl)) rfl
theorem qC_X6_mix : Cond.code yX6_mix cX6_mix 4 (some .long) ∈ AW := AW_in (tk_3 (List.mem_of_getElem? (i := 213) rfl)) rfl
theorem qV_X6_222 : Cond.constantLong RX6 222 (31 : Int64) ∈ AW := AW_in (tk_3 (List.mem_of_getElem? (i := 214) rfl)) rfl
theorem qM_X6_210 : Cond.methodLink RX6 210 yX6_mixStreet ∈ AW := AW_in (tk_3 (List.mem_of_getElem? (i := 215) rfl)) rfl
theorem qI_X6_mixStreet : Cond.instanceMethod yX6_mixStreet ∈ AW := AW_in (tk_3 (List.mem_of_getElem? (i := 217) rfl)) rfl
theorem qC_X6_mixStreet : Cond.code yX6_mixStreet cX6_mixStreet 7 (some .long) ∈ AW := AW_in (tk_3 (List.mem_of_getElem? (i := 218) rfl)) rfl
theorem qM_X6_214 : Cond.methodLink RX6 214 yX6_mixPlow ∈ AW := AW_in (tk_3 (List.mem_of_getElem? (i := 219) rfl)) rfl
theorem qT_X6_mixPlow : Cond.static yX6_mixPlow ∈ AW := AW_in (tk_3 (List.mem_of_getElem? (i := 220) rfl)) rfl
theorem qC_X6_mixPlow : Cond.code yX6_mixPlow cX6_mixPlow 6 (some .long) ∈ AW := AW_in (tk_3 (List.mem_of_getElem? (i := 221) rfl)) rfl
theorem qM_X6_218 : Cond.methodLink RX6 218 yX6_mixTerms ∈ AW := AW_in (tk_3 (List.mem_of_getElem? (i := 222) rfl)) rfl
theorem qT_X6_mixTerms : Cond.static yX6_mixTerms ∈ AW := AW_in (tk_3 (List.mem_of_getElem? (i := 223) rfl)) rfl
theorem qC_X6_mixTerms : Cond.code yX6_mixTerms cX6_mixTerms 6 (some .long) ∈ AW := AW_in (tk_3 (List.mem_of_getElem? (i := 224) rfl)) rfl
theorem qM_L_113 : Cond.methodLink RL 113 yL_creditsIn ∈ AW := AW_in (tk_3 (List.mem_of_getElem? (i := 225) rfl)) rfl
theorem qT_L_creditsIn : Cond.static yL_creditsIn ∈ AW := AW_in (tk_3 (List.mem_of_getElem? (i := 226) rfl)) rfl
theorem qC_L_creditsIn : Cond.codeWith yL_creditsIn cL_creditsIn 5 (some .int) [(0, 7, 8, 15)] ∈ AW := AW_in (tk_3 (List.mem_of_getElem? (i := 227) rfl)) rfl
theorem qM_L_66 : Cond.methodLink RL 66 yX6_creditsIn ∈ AW := AW_in (tk_3 (List.mem_of_getElem? (i := 228) rfl)) rfl
theorem qI_X6_creditsIn : Cond.instanceMethod yX6_creditsIn ∈ AW := AW_in (tk_3 (List.mem_of_getElem? (i := 229) rfl)) rfl
theorem qS_X6_creditsIn : Cond.selects RX6 yX6_creditsIn yX6_creditsIn ∈ AW := AW_in (tk_3 (List.mem_of_getElem? (i := 230) rfl)) rfl
theorem qC_X6_creditsIn : Cond.code yX6_creditsIn cX6_creditsIn 4 (some .int) ∈ AW := AW_in (tk_3 (List.mem_of_getElem? (i := 231) rfl)) rfl
theorem qM_X6_133 : Cond.methodLink RX6 133 yX6_checkWeather ∈ AW := AW_in (tk_3 (List.mem_of_getElem? (i := 232) rfl)) rfl
theorem qT_X6_checkWeather : Cond.static yX6_checkWeather ∈ AW := AW_in (tk_3 (List.mem_of_getElem? (i := 233) rfl)) rfl
theorem qC_X6_checkWeather : Cond.code yX6_checkWeather cX6_checkWeather 2 none ∈ AW := AW_in (tk_3 (List.mem_of_getElem? (i := 234) rfl)) rfl
theorem qM_X6_159 : Cond.methodLink RX6 159 yX0_copyFrom ∈ AW := AW_in (tk_3 (List.mem_of_getElem? (i := 235) rfl)) rfl
theorem qM_L_116 : Cond.methodLink RL 116 yL_run ∈ AW := AW_in (tk_3 (List.mem_of_getElem? (i := 236) rfl)) rfl
theorem qT_L_run : Cond.static yL_run ∈ AW := AW_in (tk_3 (List.mem_of_getElem? (i := 237) rfl)) rfl
theorem qC_L_run : Cond.codeWith yL_run cL_run 5 (some .int) [(0, 7, 8, 15), (0, 7, 13, 18)] ∈ AW := AW_in (tk_3 (List.mem_of_getElem? (i := 238) rfl)) rfl
theorem qM_L_47 : Cond.methodLink RL 47 yX6_run ∈ AW := AW_in (tk_3 (List.mem_of_getElem? (i := 239) rfl)) rfl
theorem qI_X6_run : Cond.instanceMethod yX6_run ∈ AW := AW_in (tk_4 (List.mem_of_getElem? (i := 0) rfl)) rfl
theorem qS_X6_run : Cond.selects RX6 yX6_run yX6_run ∈ AW := AW_in (tk_4 (List.mem_of_getElem? (i := 1) rfl)) rfl
theorem qC_X6_run : Cond.code yX6_run cX6_run 4 (some .int) ∈ AW := AW_in (tk_4 (List.mem_of_getElem? (i := 2) rfl)) rfl
theorem qM_L_168 : Cond.methodLink RL 168 yL_thoughts ∈ AW := AW_in (tk_4 (List.mem_of_getElem? (i := 3) rfl)) rfl
theorem qT_L_thoughts : Cond.static yL_thoughts ∈ AW := AW_in (tk_4 (List.mem_of_getElem? (i := 4) rfl)) rfl
theorem qC_L_thoughts : Cond.code yL_thoughts cL_thoughts 15 (some .boolean) ∈ AW := AW_in (tk_4 (List.mem_of_getElem? (i := 5) rfl)) rfl
theorem qM_L_124 : Cond.methodLink RL 124 yL_emptyIn ∈ AW := AW_in (tk_4 (List.mem_of_getElem? (i := 6) rfl)) rfl
theorem qT_L_emptyIn : Cond.static yL_emptyIn ∈ AW := AW_in (tk_4 (List.mem_of_getElem? (i := 7) rfl)) rfl
theorem qC_L_emptyIn : Cond.codeWith yL_emptyIn cL_emptyIn 4 (some .int) [(0, 6, 7, 15)] ∈ AW := AW_in (tk_4 (List.mem_of_getElem? (i := 8) rfl)) rfl
theorem qM_L_75 : Cond.methodLink RL 75 yX6_emptyIn ∈ AW := AW_in (tk_4 (List.mem_of_getElem? (i := 9) rfl)) rfl
theorem qI_X6_emptyIn : Cond.instanceMethod yX6_emptyIn ∈ AW := AW_in (tk_4 (List.mem_of_getElem? (i := 10) rfl)) rfl
theorem qS_X6_emptyIn : Cond.selects RX6 yX6_emptyIn yX6_emptyIn ∈ AW := AW_in (tk_4 (List.mem_of_getElem? (i := 11) rfl)) rfl
theorem qC_X6_emptyIn : Cond.code yX6_emptyIn cX6_emptyIn 4 (some .int) ∈ AW := AW_in (tk_4 (List.mem_of_getElem? (i := 12) rfl)) rfl
theorem qM_X6_169 : Cond.methodLink RX6 169 yX0_passHour ∈ AW := AW_in (tk_4 (List.mem_of_getElem? (i := 13) rfl)) rfl
theorem qM_L_126 : Cond.methodLink RL 126 yL_bestExchange ∈ AW := AW_in (tk_4 (List.mem_of_getElem? (i := 14) rfl)) rfl
theorem qT_L_bestExchange : Cond.static yL_bestExchange ∈ AW := AW_in (tk_4 (List.mem_of_getElem? (i := 15) rfl)) rfl
theorem qC_L_bestExchange : Cond.codeWith yL_bestExchange cL_bestExchange 6 (some .int) [(0, 9, 10, 27), (0, 9, 15, 15)] ∈ AW := AW_in (tk_4 (List.mem_of_getElem? (i := 16) rfl)) rfl
theorem qM_L_69 : Cond.methodLink RL 69 yX6_bestExchange ∈ AW := AW_in (tk_4 (List.mem_of_getElem? (i := 17) rfl)) rfl
theorem qI_X6_bestExchange : Cond.instanceMethod yX6_bestExchange ∈ AW := AW_in (tk_4 (List.mem_of_getElem? (i := 18) rfl)) rfl
theorem qS_X6_bestExchange : Cond.selects RX6 yX6_bestExchange yX6_bestExchange ∈ AW := AW_in (tk_4 (List.mem_of_getElem? (i := 19) rfl)) rfl
theorem qC_X6_bestExchange : Cond.code yX6_bestExchange cX6_bestExchange 10 (some .int) ∈ AW := AW_in (tk_4 (List.mem_of_getElem? (i := 20) rfl)) rfl
theorem qM_L_129 : Cond.methodLink RL 129 yL_leastSpeed ∈ AW := AW_in (tk_4 (List.mem_of_getElem? (i := 21) rfl)) rfl
theorem qT_L_leastSpeed : Cond.static yL_leastSpeed ∈ AW := AW_in (tk_4 (List.mem_of_getElem? (i := 22) rfl)) rfl
theorem qC_L_leastSpeed : Cond.codeWith yL_leastSpeed cL_leastSpeed 6 (some .int) [(0, 9, 10, 27), (0, 9, 15, 15)] ∈ AW := AW_in (tk_4 (List.mem_of_getElem? (i := 23) rfl)) rfl
theorem qM_L_72 : Cond.methodLink RL 72 yX6_leastSpeed ∈ AW := AW_in (tk_4 (List.mem_of_getElem? (i := 24) rfl)) rfl
theorem qI_X6_leastSpeed : Cond.instanceMethod yX6_leastSpeed ∈ AW := AW_in (tk_4 (List.mem_of_getElem? (i := 25) rfl)) rfl
theorem qS_X6_leastSpeed : Cond.selects RX6 yX6_leastSpeed yX6_leastSpeed ∈ AW := AW_in (tk_4 (List.mem_of_getElem? (i := 26) rfl)) rfl
theorem qC_X6_leastSpeed : Cond.code yX6_leastSpeed cX6_leastSpeed 6 (some .int) ∈ AW := AW_in (tk_4 (List.mem_of_getElem? (i := 27) rfl)) rfl
theorem qM_X6_165 : Cond.methodLink RX6 165 yX0_passesWithoutComplaint ∈ AW := AW_in (tk_4 (List.mem_of_getElem? (i := 28) rfl)) rfl
theorem qI_X0_passesWithoutComplaint : Cond.instanceMethod yX0_passesWithoutComplaint ∈ AW := AW_in (tk_4 (List.mem_of_getElem? (i := 29) rfl)) rfl
theorem qS_X0_passesWithoutComplaint : Cond.selects RX0 yX0_passesWithoutComplaint yX0_passesWithoutComplaint ∈ AW := AW_in (tk_4 (List.mem_of_getElem? (i := 30) rfl)) rfl
theorem qC_X0_passesWithoutComplaint : Cond.code yX0_passesWithoutComplaint cX0_passesWithoutComplaint 6 (some .boolean) ∈ AW := AW_in (tk_4 (List.mem_of_getElem? (i := 31) rfl)) rfl
theorem qM_L_151 : Cond.methodLink RL 151 yL_refuses ∈ AW := AW_in (tk_4 (List.mem_of_getElem? (i := 32) rfl)) rfl
theorem qT_L_refuses : Cond.static yL_refuses ∈ AW := AW_in (tk_4 (List.mem_of_getElem? (i := 33) rfl)) rfl
theorem qC_L_refuses : Cond.code yL_refuses cL_refuses 6 (some .boolean) ∈ AW := AW_in (tk_4 (List.mem_of_getElem? (i := 34) rfl)) rfl
theorem qV_L_147 : Cond.constant RL 147 (100001 : Int32) ∈ AW := AW_in (tk_4 (List.mem_of_getElem? (i := 35) rfl)) rfl
theorem qM_L_148 : Cond.methodLink RL 148 yL_append ∈ AW := AW_in (tk_4 (List.mem_of_getElem? (i := 36) rfl)) rfl
theorem qT_L_append : Cond.static yL_append ∈ AW := AW_in (tk_4 (List.mem_of_getElem? (i := 37) rfl)) rfl
theorem qC_L_append : Cond.codeWith yL_append cL_append 3 (some .int) [(0, 5, 6, 15), (0, 5, 10, 18)] ∈ AW := AW_in (tk_4 (List.mem_of_getElem? (i := 38) rfl)) rfl
theorem qM_L_78 : Cond.methodLink RL 78 yX6_append ∈ AW := AW_in (tk_4 (List.mem_of_getElem? (i := 39) rfl)) rfl
theorem qI_X6_append : Cond.instanceMethod yX6_append ∈ AW := AW_in (tk_4 (List.mem_of_getElem? (i := 40) rfl)) rfl
theorem qS_X6_append : Cond.selects RX6 yX6_append yX6_append ∈ AW := AW_in (tk_4 (List.mem_of_getElem? (i := 41) rfl)) rfl
theorem qC_X6_append : Cond.code yX6_append cX6_append 2 (some .int) ∈ AW := AW_in (tk_4 (List.mem_of_getElem? (i := 42) rfl)) rfl
theorem qS_X2_dropOldest : Cond.selects RX2 yX2_dropOldest yX2_dropOldest ∈ AW := AW_in (tks (List.mem_of_getElem? (i := 1) rfl)) rfl
theorem qS_X6_checkPlow : Cond.selects RX6 yX6_checkPlow yX6_checkPlow ∈ AW := AW_in (tks (List.mem_of_getElem? (i := 2) rfl)) rfl
theorem qS_X6_checkStreet : Cond.selects RX6 yX6_checkStreet yX6_checkStreet ∈ AW := AW_in (tks (List.mem_of_getElem? (i := 3) rfl)) rfl
theorem qS_X0_dueStreets : Cond.selects RX0 yX0_dueStreets yX0_dueStreets ∈ AW := AW_in (tks (List.mem_of_getElem? (i := 4) rfl)) rfl
theorem qS_X0_isDue : Cond.selects RX0 yX0_isDue yX0_isDue ∈ AW := AW_in (tks (List.mem_of_getElem? (i := 5) rfl)) rfl
theorem qS_X5_readItem : Cond.selects RX5 yX5_readItem yX5_readItem ∈ AW := AW_in (tks (List.mem_of_getElem? (i := 6) rfl)) rfl
theorem qS_X5_readTemperature : Cond.selects RX5 yX5_readTemperature yX5_readTemperature ∈ AW := AW_in (tks (List.mem_of_getElem? (i := 7) rfl)) rfl
theorem qS_X5_here : Cond.selects RX5 yX5_here yX5_here ∈ AW := AW_in (tks (List.mem_of_getElem? (i := 8) rfl)) rfl
theorem qS_X5_readNumber : Cond.selects RX5 yX5_readNumber yX5_readNumber ∈ AW := AW_in (tks (List.mem_of_getElem? (i := 9) rfl)) rfl
theorem qS_X5_isDigitHere : Cond.selects RX5 yX5_isDigitHere yX5_isDigitHere ∈ AW := AW_in (tks (List.mem_of_getElem? (i := 10) rfl)) rfl
theorem qS_X5_fail : Cond.selects RX5 yX5_fail yX5_fail ∈ AW := AW_in (tks (List.mem_of_getElem? (i := 11) rfl)) rfl
theorem qS_X5_expect : Cond.selects RX5 yX5_expect yX5_expect ∈ AW := AW_in (tks (List.mem_of_getElem? (i := 12) rfl)) rfl
theorem qS_X6_checkHoursToCome : Cond.selects RX6 yX6_checkHoursToCome yX6_checkHoursToCome ∈ AW := AW_in (tks (List.mem_of_getElem? (i := 13) rfl)) rfl
theorem qS_X3_thaw : Cond.selects RX3 yX3_thaw yX3_thaw ∈ AW := AW_in (tks (List.mem_of_getElem? (i := 14) rfl)) rfl
theorem qS_X3_freeze : Cond.selects RX3 yX3_freeze yX3_freeze ∈ AW := AW_in (tks (List.mem_of_getElem? (i := 15) rfl)) rfl
theorem qS_X0_letWork : Cond.selects RX0 yX0_letWork yX0_letWork ∈ AW := AW_in (tks (List.mem_of_getElem? (i := 16) rfl)) rfl
theorem qS_X0_fill : Cond.selects RX0 yX0_fill yX0_fill ∈ AW := AW_in (tks (List.mem_of_getElem? (i := 17) rfl)) rfl
theorem qS_X0_clear : Cond.selects RX0 yX0_clear yX0_clear ∈ AW := AW_in (tks (List.mem_of_getElem? (i := 18) rfl)) rfl
theorem qS_X0_letWait : Cond.selects RX0 yX0_letWait yX0_letWait ∈ AW := AW_in (tks (List.mem_of_getElem? (i := 19) rfl)) rfl
theorem qS_X6_mixStreet : Cond.selects RX6 yX6_mixStreet yX6_mixStreet ∈ AW := AW_in (tks (List.mem_of_getElem? (i := 20) rfl)) rfl
theorem awsX00 : ∀ w ∈ u_ws RX0 TX0 11, w ∈ AW := by
  show ∀ w ∈ [u_lay RX0 TX0 0, u_lay RX0 TX0 1, u_lay RX0 TX0 2, u_lay RX0 TX0 3, u_lay RX0 TX0 4, u_lay RX0 TX0 5, u_lay RX0 TX0 6, u_lay RX0 TX0 7, u_lay RX0 TX0 8, u_lay RX0 TX0 9, u_lay RX0 TX0 10], w ∈ AW
  exact List.forall_mem_cons.mpr ⟨qD_X0_streets, List.forall_mem_cons.mpr ⟨qD_X0_streetCount, List.forall_mem_cons.mpr ⟨qD_X0_plows, List.forall_mem_cons.mpr ⟨qD_X0_plowCount, List.forall_mem_cons.mpr ⟨qD_X0_terms, List.forall_mem_cons.mpr ⟨qD_X0_hours, List.forall_mem_cons.mpr ⟨qD_X0_store, List.forall_mem_cons.mpr ⟨qD_X0_spread, List.forall_mem_cons.mpr ⟨qD_X0_credits, List.forall_mem_cons.mpr ⟨qD_X0_delivered, List.forall_mem_cons.mpr ⟨qD_X0_used, fun _ h => absurd h List.not_mem_nil⟩⟩⟩⟩⟩⟩⟩⟩⟩⟩⟩
theorem awsX10 : ∀ w ∈ u_ws RX1 TX1 9, w ∈ AW := by
  show ∀ w ∈ [u_lay RX1 TX1 0, u_lay RX1 TX1 1, u_lay RX1 TX1 2, u_lay RX1 TX1 3, u_lay RX1 TX1 4, u_lay RX1 TX1 5, u_lay RX1 TX1 6, u_lay RX1 TX1 7, u_lay RX1 TX1 8], w ∈ AW
  exact List.forall_mem_cons.mpr ⟨qD_X1_speed, List.forall_mem_cons.mpr ⟨qD_X1_capacity, List.forall_mem_cons.mpr ⟨qD_X1_load, List.forall_mem_cons.mpr ⟨qD_X1_route, List.forall_mem_cons.mpr ⟨qD_X1_stopCount, List.forall_mem_cons.mpr ⟨qD_X1_place, List.forall_mem_cons.mpr ⟨qD_X1_progress, List.forall_mem_cons.mpr ⟨qD_X1_rounds, List.forall_mem_cons.mpr ⟨qD_X1_meters, fun _ h => absurd h List.not_mem_nil⟩⟩⟩⟩⟩⟩⟩⟩⟩
theorem awsX20 : ∀ w ∈ u_ws RX2 TX2 2, w ∈ AW := by
  show ∀ w ∈ [u_lay RX2 TX2 0, u_lay RX2 TX2 1], w ∈ AW
  exact List.forall_mem_cons.mpr ⟨qD_X2_saved, List.forall_mem_cons.mpr ⟨qD_X2_count, fun _ h => absurd h List.not_mem_nil⟩⟩
theorem awsX30 : ∀ w ∈ u_ws RX3 TX3 8, w ∈ AW := by
  show ∀ w ∈ [u_lay RX3 TX3 0, u_lay RX3 TX3 1, u_lay RX3 TX3 2, u_lay RX3 TX3 3, u_lay RX3 TX3 4, u_lay RX3 TX3 5, u_lay RX3 TX3 6, u_lay RX3 TX3 7], w ∈ AW
  exact List.forall_mem_cons.mpr ⟨qD_X3_length, List.forall_mem_cons.mpr ⟨qD_X3_priority, List.forall_mem_cons.mpr ⟨qD_X3_depth, List.forall_mem_cons.mpr ⟨qD_X3_wetness, List.forall_mem_cons.mpr ⟨qD_X3_ice, List.forall_mem_cons.mpr ⟨qD_X3_waiting, List.forall_mem_cons.mpr ⟨qD_X3_clearings, List.forall_mem_cons.mpr ⟨qD_X3_lastCleared, fun _ h => absurd h List.not_mem_nil⟩⟩⟩⟩⟩⟩⟩⟩
theorem awsX40 : ∀ w ∈ u_ws RX4 TX4 4, w ∈ AW := by
  show ∀ w ∈ [u_lay RX4 TX4 0, u_lay RX4 TX4 1, u_lay RX4 TX4 2, u_lay RX4 TX4 3], w ∈ AW
  exact List.forall_mem_cons.mpr ⟨qD_X4_trigger, List.forall_mem_cons.mpr ⟨qD_X4_limit, List.forall_mem_cons.mpr ⟨qD_X4_credit, List.forall_mem_cons.mpr ⟨qD_X4_complaints, fun _ h => absurd h List.not_mem_nil⟩⟩⟩⟩
theorem awsX50 : ∀ w ∈ u_ws RX5 TX5 8, w ∈ AW := by
  show ∀ w ∈ [u_lay RX5 TX5 0, u_lay RX5 TX5 1, u_lay RX5 TX5 2, u_lay RX5 TX5 3, u_lay RX5 TX5 4, u_lay RX5 TX5 5, u_lay RX5 TX5 6, u_lay RX5 TX5 7], w ∈ AW
  exact List.forall_mem_cons.mpr ⟨qD_X5_bytes, List.forall_mem_cons.mpr ⟨qD_X5_length, List.forall_mem_cons.mpr ⟨qD_X5_temperatures, List.forall_mem_cons.mpr ⟨qD_X5_snows, List.forall_mem_cons.mpr ⟨qD_X5_hours, List.forall_mem_cons.mpr ⟨qD_X5_itemCount, List.forall_mem_cons.mpr ⟨qD_X5_at, List.forall_mem_cons.mpr ⟨qD_X5_error, fun _ h => absurd h List.not_mem_nil⟩⟩⟩⟩⟩⟩⟩⟩
theorem awsX60 : ∀ w ∈ u_ws RX6 TX6 4, w ∈ AW := by
  show ∀ w ∈ [u_lay RX6 TX6 0, u_lay RX6 TX6 1, u_lay RX6 TX6 2, u_lay RX6 TX6 3], w ∈ AW
  exact List.forall_mem_cons.mpr ⟨qD_X6_contract, List.forall_mem_cons.mpr ⟨qD_X6_trial, List.forall_mem_cons.mpr ⟨qD_X6_savedStates, List.forall_mem_cons.mpr ⟨qD_X6_text, fun _ h => absurd h List.not_mem_nil⟩⟩⟩⟩
