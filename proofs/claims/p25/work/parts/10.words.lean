/-! the words, by names -/
theorem wz_L : Cond.initialized "PulledWiresLaw" ∈ XT := List.mem_filter.mpr ⟨(List.mem_append_right _ (List.mem_append_left _ (List.mem_of_getElem? (i := 0) (by decide +kernel)))), by decide +kernel⟩
theorem wz_X5 : Cond.initialized "PulledWires" ∈ XT := List.mem_filter.mpr ⟨(List.mem_append_right _ (List.mem_append_left _ (List.mem_of_getElem? (i := 1) (by decide +kernel)))), by decide +kernel⟩
theorem wz_X4 : Cond.initialized "PulledWires$State" ∈ XT := List.mem_filter.mpr ⟨(List.mem_append_right _ (List.mem_append_left _ (List.mem_of_getElem? (i := 2) (by decide +kernel)))), by decide +kernel⟩
theorem wz_X0 : Cond.initialized "PulledWires$BitLog" ∈ XT := List.mem_filter.mpr ⟨(List.mem_append_right _ (List.mem_append_left _ (List.mem_of_getElem? (i := 3) (by decide +kernel)))), by decide +kernel⟩
theorem wz_X3 : Cond.initialized "PulledWires$Speaker" ∈ XT := List.mem_filter.mpr ⟨(List.mem_append_right _ (List.mem_append_left _ (List.mem_of_getElem? (i := 4) (by decide +kernel)))), by decide +kernel⟩
theorem wz_X1 : Cond.initialized "PulledWires$Listener" ∈ XT := List.mem_filter.mpr ⟨(List.mem_append_right _ (List.mem_append_left _ (List.mem_of_getElem? (i := 5) (by decide +kernel)))), by decide +kernel⟩
theorem wz_X2 : Cond.initialized "PulledWires$OrderText" ∈ XT := List.mem_filter.mpr ⟨(List.mem_append_right _ (List.mem_append_left _ (List.mem_of_getElem? (i := 6) (by decide +kernel)))), by decide +kernel⟩
theorem wz_J10 : Cond.initialized "java/lang/System" ∈ XT := List.mem_filter.mpr ⟨(List.mem_append_right _ (List.mem_append_left _ (List.mem_of_getElem? (i := 7) (by decide +kernel)))), by decide +kernel⟩
theorem wz_J9 : Cond.initialized "java/lang/Math" ∈ XT := List.mem_filter.mpr ⟨(List.mem_append_right _ (List.mem_append_left _ (List.mem_of_getElem? (i := 8) (by decide +kernel)))), by decide +kernel⟩
theorem wz_J6 : Cond.initialized "java/lang/Integer" ∈ XT := List.mem_filter.mpr ⟨(List.mem_append_right _ (List.mem_append_left _ (List.mem_of_getElem? (i := 9) (by decide +kernel)))), by decide +kernel⟩
theorem wk_L_15 : Cond.classLink RL 15 RX5 ∈ XT := List.mem_filter.mpr ⟨(List.mem_append_right _ (List.mem_append_left _ (List.mem_of_getElem? (i := 10) (by decide +kernel)))), by decide +kernel⟩
theorem wq_X5 : Cond.instantiable RX5 9 ∈ XT := List.mem_filter.mpr ⟨(List.mem_append_right _ (List.mem_append_left _ (List.mem_of_getElem? (i := 11) (by decide +kernel)))), by decide +kernel⟩
theorem wl_L_68 : Cond.methodLink RL 68 yX5_init ∈ XT := List.mem_filter.mpr ⟨(List.mem_append_right _ (List.mem_append_left _ (List.mem_of_getElem? (i := 12) (by decide +kernel)))), by decide +kernel⟩
theorem wi_X5_init : Cond.instanceMethod yX5_init ∈ XT := List.mem_filter.mpr ⟨(List.mem_append_right _ (List.mem_append_left _ (List.mem_of_getElem? (i := 13) (by decide +kernel)))), by decide +kernel⟩
theorem wc_X5_init : Cond.code yX5_init cX5_init 2 (none) ∈ XT := List.mem_filter.mpr ⟨(List.mem_append_right _ (List.mem_append_left _ (List.mem_of_getElem? (i := 14) (by decide +kernel)))), by decide +kernel⟩
theorem wl_X5_1 : Cond.methodLink RX5 1 Lib.objectInit ∈ XT := List.mem_filter.mpr ⟨(List.mem_append_right _ (List.mem_append_left _ (List.mem_of_getElem? (i := 15) (by decide +kernel)))), by decide +kernel⟩
theorem wi_OBJ : Cond.instanceMethod Lib.objectInit ∈ XT := List.mem_filter.mpr ⟨(List.mem_append_right _ (List.mem_append_left _ (List.mem_of_getElem? (i := 16) (by decide +kernel)))), by decide +kernel⟩
theorem wc_OBJ : Cond.code Lib.objectInit ⟨#[0xb1]⟩ 1 (none) ∈ XT := List.mem_filter.mpr ⟨(List.mem_append_right _ (List.mem_append_left _ (List.mem_of_getElem? (i := 17) (by decide +kernel)))), by decide +kernel⟩
theorem wk_X5_7 : Cond.classLink RX5 7 RX4 ∈ XT := List.mem_filter.mpr ⟨(List.mem_append_right _ (List.mem_append_left _ (List.mem_of_getElem? (i := 18) (by decide +kernel)))), by decide +kernel⟩
theorem wq_X4 : Cond.instantiable RX4 11 ∈ XT := List.mem_filter.mpr ⟨(List.mem_append_right _ (List.mem_append_left _ (List.mem_of_getElem? (i := 19) (by decide +kernel)))), by decide +kernel⟩
theorem wl_X5_9 : Cond.methodLink RX5 9 yX4_init ∈ XT := List.mem_filter.mpr ⟨(List.mem_append_right _ (List.mem_append_left _ (List.mem_of_getElem? (i := 20) (by decide +kernel)))), by decide +kernel⟩
theorem wi_X4_init : Cond.instanceMethod yX4_init ∈ XT := List.mem_filter.mpr ⟨(List.mem_append_right _ (List.mem_append_left _ (List.mem_of_getElem? (i := 21) (by decide +kernel)))), by decide +kernel⟩
theorem wc_X4_init : Cond.code yX4_init cX4_init 2 (none) ∈ XT := List.mem_filter.mpr ⟨(List.mem_append_right _ (List.mem_append_left _ (List.mem_of_getElem? (i := 22) (by decide +kernel)))), by decide +kernel⟩
theorem wl_X4_3 : Cond.methodLink RX4 3 Lib.objectInit ∈ XT := List.mem_filter.mpr ⟨(List.mem_append_right _ (List.mem_append_left _ (List.mem_of_getElem? (i := 23) (by decide +kernel)))), by decide +kernel⟩
theorem wk_X4_9 : Cond.classLink RX4 9 RX3 ∈ XT := List.mem_filter.mpr ⟨(List.mem_append_right _ (List.mem_append_left _ (List.mem_of_getElem? (i := 24) (by decide +kernel)))), by decide +kernel⟩
theorem wk_X4_17 : Cond.classLink RX4 17 RX1 ∈ XT := List.mem_filter.mpr ⟨(List.mem_append_right _ (List.mem_append_left _ (List.mem_of_getElem? (i := 26) (by decide +kernel)))), by decide +kernel⟩
theorem wk_X4_27 : Cond.classLink RX4 27 RX0 ∈ XT := List.mem_filter.mpr ⟨(List.mem_append_right _ (List.mem_append_left _ (List.mem_of_getElem? (i := 28) (by decide +kernel)))), by decide +kernel⟩
theorem wq_X0 : Cond.instantiable RX0 3 ∈ XT := List.mem_filter.mpr ⟨(List.mem_append_right _ (List.mem_append_left _ (List.mem_of_getElem? (i := 29) (by decide +kernel)))), by decide +kernel⟩
theorem wl_X4_29 : Cond.methodLinkNest RX4 29 yX0_init "PulledWires" ∈ xNW := List.mem_filter.mpr ⟨(List.mem_append_right _ (List.mem_append_left _ (List.mem_of_getElem? (i := 30) (by decide +kernel)))), rfl⟩
theorem wi_X0_init : Cond.instanceMethod yX0_init ∈ XT := List.mem_filter.mpr ⟨(List.mem_append_right _ (List.mem_append_left _ (List.mem_of_getElem? (i := 31) (by decide +kernel)))), by decide +kernel⟩
theorem wc_X0_init : Cond.code yX0_init cX0_init 1 (none) ∈ XT := List.mem_filter.mpr ⟨(List.mem_append_right _ (List.mem_append_left _ (List.mem_of_getElem? (i := 32) (by decide +kernel)))), by decide +kernel⟩
theorem wl_X0_3 : Cond.methodLink RX0 3 Lib.objectInit ∈ XT := List.mem_filter.mpr ⟨(List.mem_append_right _ (List.mem_append_left _ (List.mem_of_getElem? (i := 33) (by decide +kernel)))), by decide +kernel⟩
theorem wf_X0_11 : Cond.fieldLink RX0 11 "PulledWires$BitLog" "cells" "[I" ∈ XT := List.mem_filter.mpr ⟨(List.mem_append_right _ (List.mem_append_left _ (List.mem_of_getElem? (i := 34) (by decide +kernel)))), by decide +kernel⟩
theorem wf_X0_21 : Cond.fieldLink RX0 21 "PulledWires$BitLog" "next" "I" ∈ XT := List.mem_filter.mpr ⟨(List.mem_append_right _ (List.mem_append_left _ (List.mem_of_getElem? (i := 35) (by decide +kernel)))), by decide +kernel⟩
theorem wf_X0_25 : Cond.fieldLink RX0 25 "PulledWires$BitLog" "size" "I" ∈ XT := List.mem_filter.mpr ⟨(List.mem_append_right _ (List.mem_append_left _ (List.mem_of_getElem? (i := 36) (by decide +kernel)))), by decide +kernel⟩
theorem wa_int : Cond.arrayClass FieldType.int ∈ XT := List.mem_filter.mpr ⟨(List.mem_append_right _ (List.mem_append_left _ (List.mem_of_getElem? (i := 44) (by decide +kernel)))), by decide +kernel⟩
theorem wq_X3 : Cond.instantiable RX3 8 ∈ XT := List.mem_filter.mpr ⟨(List.mem_append_right _ (List.mem_append_left _ (List.mem_of_getElem? (i := 45) (by decide +kernel)))), by decide +kernel⟩
theorem wl_X4_34 : Cond.methodLinkNest RX4 34 yX3_init "PulledWires" ∈ xNW := List.mem_filter.mpr ⟨(List.mem_append_right _ (List.mem_append_left _ (List.mem_of_getElem? (i := 46) (by decide +kernel)))), rfl⟩
theorem wi_X3_init : Cond.instanceMethod yX3_init ∈ XT := List.mem_filter.mpr ⟨(List.mem_append_right _ (List.mem_append_left _ (List.mem_of_getElem? (i := 47) (by decide +kernel)))), by decide +kernel⟩
theorem wc_X3_init : Cond.code yX3_init cX3_init 1 (none) ∈ XT := List.mem_filter.mpr ⟨(List.mem_append_right _ (List.mem_append_left _ (List.mem_of_getElem? (i := 48) (by decide +kernel)))), by decide +kernel⟩
theorem wl_X3_3 : Cond.methodLink RX3 3 Lib.objectInit ∈ XT := List.mem_filter.mpr ⟨(List.mem_append_right _ (List.mem_append_left _ (List.mem_of_getElem? (i := 49) (by decide +kernel)))), by decide +kernel⟩
theorem wf_X3_9 : Cond.fieldLink RX3 9 "PulledWires$Speaker" "parts" "[I" ∈ XT := List.mem_filter.mpr ⟨(List.mem_append_right _ (List.mem_append_left _ (List.mem_of_getElem? (i := 50) (by decide +kernel)))), by decide +kernel⟩
theorem wf_X3_21 : Cond.fieldLink RX3 21 "PulledWires$Speaker" "size" "I" ∈ XT := List.mem_filter.mpr ⟨(List.mem_append_right _ (List.mem_append_left _ (List.mem_of_getElem? (i := 51) (by decide +kernel)))), by decide +kernel⟩
theorem wf_X4_82 : Cond.fieldLink RX4 82 "PulledWires$Speaker" "size" "I" ∈ XT := List.mem_filter.mpr ⟨(List.mem_append_right _ (List.mem_append_left _ (List.mem_of_getElem? (i := 52) (by decide +kernel)))), by decide +kernel⟩
theorem wf_X5_109 : Cond.fieldLink RX5 109 "PulledWires$Speaker" "size" "I" ∈ XT := List.mem_filter.mpr ⟨(List.mem_append_right _ (List.mem_append_left _ (List.mem_of_getElem? (i := 53) (by decide +kernel)))), by decide +kernel⟩
theorem wf_X3_25 : Cond.fieldLink RX3 25 "PulledWires$Speaker" "talking" "Z" ∈ XT := List.mem_filter.mpr ⟨(List.mem_append_right _ (List.mem_append_left _ (List.mem_of_getElem? (i := 54) (by decide +kernel)))), by decide +kernel⟩
theorem wf_X4_89 : Cond.fieldLink RX4 89 "PulledWires$Speaker" "talking" "Z" ∈ XT := List.mem_filter.mpr ⟨(List.mem_append_right _ (List.mem_append_left _ (List.mem_of_getElem? (i := 55) (by decide +kernel)))), by decide +kernel⟩
theorem wf_X5_114 : Cond.fieldLink RX5 114 "PulledWires$Speaker" "talking" "Z" ∈ XT := List.mem_filter.mpr ⟨(List.mem_append_right _ (List.mem_append_left _ (List.mem_of_getElem? (i := 56) (by decide +kernel)))), by decide +kernel⟩
theorem wf_X3_29 : Cond.fieldLink RX3 29 "PulledWires$Speaker" "came" "I" ∈ XT := List.mem_filter.mpr ⟨(List.mem_append_right _ (List.mem_append_left _ (List.mem_of_getElem? (i := 57) (by decide +kernel)))), by decide +kernel⟩
theorem wf_X5_117 : Cond.fieldLink RX5 117 "PulledWires$Speaker" "came" "I" ∈ XT := List.mem_filter.mpr ⟨(List.mem_append_right _ (List.mem_append_left _ (List.mem_of_getElem? (i := 58) (by decide +kernel)))), by decide +kernel⟩
theorem wf_X4_208 : Cond.fieldLink RX4 208 "PulledWires$Speaker" "came" "I" ∈ XT := List.mem_filter.mpr ⟨(List.mem_append_right _ (List.mem_append_left _ (List.mem_of_getElem? (i := 59) (by decide +kernel)))), by decide +kernel⟩
theorem wf_X3_32 : Cond.fieldLink RX3 32 "PulledWires$Speaker" "lost" "I" ∈ XT := List.mem_filter.mpr ⟨(List.mem_append_right _ (List.mem_append_left _ (List.mem_of_getElem? (i := 60) (by decide +kernel)))), by decide +kernel⟩
theorem wf_X5_120 : Cond.fieldLink RX5 120 "PulledWires$Speaker" "lost" "I" ∈ XT := List.mem_filter.mpr ⟨(List.mem_append_right _ (List.mem_append_left _ (List.mem_of_getElem? (i := 61) (by decide +kernel)))), by decide +kernel⟩
theorem wf_X3_35 : Cond.fieldLink RX3 35 "PulledWires$Speaker" "failed" "I" ∈ XT := List.mem_filter.mpr ⟨(List.mem_append_right _ (List.mem_append_left _ (List.mem_of_getElem? (i := 62) (by decide +kernel)))), by decide +kernel⟩
theorem wf_X5_123 : Cond.fieldLink RX5 123 "PulledWires$Speaker" "failed" "I" ∈ XT := List.mem_filter.mpr ⟨(List.mem_append_right _ (List.mem_append_left _ (List.mem_of_getElem? (i := 63) (by decide +kernel)))), by decide +kernel⟩
theorem wf_X3_38 : Cond.fieldLink RX3 38 "PulledWires$Speaker" "dropped" "I" ∈ XT := List.mem_filter.mpr ⟨(List.mem_append_right _ (List.mem_append_left _ (List.mem_of_getElem? (i := 64) (by decide +kernel)))), by decide +kernel⟩
theorem wf_X5_126 : Cond.fieldLink RX5 126 "PulledWires$Speaker" "dropped" "I" ∈ XT := List.mem_filter.mpr ⟨(List.mem_append_right _ (List.mem_append_left _ (List.mem_of_getElem? (i := 65) (by decide +kernel)))), by decide +kernel⟩
theorem wf_X3_41 : Cond.fieldLink RX3 41 "PulledWires$Speaker" "failuresOfFirst" "I" ∈ XT := List.mem_filter.mpr ⟨(List.mem_append_right _ (List.mem_append_left _ (List.mem_of_getElem? (i := 66) (by decide +kernel)))), by decide +kernel⟩
theorem wf_X5_129 : Cond.fieldLink RX5 129 "PulledWires$Speaker" "failuresOfFirst" "I" ∈ XT := List.mem_filter.mpr ⟨(List.mem_append_right _ (List.mem_append_left _ (List.mem_of_getElem? (i := 67) (by decide +kernel)))), by decide +kernel⟩
theorem wq_X1 : Cond.instantiable RX1 5 ∈ XT := List.mem_filter.mpr ⟨(List.mem_append_right _ (List.mem_append_left _ (List.mem_of_getElem? (i := 85) (by decide +kernel)))), by decide +kernel⟩
theorem wl_X4_35 : Cond.methodLinkNest RX4 35 yX1_init "PulledWires" ∈ xNW := List.mem_filter.mpr ⟨(List.mem_append_right _ (List.mem_append_left _ (List.mem_of_getElem? (i := 86) (by decide +kernel)))), rfl⟩
theorem wi_X1_init : Cond.instanceMethod yX1_init ∈ XT := List.mem_filter.mpr ⟨(List.mem_append_right _ (List.mem_append_left _ (List.mem_of_getElem? (i := 87) (by decide +kernel)))), by decide +kernel⟩
theorem wc_X1_init : Cond.code yX1_init cX1_init 1 (none) ∈ XT := List.mem_filter.mpr ⟨(List.mem_append_right _ (List.mem_append_left _ (List.mem_of_getElem? (i := 88) (by decide +kernel)))), by decide +kernel⟩
theorem wl_X1_3 : Cond.methodLink RX1 3 Lib.objectInit ∈ XT := List.mem_filter.mpr ⟨(List.mem_append_right _ (List.mem_append_left _ (List.mem_of_getElem? (i := 89) (by decide +kernel)))), by decide +kernel⟩
theorem wf_X1_9 : Cond.fieldLink RX1 9 "PulledWires$Listener" "address" "I" ∈ XT := List.mem_filter.mpr ⟨(List.mem_append_right _ (List.mem_append_left _ (List.mem_of_getElem? (i := 90) (by decide +kernel)))), by decide +kernel⟩
theorem wf_X4_103 : Cond.fieldLink RX4 103 "PulledWires$Listener" "address" "I" ∈ XT := List.mem_filter.mpr ⟨(List.mem_append_right _ (List.mem_append_left _ (List.mem_of_getElem? (i := 91) (by decide +kernel)))), by decide +kernel⟩
theorem wf_X5_149 : Cond.fieldLink RX5 149 "PulledWires$Listener" "address" "I" ∈ XT := List.mem_filter.mpr ⟨(List.mem_append_right _ (List.mem_append_left _ (List.mem_of_getElem? (i := 92) (by decide +kernel)))), by decide +kernel⟩
theorem wf_X1_18 : Cond.fieldLink RX1 18 "PulledWires$Listener" "hold" "I" ∈ XT := List.mem_filter.mpr ⟨(List.mem_append_right _ (List.mem_append_left _ (List.mem_of_getElem? (i := 93) (by decide +kernel)))), by decide +kernel⟩
theorem wf_X4_110 : Cond.fieldLink RX4 110 "PulledWires$Listener" "hold" "I" ∈ XT := List.mem_filter.mpr ⟨(List.mem_append_right _ (List.mem_append_left _ (List.mem_of_getElem? (i := 94) (by decide +kernel)))), by decide +kernel⟩
theorem wf_X5_154 : Cond.fieldLink RX5 154 "PulledWires$Listener" "hold" "I" ∈ XT := List.mem_filter.mpr ⟨(List.mem_append_right _ (List.mem_append_left _ (List.mem_of_getElem? (i := 95) (by decide +kernel)))), by decide +kernel⟩
theorem wf_X1_21 : Cond.fieldLink RX1 21 "PulledWires$Listener" "stuck" "I" ∈ XT := List.mem_filter.mpr ⟨(List.mem_append_right _ (List.mem_append_left _ (List.mem_of_getElem? (i := 96) (by decide +kernel)))), by decide +kernel⟩
theorem wf_X4_113 : Cond.fieldLink RX4 113 "PulledWires$Listener" "stuck" "I" ∈ XT := List.mem_filter.mpr ⟨(List.mem_append_right _ (List.mem_append_left _ (List.mem_of_getElem? (i := 97) (by decide +kernel)))), by decide +kernel⟩
theorem wf_X5_157 : Cond.fieldLink RX5 157 "PulledWires$Listener" "stuck" "I" ∈ XT := List.mem_filter.mpr ⟨(List.mem_append_right _ (List.mem_append_left _ (List.mem_of_getElem? (i := 98) (by decide +kernel)))), by decide +kernel⟩
theorem wf_X1_24 : Cond.fieldLink RX1 24 "PulledWires$Listener" "wordsTaken" "I" ∈ XT := List.mem_filter.mpr ⟨(List.mem_append_right _ (List.mem_append_left _ (List.mem_of_getElem? (i := 99) (by decide +kernel)))), by decide +kernel⟩
theorem wf_X5_160 : Cond.fieldLink RX5 160 "PulledWires$Listener" "wordsTaken" "I" ∈ XT := List.mem_filter.mpr ⟨(List.mem_append_right _ (List.mem_append_left _ (List.mem_of_getElem? (i := 100) (by decide +kernel)))), by decide +kernel⟩
theorem wf_X1_15 : Cond.fieldLink RX1 15 "PulledWires$Listener" "latestWord" "I" ∈ XT := List.mem_filter.mpr ⟨(List.mem_append_right _ (List.mem_append_left _ (List.mem_of_getElem? (i := 101) (by decide +kernel)))), by decide +kernel⟩
theorem wf_X5_163 : Cond.fieldLink RX5 163 "PulledWires$Listener" "latestWord" "I" ∈ XT := List.mem_filter.mpr ⟨(List.mem_append_right _ (List.mem_append_left _ (List.mem_of_getElem? (i := 102) (by decide +kernel)))), by decide +kernel⟩
theorem wf_X4_11 : Cond.fieldLink RX4 11 "PulledWires$State" "speakers" "[LPulledWires$Speaker;" ∈ XT := List.mem_filter.mpr ⟨(List.mem_append_right _ (List.mem_append_left _ (List.mem_of_getElem? (i := 114) (by decide +kernel)))), by decide +kernel⟩
theorem wf_X4_19 : Cond.fieldLink RX4 19 "PulledWires$State" "listeners" "[LPulledWires$Listener;" ∈ XT := List.mem_filter.mpr ⟨(List.mem_append_right _ (List.mem_append_left _ (List.mem_of_getElem? (i := 115) (by decide +kernel)))), by decide +kernel⟩
theorem wf_X4_23 : Cond.fieldLink RX4 23 "PulledWires$State" "settings" "[I" ∈ XT := List.mem_filter.mpr ⟨(List.mem_append_right _ (List.mem_append_left _ (List.mem_of_getElem? (i := 116) (by decide +kernel)))), by decide +kernel⟩
theorem wf_X4_30 : Cond.fieldLink RX4 30 "PulledWires$State" "log" "LPulledWires$BitLog;" ∈ XT := List.mem_filter.mpr ⟨(List.mem_append_right _ (List.mem_append_left _ (List.mem_of_getElem? (i := 117) (by decide +kernel)))), by decide +kernel⟩
theorem wf_X5_166 : Cond.fieldLink RX5 166 "PulledWires$State" "log" "LPulledWires$BitLog;" ∈ XT := List.mem_filter.mpr ⟨(List.mem_append_right _ (List.mem_append_left _ (List.mem_of_getElem? (i := 118) (by decide +kernel)))), by decide +kernel⟩
theorem wf_X4_52 : Cond.fieldLink RX4 52 "PulledWires$State" "clock" "I" ∈ XT := List.mem_filter.mpr ⟨(List.mem_append_right _ (List.mem_append_left _ (List.mem_of_getElem? (i := 119) (by decide +kernel)))), by decide +kernel⟩
theorem wf_X5_102 : Cond.fieldLink RX5 102 "PulledWires$State" "clock" "I" ∈ XT := List.mem_filter.mpr ⟨(List.mem_append_right _ (List.mem_append_left _ (List.mem_of_getElem? (i := 120) (by decide +kernel)))), by decide +kernel⟩
theorem wf_X4_56 : Cond.fieldLink RX4 56 "PulledWires$State" "over" "I" ∈ XT := List.mem_filter.mpr ⟨(List.mem_append_right _ (List.mem_append_left _ (List.mem_of_getElem? (i := 121) (by decide +kernel)))), by decide +kernel⟩
theorem wf_X5_218 : Cond.fieldLink RX5 218 "PulledWires$State" "over" "I" ∈ XT := List.mem_filter.mpr ⟨(List.mem_append_right _ (List.mem_append_left _ (List.mem_of_getElem? (i := 122) (by decide +kernel)))), by decide +kernel⟩
theorem wf_X4_59 : Cond.fieldLink RX4 59 "PulledWires$State" "held" "I" ∈ XT := List.mem_filter.mpr ⟨(List.mem_append_right _ (List.mem_append_left _ (List.mem_of_getElem? (i := 123) (by decide +kernel)))), by decide +kernel⟩
theorem wf_X5_209 : Cond.fieldLink RX5 209 "PulledWires$State" "held" "I" ∈ XT := List.mem_filter.mpr ⟨(List.mem_append_right _ (List.mem_append_left _ (List.mem_of_getElem? (i := 124) (by decide +kernel)))), by decide +kernel⟩
theorem wf_X4_62 : Cond.fieldLink RX4 62 "PulledWires$State" "free" "I" ∈ XT := List.mem_filter.mpr ⟨(List.mem_append_right _ (List.mem_append_left _ (List.mem_of_getElem? (i := 125) (by decide +kernel)))), by decide +kernel⟩
theorem wf_X5_212 : Cond.fieldLink RX5 212 "PulledWires$State" "free" "I" ∈ XT := List.mem_filter.mpr ⟨(List.mem_append_right _ (List.mem_append_left _ (List.mem_of_getElem? (i := 126) (by decide +kernel)))), by decide +kernel⟩
theorem wf_X4_65 : Cond.fieldLink RX4 65 "PulledWires$State" "stuckInRow" "I" ∈ XT := List.mem_filter.mpr ⟨(List.mem_append_right _ (List.mem_append_left _ (List.mem_of_getElem? (i := 127) (by decide +kernel)))), by decide +kernel⟩
theorem wf_X5_215 : Cond.fieldLink RX5 215 "PulledWires$State" "stuckInRow" "I" ∈ XT := List.mem_filter.mpr ⟨(List.mem_append_right _ (List.mem_append_left _ (List.mem_of_getElem? (i := 128) (by decide +kernel)))), by decide +kernel⟩
theorem wf_X4_68 : Cond.fieldLink RX4 68 "PulledWires$State" "talks" "I" ∈ XT := List.mem_filter.mpr ⟨(List.mem_append_right _ (List.mem_append_left _ (List.mem_of_getElem? (i := 129) (by decide +kernel)))), by decide +kernel⟩
theorem wf_X5_224 : Cond.fieldLink RX5 224 "PulledWires$State" "talks" "I" ∈ XT := List.mem_filter.mpr ⟨(List.mem_append_right _ (List.mem_append_left _ (List.mem_of_getElem? (i := 130) (by decide +kernel)))), by decide +kernel⟩
theorem wf_X4_71 : Cond.fieldLink RX4 71 "PulledWires$State" "shakes" "I" ∈ XT := List.mem_filter.mpr ⟨(List.mem_append_right _ (List.mem_append_left _ (List.mem_of_getElem? (i := 131) (by decide +kernel)))), by decide +kernel⟩
theorem wf_X5_227 : Cond.fieldLink RX5 227 "PulledWires$State" "shakes" "I" ∈ XT := List.mem_filter.mpr ⟨(List.mem_append_right _ (List.mem_append_left _ (List.mem_of_getElem? (i := 132) (by decide +kernel)))), by decide +kernel⟩
theorem wk_X5_23 : Cond.classLink RX5 23 RX2 ∈ XT := List.mem_filter.mpr ⟨(List.mem_append_right _ (List.mem_append_left _ (List.mem_of_getElem? (i := 157) (by decide +kernel)))), by decide +kernel⟩
theorem wq_X2 : Cond.instantiable RX2 5 ∈ XT := List.mem_filter.mpr ⟨(List.mem_append_right _ (List.mem_append_left _ (List.mem_of_getElem? (i := 158) (by decide +kernel)))), by decide +kernel⟩
theorem wl_X5_25 : Cond.methodLinkNest RX5 25 yX2_init "PulledWires" ∈ xNW := List.mem_filter.mpr ⟨(List.mem_append_right _ (List.mem_append_left _ (List.mem_of_getElem? (i := 159) (by decide +kernel)))), rfl⟩
theorem wi_X2_init : Cond.instanceMethod yX2_init ∈ XT := List.mem_filter.mpr ⟨(List.mem_append_right _ (List.mem_append_left _ (List.mem_of_getElem? (i := 160) (by decide +kernel)))), by decide +kernel⟩
theorem wc_X2_init : Cond.code yX2_init cX2_init 1 (none) ∈ XT := List.mem_filter.mpr ⟨(List.mem_append_right _ (List.mem_append_left _ (List.mem_of_getElem? (i := 161) (by decide +kernel)))), by decide +kernel⟩
theorem wl_X2_3 : Cond.methodLink RX2 3 Lib.objectInit ∈ XT := List.mem_filter.mpr ⟨(List.mem_append_right _ (List.mem_append_left _ (List.mem_of_getElem? (i := 162) (by decide +kernel)))), by decide +kernel⟩
theorem wf_X2_11 : Cond.fieldLink RX2 11 "PulledWires$OrderText" "characters" "[C" ∈ XT := List.mem_filter.mpr ⟨(List.mem_append_right _ (List.mem_append_left _ (List.mem_of_getElem? (i := 163) (by decide +kernel)))), by decide +kernel⟩
theorem wf_X2_15 : Cond.fieldLink RX2 15 "PulledWires$OrderText" "numbers" "[I" ∈ XT := List.mem_filter.mpr ⟨(List.mem_append_right _ (List.mem_append_left _ (List.mem_of_getElem? (i := 164) (by decide +kernel)))), by decide +kernel⟩
theorem wf_X5_233 : Cond.fieldLink RX5 233 "PulledWires$OrderText" "length" "I" ∈ XT := List.mem_filter.mpr ⟨(List.mem_append_right _ (List.mem_append_left _ (List.mem_of_getElem? (i := 165) (by decide +kernel)))), by decide +kernel⟩
theorem wf_X2_19 : Cond.fieldLink RX2 19 "PulledWires$OrderText" "kind" "I" ∈ XT := List.mem_filter.mpr ⟨(List.mem_append_right _ (List.mem_append_left _ (List.mem_of_getElem? (i := 166) (by decide +kernel)))), by decide +kernel⟩
theorem wa_char : Cond.arrayClass FieldType.char ∈ XT := List.mem_filter.mpr ⟨(List.mem_append_right _ (List.mem_append_left _ (List.mem_of_getElem? (i := 178) (by decide +kernel)))), by decide +kernel⟩
theorem wf_X5_10 : Cond.fieldLink RX5 10 "PulledWires" "now" "LPulledWires$State;" ∈ XT := List.mem_filter.mpr ⟨(List.mem_append_right _ (List.mem_append_left _ (List.mem_of_getElem? (i := 179) (by decide +kernel)))), by decide +kernel⟩
theorem wf_X5_16 : Cond.fieldLink RX5 16 "PulledWires" "snapshot" "LPulledWires$State;" ∈ XT := List.mem_filter.mpr ⟨(List.mem_append_right _ (List.mem_append_left _ (List.mem_of_getElem? (i := 180) (by decide +kernel)))), by decide +kernel⟩
theorem wf_X5_19 : Cond.fieldLink RX5 19 "PulledWires" "history" "[LPulledWires$State;" ∈ XT := List.mem_filter.mpr ⟨(List.mem_append_right _ (List.mem_append_left _ (List.mem_of_getElem? (i := 181) (by decide +kernel)))), by decide +kernel⟩
theorem wf_X5_26 : Cond.fieldLink RX5 26 "PulledWires" "text" "LPulledWires$OrderText;" ∈ XT := List.mem_filter.mpr ⟨(List.mem_append_right _ (List.mem_append_left _ (List.mem_of_getElem? (i := 182) (by decide +kernel)))), by decide +kernel⟩
theorem wf_X5_30 : Cond.fieldLink RX5 30 "PulledWires" "spare" "LPulledWires$State;" ∈ XT := List.mem_filter.mpr ⟨(List.mem_append_right _ (List.mem_append_left _ (List.mem_of_getElem? (i := 183) (by decide +kernel)))), by decide +kernel⟩
theorem wf_X5_95 : Cond.fieldLink RX5 95 "PulledWires" "historySize" "I" ∈ XT := List.mem_filter.mpr ⟨(List.mem_append_right _ (List.mem_append_left _ (List.mem_of_getElem? (i := 184) (by decide +kernel)))), by decide +kernel⟩
theorem wf_X5_33 : Cond.fieldLink RX5 33 "PulledWires" "stoppedOrder" "I" ∈ XT := List.mem_filter.mpr ⟨(List.mem_append_right _ (List.mem_append_left _ (List.mem_of_getElem? (i := 185) (by decide +kernel)))), by decide +kernel⟩
theorem wf_X5_37 : Cond.fieldLink RX5 37 "PulledWires" "stoppedError" "I" ∈ XT := List.mem_filter.mpr ⟨(List.mem_append_right _ (List.mem_append_left _ (List.mem_of_getElem? (i := 186) (by decide +kernel)))), by decide +kernel⟩
theorem wl_L_27 : Cond.methodLink RL 27 yX5_hear ∈ XT := List.mem_filter.mpr ⟨(List.mem_append_right _ (List.mem_append_left _ (List.mem_of_getElem? (i := 206) (by decide +kernel)))), by decide +kernel⟩
theorem wi_X5_hear : Cond.instanceMethod yX5_hear ∈ XT := List.mem_filter.mpr ⟨(List.mem_append_right _ (List.mem_append_left _ (List.mem_of_getElem? (i := 207) (by decide +kernel)))), by decide +kernel⟩
theorem ws_X5_hear : Cond.selects RX5 yX5_hear yX5_hear ∈ XT := List.mem_filter.mpr ⟨(List.mem_append_right _ (List.mem_append_left _ (List.mem_of_getElem? (i := 208) (by decide +kernel)))), by decide +kernel⟩
theorem wc_X5_hear : Cond.code yX5_hear cX5_hear 3 (some FieldType.int) ∈ XT := List.mem_filter.mpr ⟨(List.mem_append_right _ (List.mem_append_left _ (List.mem_of_getElem? (i := 209) (by decide +kernel)))), by decide +kernel⟩
theorem wl_X5_40 : Cond.methodLink RX5 40 yX4_copyFrom ∈ XT := List.mem_filter.mpr ⟨(List.mem_append_right _ (List.mem_append_left _ (List.mem_of_getElem? (i := 210) (by decide +kernel)))), by decide +kernel⟩
theorem wi_X4_copyFrom : Cond.instanceMethod yX4_copyFrom ∈ XT := List.mem_filter.mpr ⟨(List.mem_append_right _ (List.mem_append_left _ (List.mem_of_getElem? (i := 211) (by decide +kernel)))), by decide +kernel⟩
theorem ws_X4_copyFrom : Cond.selects RX4 yX4_copyFrom yX4_copyFrom ∈ XT := List.mem_filter.mpr ⟨(List.mem_append_right _ (List.mem_append_left _ (List.mem_of_getElem? (i := 212) (by decide +kernel)))), by decide +kernel⟩
theorem wc_X4_copyFrom : Cond.code yX4_copyFrom cX4_copyFrom 3 (none) ∈ XT := List.mem_filter.mpr ⟨(List.mem_append_right _ (List.mem_append_left _ (List.mem_of_getElem? (i := 213) (by decide +kernel)))), by decide +kernel⟩
theorem wl_X4_36 : Cond.methodLink RX4 36 yX3_copyFrom ∈ XT := List.mem_filter.mpr ⟨(List.mem_append_right _ (List.mem_append_left _ (List.mem_of_getElem? (i := 214) (by decide +kernel)))), by decide +kernel⟩
theorem wi_X3_copyFrom : Cond.instanceMethod yX3_copyFrom ∈ XT := List.mem_filter.mpr ⟨(List.mem_append_right _ (List.mem_append_left _ (List.mem_of_getElem? (i := 215) (by decide +kernel)))), by decide +kernel⟩
theorem ws_X3_copyFrom : Cond.selects RX3 yX3_copyFrom yX3_copyFrom ∈ XT := List.mem_filter.mpr ⟨(List.mem_append_right _ (List.mem_append_left _ (List.mem_of_getElem? (i := 216) (by decide +kernel)))), by decide +kernel⟩
theorem wc_X3_copyFrom : Cond.code yX3_copyFrom cX3_copyFrom 2 (none) ∈ XT := List.mem_filter.mpr ⟨(List.mem_append_right _ (List.mem_append_left _ (List.mem_of_getElem? (i := 217) (by decide +kernel)))), by decide +kernel⟩
theorem wl_X3_15 : Cond.methodLink RX3 15 arraycopyName ∈ XT := List.mem_filter.mpr ⟨(List.mem_append_right _ (List.mem_append_left _ (List.mem_of_getElem? (i := 218) (by decide +kernel)))), by decide +kernel⟩
theorem wt_ACP : Cond.static arraycopyName ∈ XT := List.mem_filter.mpr ⟨(List.mem_append_right _ (List.mem_append_left _ (List.mem_of_getElem? (i := 219) (by decide +kernel)))), by decide +kernel⟩
theorem wv_ACP : Cond.native arraycopyName ∈ XT := List.mem_filter.mpr ⟨(List.mem_append_right _ (List.mem_append_left _ (List.mem_of_getElem? (i := 220) (by decide +kernel)))), by decide +kernel⟩
theorem wl_X4_40 : Cond.methodLink RX4 40 yX1_copyFrom ∈ XT := List.mem_filter.mpr ⟨(List.mem_append_right _ (List.mem_append_left _ (List.mem_of_getElem? (i := 221) (by decide +kernel)))), by decide +kernel⟩
theorem wi_X1_copyFrom : Cond.instanceMethod yX1_copyFrom ∈ XT := List.mem_filter.mpr ⟨(List.mem_append_right _ (List.mem_append_left _ (List.mem_of_getElem? (i := 222) (by decide +kernel)))), by decide +kernel⟩
theorem ws_X1_copyFrom : Cond.selects RX1 yX1_copyFrom yX1_copyFrom ∈ XT := List.mem_filter.mpr ⟨(List.mem_append_right _ (List.mem_append_left _ (List.mem_of_getElem? (i := 223) (by decide +kernel)))), by decide +kernel⟩
theorem wc_X1_copyFrom : Cond.code yX1_copyFrom cX1_copyFrom 2 (none) ∈ XT := List.mem_filter.mpr ⟨(List.mem_append_right _ (List.mem_append_left _ (List.mem_of_getElem? (i := 224) (by decide +kernel)))), by decide +kernel⟩
theorem wl_X4_43 : Cond.methodLink RX4 43 arraycopyName ∈ XT := List.mem_filter.mpr ⟨(List.mem_append_right _ (List.mem_append_left _ (List.mem_of_getElem? (i := 225) (by decide +kernel)))), by decide +kernel⟩
theorem wl_X4_49 : Cond.methodLink RX4 49 yX0_copyFrom ∈ XT := List.mem_filter.mpr ⟨(List.mem_append_right _ (List.mem_append_left _ (List.mem_of_getElem? (i := 226) (by decide +kernel)))), by decide +kernel⟩
theorem wi_X0_copyFrom : Cond.instanceMethod yX0_copyFrom ∈ XT := List.mem_filter.mpr ⟨(List.mem_append_right _ (List.mem_append_left _ (List.mem_of_getElem? (i := 227) (by decide +kernel)))), by decide +kernel⟩
theorem ws_X0_copyFrom : Cond.selects RX0 yX0_copyFrom yX0_copyFrom ∈ XT := List.mem_filter.mpr ⟨(List.mem_append_right _ (List.mem_append_left _ (List.mem_of_getElem? (i := 228) (by decide +kernel)))), by decide +kernel⟩
theorem wc_X0_copyFrom : Cond.code yX0_copyFrom cX0_copyFrom 2 (none) ∈ XT := List.mem_filter.mpr ⟨(List.mem_append_right _ (List.mem_append_left _ (List.mem_of_getElem? (i := 229) (by decide +kernel)))), by decide +kernel⟩
theorem wl_X0_15 : Cond.methodLink RX0 15 arraycopyName ∈ XT := List.mem_filter.mpr ⟨(List.mem_append_right _ (List.mem_append_left _ (List.mem_of_getElem? (i := 230) (by decide +kernel)))), by decide +kernel⟩
theorem wl_X5_55 : Cond.methodLink RX5 55 yX4_giveAddress ∈ XT := List.mem_filter.mpr ⟨(List.mem_append_right _ (List.mem_append_left _ (List.mem_of_getElem? (i := 231) (by decide +kernel)))), by decide +kernel⟩
theorem wi_X4_giveAddress : Cond.instanceMethod yX4_giveAddress ∈ XT := List.mem_filter.mpr ⟨(List.mem_append_right _ (List.mem_append_left _ (List.mem_of_getElem? (i := 232) (by decide +kernel)))), by decide +kernel⟩
theorem ws_X4_giveAddress : Cond.selects RX4 yX4_giveAddress yX4_giveAddress ∈ XT := List.mem_filter.mpr ⟨(List.mem_append_right _ (List.mem_append_left _ (List.mem_of_getElem? (i := 233) (by decide +kernel)))), by decide +kernel⟩
theorem wc_X4_giveAddress : Cond.code yX4_giveAddress cX4_giveAddress 5 (some FieldType.int) ∈ XT := List.mem_filter.mpr ⟨(List.mem_append_right _ (List.mem_append_left _ (List.mem_of_getElem? (i := 234) (by decide +kernel)))), by decide +kernel⟩
theorem wl_X4_96 : Cond.methodLink RX4 96 yX4_listenerAt ∈ XT := List.mem_filter.mpr ⟨(List.mem_append_right _ (List.mem_append_left _ (List.mem_of_getElem? (i := 235) (by decide +kernel)))), by decide +kernel⟩
theorem wi_X4_listenerAt : Cond.instanceMethod yX4_listenerAt ∈ XT := List.mem_filter.mpr ⟨(List.mem_append_right _ (List.mem_append_left _ (List.mem_of_getElem? (i := 236) (by decide +kernel)))), by decide +kernel⟩
theorem ws_X4_listenerAt : Cond.selects RX4 yX4_listenerAt yX4_listenerAt ∈ XT := List.mem_filter.mpr ⟨(List.mem_append_right _ (List.mem_append_left _ (List.mem_of_getElem? (i := 237) (by decide +kernel)))), by decide +kernel⟩
theorem wc_X4_listenerAt : Cond.code yX4_listenerAt cX4_listenerAt 2 (some (FieldType.object "PulledWires$Listener")) ∈ XT := List.mem_filter.mpr ⟨(List.mem_append_right _ (List.mem_append_left _ (List.mem_of_getElem? (i := 238) (by decide +kernel)))), by decide +kernel⟩
theorem wl_X4_78 : Cond.methodLinkNest RX4 78 yX5_isIndex "PulledWires" ∈ xNW := List.mem_filter.mpr ⟨(List.mem_append_right _ (List.mem_append_left _ (List.mem_of_getElem? (i := 239) (by decide +kernel)))), rfl⟩
theorem wt_X5_isIndex : Cond.static yX5_isIndex ∈ XT := List.mem_filter.mpr ⟨(List.mem_append_right _ (List.mem_append_right _ (List.mem_append_left _ (List.mem_of_getElem? (i := 0) (by decide +kernel))))), by decide +kernel⟩
theorem wc_X5_isIndex : Cond.code yX5_isIndex cX5_isIndex 2 (some FieldType.boolean) ∈ XT := List.mem_filter.mpr ⟨(List.mem_append_right _ (List.mem_append_right _ (List.mem_append_left _ (List.mem_of_getElem? (i := 1) (by decide +kernel))))), by decide +kernel⟩
theorem wl_X4_100 : Cond.methodLink RX4 100 yX4_listenerWith ∈ XT := List.mem_filter.mpr ⟨(List.mem_append_right _ (List.mem_append_right _ (List.mem_append_left _ (List.mem_of_getElem? (i := 2) (by decide +kernel))))), by decide +kernel⟩
theorem wi_X4_listenerWith : Cond.instanceMethod yX4_listenerWith ∈ XT := List.mem_filter.mpr ⟨(List.mem_append_right _ (List.mem_append_right _ (List.mem_append_left _ (List.mem_of_getElem? (i := 4) (by decide +kernel))))), by decide +kernel⟩
theorem wc_X4_listenerWith : Cond.code yX4_listenerWith cX4_listenerWith 6 (some (FieldType.object "PulledWires$Listener")) ∈ XT := List.mem_filter.mpr ⟨(List.mem_append_right _ (List.mem_append_right _ (List.mem_append_left _ (List.mem_of_getElem? (i := 5) (by decide +kernel))))), by decide +kernel⟩
theorem wl_X4_106 : Cond.methodLink RX4 106 yX4_listenersWithAddress ∈ XT := List.mem_filter.mpr ⟨(List.mem_append_right _ (List.mem_append_right _ (List.mem_append_left _ (List.mem_of_getElem? (i := 6) (by decide +kernel))))), by decide +kernel⟩
theorem wi_X4_listenersWithAddress : Cond.instanceMethod yX4_listenersWithAddress ∈ XT := List.mem_filter.mpr ⟨(List.mem_append_right _ (List.mem_append_right _ (List.mem_append_left _ (List.mem_of_getElem? (i := 8) (by decide +kernel))))), by decide +kernel⟩
theorem wc_X4_listenersWithAddress : Cond.code yX4_listenersWithAddress cX4_listenersWithAddress 6 (some FieldType.int) ∈ XT := List.mem_filter.mpr ⟨(List.mem_append_right _ (List.mem_append_right _ (List.mem_append_left _ (List.mem_of_getElem? (i := 9) (by decide +kernel))))), by decide +kernel⟩
theorem wl_X5_48 : Cond.methodLink RX5 48 yX5_recorded ∈ XT := List.mem_filter.mpr ⟨(List.mem_append_right _ (List.mem_append_right _ (List.mem_append_left _ (List.mem_of_getElem? (i := 10) (by decide +kernel))))), by decide +kernel⟩
theorem wi_X5_recorded : Cond.instanceMethod yX5_recorded ∈ XT := List.mem_filter.mpr ⟨(List.mem_append_right _ (List.mem_append_right _ (List.mem_append_left _ (List.mem_of_getElem? (i := 12) (by decide +kernel))))), by decide +kernel⟩
theorem wc_X5_recorded : Cond.code yX5_recorded cX5_recorded 4 (some FieldType.int) ∈ XT := List.mem_filter.mpr ⟨(List.mem_append_right _ (List.mem_append_right _ (List.mem_append_left _ (List.mem_of_getElem? (i := 13) (by decide +kernel))))), by decide +kernel⟩
theorem wl_X5_132 : Cond.methodLink RX5 132 yX5_isIndex ∈ XT := List.mem_filter.mpr ⟨(List.mem_append_right _ (List.mem_append_right _ (List.mem_append_left _ (List.mem_of_getElem? (i := 14) (by decide +kernel))))), by decide +kernel⟩
theorem wl_L_69 : Cond.methodLink RL 69 yL_cell ∈ XT := List.mem_filter.mpr ⟨(List.mem_append_right _ (List.mem_append_right _ (List.mem_append_left _ (List.mem_of_getElem? (i := 15) (by decide +kernel))))), by decide +kernel⟩
theorem wt_L_cell : Cond.static yL_cell ∈ XT := List.mem_filter.mpr ⟨(List.mem_append_right _ (List.mem_append_right _ (List.mem_append_left _ (List.mem_of_getElem? (i := 16) (by decide +kernel))))), by decide +kernel⟩
theorem wc_L_cell : Cond.code yL_cell cL_cell 2 (some FieldType.int) ∈ XT := List.mem_filter.mpr ⟨(List.mem_append_right _ (List.mem_append_right _ (List.mem_append_left _ (List.mem_of_getElem? (i := 17) (by decide +kernel))))), by decide +kernel⟩
theorem wl_L_8 : Cond.methodLink RL 8 yL_low ∈ XT := List.mem_filter.mpr ⟨(List.mem_append_right _ (List.mem_append_right _ (List.mem_append_left _ (List.mem_of_getElem? (i := 18) (by decide +kernel))))), by decide +kernel⟩
theorem wt_L_low : Cond.static yL_low ∈ XT := List.mem_filter.mpr ⟨(List.mem_append_right _ (List.mem_append_right _ (List.mem_append_left _ (List.mem_of_getElem? (i := 19) (by decide +kernel))))), by decide +kernel⟩
theorem wc_L_low : Cond.code yL_low cL_low 2 (some FieldType.int) ∈ XT := List.mem_filter.mpr ⟨(List.mem_append_right _ (List.mem_append_right _ (List.mem_append_left _ (List.mem_of_getElem? (i := 20) (by decide +kernel))))), by decide +kernel⟩
theorem wx_L_7 : Cond.constant RL 7 (2147483647 : Int32) ∈ XT := List.mem_filter.mpr ⟨(List.mem_append_right _ (List.mem_append_right _ (List.mem_append_left _ (List.mem_of_getElem? (i := 21) (by decide +kernel))))), by decide +kernel⟩
theorem wl_L_73 : Cond.methodLink RL 73 yL_does ∈ XT := List.mem_filter.mpr ⟨(List.mem_append_right _ (List.mem_append_right _ (List.mem_append_left _ (List.mem_of_getElem? (i := 22) (by decide +kernel))))), by decide +kernel⟩
theorem wt_L_does : Cond.static yL_does ∈ XT := List.mem_filter.mpr ⟨(List.mem_append_right _ (List.mem_append_right _ (List.mem_append_left _ (List.mem_of_getElem? (i := 23) (by decide +kernel))))), by decide +kernel⟩
theorem wc_L_does : Cond.code yL_does cL_does 7 (some FieldType.int) ∈ XT := List.mem_filter.mpr ⟨(List.mem_append_right _ (List.mem_append_right _ (List.mem_append_left _ (List.mem_of_getElem? (i := 24) (by decide +kernel))))), by decide +kernel⟩
theorem wl_L_14 : Cond.methodLink RL 14 yX5_speaker ∈ XT := List.mem_filter.mpr ⟨(List.mem_append_right _ (List.mem_append_right _ (List.mem_append_left _ (List.mem_of_getElem? (i := 25) (by decide +kernel))))), by decide +kernel⟩
theorem wi_X5_speaker : Cond.instanceMethod yX5_speaker ∈ XT := List.mem_filter.mpr ⟨(List.mem_append_right _ (List.mem_append_right _ (List.mem_append_left _ (List.mem_of_getElem? (i := 26) (by decide +kernel))))), by decide +kernel⟩
theorem ws_X5_speaker : Cond.selects RX5 yX5_speaker yX5_speaker ∈ XT := List.mem_filter.mpr ⟨(List.mem_append_right _ (List.mem_append_right _ (List.mem_append_left _ (List.mem_of_getElem? (i := 27) (by decide +kernel))))), by decide +kernel⟩
theorem wc_X5_speaker : Cond.code yX5_speaker cX5_speaker 4 (some FieldType.int) ∈ XT := List.mem_filter.mpr ⟨(List.mem_append_right _ (List.mem_append_right _ (List.mem_append_left _ (List.mem_of_getElem? (i := 28) (by decide +kernel))))), by decide +kernel⟩
theorem wl_X5_105 : Cond.methodLink RX5 105 yX4_speakerAt ∈ XT := List.mem_filter.mpr ⟨(List.mem_append_right _ (List.mem_append_right _ (List.mem_append_left _ (List.mem_of_getElem? (i := 29) (by decide +kernel))))), by decide +kernel⟩
theorem wi_X4_speakerAt : Cond.instanceMethod yX4_speakerAt ∈ XT := List.mem_filter.mpr ⟨(List.mem_append_right _ (List.mem_append_right _ (List.mem_append_left _ (List.mem_of_getElem? (i := 30) (by decide +kernel))))), by decide +kernel⟩
theorem ws_X4_speakerAt : Cond.selects RX4 yX4_speakerAt yX4_speakerAt ∈ XT := List.mem_filter.mpr ⟨(List.mem_append_right _ (List.mem_append_right _ (List.mem_append_left _ (List.mem_of_getElem? (i := 31) (by decide +kernel))))), by decide +kernel⟩
theorem wc_X4_speakerAt : Cond.code yX4_speakerAt cX4_speakerAt 2 (some (FieldType.object "PulledWires$Speaker")) ∈ XT := List.mem_filter.mpr ⟨(List.mem_append_right _ (List.mem_append_right _ (List.mem_append_left _ (List.mem_of_getElem? (i := 32) (by decide +kernel))))), by decide +kernel⟩
theorem wl_L_19 : Cond.methodLink RL 19 yX5_say ∈ XT := List.mem_filter.mpr ⟨(List.mem_append_right _ (List.mem_append_right _ (List.mem_append_left _ (List.mem_of_getElem? (i := 33) (by decide +kernel))))), by decide +kernel⟩
theorem wi_X5_say : Cond.instanceMethod yX5_say ∈ XT := List.mem_filter.mpr ⟨(List.mem_append_right _ (List.mem_append_right _ (List.mem_append_left _ (List.mem_of_getElem? (i := 34) (by decide +kernel))))), by decide +kernel⟩
theorem ws_X5_say : Cond.selects RX5 yX5_say yX5_say ∈ XT := List.mem_filter.mpr ⟨(List.mem_append_right _ (List.mem_append_right _ (List.mem_append_left _ (List.mem_of_getElem? (i := 35) (by decide +kernel))))), by decide +kernel⟩
theorem wc_X5_say : Cond.code yX5_say cX5_say 5 (some FieldType.int) ∈ XT := List.mem_filter.mpr ⟨(List.mem_append_right _ (List.mem_append_right _ (List.mem_append_left _ (List.mem_of_getElem? (i := 36) (by decide +kernel))))), by decide +kernel⟩
theorem wl_X5_44 : Cond.methodLink RX5 44 yX4_addMessage ∈ XT := List.mem_filter.mpr ⟨(List.mem_append_right _ (List.mem_append_right _ (List.mem_append_left _ (List.mem_of_getElem? (i := 37) (by decide +kernel))))), by decide +kernel⟩
theorem wi_X4_addMessage : Cond.instanceMethod yX4_addMessage ∈ XT := List.mem_filter.mpr ⟨(List.mem_append_right _ (List.mem_append_right _ (List.mem_append_left _ (List.mem_of_getElem? (i := 38) (by decide +kernel))))), by decide +kernel⟩
theorem ws_X4_addMessage : Cond.selects RX4 yX4_addMessage yX4_addMessage ∈ XT := List.mem_filter.mpr ⟨(List.mem_append_right _ (List.mem_append_right _ (List.mem_append_left _ (List.mem_of_getElem? (i := 39) (by decide +kernel))))), by decide +kernel⟩
theorem wc_X4_addMessage : Cond.code yX4_addMessage cX4_addMessage 6 (some FieldType.int) ∈ XT := List.mem_filter.mpr ⟨(List.mem_append_right _ (List.mem_append_right _ (List.mem_append_left _ (List.mem_of_getElem? (i := 40) (by decide +kernel))))), by decide +kernel⟩
theorem wl_X4_74 : Cond.methodLink RX4 74 yX4_speakerAt ∈ XT := List.mem_filter.mpr ⟨(List.mem_append_right _ (List.mem_append_right _ (List.mem_append_left _ (List.mem_of_getElem? (i := 41) (by decide +kernel))))), by decide +kernel⟩
theorem wl_X4_85 : Cond.methodLink RX4 85 yX3_append ∈ XT := List.mem_filter.mpr ⟨(List.mem_append_right _ (List.mem_append_right _ (List.mem_append_left _ (List.mem_of_getElem? (i := 42) (by decide +kernel))))), by decide +kernel⟩
theorem wi_X3_append : Cond.instanceMethod yX3_append ∈ XT := List.mem_filter.mpr ⟨(List.mem_append_right _ (List.mem_append_right _ (List.mem_append_left _ (List.mem_of_getElem? (i := 43) (by decide +kernel))))), by decide +kernel⟩
theorem ws_X3_append : Cond.selects RX3 yX3_append yX3_append ∈ XT := List.mem_filter.mpr ⟨(List.mem_append_right _ (List.mem_append_right _ (List.mem_append_left _ (List.mem_of_getElem? (i := 44) (by decide +kernel))))), by decide +kernel⟩
theorem wc_X3_append : Cond.code yX3_append cX3_append 4 (none) ∈ XT := List.mem_filter.mpr ⟨(List.mem_append_right _ (List.mem_append_right _ (List.mem_append_left _ (List.mem_of_getElem? (i := 45) (by decide +kernel))))), by decide +kernel⟩
theorem wl_X3_44 : Cond.methodLinkNest RX3 44 yX5_isIndex "PulledWires" ∈ xNW := List.mem_filter.mpr ⟨(List.mem_append_right _ (List.mem_append_right _ (List.mem_append_left _ (List.mem_of_getElem? (i := 46) (by decide +kernel))))), rfl⟩
theorem wl_L_23 : Cond.methodLink RL 23 yX5_takeBack ∈ XT := List.mem_filter.mpr ⟨(List.mem_append_right _ (List.mem_append_right _ (List.mem_append_left _ (List.mem_of_getElem? (i := 47) (by decide +kernel))))), by decide +kernel⟩
theorem wi_X5_takeBack : Cond.instanceMethod yX5_takeBack ∈ XT := List.mem_filter.mpr ⟨(List.mem_append_right _ (List.mem_append_right _ (List.mem_append_left _ (List.mem_of_getElem? (i := 48) (by decide +kernel))))), by decide +kernel⟩
theorem ws_X5_takeBack : Cond.selects RX5 yX5_takeBack yX5_takeBack ∈ XT := List.mem_filter.mpr ⟨(List.mem_append_right _ (List.mem_append_right _ (List.mem_append_left _ (List.mem_of_getElem? (i := 49) (by decide +kernel))))), by decide +kernel⟩
theorem wc_X5_takeBack : Cond.code yX5_takeBack cX5_takeBack 2 (some FieldType.int) ∈ XT := List.mem_filter.mpr ⟨(List.mem_append_right _ (List.mem_append_right _ (List.mem_append_left _ (List.mem_of_getElem? (i := 50) (by decide +kernel))))), by decide +kernel⟩
theorem wl_X5_52 : Cond.methodLink RX5 52 yX4_dropLast ∈ XT := List.mem_filter.mpr ⟨(List.mem_append_right _ (List.mem_append_right _ (List.mem_append_left _ (List.mem_of_getElem? (i := 51) (by decide +kernel))))), by decide +kernel⟩
theorem wi_X4_dropLast : Cond.instanceMethod yX4_dropLast ∈ XT := List.mem_filter.mpr ⟨(List.mem_append_right _ (List.mem_append_right _ (List.mem_append_left _ (List.mem_of_getElem? (i := 52) (by decide +kernel))))), by decide +kernel⟩
theorem ws_X4_dropLast : Cond.selects RX4 yX4_dropLast yX4_dropLast ∈ XT := List.mem_filter.mpr ⟨(List.mem_append_right _ (List.mem_append_right _ (List.mem_append_left _ (List.mem_of_getElem? (i := 53) (by decide +kernel))))), by decide +kernel⟩
theorem wc_X4_dropLast : Cond.code yX4_dropLast cX4_dropLast 3 (some FieldType.int) ∈ XT := List.mem_filter.mpr ⟨(List.mem_append_right _ (List.mem_append_right _ (List.mem_append_left _ (List.mem_of_getElem? (i := 54) (by decide +kernel))))), by decide +kernel⟩
theorem wl_X4_93 : Cond.methodLink RX4 93 yX3_removeLast ∈ XT := List.mem_filter.mpr ⟨(List.mem_append_right _ (List.mem_append_right _ (List.mem_append_left _ (List.mem_of_getElem? (i := 55) (by decide +kernel))))), by decide +kernel⟩
theorem wi_X3_removeLast : Cond.instanceMethod yX3_removeLast ∈ XT := List.mem_filter.mpr ⟨(List.mem_append_right _ (List.mem_append_right _ (List.mem_append_left _ (List.mem_of_getElem? (i := 56) (by decide +kernel))))), by decide +kernel⟩
theorem ws_X3_removeLast : Cond.selects RX3 yX3_removeLast yX3_removeLast ∈ XT := List.mem_filter.mpr ⟨(List.mem_append_right _ (List.mem_append_right _ (List.mem_append_left _ (List.mem_of_getElem? (i := 57) (by decide +kernel))))), by decide +kernel⟩
theorem wc_X3_removeLast : Cond.code yX3_removeLast cX3_removeLast 1 (none) ∈ XT := List.mem_filter.mpr ⟨(List.mem_append_right _ (List.mem_append_right _ (List.mem_append_left _ (List.mem_of_getElem? (i := 58) (by decide +kernel))))), by decide +kernel⟩
theorem wl_L_30 : Cond.methodLink RL 30 yX5_hold ∈ XT := List.mem_filter.mpr ⟨(List.mem_append_right _ (List.mem_append_right _ (List.mem_append_left _ (List.mem_of_getElem? (i := 59) (by decide +kernel))))), by decide +kernel⟩
theorem wi_X5_hold : Cond.instanceMethod yX5_hold ∈ XT := List.mem_filter.mpr ⟨(List.mem_append_right _ (List.mem_append_right _ (List.mem_append_left _ (List.mem_of_getElem? (i := 60) (by decide +kernel))))), by decide +kernel⟩
theorem ws_X5_hold : Cond.selects RX5 yX5_hold yX5_hold ∈ XT := List.mem_filter.mpr ⟨(List.mem_append_right _ (List.mem_append_right _ (List.mem_append_left _ (List.mem_of_getElem? (i := 61) (by decide +kernel))))), by decide +kernel⟩
theorem wc_X5_hold : Cond.code yX5_hold cX5_hold 3 (some FieldType.int) ∈ XT := List.mem_filter.mpr ⟨(List.mem_append_right _ (List.mem_append_right _ (List.mem_append_left _ (List.mem_of_getElem? (i := 62) (by decide +kernel))))), by decide +kernel⟩
theorem wl_X5_59 : Cond.methodLink RX5 59 yX4_giveHold ∈ XT := List.mem_filter.mpr ⟨(List.mem_append_right _ (List.mem_append_right _ (List.mem_append_left _ (List.mem_of_getElem? (i := 63) (by decide +kernel))))), by decide +kernel⟩
theorem wi_X4_giveHold : Cond.instanceMethod yX4_giveHold ∈ XT := List.mem_filter.mpr ⟨(List.mem_append_right _ (List.mem_append_right _ (List.mem_append_left _ (List.mem_of_getElem? (i := 64) (by decide +kernel))))), by decide +kernel⟩
theorem ws_X4_giveHold : Cond.selects RX4 yX4_giveHold yX4_giveHold ∈ XT := List.mem_filter.mpr ⟨(List.mem_append_right _ (List.mem_append_right _ (List.mem_append_left _ (List.mem_of_getElem? (i := 65) (by decide +kernel))))), by decide +kernel⟩
theorem wc_X4_giveHold : Cond.code yX4_giveHold cX4_giveHold 5 (some FieldType.int) ∈ XT := List.mem_filter.mpr ⟨(List.mem_append_right _ (List.mem_append_right _ (List.mem_append_left _ (List.mem_of_getElem? (i := 66) (by decide +kernel))))), by decide +kernel⟩
theorem wl_L_33 : Cond.methodLink RL 33 yX5_stick ∈ XT := List.mem_filter.mpr ⟨(List.mem_append_right _ (List.mem_append_right _ (List.mem_append_left _ (List.mem_of_getElem? (i := 67) (by decide +kernel))))), by decide +kernel⟩
theorem wi_X5_stick : Cond.instanceMethod yX5_stick ∈ XT := List.mem_filter.mpr ⟨(List.mem_append_right _ (List.mem_append_right _ (List.mem_append_left _ (List.mem_of_getElem? (i := 68) (by decide +kernel))))), by decide +kernel⟩
theorem ws_X5_stick : Cond.selects RX5 yX5_stick yX5_stick ∈ XT := List.mem_filter.mpr ⟨(List.mem_append_right _ (List.mem_append_right _ (List.mem_append_left _ (List.mem_of_getElem? (i := 69) (by decide +kernel))))), by decide +kernel⟩
theorem wc_X5_stick : Cond.code yX5_stick cX5_stick 3 (some FieldType.int) ∈ XT := List.mem_filter.mpr ⟨(List.mem_append_right _ (List.mem_append_right _ (List.mem_append_left _ (List.mem_of_getElem? (i := 70) (by decide +kernel))))), by decide +kernel⟩
theorem wl_X5_62 : Cond.methodLink RX5 62 yX4_makeStuck ∈ XT := List.mem_filter.mpr ⟨(List.mem_append_right _ (List.mem_append_right _ (List.mem_append_left _ (List.mem_of_getElem? (i := 71) (by decide +kernel))))), by decide +kernel⟩
theorem wi_X4_makeStuck : Cond.instanceMethod yX4_makeStuck ∈ XT := List.mem_filter.mpr ⟨(List.mem_append_right _ (List.mem_append_right _ (List.mem_append_left _ (List.mem_of_getElem? (i := 72) (by decide +kernel))))), by decide +kernel⟩
theorem ws_X4_makeStuck : Cond.selects RX4 yX4_makeStuck yX4_makeStuck ∈ XT := List.mem_filter.mpr ⟨(List.mem_append_right _ (List.mem_append_right _ (List.mem_append_left _ (List.mem_of_getElem? (i := 73) (by decide +kernel))))), by decide +kernel⟩
theorem wc_X4_makeStuck : Cond.code yX4_makeStuck cX4_makeStuck 4 (some FieldType.int) ∈ XT := List.mem_filter.mpr ⟨(List.mem_append_right _ (List.mem_append_right _ (List.mem_append_left _ (List.mem_of_getElem? (i := 74) (by decide +kernel))))), by decide +kernel⟩
theorem wl_X4_116 : Cond.methodLink RX4 116 yX4_stuckListeners ∈ XT := List.mem_filter.mpr ⟨(List.mem_append_right _ (List.mem_append_right _ (List.mem_append_left _ (List.mem_of_getElem? (i := 75) (by decide +kernel))))), by decide +kernel⟩
theorem wi_X4_stuckListeners : Cond.instanceMethod yX4_stuckListeners ∈ XT := List.mem_filter.mpr ⟨(List.mem_append_right _ (List.mem_append_right _ (List.mem_append_left _ (List.mem_of_getElem? (i := 77) (by decide +kernel))))), by decide +kernel⟩
theorem wc_X4_stuckListeners : Cond.code yX4_stuckListeners cX4_stuckListeners 6 (some FieldType.int) ∈ XT := List.mem_filter.mpr ⟨(List.mem_append_right _ (List.mem_append_right _ (List.mem_append_left _ (List.mem_of_getElem? (i := 78) (by decide +kernel))))), by decide +kernel⟩
theorem wl_L_36 : Cond.methodLink RL 36 yX5_set ∈ XT := List.mem_filter.mpr ⟨(List.mem_append_right _ (List.mem_append_right _ (List.mem_append_left _ (List.mem_of_getElem? (i := 79) (by decide +kernel))))), by decide +kernel⟩
theorem wi_X5_set : Cond.instanceMethod yX5_set ∈ XT := List.mem_filter.mpr ⟨(List.mem_append_right _ (List.mem_append_right _ (List.mem_append_left _ (List.mem_of_getElem? (i := 80) (by decide +kernel))))), by decide +kernel⟩
theorem ws_X5_set : Cond.selects RX5 yX5_set yX5_set ∈ XT := List.mem_filter.mpr ⟨(List.mem_append_right _ (List.mem_append_right _ (List.mem_append_left _ (List.mem_of_getElem? (i := 81) (by decide +kernel))))), by decide +kernel⟩
theorem wc_X5_set : Cond.code yX5_set cX5_set 3 (some FieldType.int) ∈ XT := List.mem_filter.mpr ⟨(List.mem_append_right _ (List.mem_append_right _ (List.mem_append_left _ (List.mem_of_getElem? (i := 82) (by decide +kernel))))), by decide +kernel⟩
theorem wl_X5_65 : Cond.methodLink RX5 65 yX4_changeSetting ∈ XT := List.mem_filter.mpr ⟨(List.mem_append_right _ (List.mem_append_right _ (List.mem_append_left _ (List.mem_of_getElem? (i := 83) (by decide +kernel))))), by decide +kernel⟩
theorem wi_X4_changeSetting : Cond.instanceMethod yX4_changeSetting ∈ XT := List.mem_filter.mpr ⟨(List.mem_append_right _ (List.mem_append_right _ (List.mem_append_left _ (List.mem_of_getElem? (i := 84) (by decide +kernel))))), by decide +kernel⟩
theorem ws_X4_changeSetting : Cond.selects RX4 yX4_changeSetting yX4_changeSetting ∈ XT := List.mem_filter.mpr ⟨(List.mem_append_right _ (List.mem_append_right _ (List.mem_append_left _ (List.mem_of_getElem? (i := 85) (by decide +kernel))))), by decide +kernel⟩
theorem wc_X4_changeSetting : Cond.code yX4_changeSetting cX4_changeSetting 4 (some FieldType.int) ∈ XT := List.mem_filter.mpr ⟨(List.mem_append_right _ (List.mem_append_right _ (List.mem_append_left _ (List.mem_of_getElem? (i := 86) (by decide +kernel))))), by decide +kernel⟩
theorem wn_X4_119 : Cond.fieldLinkNest RX4 119 "PulledWires" "MOST_SETTING" "[I" "PulledWires" ∈ xNW := List.mem_filter.mpr ⟨(List.mem_append_right _ (List.mem_append_right _ (List.mem_append_left _ (List.mem_of_getElem? (i := 87) (by decide +kernel))))), rfl⟩
theorem wl_L_39 : Cond.methodLink RL 39 yX5_run ∈ XT := List.mem_filter.mpr ⟨(List.mem_append_right _ (List.mem_append_right _ (List.mem_append_left _ (List.mem_of_getElem? (i := 89) (by decide +kernel))))), by decide +kernel⟩
theorem wi_X5_run : Cond.instanceMethod yX5_run ∈ XT := List.mem_filter.mpr ⟨(List.mem_append_right _ (List.mem_append_right _ (List.mem_append_left _ (List.mem_of_getElem? (i := 90) (by decide +kernel))))), by decide +kernel⟩
theorem ws_X5_run : Cond.selects RX5 yX5_run yX5_run ∈ XT := List.mem_filter.mpr ⟨(List.mem_append_right _ (List.mem_append_right _ (List.mem_append_left _ (List.mem_of_getElem? (i := 91) (by decide +kernel))))), by decide +kernel⟩
theorem wc_X5_run : Cond.code yX5_run cX5_run 2 (some FieldType.int) ∈ XT := List.mem_filter.mpr ⟨(List.mem_append_right _ (List.mem_append_right _ (List.mem_append_left _ (List.mem_of_getElem? (i := 92) (by decide +kernel))))), by decide +kernel⟩
theorem wl_X5_68 : Cond.methodLink RX5 68 yX4_passTicks ∈ XT := List.mem_filter.mpr ⟨(List.mem_append_right _ (List.mem_append_right _ (List.mem_append_left _ (List.mem_of_getElem? (i := 93) (by decide +kernel))))), by decide +kernel⟩
theorem wi_X4_passTicks : Cond.instanceMethod yX4_passTicks ∈ XT := List.mem_filter.mpr ⟨(List.mem_append_right _ (List.mem_append_right _ (List.mem_append_left _ (List.mem_of_getElem? (i := 94) (by decide +kernel))))), by decide +kernel⟩
theorem ws_X4_passTicks : Cond.selects RX4 yX4_passTicks yX4_passTicks ∈ XT := List.mem_filter.mpr ⟨(List.mem_append_right _ (List.mem_append_right _ (List.mem_append_left _ (List.mem_of_getElem? (i := 95) (by decide +kernel))))), by decide +kernel⟩
theorem wc_X4_passTicks : Cond.code yX4_passTicks cX4_passTicks 4 (some FieldType.int) ∈ XT := List.mem_filter.mpr ⟨(List.mem_append_right _ (List.mem_append_right _ (List.mem_append_left _ (List.mem_of_getElem? (i := 96) (by decide +kernel))))), by decide +kernel⟩
theorem wx_X4_122 : Cond.constant RX4 122 (99999 : Int32) ∈ XT := List.mem_filter.mpr ⟨(List.mem_append_right _ (List.mem_append_right _ (List.mem_append_left _ (List.mem_of_getElem? (i := 97) (by decide +kernel))))), by decide +kernel⟩
theorem wl_X4_123 : Cond.methodLink RX4 123 yX4_messagesThatCame ∈ XT := List.mem_filter.mpr ⟨(List.mem_append_right _ (List.mem_append_right _ (List.mem_append_left _ (List.mem_of_getElem? (i := 98) (by decide +kernel))))), by decide +kernel⟩
theorem wi_X4_messagesThatCame : Cond.instanceMethod yX4_messagesThatCame ∈ XT := List.mem_filter.mpr ⟨(List.mem_append_right _ (List.mem_append_right _ (List.mem_append_left _ (List.mem_of_getElem? (i := 99) (by decide +kernel))))), by decide +kernel⟩
theorem ws_X4_messagesThatCame : Cond.selects RX4 yX4_messagesThatCame yX4_messagesThatCame ∈ XT := List.mem_filter.mpr ⟨(List.mem_append_right _ (List.mem_append_right _ (List.mem_append_left _ (List.mem_of_getElem? (i := 100) (by decide +kernel))))), by decide +kernel⟩
theorem wc_X4_messagesThatCame : Cond.code yX4_messagesThatCame cX4_messagesThatCame 6 (some FieldType.int) ∈ XT := List.mem_filter.mpr ⟨(List.mem_append_right _ (List.mem_append_right _ (List.mem_append_left _ (List.mem_of_getElem? (i := 101) (by decide +kernel))))), by decide +kernel⟩
theorem wl_X4_126 : Cond.methodLink RX4 126 yX4_tick ∈ XT := List.mem_filter.mpr ⟨(List.mem_append_right _ (List.mem_append_right _ (List.mem_append_left _ (List.mem_of_getElem? (i := 102) (by decide +kernel))))), by decide +kernel⟩
theorem wi_X4_tick : Cond.instanceMethod yX4_tick ∈ XT := List.mem_filter.mpr ⟨(List.mem_append_right _ (List.mem_append_right _ (List.mem_append_left _ (List.mem_of_getElem? (i := 103) (by decide +kernel))))), by decide +kernel⟩
theorem ws_X4_tick : Cond.selects RX4 yX4_tick yX4_tick ∈ XT := List.mem_filter.mpr ⟨(List.mem_append_right _ (List.mem_append_right _ (List.mem_append_left _ (List.mem_of_getElem? (i := 104) (by decide +kernel))))), by decide +kernel⟩
theorem wc_X4_tick : Cond.code yX4_tick cX4_tick 2 (none) ∈ XT := List.mem_filter.mpr ⟨(List.mem_append_right _ (List.mem_append_right _ (List.mem_append_left _ (List.mem_of_getElem? (i := 105) (by decide +kernel))))), by decide +kernel⟩
theorem wl_X4_136 : Cond.methodLink RX4 136 yX4_nextTick ∈ XT := List.mem_filter.mpr ⟨(List.mem_append_right _ (List.mem_append_right _ (List.mem_append_left _ (List.mem_of_getElem? (i := 106) (by decide +kernel))))), by decide +kernel⟩
theorem wi_X4_nextTick : Cond.instanceMethod yX4_nextTick ∈ XT := List.mem_filter.mpr ⟨(List.mem_append_right _ (List.mem_append_right _ (List.mem_append_left _ (List.mem_of_getElem? (i := 107) (by decide +kernel))))), by decide +kernel⟩
theorem ws_X4_nextTick : Cond.selects RX4 yX4_nextTick yX4_nextTick ∈ XT := List.mem_filter.mpr ⟨(List.mem_append_right _ (List.mem_append_right _ (List.mem_append_left _ (List.mem_of_getElem? (i := 108) (by decide +kernel))))), by decide +kernel⟩
theorem wc_X4_nextTick : Cond.code yX4_nextTick cX4_nextTick 1 (some FieldType.int) ∈ XT := List.mem_filter.mpr ⟨(List.mem_append_right _ (List.mem_append_right _ (List.mem_append_left _ (List.mem_of_getElem? (i := 109) (by decide +kernel))))), by decide +kernel⟩
theorem wl_X4_129 : Cond.methodLink RX4 129 yX4_talkers ∈ XT := List.mem_filter.mpr ⟨(List.mem_append_right _ (List.mem_append_right _ (List.mem_append_left _ (List.mem_of_getElem? (i := 110) (by decide +kernel))))), by decide +kernel⟩
theorem wi_X4_talkers : Cond.instanceMethod yX4_talkers ∈ XT := List.mem_filter.mpr ⟨(List.mem_append_right _ (List.mem_append_right _ (List.mem_append_left _ (List.mem_of_getElem? (i := 111) (by decide +kernel))))), by decide +kernel⟩
theorem ws_X4_talkers : Cond.selects RX4 yX4_talkers yX4_talkers ∈ XT := List.mem_filter.mpr ⟨(List.mem_append_right _ (List.mem_append_right _ (List.mem_append_left _ (List.mem_of_getElem? (i := 112) (by decide +kernel))))), by decide +kernel⟩
theorem wc_X4_talkers : Cond.code yX4_talkers cX4_talkers 3 (some FieldType.int) ∈ XT := List.mem_filter.mpr ⟨(List.mem_append_right _ (List.mem_append_right _ (List.mem_append_left _ (List.mem_of_getElem? (i := 113) (by decide +kernel))))), by decide +kernel⟩
theorem wl_X4_132 : Cond.methodLinkNest RX4 132 yX5_isPlace "PulledWires" ∈ xNW := List.mem_filter.mpr ⟨(List.mem_append_right _ (List.mem_append_right _ (List.mem_append_left _ (List.mem_of_getElem? (i := 114) (by decide +kernel))))), rfl⟩
theorem wt_X5_isPlace : Cond.static yX5_isPlace ∈ XT := List.mem_filter.mpr ⟨(List.mem_append_right _ (List.mem_append_right _ (List.mem_append_left _ (List.mem_of_getElem? (i := 115) (by decide +kernel))))), by decide +kernel⟩
theorem wc_X5_isPlace : Cond.code yX5_isPlace cX5_isPlace 1 (some FieldType.boolean) ∈ XT := List.mem_filter.mpr ⟨(List.mem_append_right _ (List.mem_append_right _ (List.mem_append_left _ (List.mem_of_getElem? (i := 116) (by decide +kernel))))), by decide +kernel⟩
theorem wl_X4_139 : Cond.methodLink RX4 139 yX4_stuckTick ∈ XT := List.mem_filter.mpr ⟨(List.mem_append_right _ (List.mem_append_right _ (List.mem_append_left _ (List.mem_of_getElem? (i := 117) (by decide +kernel))))), by decide +kernel⟩
theorem wi_X4_stuckTick : Cond.instanceMethod yX4_stuckTick ∈ XT := List.mem_filter.mpr ⟨(List.mem_append_right _ (List.mem_append_right _ (List.mem_append_left _ (List.mem_of_getElem? (i := 119) (by decide +kernel))))), by decide +kernel⟩
theorem wc_X4_stuckTick : Cond.code yX4_stuckTick cX4_stuckTick 6 (none) ∈ XT := List.mem_filter.mpr ⟨(List.mem_append_right _ (List.mem_append_right _ (List.mem_append_left _ (List.mem_of_getElem? (i := 120) (by decide +kernel))))), by decide +kernel⟩
theorem wl_X4_151 : Cond.methodLink RX4 151 yX4_sendersOf ∈ XT := List.mem_filter.mpr ⟨(List.mem_append_right _ (List.mem_append_right _ (List.mem_append_left _ (List.mem_of_getElem? (i := 121) (by decide +kernel))))), by decide +kernel⟩
theorem wi_X4_sendersOf : Cond.instanceMethod yX4_sendersOf ∈ XT := List.mem_filter.mpr ⟨(List.mem_append_right _ (List.mem_append_right _ (List.mem_append_left _ (List.mem_of_getElem? (i := 122) (by decide +kernel))))), by decide +kernel⟩
theorem ws_X4_sendersOf : Cond.selects RX4 yX4_sendersOf yX4_sendersOf ∈ XT := List.mem_filter.mpr ⟨(List.mem_append_right _ (List.mem_append_right _ (List.mem_append_left _ (List.mem_of_getElem? (i := 123) (by decide +kernel))))), by decide +kernel⟩
theorem wc_X4_sendersOf : Cond.code yX4_sendersOf cX4_sendersOf 9 (some FieldType.int) ∈ XT := List.mem_filter.mpr ⟨(List.mem_append_right _ (List.mem_append_right _ (List.mem_append_left _ (List.mem_of_getElem? (i := 124) (by decide +kernel))))), by decide +kernel⟩
theorem wl_X4_211 : Cond.methodLink RX4 211 yX3_part ∈ XT := List.mem_filter.mpr ⟨(List.mem_append_right _ (List.mem_append_right _ (List.mem_append_left _ (List.mem_of_getElem? (i := 125) (by decide +kernel))))), by decide +kernel⟩
theorem wi_X3_part : Cond.instanceMethod yX3_part ∈ XT := List.mem_filter.mpr ⟨(List.mem_append_right _ (List.mem_append_right _ (List.mem_append_left _ (List.mem_of_getElem? (i := 126) (by decide +kernel))))), by decide +kernel⟩
theorem ws_X3_part : Cond.selects RX3 yX3_part yX3_part ∈ XT := List.mem_filter.mpr ⟨(List.mem_append_right _ (List.mem_append_right _ (List.mem_append_left _ (List.mem_of_getElem? (i := 127) (by decide +kernel))))), by decide +kernel⟩
theorem wc_X3_part : Cond.code yX3_part cX3_part 4 (some FieldType.int) ∈ XT := List.mem_filter.mpr ⟨(List.mem_append_right _ (List.mem_append_right _ (List.mem_append_left _ (List.mem_of_getElem? (i := 128) (by decide +kernel))))), by decide +kernel⟩
theorem wl_X4_203 : Cond.methodLink RX4 203 yX4_isIn ∈ XT := List.mem_filter.mpr ⟨(List.mem_append_right _ (List.mem_append_right _ (List.mem_append_left _ (List.mem_of_getElem? (i := 129) (by decide +kernel))))), by decide +kernel⟩
theorem wt_X4_isIn : Cond.static yX4_isIn ∈ XT := List.mem_filter.mpr ⟨(List.mem_append_right _ (List.mem_append_right _ (List.mem_append_left _ (List.mem_of_getElem? (i := 130) (by decide +kernel))))), by decide +kernel⟩
theorem wc_X4_isIn : Cond.code yX4_isIn cX4_isIn 2 (some FieldType.boolean) ∈ XT := List.mem_filter.mpr ⟨(List.mem_append_right _ (List.mem_append_right _ (List.mem_append_left _ (List.mem_of_getElem? (i := 131) (by decide +kernel))))), by decide +kernel⟩
theorem wl_X4_155 : Cond.methodLink RX4 155 yX4_lose ∈ XT := List.mem_filter.mpr ⟨(List.mem_append_right _ (List.mem_append_right _ (List.mem_append_left _ (List.mem_of_getElem? (i := 132) (by decide +kernel))))), by decide +kernel⟩
theorem wi_X4_lose : Cond.instanceMethod yX4_lose ∈ XT := List.mem_filter.mpr ⟨(List.mem_append_right _ (List.mem_append_right _ (List.mem_append_left _ (List.mem_of_getElem? (i := 134) (by decide +kernel))))), by decide +kernel⟩
theorem wc_X4_lose : Cond.code yX4_lose cX4_lose 3 (none) ∈ XT := List.mem_filter.mpr ⟨(List.mem_append_right _ (List.mem_append_right _ (List.mem_append_left _ (List.mem_of_getElem? (i := 135) (by decide +kernel))))), by decide +kernel⟩
theorem wl_X4_206 : Cond.methodLink RX4 206 yX3_lose ∈ XT := List.mem_filter.mpr ⟨(List.mem_append_right _ (List.mem_append_right _ (List.mem_append_left _ (List.mem_of_getElem? (i := 136) (by decide +kernel))))), by decide +kernel⟩
theorem wi_X3_lose : Cond.instanceMethod yX3_lose ∈ XT := List.mem_filter.mpr ⟨(List.mem_append_right _ (List.mem_append_right _ (List.mem_append_left _ (List.mem_of_getElem? (i := 137) (by decide +kernel))))), by decide +kernel⟩
theorem ws_X3_lose : Cond.selects RX3 yX3_lose yX3_lose ∈ XT := List.mem_filter.mpr ⟨(List.mem_append_right _ (List.mem_append_right _ (List.mem_append_left _ (List.mem_of_getElem? (i := 138) (by decide +kernel))))), by decide +kernel⟩
theorem wc_X3_lose : Cond.code yX3_lose cX3_lose 1 (none) ∈ XT := List.mem_filter.mpr ⟨(List.mem_append_right _ (List.mem_append_right _ (List.mem_append_left _ (List.mem_of_getElem? (i := 139) (by decide +kernel))))), by decide +kernel⟩
theorem wl_X4_159 : Cond.methodLink RX4 159 yX4_endTalkIfEmpty ∈ XT := List.mem_filter.mpr ⟨(List.mem_append_right _ (List.mem_append_right _ (List.mem_append_left _ (List.mem_of_getElem? (i := 140) (by decide +kernel))))), by decide +kernel⟩
theorem wi_X4_endTalkIfEmpty : Cond.instanceMethod yX4_endTalkIfEmpty ∈ XT := List.mem_filter.mpr ⟨(List.mem_append_right _ (List.mem_append_right _ (List.mem_append_left _ (List.mem_of_getElem? (i := 142) (by decide +kernel))))), by decide +kernel⟩
theorem wc_X4_endTalkIfEmpty : Cond.code yX4_endTalkIfEmpty cX4_endTalkIfEmpty 1 (none) ∈ XT := List.mem_filter.mpr ⟨(List.mem_append_right _ (List.mem_append_right _ (List.mem_append_left _ (List.mem_of_getElem? (i := 143) (by decide +kernel))))), by decide +kernel⟩
theorem wl_X4_162 : Cond.methodLink RX4 162 yX4_setting ∈ XT := List.mem_filter.mpr ⟨(List.mem_append_right _ (List.mem_append_right _ (List.mem_append_left _ (List.mem_of_getElem? (i := 144) (by decide +kernel))))), by decide +kernel⟩
theorem wi_X4_setting : Cond.instanceMethod yX4_setting ∈ XT := List.mem_filter.mpr ⟨(List.mem_append_right _ (List.mem_append_right _ (List.mem_append_left _ (List.mem_of_getElem? (i := 145) (by decide +kernel))))), by decide +kernel⟩
theorem ws_X4_setting : Cond.selects RX4 yX4_setting yX4_setting ∈ XT := List.mem_filter.mpr ⟨(List.mem_append_right _ (List.mem_append_right _ (List.mem_append_left _ (List.mem_of_getElem? (i := 146) (by decide +kernel))))), by decide +kernel⟩
theorem wc_X4_setting : Cond.code yX4_setting cX4_setting 2 (some FieldType.int) ∈ XT := List.mem_filter.mpr ⟨(List.mem_append_right _ (List.mem_append_right _ (List.mem_append_left _ (List.mem_of_getElem? (i := 147) (by decide +kernel))))), by decide +kernel⟩
theorem wl_X4_166 : Cond.methodLink RX4 166 yJ9_max_7cf53 ∈ XT := List.mem_filter.mpr ⟨(List.mem_append_right _ (List.mem_append_right _ (List.mem_append_left _ (List.mem_of_getElem? (i := 148) (by decide +kernel))))), by decide +kernel⟩
theorem wt_J9_max_7cf53 : Cond.static yJ9_max_7cf53 ∈ XT := List.mem_filter.mpr ⟨(List.mem_append_right _ (List.mem_append_right _ (List.mem_append_left _ (List.mem_of_getElem? (i := 149) (by decide +kernel))))), by decide +kernel⟩
theorem wc_J9_max_7cf53 : Cond.code yJ9_max_7cf53 cJ9_max_7cf53 2 (some FieldType.int) ∈ XT := List.mem_filter.mpr ⟨(List.mem_append_right _ (List.mem_append_right _ (List.mem_append_left _ (List.mem_of_getElem? (i := 150) (by decide +kernel))))), by decide +kernel⟩
theorem wl_X4_142 : Cond.methodLink RX4 142 yX4_sendBit ∈ XT := List.mem_filter.mpr ⟨(List.mem_append_right _ (List.mem_append_right _ (List.mem_append_left _ (List.mem_of_getElem? (i := 151) (by decide +kernel))))), by decide +kernel⟩
theorem wi_X4_sendBit : Cond.instanceMethod yX4_sendBit ∈ XT := List.mem_filter.mpr ⟨(List.mem_append_right _ (List.mem_append_right _ (List.mem_append_left _ (List.mem_of_getElem? (i := 153) (by decide +kernel))))), by decide +kernel⟩
theorem wc_X4_sendBit : Cond.code yX4_sendBit cX4_sendBit 4 (none) ∈ XT := List.mem_filter.mpr ⟨(List.mem_append_right _ (List.mem_append_right _ (List.mem_append_left _ (List.mem_of_getElem? (i := 154) (by decide +kernel))))), by decide +kernel⟩
theorem wl_X4_172 : Cond.methodLink RX4 172 yJ6_bitCount_0f7a4 ∈ XT := List.mem_filter.mpr ⟨(List.mem_append_right _ (List.mem_append_right _ (List.mem_append_left _ (List.mem_of_getElem? (i := 155) (by decide +kernel))))), by decide +kernel⟩
theorem wt_J6_bitCount_0f7a4 : Cond.static yJ6_bitCount_0f7a4 ∈ XT := List.mem_filter.mpr ⟨(List.mem_append_right _ (List.mem_append_right _ (List.mem_append_left _ (List.mem_of_getElem? (i := 156) (by decide +kernel))))), by decide +kernel⟩
theorem wc_J6_bitCount_0f7a4 : Cond.code yJ6_bitCount_0f7a4 cJ6_bitCount_0f7a4 1 (some FieldType.int) ∈ XT := List.mem_filter.mpr ⟨(List.mem_append_right _ (List.mem_append_right _ (List.mem_append_left _ (List.mem_of_getElem? (i := 157) (by decide +kernel))))), by decide +kernel⟩
theorem wx_J6_265 : Cond.constant RJ6 265 (1431655765 : Int32) ∈ XT := List.mem_filter.mpr ⟨(List.mem_append_right _ (List.mem_append_right _ (List.mem_append_left _ (List.mem_of_getElem? (i := 158) (by decide +kernel))))), by decide +kernel⟩
theorem wx_J6_266 : Cond.constant RJ6 266 (858993459 : Int32) ∈ XT := List.mem_filter.mpr ⟨(List.mem_append_right _ (List.mem_append_right _ (List.mem_append_left _ (List.mem_of_getElem? (i := 159) (by decide +kernel))))), by decide +kernel⟩
theorem wx_J6_267 : Cond.constant RJ6 267 (252645135 : Int32) ∈ XT := List.mem_filter.mpr ⟨(List.mem_append_right _ (List.mem_append_right _ (List.mem_append_left _ (List.mem_of_getElem? (i := 160) (by decide +kernel))))), by decide +kernel⟩
theorem wl_X4_177 : Cond.methodLink RX4 177 yX0_add ∈ XT := List.mem_filter.mpr ⟨(List.mem_append_right _ (List.mem_append_right _ (List.mem_append_left _ (List.mem_of_getElem? (i := 161) (by decide +kernel))))), by decide +kernel⟩
theorem wi_X0_add : Cond.instanceMethod yX0_add ∈ XT := List.mem_filter.mpr ⟨(List.mem_append_right _ (List.mem_append_right _ (List.mem_append_left _ (List.mem_of_getElem? (i := 162) (by decide +kernel))))), by decide +kernel⟩
theorem ws_X0_add : Cond.selects RX0 yX0_add yX0_add ∈ XT := List.mem_filter.mpr ⟨(List.mem_append_right _ (List.mem_append_right _ (List.mem_append_left _ (List.mem_of_getElem? (i := 163) (by decide +kernel))))), by decide +kernel⟩
theorem wc_X0_add : Cond.code yX0_add cX0_add 6 (none) ∈ XT := List.mem_filter.mpr ⟨(List.mem_append_right _ (List.mem_append_right _ (List.mem_append_left _ (List.mem_of_getElem? (i := 164) (by decide +kernel))))), by decide +kernel⟩
theorem wl_X0_28 : Cond.methodLink RX0 28 yJ9_floorMod_7cf53 ∈ XT := List.mem_filter.mpr ⟨(List.mem_append_right _ (List.mem_append_right _ (List.mem_append_left _ (List.mem_of_getElem? (i := 165) (by decide +kernel))))), by decide +kernel⟩
theorem wt_J9_floorMod_7cf53 : Cond.static yJ9_floorMod_7cf53 ∈ XT := List.mem_filter.mpr ⟨(List.mem_append_right _ (List.mem_append_right _ (List.mem_append_left _ (List.mem_of_getElem? (i := 166) (by decide +kernel))))), by decide +kernel⟩
theorem wc_J9_floorMod_7cf53 : Cond.code yJ9_floorMod_7cf53 cJ9_floorMod_7cf53 3 (some FieldType.int) ∈ XT := List.mem_filter.mpr ⟨(List.mem_append_right _ (List.mem_append_right _ (List.mem_append_left _ (List.mem_of_getElem? (i := 167) (by decide +kernel))))), by decide +kernel⟩
theorem wl_X0_34 : Cond.methodLink RX0 34 yJ9_min_7cf53 ∈ XT := List.mem_filter.mpr ⟨(List.mem_append_right _ (List.mem_append_right _ (List.mem_append_left _ (List.mem_of_getElem? (i := 168) (by decide +kernel))))), by decide +kernel⟩
theorem wt_J9_min_7cf53 : Cond.static yJ9_min_7cf53 ∈ XT := List.mem_filter.mpr ⟨(List.mem_append_right _ (List.mem_append_right _ (List.mem_append_left _ (List.mem_of_getElem? (i := 169) (by decide +kernel))))), by decide +kernel⟩
theorem wc_J9_min_7cf53 : Cond.code yJ9_min_7cf53 cJ9_min_7cf53 2 (some FieldType.int) ∈ XT := List.mem_filter.mpr ⟨(List.mem_append_right _ (List.mem_append_right _ (List.mem_append_left _ (List.mem_of_getElem? (i := 170) (by decide +kernel))))), by decide +kernel⟩
theorem wl_X4_181 : Cond.methodLink RX4 181 yX4_partOfTalk ∈ XT := List.mem_filter.mpr ⟨(List.mem_append_right _ (List.mem_append_right _ (List.mem_append_left _ (List.mem_of_getElem? (i := 171) (by decide +kernel))))), by decide +kernel⟩
theorem wi_X4_partOfTalk : Cond.instanceMethod yX4_partOfTalk ∈ XT := List.mem_filter.mpr ⟨(List.mem_append_right _ (List.mem_append_right _ (List.mem_append_left _ (List.mem_of_getElem? (i := 173) (by decide +kernel))))), by decide +kernel⟩
theorem wc_X4_partOfTalk : Cond.code yX4_partOfTalk cX4_partOfTalk 6 (some FieldType.int) ∈ XT := List.mem_filter.mpr ⟨(List.mem_append_right _ (List.mem_append_right _ (List.mem_append_left _ (List.mem_of_getElem? (i := 174) (by decide +kernel))))), by decide +kernel⟩
theorem wl_X4_184 : Cond.methodLink RX4 184 yX4_holdFor ∈ XT := List.mem_filter.mpr ⟨(List.mem_append_right _ (List.mem_append_right _ (List.mem_append_left _ (List.mem_of_getElem? (i := 175) (by decide +kernel))))), by decide +kernel⟩
theorem wi_X4_holdFor : Cond.instanceMethod yX4_holdFor ∈ XT := List.mem_filter.mpr ⟨(List.mem_append_right _ (List.mem_append_right _ (List.mem_append_left _ (List.mem_of_getElem? (i := 176) (by decide +kernel))))), by decide +kernel⟩
theorem ws_X4_holdFor : Cond.selects RX4 yX4_holdFor yX4_holdFor ∈ XT := List.mem_filter.mpr ⟨(List.mem_append_right _ (List.mem_append_right _ (List.mem_append_left _ (List.mem_of_getElem? (i := 177) (by decide +kernel))))), by decide +kernel⟩
theorem wc_X4_holdFor : Cond.code yX4_holdFor cX4_holdFor 3 (some FieldType.int) ∈ XT := List.mem_filter.mpr ⟨(List.mem_append_right _ (List.mem_append_right _ (List.mem_append_left _ (List.mem_of_getElem? (i := 178) (by decide +kernel))))), by decide +kernel⟩
theorem wl_X4_145 : Cond.methodLink RX4 145 yX4_awaitAnswer ∈ XT := List.mem_filter.mpr ⟨(List.mem_append_right _ (List.mem_append_right _ (List.mem_append_left _ (List.mem_of_getElem? (i := 179) (by decide +kernel))))), by decide +kernel⟩
theorem wi_X4_awaitAnswer : Cond.instanceMethod yX4_awaitAnswer ∈ XT := List.mem_filter.mpr ⟨(List.mem_append_right _ (List.mem_append_right _ (List.mem_append_left _ (List.mem_of_getElem? (i := 181) (by decide +kernel))))), by decide +kernel⟩
theorem wc_X4_awaitAnswer : Cond.code yX4_awaitAnswer cX4_awaitAnswer 6 (none) ∈ XT := List.mem_filter.mpr ⟨(List.mem_append_right _ (List.mem_append_right _ (List.mem_append_left _ (List.mem_of_getElem? (i := 182) (by decide +kernel))))), by decide +kernel⟩
theorem wl_X4_187 : Cond.methodLink RX4 187 yX1_takeWord ∈ XT := List.mem_filter.mpr ⟨(List.mem_append_right _ (List.mem_append_right _ (List.mem_append_left _ (List.mem_of_getElem? (i := 183) (by decide +kernel))))), by decide +kernel⟩
theorem wi_X1_takeWord : Cond.instanceMethod yX1_takeWord ∈ XT := List.mem_filter.mpr ⟨(List.mem_append_right _ (List.mem_append_right _ (List.mem_append_left _ (List.mem_of_getElem? (i := 184) (by decide +kernel))))), by decide +kernel⟩
theorem ws_X1_takeWord : Cond.selects RX1 yX1_takeWord yX1_takeWord ∈ XT := List.mem_filter.mpr ⟨(List.mem_append_right _ (List.mem_append_right _ (List.mem_append_left _ (List.mem_of_getElem? (i := 185) (by decide +kernel))))), by decide +kernel⟩
theorem wc_X1_takeWord : Cond.code yX1_takeWord cX1_takeWord 2 (none) ∈ XT := List.mem_filter.mpr ⟨(List.mem_append_right _ (List.mem_append_right _ (List.mem_append_left _ (List.mem_of_getElem? (i := 186) (by decide +kernel))))), by decide +kernel⟩
theorem wl_X4_190 : Cond.methodLink RX4 190 yX3_failMessage ∈ XT := List.mem_filter.mpr ⟨(List.mem_append_right _ (List.mem_append_right _ (List.mem_append_left _ (List.mem_of_getElem? (i := 187) (by decide +kernel))))), by decide +kernel⟩
theorem wi_X3_failMessage : Cond.instanceMethod yX3_failMessage ∈ XT := List.mem_filter.mpr ⟨(List.mem_append_right _ (List.mem_append_right _ (List.mem_append_left _ (List.mem_of_getElem? (i := 188) (by decide +kernel))))), by decide +kernel⟩
theorem ws_X3_failMessage : Cond.selects RX3 yX3_failMessage yX3_failMessage ∈ XT := List.mem_filter.mpr ⟨(List.mem_append_right _ (List.mem_append_right _ (List.mem_append_left _ (List.mem_of_getElem? (i := 189) (by decide +kernel))))), by decide +kernel⟩
theorem wc_X3_failMessage : Cond.code yX3_failMessage cX3_failMessage 2 (none) ∈ XT := List.mem_filter.mpr ⟨(List.mem_append_right _ (List.mem_append_right _ (List.mem_append_left _ (List.mem_of_getElem? (i := 190) (by decide +kernel))))), by decide +kernel⟩
theorem wl_X3_48 : Cond.methodLink RX3 48 yX3_removeFirst ∈ XT := List.mem_filter.mpr ⟨(List.mem_append_right _ (List.mem_append_right _ (List.mem_append_left _ (List.mem_of_getElem? (i := 191) (by decide +kernel))))), by decide +kernel⟩
theorem wi_X3_removeFirst : Cond.instanceMethod yX3_removeFirst ∈ XT := List.mem_filter.mpr ⟨(List.mem_append_right _ (List.mem_append_right _ (List.mem_append_left _ (List.mem_of_getElem? (i := 193) (by decide +kernel))))), by decide +kernel⟩
theorem wc_X3_removeFirst : Cond.code yX3_removeFirst cX3_removeFirst 1 (none) ∈ XT := List.mem_filter.mpr ⟨(List.mem_append_right _ (List.mem_append_right _ (List.mem_append_left _ (List.mem_of_getElem? (i := 194) (by decide +kernel))))), by decide +kernel⟩
theorem wl_X4_193 : Cond.methodLink RX4 193 yX4_endsAt ∈ XT := List.mem_filter.mpr ⟨(List.mem_append_right _ (List.mem_append_right _ (List.mem_append_left _ (List.mem_of_getElem? (i := 195) (by decide +kernel))))), by decide +kernel⟩
theorem wt_X4_endsAt : Cond.static yX4_endsAt ∈ XT := List.mem_filter.mpr ⟨(List.mem_append_right _ (List.mem_append_right _ (List.mem_append_left _ (List.mem_of_getElem? (i := 196) (by decide +kernel))))), by decide +kernel⟩
theorem wc_X4_endsAt : Cond.code yX4_endsAt cX4_endsAt 2 (some FieldType.boolean) ∈ XT := List.mem_filter.mpr ⟨(List.mem_append_right _ (List.mem_append_right _ (List.mem_append_left _ (List.mem_of_getElem? (i := 197) (by decide +kernel))))), by decide +kernel⟩
theorem wl_X4_214 : Cond.methodLink RX4 214 yX3_partsAt ∈ XT := List.mem_filter.mpr ⟨(List.mem_append_right _ (List.mem_append_right _ (List.mem_append_left _ (List.mem_of_getElem? (i := 198) (by decide +kernel))))), by decide +kernel⟩
theorem wi_X3_partsAt : Cond.instanceMethod yX3_partsAt ∈ XT := List.mem_filter.mpr ⟨(List.mem_append_right _ (List.mem_append_right _ (List.mem_append_left _ (List.mem_of_getElem? (i := 199) (by decide +kernel))))), by decide +kernel⟩
theorem ws_X3_partsAt : Cond.selects RX3 yX3_partsAt yX3_partsAt ∈ XT := List.mem_filter.mpr ⟨(List.mem_append_right _ (List.mem_append_right _ (List.mem_append_left _ (List.mem_of_getElem? (i := 200) (by decide +kernel))))), by decide +kernel⟩
theorem wc_X3_partsAt : Cond.code yX3_partsAt cX3_partsAt 2 (some FieldType.int) ∈ XT := List.mem_filter.mpr ⟨(List.mem_append_right _ (List.mem_append_right _ (List.mem_append_left _ (List.mem_of_getElem? (i := 201) (by decide +kernel))))), by decide +kernel⟩
theorem wl_X3_51 : Cond.methodLink RX3 51 yX3_part ∈ XT := List.mem_filter.mpr ⟨(List.mem_append_right _ (List.mem_append_right _ (List.mem_append_left _ (List.mem_of_getElem? (i := 202) (by decide +kernel))))), by decide +kernel⟩
theorem wl_X4_197 : Cond.methodLink RX4 197 yX3_bringMessage ∈ XT := List.mem_filter.mpr ⟨(List.mem_append_right _ (List.mem_append_right _ (List.mem_append_left _ (List.mem_of_getElem? (i := 203) (by decide +kernel))))), by decide +kernel⟩
theorem wi_X3_bringMessage : Cond.instanceMethod yX3_bringMessage ∈ XT := List.mem_filter.mpr ⟨(List.mem_append_right _ (List.mem_append_right _ (List.mem_append_left _ (List.mem_of_getElem? (i := 204) (by decide +kernel))))), by decide +kernel⟩
theorem ws_X3_bringMessage : Cond.selects RX3 yX3_bringMessage yX3_bringMessage ∈ XT := List.mem_filter.mpr ⟨(List.mem_append_right _ (List.mem_append_right _ (List.mem_append_left _ (List.mem_of_getElem? (i := 205) (by decide +kernel))))), by decide +kernel⟩
theorem wc_X3_bringMessage : Cond.code yX3_bringMessage cX3_bringMessage 1 (none) ∈ XT := List.mem_filter.mpr ⟨(List.mem_append_right _ (List.mem_append_right _ (List.mem_append_left _ (List.mem_of_getElem? (i := 206) (by decide +kernel))))), by decide +kernel⟩
theorem wl_X4_148 : Cond.methodLink RX4 148 yX4_freeTick ∈ XT := List.mem_filter.mpr ⟨(List.mem_append_right _ (List.mem_append_right _ (List.mem_append_left _ (List.mem_of_getElem? (i := 207) (by decide +kernel))))), by decide +kernel⟩
theorem wi_X4_freeTick : Cond.instanceMethod yX4_freeTick ∈ XT := List.mem_filter.mpr ⟨(List.mem_append_right _ (List.mem_append_right _ (List.mem_append_left _ (List.mem_of_getElem? (i := 209) (by decide +kernel))))), by decide +kernel⟩
theorem wc_X4_freeTick : Cond.code yX4_freeTick cX4_freeTick 3 (none) ∈ XT := List.mem_filter.mpr ⟨(List.mem_append_right _ (List.mem_append_right _ (List.mem_append_left _ (List.mem_of_getElem? (i := 210) (by decide +kernel))))), by decide +kernel⟩
theorem wl_X4_200 : Cond.methodLink RX4 200 yX4_speakersWithMessage ∈ XT := List.mem_filter.mpr ⟨(List.mem_append_right _ (List.mem_append_right _ (List.mem_append_left _ (List.mem_of_getElem? (i := 211) (by decide +kernel))))), by decide +kernel⟩
theorem wi_X4_speakersWithMessage : Cond.instanceMethod yX4_speakersWithMessage ∈ XT := List.mem_filter.mpr ⟨(List.mem_append_right _ (List.mem_append_right _ (List.mem_append_left _ (List.mem_of_getElem? (i := 212) (by decide +kernel))))), by decide +kernel⟩
theorem ws_X4_speakersWithMessage : Cond.selects RX4 yX4_speakersWithMessage yX4_speakersWithMessage ∈ XT := List.mem_filter.mpr ⟨(List.mem_append_right _ (List.mem_append_right _ (List.mem_append_left _ (List.mem_of_getElem? (i := 213) (by decide +kernel))))), by decide +kernel⟩
theorem wc_X4_speakersWithMessage : Cond.code yX4_speakersWithMessage cX4_speakersWithMessage 3 (some FieldType.int) ∈ XT := List.mem_filter.mpr ⟨(List.mem_append_right _ (List.mem_append_right _ (List.mem_append_left _ (List.mem_of_getElem? (i := 214) (by decide +kernel))))), by decide +kernel⟩
theorem wl_L_77 : Cond.methodLink RL 77 yL_areCountsSo ∈ XT := List.mem_filter.mpr ⟨(List.mem_append_right _ (List.mem_append_right _ (List.mem_append_left _ (List.mem_of_getElem? (i := 215) (by decide +kernel))))), by decide +kernel⟩
theorem wt_L_areCountsSo : Cond.static yL_areCountsSo ∈ XT := List.mem_filter.mpr ⟨(List.mem_append_right _ (List.mem_append_right _ (List.mem_append_left _ (List.mem_of_getElem? (i := 216) (by decide +kernel))))), by decide +kernel⟩
theorem wc_L_areCountsSo : Cond.code yL_areCountsSo cL_areCountsSo 10 (some FieldType.boolean) ∈ XT := List.mem_filter.mpr ⟨(List.mem_append_right _ (List.mem_append_right _ (List.mem_append_left _ (List.mem_of_getElem? (i := 217) (by decide +kernel))))), by decide +kernel⟩
theorem wl_L_42 : Cond.methodLink RL 42 yX5_listener ∈ XT := List.mem_filter.mpr ⟨(List.mem_append_right _ (List.mem_append_right _ (List.mem_append_left _ (List.mem_of_getElem? (i := 218) (by decide +kernel))))), by decide +kernel⟩
theorem wi_X5_listener : Cond.instanceMethod yX5_listener ∈ XT := List.mem_filter.mpr ⟨(List.mem_append_right _ (List.mem_append_right _ (List.mem_append_left _ (List.mem_of_getElem? (i := 219) (by decide +kernel))))), by decide +kernel⟩
theorem ws_X5_listener : Cond.selects RX5 yX5_listener yX5_listener ∈ XT := List.mem_filter.mpr ⟨(List.mem_append_right _ (List.mem_append_right _ (List.mem_append_left _ (List.mem_of_getElem? (i := 220) (by decide +kernel))))), by decide +kernel⟩
theorem wc_X5_listener : Cond.code yX5_listener cX5_listener 4 (some FieldType.int) ∈ XT := List.mem_filter.mpr ⟨(List.mem_append_right _ (List.mem_append_right _ (List.mem_append_left _ (List.mem_of_getElem? (i := 221) (by decide +kernel))))), by decide +kernel⟩
theorem wl_X5_145 : Cond.methodLink RX5 145 yX4_listenerAt ∈ XT := List.mem_filter.mpr ⟨(List.mem_append_right _ (List.mem_append_right _ (List.mem_append_left _ (List.mem_of_getElem? (i := 222) (by decide +kernel))))), by decide +kernel⟩
theorem wl_L_45 : Cond.methodLink RL 45 yX5_message ∈ XT := List.mem_filter.mpr ⟨(List.mem_append_right _ (List.mem_append_right _ (List.mem_append_left _ (List.mem_of_getElem? (i := 223) (by decide +kernel))))), by decide +kernel⟩
theorem wi_X5_message : Cond.instanceMethod yX5_message ∈ XT := List.mem_filter.mpr ⟨(List.mem_append_right _ (List.mem_append_right _ (List.mem_append_left _ (List.mem_of_getElem? (i := 224) (by decide +kernel))))), by decide +kernel⟩
theorem ws_X5_message : Cond.selects RX5 yX5_message yX5_message ∈ XT := List.mem_filter.mpr ⟨(List.mem_append_right _ (List.mem_append_right _ (List.mem_append_left _ (List.mem_of_getElem? (i := 225) (by decide +kernel))))), by decide +kernel⟩
theorem wc_X5_message : Cond.code yX5_message cX5_message 5 (some FieldType.int) ∈ XT := List.mem_filter.mpr ⟨(List.mem_append_right _ (List.mem_append_right _ (List.mem_append_left _ (List.mem_of_getElem? (i := 226) (by decide +kernel))))), by decide +kernel⟩
theorem wl_X5_136 : Cond.methodLink RX5 136 yX3_part ∈ XT := List.mem_filter.mpr ⟨(List.mem_append_right _ (List.mem_append_right _ (List.mem_append_left _ (List.mem_of_getElem? (i := 227) (by decide +kernel))))), by decide +kernel⟩
theorem wl_X5_139 : Cond.methodLink RX5 139 yX3_partsAt ∈ XT := List.mem_filter.mpr ⟨(List.mem_append_right _ (List.mem_append_right _ (List.mem_append_left _ (List.mem_of_getElem? (i := 228) (by decide +kernel))))), by decide +kernel⟩
theorem wl_X5_142 : Cond.methodLink RX5 142 yX4_holdFor ∈ XT := List.mem_filter.mpr ⟨(List.mem_append_right _ (List.mem_append_right _ (List.mem_append_left _ (List.mem_of_getElem? (i := 229) (by decide +kernel))))), by decide +kernel⟩
theorem wl_L_49 : Cond.methodLink RL 49 yX5_count ∈ XT := List.mem_filter.mpr ⟨(List.mem_append_right _ (List.mem_append_right _ (List.mem_append_left _ (List.mem_of_getElem? (i := 230) (by decide +kernel))))), by decide +kernel⟩
theorem wi_X5_count : Cond.instanceMethod yX5_count ∈ XT := List.mem_filter.mpr ⟨(List.mem_append_right _ (List.mem_append_right _ (List.mem_append_left _ (List.mem_of_getElem? (i := 231) (by decide +kernel))))), by decide +kernel⟩
theorem ws_X5_count : Cond.selects RX5 yX5_count yX5_count ∈ XT := List.mem_filter.mpr ⟨(List.mem_append_right _ (List.mem_append_right _ (List.mem_append_left _ (List.mem_of_getElem? (i := 232) (by decide +kernel))))), by decide +kernel⟩
theorem wc_X5_count : Cond.code yX5_count cX5_count 2 (some FieldType.int) ∈ XT := List.mem_filter.mpr ⟨(List.mem_append_right _ (List.mem_append_right _ (List.mem_append_left _ (List.mem_of_getElem? (i := 233) (by decide +kernel))))), by decide +kernel⟩
theorem wl_X5_198 : Cond.methodLink RX5 198 yX4_talkers ∈ XT := List.mem_filter.mpr ⟨(List.mem_append_right _ (List.mem_append_right _ (List.mem_append_left _ (List.mem_of_getElem? (i := 234) (by decide +kernel))))), by decide +kernel⟩
theorem wl_X5_201 : Cond.methodLink RX5 201 yJ6_bitCount_0f7a4 ∈ XT := List.mem_filter.mpr ⟨(List.mem_append_right _ (List.mem_append_right _ (List.mem_append_left _ (List.mem_of_getElem? (i := 235) (by decide +kernel))))), by decide +kernel⟩
theorem wl_X5_206 : Cond.methodLink RX5 206 yX4_nextTick ∈ XT := List.mem_filter.mpr ⟨(List.mem_append_right _ (List.mem_append_right _ (List.mem_append_left _ (List.mem_of_getElem? (i := 236) (by decide +kernel))))), by decide +kernel⟩
theorem wl_X5_189 : Cond.methodLink RX5 189 yX4_messagesInLines ∈ XT := List.mem_filter.mpr ⟨(List.mem_append_right _ (List.mem_append_right _ (List.mem_append_left _ (List.mem_of_getElem? (i := 237) (by decide +kernel))))), by decide +kernel⟩
theorem wi_X4_messagesInLines : Cond.instanceMethod yX4_messagesInLines ∈ XT := List.mem_filter.mpr ⟨(List.mem_append_right _ (List.mem_append_right _ (List.mem_append_left _ (List.mem_of_getElem? (i := 238) (by decide +kernel))))), by decide +kernel⟩
theorem ws_X4_messagesInLines : Cond.selects RX4 yX4_messagesInLines yX4_messagesInLines ∈ XT := List.mem_filter.mpr ⟨(List.mem_append_right _ (List.mem_append_right _ (List.mem_append_left _ (List.mem_of_getElem? (i := 239) (by decide +kernel))))), by decide +kernel⟩
theorem wc_X4_messagesInLines : Cond.code yX4_messagesInLines cX4_messagesInLines 6 (some FieldType.int) ∈ XT := List.mem_filter.mpr ⟨(List.mem_append_right _ (List.mem_append_right _ (List.mem_append_right _ (List.mem_of_getElem? (i := 0) (by decide +kernel))))), by decide +kernel⟩
theorem wl_X5_221 : Cond.methodLink RX5 221 yX4_messagesThatCame ∈ XT := List.mem_filter.mpr ⟨(List.mem_append_right _ (List.mem_append_right _ (List.mem_append_right _ (List.mem_of_getElem? (i := 1) (by decide +kernel))))), by decide +kernel⟩
theorem wl_X5_230 : Cond.methodLink RX5 230 yX4_setting ∈ XT := List.mem_filter.mpr ⟨(List.mem_append_right _ (List.mem_append_right _ (List.mem_append_right _ (List.mem_of_getElem? (i := 2) (by decide +kernel))))), by decide +kernel⟩
theorem wl_L_81 : Cond.methodLink RL 81 yL_isLogSo ∈ XT := List.mem_filter.mpr ⟨(List.mem_append_right _ (List.mem_append_right _ (List.mem_append_right _ (List.mem_of_getElem? (i := 3) (by decide +kernel))))), by decide +kernel⟩
theorem wt_L_isLogSo : Cond.static yL_isLogSo ∈ XT := List.mem_filter.mpr ⟨(List.mem_append_right _ (List.mem_append_right _ (List.mem_append_right _ (List.mem_of_getElem? (i := 4) (by decide +kernel))))), by decide +kernel⟩
theorem wc_L_isLogSo : Cond.code yL_isLogSo cL_isLogSo 10 (some FieldType.boolean) ∈ XT := List.mem_filter.mpr ⟨(List.mem_append_right _ (List.mem_append_right _ (List.mem_append_right _ (List.mem_of_getElem? (i := 5) (by decide +kernel))))), by decide +kernel⟩
theorem wl_L_52 : Cond.methodLink RL 52 yX5_bit ∈ XT := List.mem_filter.mpr ⟨(List.mem_append_right _ (List.mem_append_right _ (List.mem_append_right _ (List.mem_of_getElem? (i := 6) (by decide +kernel))))), by decide +kernel⟩
theorem wi_X5_bit : Cond.instanceMethod yX5_bit ∈ XT := List.mem_filter.mpr ⟨(List.mem_append_right _ (List.mem_append_right _ (List.mem_append_right _ (List.mem_of_getElem? (i := 7) (by decide +kernel))))), by decide +kernel⟩
theorem ws_X5_bit : Cond.selects RX5 yX5_bit yX5_bit ∈ XT := List.mem_filter.mpr ⟨(List.mem_append_right _ (List.mem_append_right _ (List.mem_append_right _ (List.mem_of_getElem? (i := 8) (by decide +kernel))))), by decide +kernel⟩
theorem wc_X5_bit : Cond.code yX5_bit cX5_bit 3 (some FieldType.int) ∈ XT := List.mem_filter.mpr ⟨(List.mem_append_right _ (List.mem_append_right _ (List.mem_append_right _ (List.mem_of_getElem? (i := 9) (by decide +kernel))))), by decide +kernel⟩
theorem wl_X5_170 : Cond.methodLink RX5 170 yX0_tell ∈ XT := List.mem_filter.mpr ⟨(List.mem_append_right _ (List.mem_append_right _ (List.mem_append_right _ (List.mem_of_getElem? (i := 10) (by decide +kernel))))), by decide +kernel⟩
theorem wi_X0_tell : Cond.instanceMethod yX0_tell ∈ XT := List.mem_filter.mpr ⟨(List.mem_append_right _ (List.mem_append_right _ (List.mem_append_right _ (List.mem_of_getElem? (i := 11) (by decide +kernel))))), by decide +kernel⟩
theorem ws_X0_tell : Cond.selects RX0 yX0_tell yX0_tell ∈ XT := List.mem_filter.mpr ⟨(List.mem_append_right _ (List.mem_append_right _ (List.mem_append_right _ (List.mem_of_getElem? (i := 12) (by decide +kernel))))), by decide +kernel⟩
theorem wc_X0_tell : Cond.code yX0_tell cX0_tell 3 (some FieldType.int) ∈ XT := List.mem_filter.mpr ⟨(List.mem_append_right _ (List.mem_append_right _ (List.mem_append_right _ (List.mem_of_getElem? (i := 13) (by decide +kernel))))), by decide +kernel⟩
theorem wl_X0_37 : Cond.methodLinkNest RX0 37 yX5_isIndex "PulledWires" ∈ xNW := List.mem_filter.mpr ⟨(List.mem_append_right _ (List.mem_append_right _ (List.mem_append_right _ (List.mem_of_getElem? (i := 14) (by decide +kernel))))), rfl⟩
theorem wl_L_84 : Cond.methodLink RL 84 yL_areIfsSo ∈ XT := List.mem_filter.mpr ⟨(List.mem_append_right _ (List.mem_append_right _ (List.mem_append_right _ (List.mem_of_getElem? (i := 15) (by decide +kernel))))), by decide +kernel⟩
theorem wt_L_areIfsSo : Cond.static yL_areIfsSo ∈ XT := List.mem_filter.mpr ⟨(List.mem_append_right _ (List.mem_append_right _ (List.mem_append_right _ (List.mem_of_getElem? (i := 16) (by decide +kernel))))), by decide +kernel⟩
theorem wc_L_areIfsSo : Cond.code yL_areIfsSo cL_areIfsSo 9 (some FieldType.boolean) ∈ XT := List.mem_filter.mpr ⟨(List.mem_append_right _ (List.mem_append_right _ (List.mem_append_right _ (List.mem_of_getElem? (i := 17) (by decide +kernel))))), by decide +kernel⟩
theorem wl_L_55 : Cond.methodLink RL 55 yX5_emptyIn ∈ XT := List.mem_filter.mpr ⟨(List.mem_append_right _ (List.mem_append_right _ (List.mem_append_right _ (List.mem_of_getElem? (i := 18) (by decide +kernel))))), by decide +kernel⟩
theorem wi_X5_emptyIn : Cond.instanceMethod yX5_emptyIn ∈ XT := List.mem_filter.mpr ⟨(List.mem_append_right _ (List.mem_append_right _ (List.mem_append_right _ (List.mem_of_getElem? (i := 19) (by decide +kernel))))), by decide +kernel⟩
theorem ws_X5_emptyIn : Cond.selects RX5 yX5_emptyIn yX5_emptyIn ∈ XT := List.mem_filter.mpr ⟨(List.mem_append_right _ (List.mem_append_right _ (List.mem_append_right _ (List.mem_of_getElem? (i := 20) (by decide +kernel))))), by decide +kernel⟩
theorem wc_X5_emptyIn : Cond.code yX5_emptyIn cX5_emptyIn 2 (some FieldType.int) ∈ XT := List.mem_filter.mpr ⟨(List.mem_append_right _ (List.mem_append_right _ (List.mem_append_right _ (List.mem_of_getElem? (i := 21) (by decide +kernel))))), by decide +kernel⟩
theorem wl_X5_192 : Cond.methodLink RX5 192 yX4_tick ∈ XT := List.mem_filter.mpr ⟨(List.mem_append_right _ (List.mem_append_right _ (List.mem_append_right _ (List.mem_of_getElem? (i := 22) (by decide +kernel))))), by decide +kernel⟩
theorem wl_L_59 : Cond.methodLink RL 59 yX5_ifRun ∈ XT := List.mem_filter.mpr ⟨(List.mem_append_right _ (List.mem_append_right _ (List.mem_append_right _ (List.mem_of_getElem? (i := 23) (by decide +kernel))))), by decide +kernel⟩
theorem wi_X5_ifRun : Cond.instanceMethod yX5_ifRun ∈ XT := List.mem_filter.mpr ⟨(List.mem_append_right _ (List.mem_append_right _ (List.mem_append_right _ (List.mem_of_getElem? (i := 24) (by decide +kernel))))), by decide +kernel⟩
theorem ws_X5_ifRun : Cond.selects RX5 yX5_ifRun yX5_ifRun ∈ XT := List.mem_filter.mpr ⟨(List.mem_append_right _ (List.mem_append_right _ (List.mem_append_right _ (List.mem_of_getElem? (i := 25) (by decide +kernel))))), by decide +kernel⟩
theorem wc_X5_ifRun : Cond.code yX5_ifRun cX5_ifRun 5 (some FieldType.int) ∈ XT := List.mem_filter.mpr ⟨(List.mem_append_right _ (List.mem_append_right _ (List.mem_append_right _ (List.mem_of_getElem? (i := 26) (by decide +kernel))))), by decide +kernel⟩
theorem wl_X5_195 : Cond.methodLink RX5 195 yX4_cameFrom ∈ XT := List.mem_filter.mpr ⟨(List.mem_append_right _ (List.mem_append_right _ (List.mem_append_right _ (List.mem_of_getElem? (i := 27) (by decide +kernel))))), by decide +kernel⟩
theorem wi_X4_cameFrom : Cond.instanceMethod yX4_cameFrom ∈ XT := List.mem_filter.mpr ⟨(List.mem_append_right _ (List.mem_append_right _ (List.mem_append_right _ (List.mem_of_getElem? (i := 28) (by decide +kernel))))), by decide +kernel⟩
theorem ws_X4_cameFrom : Cond.selects RX4 yX4_cameFrom yX4_cameFrom ∈ XT := List.mem_filter.mpr ⟨(List.mem_append_right _ (List.mem_append_right _ (List.mem_append_right _ (List.mem_of_getElem? (i := 29) (by decide +kernel))))), by decide +kernel⟩
theorem wc_X4_cameFrom : Cond.code yX4_cameFrom cX4_cameFrom 2 (some FieldType.int) ∈ XT := List.mem_filter.mpr ⟨(List.mem_append_right _ (List.mem_append_right _ (List.mem_append_right _ (List.mem_of_getElem? (i := 30) (by decide +kernel))))), by decide +kernel⟩
theorem wl_L_62 : Cond.methodLink RL 62 yX5_undo ∈ XT := List.mem_filter.mpr ⟨(List.mem_append_right _ (List.mem_append_right _ (List.mem_append_right _ (List.mem_of_getElem? (i := 31) (by decide +kernel))))), by decide +kernel⟩
theorem wi_X5_undo : Cond.instanceMethod yX5_undo ∈ XT := List.mem_filter.mpr ⟨(List.mem_append_right _ (List.mem_append_right _ (List.mem_append_right _ (List.mem_of_getElem? (i := 32) (by decide +kernel))))), by decide +kernel⟩
theorem ws_X5_undo : Cond.selects RX5 yX5_undo yX5_undo ∈ XT := List.mem_filter.mpr ⟨(List.mem_append_right _ (List.mem_append_right _ (List.mem_append_right _ (List.mem_of_getElem? (i := 33) (by decide +kernel))))), by decide +kernel⟩
theorem wc_X5_undo : Cond.code yX5_undo cX5_undo 1 (some FieldType.int) ∈ XT := List.mem_filter.mpr ⟨(List.mem_append_right _ (List.mem_append_right _ (List.mem_append_right _ (List.mem_of_getElem? (i := 34) (by decide +kernel))))), by decide +kernel⟩
theorem wl_L_88 : Cond.methodLink RL 88 yL_areWinnersSo ∈ XT := List.mem_filter.mpr ⟨(List.mem_append_right _ (List.mem_append_right _ (List.mem_append_right _ (List.mem_of_getElem? (i := 35) (by decide +kernel))))), by decide +kernel⟩
theorem wt_L_areWinnersSo : Cond.static yL_areWinnersSo ∈ XT := List.mem_filter.mpr ⟨(List.mem_append_right _ (List.mem_append_right _ (List.mem_append_right _ (List.mem_of_getElem? (i := 36) (by decide +kernel))))), by decide +kernel⟩
theorem wc_L_areWinnersSo : Cond.code yL_areWinnersSo cL_areWinnersSo 9 (some FieldType.boolean) ∈ XT := List.mem_filter.mpr ⟨(List.mem_append_right _ (List.mem_append_right _ (List.mem_append_right _ (List.mem_of_getElem? (i := 37) (by decide +kernel))))), by decide +kernel⟩
theorem wl_L_65 : Cond.methodLink RL 65 yX5_winners ∈ XT := List.mem_filter.mpr ⟨(List.mem_append_right _ (List.mem_append_right _ (List.mem_append_right _ (List.mem_of_getElem? (i := 38) (by decide +kernel))))), by decide +kernel⟩
theorem wi_X5_winners : Cond.instanceMethod yX5_winners ∈ XT := List.mem_filter.mpr ⟨(List.mem_append_right _ (List.mem_append_right _ (List.mem_append_right _ (List.mem_of_getElem? (i := 39) (by decide +kernel))))), by decide +kernel⟩
theorem ws_X5_winners : Cond.selects RX5 yX5_winners yX5_winners ∈ XT := List.mem_filter.mpr ⟨(List.mem_append_right _ (List.mem_append_right _ (List.mem_append_right _ (List.mem_of_getElem? (i := 40) (by decide +kernel))))), by decide +kernel⟩
theorem wc_X5_winners : Cond.code yX5_winners cX5_winners 5 (some FieldType.int) ∈ XT := List.mem_filter.mpr ⟨(List.mem_append_right _ (List.mem_append_right _ (List.mem_append_right _ (List.mem_of_getElem? (i := 41) (by decide +kernel))))), by decide +kernel⟩
theorem wl_X5_175 : Cond.methodLink RX5 175 yX4_speakersWithMessage ∈ XT := List.mem_filter.mpr ⟨(List.mem_append_right _ (List.mem_append_right _ (List.mem_append_right _ (List.mem_of_getElem? (i := 42) (by decide +kernel))))), by decide +kernel⟩
theorem wl_X5_178 : Cond.methodLink RX5 178 yX5_isPlace ∈ XT := List.mem_filter.mpr ⟨(List.mem_append_right _ (List.mem_append_right _ (List.mem_append_right _ (List.mem_of_getElem? (i := 43) (by decide +kernel))))), by decide +kernel⟩
theorem wl_X5_182 : Cond.methodLink RX5 182 yX4_endingAt ∈ XT := List.mem_filter.mpr ⟨(List.mem_append_right _ (List.mem_append_right _ (List.mem_append_right _ (List.mem_of_getElem? (i := 44) (by decide +kernel))))), by decide +kernel⟩
theorem wi_X4_endingAt : Cond.instanceMethod yX4_endingAt ∈ XT := List.mem_filter.mpr ⟨(List.mem_append_right _ (List.mem_append_right _ (List.mem_append_right _ (List.mem_of_getElem? (i := 45) (by decide +kernel))))), by decide +kernel⟩
theorem ws_X4_endingAt : Cond.selects RX4 yX4_endingAt yX4_endingAt ∈ XT := List.mem_filter.mpr ⟨(List.mem_append_right _ (List.mem_append_right _ (List.mem_append_right _ (List.mem_of_getElem? (i := 46) (by decide +kernel))))), by decide +kernel⟩
theorem wc_X4_endingAt : Cond.code yX4_endingAt cX4_endingAt 5 (some FieldType.int) ∈ XT := List.mem_filter.mpr ⟨(List.mem_append_right _ (List.mem_append_right _ (List.mem_append_right _ (List.mem_of_getElem? (i := 47) (by decide +kernel))))), by decide +kernel⟩
theorem wl_X5_185 : Cond.methodLink RX5 185 yX4_sendersOf ∈ XT := List.mem_filter.mpr ⟨(List.mem_append_right _ (List.mem_append_right _ (List.mem_append_right _ (List.mem_of_getElem? (i := 48) (by decide +kernel))))), by decide +kernel⟩
theorem ws_X4_listenerWith : Cond.selects RX4 yX4_listenerWith yX4_listenerWith ∈ XT := List.mem_filter.mpr ⟨(List.mem_append_left _ (List.mem_of_getElem? (i := 0) (by decide +kernel))), by decide +kernel⟩
theorem ws_X4_listenersWithAddress : Cond.selects RX4 yX4_listenersWithAddress yX4_listenersWithAddress ∈ XT := List.mem_filter.mpr ⟨(List.mem_append_left _ (List.mem_of_getElem? (i := 1) (by decide +kernel))), by decide +kernel⟩
theorem ws_X5_recorded : Cond.selects RX5 yX5_recorded yX5_recorded ∈ XT := List.mem_filter.mpr ⟨(List.mem_append_left _ (List.mem_of_getElem? (i := 2) (by decide +kernel))), by decide +kernel⟩
theorem ws_X4_stuckListeners : Cond.selects RX4 yX4_stuckListeners yX4_stuckListeners ∈ XT := List.mem_filter.mpr ⟨(List.mem_append_left _ (List.mem_of_getElem? (i := 3) (by decide +kernel))), by decide +kernel⟩
theorem ws_X4_stuckTick : Cond.selects RX4 yX4_stuckTick yX4_stuckTick ∈ XT := List.mem_filter.mpr ⟨(List.mem_append_left _ (List.mem_of_getElem? (i := 4) (by decide +kernel))), by decide +kernel⟩
theorem ws_X4_lose : Cond.selects RX4 yX4_lose yX4_lose ∈ XT := List.mem_filter.mpr ⟨(List.mem_append_left _ (List.mem_of_getElem? (i := 5) (by decide +kernel))), by decide +kernel⟩
theorem ws_X4_endTalkIfEmpty : Cond.selects RX4 yX4_endTalkIfEmpty yX4_endTalkIfEmpty ∈ XT := List.mem_filter.mpr ⟨(List.mem_append_left _ (List.mem_of_getElem? (i := 6) (by decide +kernel))), by decide +kernel⟩
theorem ws_X4_sendBit : Cond.selects RX4 yX4_sendBit yX4_sendBit ∈ XT := List.mem_filter.mpr ⟨(List.mem_append_left _ (List.mem_of_getElem? (i := 7) (by decide +kernel))), by decide +kernel⟩
theorem ws_X4_partOfTalk : Cond.selects RX4 yX4_partOfTalk yX4_partOfTalk ∈ XT := List.mem_filter.mpr ⟨(List.mem_append_left _ (List.mem_of_getElem? (i := 8) (by decide +kernel))), by decide +kernel⟩
theorem ws_X4_awaitAnswer : Cond.selects RX4 yX4_awaitAnswer yX4_awaitAnswer ∈ XT := List.mem_filter.mpr ⟨(List.mem_append_left _ (List.mem_of_getElem? (i := 9) (by decide +kernel))), by decide +kernel⟩
theorem ws_X3_removeFirst : Cond.selects RX3 yX3_removeFirst yX3_removeFirst ∈ XT := List.mem_filter.mpr ⟨(List.mem_append_left _ (List.mem_of_getElem? (i := 10) (by decide +kernel))), by decide +kernel⟩
theorem ws_X4_freeTick : Cond.selects RX4 yX4_freeTick yX4_freeTick ∈ XT := List.mem_filter.mpr ⟨(List.mem_append_left _ (List.mem_of_getElem? (i := 11) (by decide +kernel))), by decide +kernel⟩
theorem wu_0 : ∀ w ∈ u_ws RX0 TX0 3, w ∈ XT := by decide +kernel
theorem wu_1 : ∀ w ∈ u_ws RX1 TX1 5, w ∈ XT := by decide +kernel
theorem wu_2 : ∀ w ∈ u_ws RX2 TX2 5, w ∈ XT := by decide +kernel
theorem wu_3 : ∀ w ∈ u_ws RX3 TX3 8, w ∈ XT := by decide +kernel
theorem wu_4 : ∀ w ∈ u_ws RX4 TX4 11, w ∈ XT := by decide +kernel
theorem wu_5 : ∀ w ∈ u_ws RX5 TX5 9, w ∈ XT := by decide +kernel
theorem fl_X0_11 : FL RX0 11 0 0 := ⟨RX0, TX0, 3, rfl, by decide, rfl, by decide, wf_X0_11, wu_0⟩
theorem fl_X0_21 : FL RX0 21 0 1 := ⟨RX0, TX0, 3, rfl, by decide, rfl, by decide, wf_X0_21, wu_0⟩
theorem fl_X0_25 : FL RX0 25 0 2 := ⟨RX0, TX0, 3, rfl, by decide, rfl, by decide, wf_X0_25, wu_0⟩
theorem fl_X1_15 : FL RX1 15 1 4 := ⟨RX1, TX1, 5, rfl, by decide, rfl, by decide, wf_X1_15, wu_1⟩
theorem fl_X1_18 : FL RX1 18 1 1 := ⟨RX1, TX1, 5, rfl, by decide, rfl, by decide, wf_X1_18, wu_1⟩
theorem fl_X1_21 : FL RX1 21 1 2 := ⟨RX1, TX1, 5, rfl, by decide, rfl, by decide, wf_X1_21, wu_1⟩
theorem fl_X1_24 : FL RX1 24 1 3 := ⟨RX1, TX1, 5, rfl, by decide, rfl, by decide, wf_X1_24, wu_1⟩
theorem fl_X1_9 : FL RX1 9 1 0 := ⟨RX1, TX1, 5, rfl, by decide, rfl, by decide, wf_X1_9, wu_1⟩
theorem fl_X2_11 : FL RX2 11 2 0 := ⟨RX2, TX2, 5, rfl, by decide, rfl, by decide, wf_X2_11, wu_2⟩
theorem fl_X2_15 : FL RX2 15 2 1 := ⟨RX2, TX2, 5, rfl, by decide, rfl, by decide, wf_X2_15, wu_2⟩
theorem fl_X2_19 : FL RX2 19 2 4 := ⟨RX2, TX2, 5, rfl, by decide, rfl, by decide, wf_X2_19, wu_2⟩
theorem fl_X3_21 : FL RX3 21 3 1 := ⟨RX3, TX3, 8, rfl, by decide, rfl, by decide, wf_X3_21, wu_3⟩
theorem fl_X3_25 : FL RX3 25 3 2 := ⟨RX3, TX3, 8, rfl, by decide, rfl, by decide, wf_X3_25, wu_3⟩
theorem fl_X3_29 : FL RX3 29 3 3 := ⟨RX3, TX3, 8, rfl, by decide, rfl, by decide, wf_X3_29, wu_3⟩
theorem fl_X3_32 : FL RX3 32 3 4 := ⟨RX3, TX3, 8, rfl, by decide, rfl, by decide, wf_X3_32, wu_3⟩
theorem fl_X3_35 : FL RX3 35 3 5 := ⟨RX3, TX3, 8, rfl, by decide, rfl, by decide, wf_X3_35, wu_3⟩
theorem fl_X3_38 : FL RX3 38 3 6 := ⟨RX3, TX3, 8, rfl, by decide, rfl, by decide, wf_X3_38, wu_3⟩
theorem fl_X3_41 : FL RX3 41 3 7 := ⟨RX3, TX3, 8, rfl, by decide, rfl, by decide, wf_X3_41, wu_3⟩
theorem fl_X3_9 : FL RX3 9 3 0 := ⟨RX3, TX3, 8, rfl, by decide, rfl, by decide, wf_X3_9, wu_3⟩
theorem fl_X4_103 : FL RX4 103 1 0 := ⟨RX1, TX1, 5, rfl, by decide, rfl, by decide, wf_X4_103, wu_1⟩
theorem fl_X4_11 : FL RX4 11 4 0 := ⟨RX4, TX4, 11, rfl, by decide, rfl, by decide, wf_X4_11, wu_4⟩
theorem fl_X4_110 : FL RX4 110 1 1 := ⟨RX1, TX1, 5, rfl, by decide, rfl, by decide, wf_X4_110, wu_1⟩
theorem fl_X4_113 : FL RX4 113 1 2 := ⟨RX1, TX1, 5, rfl, by decide, rfl, by decide, wf_X4_113, wu_1⟩
theorem fl_X4_19 : FL RX4 19 4 1 := ⟨RX4, TX4, 11, rfl, by decide, rfl, by decide, wf_X4_19, wu_4⟩
theorem fl_X4_208 : FL RX4 208 3 3 := ⟨RX3, TX3, 8, rfl, by decide, rfl, by decide, wf_X4_208, wu_3⟩
theorem fl_X4_23 : FL RX4 23 4 2 := ⟨RX4, TX4, 11, rfl, by decide, rfl, by decide, wf_X4_23, wu_4⟩
theorem fl_X4_30 : FL RX4 30 4 3 := ⟨RX4, TX4, 11, rfl, by decide, rfl, by decide, wf_X4_30, wu_4⟩
theorem fl_X4_52 : FL RX4 52 4 4 := ⟨RX4, TX4, 11, rfl, by decide, rfl, by decide, wf_X4_52, wu_4⟩
theorem fl_X4_56 : FL RX4 56 4 5 := ⟨RX4, TX4, 11, rfl, by decide, rfl, by decide, wf_X4_56, wu_4⟩
theorem fl_X4_59 : FL RX4 59 4 6 := ⟨RX4, TX4, 11, rfl, by decide, rfl, by decide, wf_X4_59, wu_4⟩
theorem fl_X4_62 : FL RX4 62 4 7 := ⟨RX4, TX4, 11, rfl, by decide, rfl, by decide, wf_X4_62, wu_4⟩
theorem fl_X4_65 : FL RX4 65 4 8 := ⟨RX4, TX4, 11, rfl, by decide, rfl, by decide, wf_X4_65, wu_4⟩
theorem fl_X4_68 : FL RX4 68 4 9 := ⟨RX4, TX4, 11, rfl, by decide, rfl, by decide, wf_X4_68, wu_4⟩
theorem fl_X4_71 : FL RX4 71 4 10 := ⟨RX4, TX4, 11, rfl, by decide, rfl, by decide, wf_X4_71, wu_4⟩
theorem fl_X4_82 : FL RX4 82 3 1 := ⟨RX3, TX3, 8, rfl, by decide, rfl, by decide, wf_X4_82, wu_3⟩
theorem fl_X4_89 : FL RX4 89 3 2 := ⟨RX3, TX3, 8, rfl, by decide, rfl, by decide, wf_X4_89, wu_3⟩
theorem fl_X5_10 : FL RX5 10 5 0 := ⟨RX5, TX5, 9, rfl, by decide, rfl, by decide, wf_X5_10, wu_5⟩
theorem fl_X5_102 : FL RX5 102 4 4 := ⟨RX4, TX4, 11, rfl, by decide, rfl, by decide, wf_X5_102, wu_4⟩
theorem fl_X5_109 : FL RX5 109 3 1 := ⟨RX3, TX3, 8, rfl, by decide, rfl, by decide, wf_X5_109, wu_3⟩
theorem fl_X5_114 : FL RX5 114 3 2 := ⟨RX3, TX3, 8, rfl, by decide, rfl, by decide, wf_X5_114, wu_3⟩
theorem fl_X5_117 : FL RX5 117 3 3 := ⟨RX3, TX3, 8, rfl, by decide, rfl, by decide, wf_X5_117, wu_3⟩
theorem fl_X5_120 : FL RX5 120 3 4 := ⟨RX3, TX3, 8, rfl, by decide, rfl, by decide, wf_X5_120, wu_3⟩
theorem fl_X5_123 : FL RX5 123 3 5 := ⟨RX3, TX3, 8, rfl, by decide, rfl, by decide, wf_X5_123, wu_3⟩
theorem fl_X5_126 : FL RX5 126 3 6 := ⟨RX3, TX3, 8, rfl, by decide, rfl, by decide, wf_X5_126, wu_3⟩
theorem fl_X5_129 : FL RX5 129 3 7 := ⟨RX3, TX3, 8, rfl, by decide, rfl, by decide, wf_X5_129, wu_3⟩
theorem fl_X5_149 : FL RX5 149 1 0 := ⟨RX1, TX1, 5, rfl, by decide, rfl, by decide, wf_X5_149, wu_1⟩
theorem fl_X5_154 : FL RX5 154 1 1 := ⟨RX1, TX1, 5, rfl, by decide, rfl, by decide, wf_X5_154, wu_1⟩
theorem fl_X5_157 : FL RX5 157 1 2 := ⟨RX1, TX1, 5, rfl, by decide, rfl, by decide, wf_X5_157, wu_1⟩
theorem fl_X5_16 : FL RX5 16 5 1 := ⟨RX5, TX5, 9, rfl, by decide, rfl, by decide, wf_X5_16, wu_5⟩
theorem fl_X5_160 : FL RX5 160 1 3 := ⟨RX1, TX1, 5, rfl, by decide, rfl, by decide, wf_X5_160, wu_1⟩
theorem fl_X5_163 : FL RX5 163 1 4 := ⟨RX1, TX1, 5, rfl, by decide, rfl, by decide, wf_X5_163, wu_1⟩
theorem fl_X5_166 : FL RX5 166 4 3 := ⟨RX4, TX4, 11, rfl, by decide, rfl, by decide, wf_X5_166, wu_4⟩
theorem fl_X5_19 : FL RX5 19 5 2 := ⟨RX5, TX5, 9, rfl, by decide, rfl, by decide, wf_X5_19, wu_5⟩
theorem fl_X5_209 : FL RX5 209 4 6 := ⟨RX4, TX4, 11, rfl, by decide, rfl, by decide, wf_X5_209, wu_4⟩
theorem fl_X5_212 : FL RX5 212 4 7 := ⟨RX4, TX4, 11, rfl, by decide, rfl, by decide, wf_X5_212, wu_4⟩
theorem fl_X5_215 : FL RX5 215 4 8 := ⟨RX4, TX4, 11, rfl, by decide, rfl, by decide, wf_X5_215, wu_4⟩
theorem fl_X5_218 : FL RX5 218 4 5 := ⟨RX4, TX4, 11, rfl, by decide, rfl, by decide, wf_X5_218, wu_4⟩
theorem fl_X5_224 : FL RX5 224 4 9 := ⟨RX4, TX4, 11, rfl, by decide, rfl, by decide, wf_X5_224, wu_4⟩
theorem fl_X5_227 : FL RX5 227 4 10 := ⟨RX4, TX4, 11, rfl, by decide, rfl, by decide, wf_X5_227, wu_4⟩
theorem fl_X5_233 : FL RX5 233 2 2 := ⟨RX2, TX2, 5, rfl, by decide, rfl, by decide, wf_X5_233, wu_2⟩
theorem fl_X5_26 : FL RX5 26 5 3 := ⟨RX5, TX5, 9, rfl, by decide, rfl, by decide, wf_X5_26, wu_5⟩
theorem fl_X5_30 : FL RX5 30 5 4 := ⟨RX5, TX5, 9, rfl, by decide, rfl, by decide, wf_X5_30, wu_5⟩
theorem fl_X5_33 : FL RX5 33 5 7 := ⟨RX5, TX5, 9, rfl, by decide, rfl, by decide, wf_X5_33, wu_5⟩
theorem fl_X5_37 : FL RX5 37 5 8 := ⟨RX5, TX5, 9, rfl, by decide, rfl, by decide, wf_X5_37, wu_5⟩
theorem fl_X5_95 : FL RX5 95 5 5 := ⟨RX5, TX5, 9, rfl, by decide, rfl, by decide, wf_X5_95, wu_5⟩
theorem fp_0_0 : FP 0 0 true (.array .int) := ⟨RX0, TX0, 3, tyX0, rfl, tyX0_ok, nmX0, rfl, by decide +kernel, rfl⟩
theorem fp_0_1 : FP 0 1 false (.int) := ⟨RX0, TX0, 3, tyX0, rfl, tyX0_ok, nmX0, rfl, by decide +kernel, rfl⟩
theorem fp_0_2 : FP 0 2 false (.int) := ⟨RX0, TX0, 3, tyX0, rfl, tyX0_ok, nmX0, rfl, by decide +kernel, rfl⟩
theorem fp_1_0 : FP 1 0 false (.int) := ⟨RX1, TX1, 5, tyX1, rfl, tyX1_ok, nmX1, rfl, by decide +kernel, rfl⟩
theorem fp_1_1 : FP 1 1 false (.int) := ⟨RX1, TX1, 5, tyX1, rfl, tyX1_ok, nmX1, rfl, by decide +kernel, rfl⟩
theorem fp_1_2 : FP 1 2 false (.int) := ⟨RX1, TX1, 5, tyX1, rfl, tyX1_ok, nmX1, rfl, by decide +kernel, rfl⟩
theorem fp_1_3 : FP 1 3 false (.int) := ⟨RX1, TX1, 5, tyX1, rfl, tyX1_ok, nmX1, rfl, by decide +kernel, rfl⟩
theorem fp_1_4 : FP 1 4 false (.int) := ⟨RX1, TX1, 5, tyX1, rfl, tyX1_ok, nmX1, rfl, by decide +kernel, rfl⟩
theorem fp_2_0 : FP 2 0 true (.array .char) := ⟨RX2, TX2, 5, tyX2, rfl, tyX2_ok, nmX2, rfl, by decide +kernel, rfl⟩
theorem fp_2_1 : FP 2 1 true (.array .int) := ⟨RX2, TX2, 5, tyX2, rfl, tyX2_ok, nmX2, rfl, by decide +kernel, rfl⟩
theorem fp_2_2 : FP 2 2 false (.int) := ⟨RX2, TX2, 5, tyX2, rfl, tyX2_ok, nmX2, rfl, by decide +kernel, rfl⟩
theorem fp_2_3 : FP 2 3 false (.int) := ⟨RX2, TX2, 5, tyX2, rfl, tyX2_ok, nmX2, rfl, by decide +kernel, rfl⟩
theorem fp_2_4 : FP 2 4 false (.int) := ⟨RX2, TX2, 5, tyX2, rfl, tyX2_ok, nmX2, rfl, by decide +kernel, rfl⟩
theorem fp_3_0 : FP 3 0 true (.array .int) := ⟨RX3, TX3, 8, tyX3, rfl, tyX3_ok, nmX3, rfl, by decide +kernel, rfl⟩
theorem fp_3_1 : FP 3 1 false (.int) := ⟨RX3, TX3, 8, tyX3, rfl, tyX3_ok, nmX3, rfl, by decide +kernel, rfl⟩
theorem fp_3_2 : FP 3 2 false (.boolean) := ⟨RX3, TX3, 8, tyX3, rfl, tyX3_ok, nmX3, rfl, by decide +kernel, rfl⟩
theorem fp_3_3 : FP 3 3 false (.int) := ⟨RX3, TX3, 8, tyX3, rfl, tyX3_ok, nmX3, rfl, by decide +kernel, rfl⟩
theorem fp_3_4 : FP 3 4 false (.int) := ⟨RX3, TX3, 8, tyX3, rfl, tyX3_ok, nmX3, rfl, by decide +kernel, rfl⟩
theorem fp_3_5 : FP 3 5 false (.int) := ⟨RX3, TX3, 8, tyX3, rfl, tyX3_ok, nmX3, rfl, by decide +kernel, rfl⟩
theorem fp_3_6 : FP 3 6 false (.int) := ⟨RX3, TX3, 8, tyX3, rfl, tyX3_ok, nmX3, rfl, by decide +kernel, rfl⟩
theorem fp_3_7 : FP 3 7 false (.int) := ⟨RX3, TX3, 8, tyX3, rfl, tyX3_ok, nmX3, rfl, by decide +kernel, rfl⟩
theorem fp_4_0 : FP 4 0 true (.array (.object "PulledWires$Speaker")) := ⟨RX4, TX4, 11, tyX4, rfl, tyX4_ok, nmX4, rfl, by decide +kernel, rfl⟩
theorem fp_4_1 : FP 4 1 true (.array (.object "PulledWires$Listener")) := ⟨RX4, TX4, 11, tyX4, rfl, tyX4_ok, nmX4, rfl, by decide +kernel, rfl⟩
theorem fp_4_2 : FP 4 2 true (.array .int) := ⟨RX4, TX4, 11, tyX4, rfl, tyX4_ok, nmX4, rfl, by decide +kernel, rfl⟩
theorem fp_4_3 : FP 4 3 true (.object "PulledWires$BitLog") := ⟨RX4, TX4, 11, tyX4, rfl, tyX4_ok, nmX4, rfl, by decide +kernel, rfl⟩
theorem fp_4_4 : FP 4 4 false (.int) := ⟨RX4, TX4, 11, tyX4, rfl, tyX4_ok, nmX4, rfl, by decide +kernel, rfl⟩
theorem fp_4_5 : FP 4 5 false (.int) := ⟨RX4, TX4, 11, tyX4, rfl, tyX4_ok, nmX4, rfl, by decide +kernel, rfl⟩
theorem fp_4_6 : FP 4 6 false (.int) := ⟨RX4, TX4, 11, tyX4, rfl, tyX4_ok, nmX4, rfl, by decide +kernel, rfl⟩
theorem fp_4_7 : FP 4 7 false (.int) := ⟨RX4, TX4, 11, tyX4, rfl, tyX4_ok, nmX4, rfl, by decide +kernel, rfl⟩
theorem fp_4_8 : FP 4 8 false (.int) := ⟨RX4, TX4, 11, tyX4, rfl, tyX4_ok, nmX4, rfl, by decide +kernel, rfl⟩
theorem fp_4_9 : FP 4 9 false (.int) := ⟨RX4, TX4, 11, tyX4, rfl, tyX4_ok, nmX4, rfl, by decide +kernel, rfl⟩
theorem fp_4_10 : FP 4 10 false (.int) := ⟨RX4, TX4, 11, tyX4, rfl, tyX4_ok, nmX4, rfl, by decide +kernel, rfl⟩
theorem fp_5_0 : FP 5 0 true (.object "PulledWires$State") := ⟨RX5, TX5, 9, tyX5, rfl, tyX5_ok, nmX5, rfl, by decide +kernel, rfl⟩
theorem fp_5_1 : FP 5 1 true (.object "PulledWires$State") := ⟨RX5, TX5, 9, tyX5, rfl, tyX5_ok, nmX5, rfl, by decide +kernel, rfl⟩
theorem fp_5_2 : FP 5 2 true (.array (.object "PulledWires$State")) := ⟨RX5, TX5, 9, tyX5, rfl, tyX5_ok, nmX5, rfl, by decide +kernel, rfl⟩
theorem fp_5_3 : FP 5 3 true (.object "PulledWires$OrderText") := ⟨RX5, TX5, 9, tyX5, rfl, tyX5_ok, nmX5, rfl, by decide +kernel, rfl⟩
theorem fp_5_4 : FP 5 4 false (.object "PulledWires$State") := ⟨RX5, TX5, 9, tyX5, rfl, tyX5_ok, nmX5, rfl, by decide +kernel, rfl⟩
theorem fp_5_5 : FP 5 5 false (.int) := ⟨RX5, TX5, 9, tyX5, rfl, tyX5_ok, nmX5, rfl, by decide +kernel, rfl⟩
theorem fp_5_6 : FP 5 6 false (.boolean) := ⟨RX5, TX5, 9, tyX5, rfl, tyX5_ok, nmX5, rfl, by decide +kernel, rfl⟩
theorem fp_5_7 : FP 5 7 false (.int) := ⟨RX5, TX5, 9, tyX5, rfl, tyX5_ok, nmX5, rfl, by decide +kernel, rfl⟩
theorem fp_5_8 : FP 5 8 false (.int) := ⟨RX5, TX5, 9, tyX5, rfl, tyX5_ok, nmX5, rfl, by decide +kernel, rfl⟩
abbrev mX0_init : MT := (yX0_init, cX0_init, 1, none, { frames := 1, cells := 0, slots := 0, locals := 20 }, 0)
theorem kX0_init : xM mX0_init := ⟨wc_X0_init, wz_X0, by decide +kernel, by decide +kernel, by decide +kernel⟩
theorem kiX0_init : xMI mX0_init := ⟨kX0_init, wi_X0_init, rfl, rfl⟩
abbrev mX0_copyFrom : MT := (yX0_copyFrom, cX0_copyFrom, 2, none, { frames := 1, cells := 0, slots := 0, locals := 60 }, 1)
theorem kX0_copyFrom : xM mX0_copyFrom := ⟨wc_X0_copyFrom, wz_X0, by decide +kernel, by decide +kernel, by decide +kernel⟩
theorem kvX0_copyFrom : xMV mX0_copyFrom 0 := ⟨kX0_copyFrom, wi_X0_copyFrom, ws_X0_copyFrom, by decide, rfl⟩
abbrev mX0_add : MT := (yX0_add, cX0_add, 6, none, { frames := 1, cells := 0, slots := 0, locals := 22 }, 4)
theorem kX0_add : xM mX0_add := ⟨wc_X0_add, wz_X0, by decide +kernel, by decide +kernel, by decide +kernel⟩
theorem kvX0_add : xMV mX0_add 0 := ⟨kX0_add, wi_X0_add, ws_X0_add, by decide, rfl⟩
abbrev mX0_tell : MT := (yX0_tell, cX0_tell, 3, some FieldType.int, { frames := 1, cells := 0, slots := 0, locals := 22 }, 2)
theorem kX0_tell : xM mX0_tell := ⟨wc_X0_tell, wz_X0, by decide +kernel, by decide +kernel, by decide +kernel⟩
theorem kvX0_tell : xMV mX0_tell 0 := ⟨kX0_tell, wi_X0_tell, ws_X0_tell, by decide, rfl⟩
abbrev mX1_init : MT := (yX1_init, cX1_init, 1, none, { frames := 1, cells := 0, slots := 0, locals := 20 }, 0)
theorem kX1_init : xM mX1_init := ⟨wc_X1_init, wz_X1, by decide +kernel, by decide +kernel, by decide +kernel⟩
theorem kiX1_init : xMI mX1_init := ⟨kX1_init, wi_X1_init, rfl, rfl⟩
abbrev mX1_copyFrom : MT := (yX1_copyFrom, cX1_copyFrom, 2, none, { frames := 0, cells := 0, slots := 0, locals := 0 }, 1)
theorem kX1_copyFrom : xM mX1_copyFrom := ⟨wc_X1_copyFrom, wz_X1, by decide +kernel, by decide +kernel, by decide +kernel⟩
theorem kvX1_copyFrom : xMV mX1_copyFrom 1 := ⟨kX1_copyFrom, wi_X1_copyFrom, ws_X1_copyFrom, by decide, rfl⟩
abbrev mX1_takeWord : MT := (yX1_takeWord, cX1_takeWord, 2, none, { frames := 0, cells := 0, slots := 0, locals := 0 }, 1)
theorem kX1_takeWord : xM mX1_takeWord := ⟨wc_X1_takeWord, wz_X1, by decide +kernel, by decide +kernel, by decide +kernel⟩
theorem kvX1_takeWord : xMV mX1_takeWord 1 := ⟨kX1_takeWord, wi_X1_takeWord, ws_X1_takeWord, by decide, rfl⟩
abbrev mX2_init : MT := (yX2_init, cX2_init, 1, none, { frames := 1, cells := 0, slots := 0, locals := 20 }, 0)
theorem kX2_init : xM mX2_init := ⟨wc_X2_init, wz_X2, by decide +kernel, by decide +kernel, by decide +kernel⟩
theorem kiX2_init : xMI mX2_init := ⟨kX2_init, wi_X2_init, rfl, rfl⟩
abbrev mX3_init : MT := (yX3_init, cX3_init, 1, none, { frames := 1, cells := 0, slots := 0, locals := 20 }, 0)
theorem kX3_init : xM mX3_init := ⟨wc_X3_init, wz_X3, by decide +kernel, by decide +kernel, by decide +kernel⟩
theorem kiX3_init : xMI mX3_init := ⟨kX3_init, wi_X3_init, rfl, rfl⟩
abbrev mX3_copyFrom : MT := (yX3_copyFrom, cX3_copyFrom, 2, none, { frames := 1, cells := 0, slots := 0, locals := 60 }, 1)
theorem kX3_copyFrom : xM mX3_copyFrom := ⟨wc_X3_copyFrom, wz_X3, by decide +kernel, by decide +kernel, by decide +kernel⟩
theorem kvX3_copyFrom : xMV mX3_copyFrom 3 := ⟨kX3_copyFrom, wi_X3_copyFrom, ws_X3_copyFrom, by decide, rfl⟩
abbrev mX3_append : MT := (yX3_append, cX3_append, 4, none, { frames := 1, cells := 0, slots := 0, locals := 21 }, 3)
theorem kX3_append : xM mX3_append := ⟨wc_X3_append, wz_X3, by decide +kernel, by decide +kernel, by decide +kernel⟩
theorem kvX3_append : xMV mX3_append 3 := ⟨kX3_append, wi_X3_append, ws_X3_append, by decide, rfl⟩
abbrev mX3_removeLast : MT := (yX3_removeLast, cX3_removeLast, 1, none, { frames := 0, cells := 0, slots := 0, locals := 0 }, 0)
theorem kX3_removeLast : xM mX3_removeLast := ⟨wc_X3_removeLast, wz_X3, by decide +kernel, by decide +kernel, by decide +kernel⟩
theorem kvX3_removeLast : xMV mX3_removeLast 3 := ⟨kX3_removeLast, wi_X3_removeLast, ws_X3_removeLast, by decide, rfl⟩
abbrev mX3_removeFirst : MT := (yX3_removeFirst, cX3_removeFirst, 1, none, { frames := 1, cells := 0, slots := 0, locals := 60 }, 0)
theorem kX3_removeFirst : xM mX3_removeFirst := ⟨wc_X3_removeFirst, wz_X3, by decide +kernel, by decide +kernel, by decide +kernel⟩
theorem kvX3_removeFirst : xMV mX3_removeFirst 3 := ⟨kX3_removeFirst, wi_X3_removeFirst, ws_X3_removeFirst, by decide, rfl⟩
abbrev mX3_lose : MT := (yX3_lose, cX3_lose, 1, none, { frames := 0, cells := 0, slots := 0, locals := 0 }, 0)
theorem kX3_lose : xM mX3_lose := ⟨wc_X3_lose, wz_X3, by decide +kernel, by decide +kernel, by decide +kernel⟩
theorem kvX3_lose : xMV mX3_lose 3 := ⟨kX3_lose, wi_X3_lose, ws_X3_lose, by decide, rfl⟩
abbrev mX3_bringMessage : MT := (yX3_bringMessage, cX3_bringMessage, 1, none, { frames := 2, cells := 0, slots := 0, locals := 80 }, 0)
theorem kX3_bringMessage : xM mX3_bringMessage := ⟨wc_X3_bringMessage, wz_X3, by decide +kernel, by decide +kernel, by decide +kernel⟩
theorem kvX3_bringMessage : xMV mX3_bringMessage 3 := ⟨kX3_bringMessage, wi_X3_bringMessage, ws_X3_bringMessage, by decide, rfl⟩
abbrev mX3_failMessage : MT := (yX3_failMessage, cX3_failMessage, 2, none, { frames := 2, cells := 0, slots := 0, locals := 80 }, 1)
theorem kX3_failMessage : xM mX3_failMessage := ⟨wc_X3_failMessage, wz_X3, by decide +kernel, by decide +kernel, by decide +kernel⟩
theorem kvX3_failMessage : xMV mX3_failMessage 3 := ⟨kX3_failMessage, wi_X3_failMessage, ws_X3_failMessage, by decide, rfl⟩
abbrev mX3_part : MT := (yX3_part, cX3_part, 4, some FieldType.int, { frames := 0, cells := 0, slots := 0, locals := 0 }, 2)
theorem kX3_part : xM mX3_part := ⟨wc_X3_part, wz_X3, by decide +kernel, by decide +kernel, by decide +kernel⟩
theorem kvX3_part : xMV mX3_part 3 := ⟨kX3_part, wi_X3_part, ws_X3_part, by decide, rfl⟩
abbrev mX3_partsAt : MT := (yX3_partsAt, cX3_partsAt, 2, some FieldType.int, { frames := 1, cells := 0, slots := 0, locals := 23 }, 1)
theorem kX3_partsAt : xM mX3_partsAt := ⟨wc_X3_partsAt, wz_X3, by decide +kernel, by decide +kernel, by decide +kernel⟩
theorem kvX3_partsAt : xMV mX3_partsAt 3 := ⟨kX3_partsAt, wi_X3_partsAt, ws_X3_partsAt, by decide, rfl⟩
abbrev mX4_init : MT := (yX4_init, cX4_init, 2, none, { frames := 2, cells := 0, slots := 0, locals := 40 }, 0)
theorem kX4_init : xM mX4_init := ⟨wc_X4_init, wz_X4, by decide +kernel, by decide +kernel, by decide +kernel⟩
theorem kiX4_init : xMI mX4_init := ⟨kX4_init, wi_X4_init, rfl, rfl⟩
abbrev mX4_copyFrom : MT := (yX4_copyFrom, cX4_copyFrom, 3, none, { frames := 2, cells := 0, slots := 0, locals := 81 }, 1)
theorem kX4_copyFrom : xM mX4_copyFrom := ⟨wc_X4_copyFrom, wz_X4, by decide +kernel, by decide +kernel, by decide +kernel⟩
theorem kvX4_copyFrom : xMV mX4_copyFrom 4 := ⟨kX4_copyFrom, wi_X4_copyFrom, ws_X4_copyFrom, by decide, rfl⟩
abbrev mX4_addMessage : MT := (yX4_addMessage, cX4_addMessage, 6, some FieldType.int, { frames := 2, cells := 0, slots := 0, locals := 44 }, 4)
theorem kX4_addMessage : xM mX4_addMessage := ⟨wc_X4_addMessage, wz_X4, by decide +kernel, by decide +kernel, by decide +kernel⟩
theorem kvX4_addMessage : xMV mX4_addMessage 4 := ⟨kX4_addMessage, wi_X4_addMessage, ws_X4_addMessage, by decide, rfl⟩
abbrev mX4_dropLast : MT := (yX4_dropLast, cX4_dropLast, 3, some FieldType.int, { frames := 2, cells := 0, slots := 0, locals := 42 }, 1)
theorem kX4_dropLast : xM mX4_dropLast := ⟨wc_X4_dropLast, wz_X4, by decide +kernel, by decide +kernel, by decide +kernel⟩
theorem kvX4_dropLast : xMV mX4_dropLast 4 := ⟨kX4_dropLast, wi_X4_dropLast, ws_X4_dropLast, by decide, rfl⟩
abbrev mX4_giveAddress : MT := (yX4_giveAddress, cX4_giveAddress, 5, some FieldType.int, { frames := 2, cells := 0, slots := 0, locals := 42 }, 2)
theorem kX4_giveAddress : xM mX4_giveAddress := ⟨wc_X4_giveAddress, wz_X4, by decide +kernel, by decide +kernel, by decide +kernel⟩
theorem kvX4_giveAddress : xMV mX4_giveAddress 4 := ⟨kX4_giveAddress, wi_X4_giveAddress, ws_X4_giveAddress, by decide, rfl⟩
abbrev mX4_giveHold : MT := (yX4_giveHold, cX4_giveHold, 5, some FieldType.int, { frames := 2, cells := 0, slots := 0, locals := 42 }, 2)
theorem kX4_giveHold : xM mX4_giveHold := ⟨wc_X4_giveHold, wz_X4, by decide +kernel, by decide +kernel, by decide +kernel⟩
theorem kvX4_giveHold : xMV mX4_giveHold 4 := ⟨kX4_giveHold, wi_X4_giveHold, ws_X4_giveHold, by decide, rfl⟩
abbrev mX4_makeStuck : MT := (yX4_makeStuck, cX4_makeStuck, 4, some FieldType.int, { frames := 2, cells := 0, slots := 0, locals := 42 }, 2)
theorem kX4_makeStuck : xM mX4_makeStuck := ⟨wc_X4_makeStuck, wz_X4, by decide +kernel, by decide +kernel, by decide +kernel⟩
theorem kvX4_makeStuck : xMV mX4_makeStuck 4 := ⟨kX4_makeStuck, wi_X4_makeStuck, ws_X4_makeStuck, by decide, rfl⟩
abbrev mX4_changeSetting : MT := (yX4_changeSetting, cX4_changeSetting, 4, some FieldType.int, { frames := 1, cells := 0, slots := 0, locals := 21 }, 2)
theorem kX4_changeSetting : xM mX4_changeSetting := ⟨wc_X4_changeSetting, wz_X4, by decide +kernel, by decide +kernel, by decide +kernel⟩
theorem kvX4_changeSetting : xMV mX4_changeSetting 4 := ⟨kX4_changeSetting, wi_X4_changeSetting, ws_X4_changeSetting, by decide, rfl⟩
abbrev mX4_passTicks : MT := (yX4_passTicks, cX4_passTicks, 4, some FieldType.int, { frames := 5, cells := 0, slots := 0, locals := 147 }, 1)
theorem kX4_passTicks : xM mX4_passTicks := ⟨wc_X4_passTicks, wz_X4, by decide +kernel, by decide +kernel, by decide +kernel⟩
theorem kvX4_passTicks : xMV mX4_passTicks 4 := ⟨kX4_passTicks, wi_X4_passTicks, ws_X4_passTicks, by decide, rfl⟩
abbrev mX4_nextTick : MT := (yX4_nextTick, cX4_nextTick, 1, some FieldType.int, { frames := 1, cells := 0, slots := 0, locals := 25 }, 0)
theorem kX4_nextTick : xM mX4_nextTick := ⟨wc_X4_nextTick, wz_X4, by decide +kernel, by decide +kernel, by decide +kernel⟩
theorem kvX4_nextTick : xMV mX4_nextTick 4 := ⟨kX4_nextTick, wi_X4_nextTick, ws_X4_nextTick, by decide, rfl⟩
abbrev mX4_tick : MT := (yX4_tick, cX4_tick, 2, none, { frames := 4, cells := 0, slots := 0, locals := 126 }, 0)
theorem kX4_tick : xM mX4_tick := ⟨wc_X4_tick, wz_X4, by decide +kernel, by decide +kernel, by decide +kernel⟩
theorem kvX4_tick : xMV mX4_tick 4 := ⟨kX4_tick, wi_X4_tick, ws_X4_tick, by decide, rfl⟩
abbrev mX4_stuckTick : MT := (yX4_stuckTick, cX4_stuckTick, 6, none, { frames := 2, cells := 0, slots := 0, locals := 51 }, 0)
theorem kX4_stuckTick : xM mX4_stuckTick := ⟨wc_X4_stuckTick, wz_X4, by decide +kernel, by decide +kernel, by decide +kernel⟩
theorem kvX4_stuckTick : xMV mX4_stuckTick 4 := ⟨kX4_stuckTick, wi_X4_stuckTick, ws_X4_stuckTick, by decide, rfl⟩
abbrev mX4_sendBit : MT := (yX4_sendBit, cX4_sendBit, 4, none, { frames := 2, cells := 0, slots := 0, locals := 51 }, 0)
theorem kX4_sendBit : xM mX4_sendBit := ⟨wc_X4_sendBit, wz_X4, by decide +kernel, by decide +kernel, by decide +kernel⟩
theorem kvX4_sendBit : xMV mX4_sendBit 4 := ⟨kX4_sendBit, wi_X4_sendBit, ws_X4_sendBit, by decide, rfl⟩
abbrev mX4_awaitAnswer : MT := (yX4_awaitAnswer, cX4_awaitAnswer, 6, none, { frames := 3, cells := 0, slots := 0, locals := 101 }, 0)
theorem kX4_awaitAnswer : xM mX4_awaitAnswer := ⟨wc_X4_awaitAnswer, wz_X4, by decide +kernel, by decide +kernel, by decide +kernel⟩
theorem kvX4_awaitAnswer : xMV mX4_awaitAnswer 4 := ⟨kX4_awaitAnswer, wi_X4_awaitAnswer, ws_X4_awaitAnswer, by decide, rfl⟩
abbrev mX4_freeTick : MT := (yX4_freeTick, cX4_freeTick, 3, none, { frames := 2, cells := 0, slots := 0, locals := 42 }, 0)
theorem kX4_freeTick : xM mX4_freeTick := ⟨wc_X4_freeTick, wz_X4, by decide +kernel, by decide +kernel, by decide +kernel⟩
theorem kvX4_freeTick : xMV mX4_freeTick 4 := ⟨kX4_freeTick, wi_X4_freeTick, ws_X4_freeTick, by decide, rfl⟩
abbrev mX4_lose : MT := (yX4_lose, cX4_lose, 3, none, { frames := 1, cells := 0, slots := 0, locals := 21 }, 1)
theorem kX4_lose : xM mX4_lose := ⟨wc_X4_lose, wz_X4, by decide +kernel, by decide +kernel, by decide +kernel⟩
theorem kvX4_lose : xMV mX4_lose 4 := ⟨kX4_lose, wi_X4_lose, ws_X4_lose, by decide, rfl⟩
abbrev mX4_endTalkIfEmpty : MT := (yX4_endTalkIfEmpty, cX4_endTalkIfEmpty, 1, none, { frames := 1, cells := 0, slots := 0, locals := 22 }, 0)
theorem kX4_endTalkIfEmpty : xM mX4_endTalkIfEmpty := ⟨wc_X4_endTalkIfEmpty, wz_X4, by decide +kernel, by decide +kernel, by decide +kernel⟩
theorem kvX4_endTalkIfEmpty : xMV mX4_endTalkIfEmpty 4 := ⟨kX4_endTalkIfEmpty, wi_X4_endTalkIfEmpty, ws_X4_endTalkIfEmpty, by decide, rfl⟩
abbrev mX4_speakerAt : MT := (yX4_speakerAt, cX4_speakerAt, 2, some (FieldType.object "PulledWires$Speaker"), { frames := 1, cells := 0, slots := 0, locals := 21 }, 1)
theorem kX4_speakerAt : xM mX4_speakerAt := ⟨wc_X4_speakerAt, wz_X4, by decide +kernel, by decide +kernel, by decide +kernel⟩
theorem kvX4_speakerAt : xMV mX4_speakerAt 4 := ⟨kX4_speakerAt, wi_X4_speakerAt, ws_X4_speakerAt, by decide, rfl⟩
abbrev mX4_listenerAt : MT := (yX4_listenerAt, cX4_listenerAt, 2, some (FieldType.object "PulledWires$Listener"), { frames := 1, cells := 0, slots := 0, locals := 21 }, 1)
theorem kX4_listenerAt : xM mX4_listenerAt := ⟨wc_X4_listenerAt, wz_X4, by decide +kernel, by decide +kernel, by decide +kernel⟩
theorem kvX4_listenerAt : xMV mX4_listenerAt 4 := ⟨kX4_listenerAt, wi_X4_listenerAt, ws_X4_listenerAt, by decide, rfl⟩
abbrev mX4_listenerWith : MT := (yX4_listenerWith, cX4_listenerWith, 6, some (FieldType.object "PulledWires$Listener"), { frames := 0, cells := 0, slots := 0, locals := 0 }, 1)
theorem kX4_listenerWith : xM mX4_listenerWith := ⟨wc_X4_listenerWith, wz_X4, by decide +kernel, by decide +kernel, by decide +kernel⟩
theorem kvX4_listenerWith : xMV mX4_listenerWith 4 := ⟨kX4_listenerWith, wi_X4_listenerWith, ws_X4_listenerWith, by decide, rfl⟩
abbrev mX4_listenersWithAddress : MT := (yX4_listenersWithAddress, cX4_listenersWithAddress, 6, some FieldType.int, { frames := 0, cells := 0, slots := 0, locals := 0 }, 0)
theorem kX4_listenersWithAddress : xM mX4_listenersWithAddress := ⟨wc_X4_listenersWithAddress, wz_X4, by decide +kernel, by decide +kernel, by decide +kernel⟩
theorem kvX4_listenersWithAddress : xMV mX4_listenersWithAddress 4 := ⟨kX4_listenersWithAddress, wi_X4_listenersWithAddress, ws_X4_listenersWithAddress, by decide, rfl⟩
abbrev mX4_stuckListeners : MT := (yX4_stuckListeners, cX4_stuckListeners, 6, some FieldType.int, { frames := 0, cells := 0, slots := 0, locals := 0 }, 0)
theorem kX4_stuckListeners : xM mX4_stuckListeners := ⟨wc_X4_stuckListeners, wz_X4, by decide +kernel, by decide +kernel, by decide +kernel⟩
theorem kvX4_stuckListeners : xMV mX4_stuckListeners 4 := ⟨kX4_stuckListeners, wi_X4_stuckListeners, ws_X4_stuckListeners, by decide, rfl⟩
abbrev mX4_holdFor : MT := (yX4_holdFor, cX4_holdFor, 3, some FieldType.int, { frames := 1, cells := 0, slots := 0, locals := 25 }, 1)
theorem kX4_holdFor : xM mX4_holdFor := ⟨wc_X4_holdFor, wz_X4, by decide +kernel, by decide +kernel, by decide +kernel⟩
theorem kvX4_holdFor : xMV mX4_holdFor 4 := ⟨kX4_holdFor, wi_X4_holdFor, ws_X4_holdFor, by decide, rfl⟩
abbrev mX4_setting : MT := (yX4_setting, cX4_setting, 2, some FieldType.int, { frames := 1, cells := 0, slots := 0, locals := 21 }, 1)
theorem kX4_setting : xM mX4_setting := ⟨wc_X4_setting, wz_X4, by decide +kernel, by decide +kernel, by decide +kernel⟩
theorem kvX4_setting : xMV mX4_setting 4 := ⟨kX4_setting, wi_X4_setting, ws_X4_setting, by decide, rfl⟩
abbrev mX4_messagesInLines : MT := (yX4_messagesInLines, cX4_messagesInLines, 6, some FieldType.int, { frames := 0, cells := 0, slots := 0, locals := 0 }, 0)
theorem kX4_messagesInLines : xM mX4_messagesInLines := ⟨wc_X4_messagesInLines, wz_X4, by decide +kernel, by decide +kernel, by decide +kernel⟩
theorem kvX4_messagesInLines : xMV mX4_messagesInLines 4 := ⟨kX4_messagesInLines, wi_X4_messagesInLines, ws_X4_messagesInLines, by decide, rfl⟩
abbrev mX4_messagesThatCame : MT := (yX4_messagesThatCame, cX4_messagesThatCame, 6, some FieldType.int, { frames := 0, cells := 0, slots := 0, locals := 0 }, 0)
theorem kX4_messagesThatCame : xM mX4_messagesThatCame := ⟨wc_X4_messagesThatCame, wz_X4, by decide +kernel, by decide +kernel, by decide +kernel⟩
theorem kvX4_messagesThatCame : xMV mX4_messagesThatCame 4 := ⟨kX4_messagesThatCame, wi_X4_messagesThatCame, ws_X4_messagesThatCame, by decide, rfl⟩
abbrev mX4_cameFrom : MT := (yX4_cameFrom, cX4_cameFrom, 2, some FieldType.int, { frames := 1, cells := 0, slots := 0, locals := 21 }, 1)
theorem kX4_cameFrom : xM mX4_cameFrom := ⟨wc_X4_cameFrom, wz_X4, by decide +kernel, by decide +kernel, by decide +kernel⟩
theorem kvX4_cameFrom : xMV mX4_cameFrom 4 := ⟨kX4_cameFrom, wi_X4_cameFrom, ws_X4_cameFrom, by decide, rfl⟩
abbrev mX4_isIn : MT := (yX4_isIn, cX4_isIn, 2, some FieldType.boolean, { frames := 0, cells := 0, slots := 0, locals := 0 }, 2)
theorem kX4_isIn : xM mX4_isIn := ⟨wc_X4_isIn, wz_X4, by decide +kernel, by decide +kernel, by decide +kernel⟩
theorem ktX4_isIn : xMS mX4_isIn := ⟨kX4_isIn, wt_X4_isIn⟩
abbrev mX4_talkers : MT := (yX4_talkers, cX4_talkers, 3, some FieldType.int, { frames := 0, cells := 0, slots := 0, locals := 0 }, 0)
theorem kX4_talkers : xM mX4_talkers := ⟨wc_X4_talkers, wz_X4, by decide +kernel, by decide +kernel, by decide +kernel⟩
theorem kvX4_talkers : xMV mX4_talkers 4 := ⟨kX4_talkers, wi_X4_talkers, ws_X4_talkers, by decide, rfl⟩
abbrev mX4_speakersWithMessage : MT := (yX4_speakersWithMessage, cX4_speakersWithMessage, 3, some FieldType.int, { frames := 0, cells := 0, slots := 0, locals := 0 }, 0)
theorem kX4_speakersWithMessage : xM mX4_speakersWithMessage := ⟨wc_X4_speakersWithMessage, wz_X4, by decide +kernel, by decide +kernel, by decide +kernel⟩
theorem kvX4_speakersWithMessage : xMV mX4_speakersWithMessage 4 := ⟨kX4_speakersWithMessage, wi_X4_speakersWithMessage, ws_X4_speakersWithMessage, by decide, rfl⟩
abbrev mX4_sendersOf : MT := (yX4_sendersOf, cX4_sendersOf, 9, some FieldType.int, { frames := 1, cells := 0, slots := 0, locals := 23 }, 3)
theorem kX4_sendersOf : xM mX4_sendersOf := ⟨wc_X4_sendersOf, wz_X4, by decide +kernel, by decide +kernel, by decide +kernel⟩
theorem kvX4_sendersOf : xMV mX4_sendersOf 4 := ⟨kX4_sendersOf, wi_X4_sendersOf, ws_X4_sendersOf, by decide, rfl⟩
abbrev mX4_endsAt : MT := (yX4_endsAt, cX4_endsAt, 2, some FieldType.boolean, { frames := 2, cells := 0, slots := 0, locals := 44 }, 2)
theorem kX4_endsAt : xM mX4_endsAt := ⟨wc_X4_endsAt, wz_X4, by decide +kernel, by decide +kernel, by decide +kernel⟩
theorem ktX4_endsAt : xMS mX4_endsAt := ⟨kX4_endsAt, wt_X4_endsAt⟩
abbrev mX4_endingAt : MT := (yX4_endingAt, cX4_endingAt, 5, some FieldType.int, { frames := 3, cells := 0, slots := 0, locals := 65 }, 2)
theorem kX4_endingAt : xM mX4_endingAt := ⟨wc_X4_endingAt, wz_X4, by decide +kernel, by decide +kernel, by decide +kernel⟩
theorem kvX4_endingAt : xMV mX4_endingAt 4 := ⟨kX4_endingAt, wi_X4_endingAt, ws_X4_endingAt, by decide, rfl⟩
abbrev mX4_partOfTalk : MT := (yX4_partOfTalk, cX4_partOfTalk, 6, some FieldType.int, { frames := 1, cells := 0, slots := 0, locals := 23 }, 1)
theorem kX4_partOfTalk : xM mX4_partOfTalk := ⟨wc_X4_partOfTalk, wz_X4, by decide +kernel, by decide +kernel, by decide +kernel⟩
theorem kvX4_partOfTalk : xMV mX4_partOfTalk 4 := ⟨kX4_partOfTalk, wi_X4_partOfTalk, ws_X4_partOfTalk, by decide, rfl⟩
abbrev mX5_init : MT := (yX5_init, cX5_init, 2, none, { frames := 3, cells := 0, slots := 0, locals := 61 }, 0)
theorem kX5_init : xM mX5_init := ⟨wc_X5_init, wz_X5, by decide +kernel, by decide +kernel, by decide +kernel⟩
theorem kiX5_init : xMI mX5_init := ⟨kX5_init, wi_X5_init, rfl, rfl⟩
abbrev mX5_say : MT := (yX5_say, cX5_say, 5, some FieldType.int, { frames := 3, cells := 0, slots := 0, locals := 103 }, 4)
theorem kX5_say : xM mX5_say := ⟨wc_X5_say, wz_X5, by decide +kernel, by decide +kernel, by decide +kernel⟩
theorem kvX5_say : xMV mX5_say 5 := ⟨kX5_say, wi_X5_say, ws_X5_say, by decide, rfl⟩
abbrev mX5_takeBack : MT := (yX5_takeBack, cX5_takeBack, 2, some FieldType.int, { frames := 3, cells := 0, slots := 0, locals := 103 }, 1)
theorem kX5_takeBack : xM mX5_takeBack := ⟨wc_X5_takeBack, wz_X5, by decide +kernel, by decide +kernel, by decide +kernel⟩
theorem kvX5_takeBack : xMV mX5_takeBack 5 := ⟨kX5_takeBack, wi_X5_takeBack, ws_X5_takeBack, by decide, rfl⟩
abbrev mX5_hear : MT := (yX5_hear, cX5_hear, 3, some FieldType.int, { frames := 3, cells := 0, slots := 0, locals := 103 }, 2)
theorem kX5_hear : xM mX5_hear := ⟨wc_X5_hear, wz_X5, by decide +kernel, by decide +kernel, by decide +kernel⟩
theorem kvX5_hear : xMV mX5_hear 5 := ⟨kX5_hear, wi_X5_hear, ws_X5_hear, by decide, rfl⟩
abbrev mX5_hold : MT := (yX5_hold, cX5_hold, 3, some FieldType.int, { frames := 3, cells := 0, slots := 0, locals := 103 }, 2)
theorem kX5_hold : xM mX5_hold := ⟨wc_X5_hold, wz_X5, by decide +kernel, by decide +kernel, by decide +kernel⟩
theorem kvX5_hold : xMV mX5_hold 5 := ⟨kX5_hold, wi_X5_hold, ws_X5_hold, by decide, rfl⟩
abbrev mX5_stick : MT := (yX5_stick, cX5_stick, 3, some FieldType.int, { frames := 3, cells := 0, slots := 0, locals := 103 }, 2)
theorem kX5_stick : xM mX5_stick := ⟨wc_X5_stick, wz_X5, by decide +kernel, by decide +kernel, by decide +kernel⟩
theorem kvX5_stick : xMV mX5_stick 5 := ⟨kX5_stick, wi_X5_stick, ws_X5_stick, by decide, rfl⟩
abbrev mX5_set : MT := (yX5_set, cX5_set, 3, some FieldType.int, { frames := 3, cells := 0, slots := 0, locals := 103 }, 2)
theorem kX5_set : xM mX5_set := ⟨wc_X5_set, wz_X5, by decide +kernel, by decide +kernel, by decide +kernel⟩
theorem kvX5_set : xMV mX5_set 5 := ⟨kX5_set, wi_X5_set, ws_X5_set, by decide, rfl⟩
abbrev mX5_run : MT := (yX5_run, cX5_run, 2, some FieldType.int, { frames := 6, cells := 0, slots := 0, locals := 170 }, 1)
theorem kX5_run : xM mX5_run := ⟨wc_X5_run, wz_X5, by decide +kernel, by decide +kernel, by decide +kernel⟩
theorem kvX5_run : xMV mX5_run 5 := ⟨kX5_run, wi_X5_run, ws_X5_run, by decide, rfl⟩
abbrev mX5_undo : MT := (yX5_undo, cX5_undo, 1, some FieldType.int, { frames := 3, cells := 0, slots := 0, locals := 103 }, 0)
theorem kX5_undo : xM mX5_undo := ⟨wc_X5_undo, wz_X5, by decide +kernel, by decide +kernel, by decide +kernel⟩
theorem kvX5_undo : xMV mX5_undo 5 := ⟨kX5_undo, wi_X5_undo, ws_X5_undo, by decide, rfl⟩
abbrev mX5_speaker : MT := (yX5_speaker, cX5_speaker, 4, some FieldType.int, { frames := 2, cells := 0, slots := 0, locals := 42 }, 2)
theorem kX5_speaker : xM mX5_speaker := ⟨wc_X5_speaker, wz_X5, by decide +kernel, by decide +kernel, by decide +kernel⟩
theorem kvX5_speaker : xMV mX5_speaker 5 := ⟨kX5_speaker, wi_X5_speaker, ws_X5_speaker, by decide, rfl⟩
abbrev mX5_message : MT := (yX5_message, cX5_message, 5, some FieldType.int, { frames := 2, cells := 0, slots := 0, locals := 47 }, 3)
theorem kX5_message : xM mX5_message := ⟨wc_X5_message, wz_X5, by decide +kernel, by decide +kernel, by decide +kernel⟩
theorem kvX5_message : xMV mX5_message 5 := ⟨kX5_message, wi_X5_message, ws_X5_message, by decide, rfl⟩
abbrev mX5_listener : MT := (yX5_listener, cX5_listener, 4, some FieldType.int, { frames := 2, cells := 0, slots := 0, locals := 42 }, 2)
theorem kX5_listener : xM mX5_listener := ⟨wc_X5_listener, wz_X5, by decide +kernel, by decide +kernel, by decide +kernel⟩
theorem kvX5_listener : xMV mX5_listener 5 := ⟨kX5_listener, wi_X5_listener, ws_X5_listener, by decide, rfl⟩
abbrev mX5_bit : MT := (yX5_bit, cX5_bit, 3, some FieldType.int, { frames := 2, cells := 0, slots := 0, locals := 44 }, 2)
theorem kX5_bit : xM mX5_bit := ⟨wc_X5_bit, wz_X5, by decide +kernel, by decide +kernel, by decide +kernel⟩
theorem kvX5_bit : xMV mX5_bit 5 := ⟨kX5_bit, wi_X5_bit, ws_X5_bit, by decide, rfl⟩
abbrev mX5_winners : MT := (yX5_winners, cX5_winners, 5, some FieldType.int, { frames := 4, cells := 0, slots := 0, locals := 89 }, 0)
theorem kX5_winners : xM mX5_winners := ⟨wc_X5_winners, wz_X5, by decide +kernel, by decide +kernel, by decide +kernel⟩
theorem kvX5_winners : xMV mX5_winners 5 := ⟨kX5_winners, wi_X5_winners, ws_X5_winners, by decide, rfl⟩
abbrev mX5_emptyIn : MT := (yX5_emptyIn, cX5_emptyIn, 2, some FieldType.int, { frames := 5, cells := 0, slots := 0, locals := 147 }, 0)
theorem kX5_emptyIn : xM mX5_emptyIn := ⟨wc_X5_emptyIn, wz_X5, by decide +kernel, by decide +kernel, by decide +kernel⟩
theorem kvX5_emptyIn : xMV mX5_emptyIn 5 := ⟨kX5_emptyIn, wi_X5_emptyIn, ws_X5_emptyIn, by decide, rfl⟩
abbrev mX5_ifRun : MT := (yX5_ifRun, cX5_ifRun, 5, some FieldType.int, { frames := 5, cells := 0, slots := 0, locals := 147 }, 2)
theorem kX5_ifRun : xM mX5_ifRun := ⟨wc_X5_ifRun, wz_X5, by decide +kernel, by decide +kernel, by decide +kernel⟩
theorem kvX5_ifRun : xMV mX5_ifRun 5 := ⟨kX5_ifRun, wi_X5_ifRun, ws_X5_ifRun, by decide, rfl⟩
abbrev mX5_count : MT := (yX5_count, cX5_count, 2, some FieldType.int, { frames := 2, cells := 0, slots := 0, locals := 45 }, 1)
theorem kX5_count : xM mX5_count := ⟨wc_X5_count, wz_X5, by decide +kernel, by decide +kernel, by decide +kernel⟩
theorem kvX5_count : xMV mX5_count 5 := ⟨kX5_count, wi_X5_count, ws_X5_count, by decide, rfl⟩
abbrev mX5_recorded : MT := (yX5_recorded, cX5_recorded, 4, some FieldType.int, { frames := 1, cells := 0, slots := 0, locals := 21 }, 1)
theorem kX5_recorded : xM mX5_recorded := ⟨wc_X5_recorded, wz_X5, by decide +kernel, by decide +kernel, by decide +kernel⟩
theorem kvX5_recorded : xMV mX5_recorded 5 := ⟨kX5_recorded, wi_X5_recorded, ws_X5_recorded, by decide, rfl⟩
abbrev mX5_isIndex : MT := (yX5_isIndex, cX5_isIndex, 2, some FieldType.boolean, { frames := 0, cells := 0, slots := 0, locals := 0 }, 2)
theorem kX5_isIndex : xM mX5_isIndex := ⟨wc_X5_isIndex, wz_X5, by decide +kernel, by decide +kernel, by decide +kernel⟩
theorem ktX5_isIndex : xMS mX5_isIndex := ⟨kX5_isIndex, wt_X5_isIndex⟩
abbrev mX5_isPlace : MT := (yX5_isPlace, cX5_isPlace, 1, some FieldType.boolean, { frames := 0, cells := 0, slots := 0, locals := 0 }, 1)
theorem kX5_isPlace : xM mX5_isPlace := ⟨wc_X5_isPlace, wz_X5, by decide +kernel, by decide +kernel, by decide +kernel⟩
theorem ktX5_isPlace : xMS mX5_isPlace := ⟨kX5_isPlace, wt_X5_isPlace⟩
abbrev mJ6_bitCount_0f7a4 : MT := (yJ6_bitCount_0f7a4, cJ6_bitCount_0f7a4, 1, some FieldType.int, { frames := 0, cells := 0, slots := 0, locals := 0 }, 1)
theorem kJ6_bitCount_0f7a4 : xM mJ6_bitCount_0f7a4 := ⟨wc_J6_bitCount_0f7a4, wz_J6, by decide +kernel, by decide +kernel, by decide +kernel⟩
theorem ktJ6_bitCount_0f7a4 : xMS mJ6_bitCount_0f7a4 := ⟨kJ6_bitCount_0f7a4, wt_J6_bitCount_0f7a4⟩
abbrev mJ9_floorMod_7cf53 : MT := (yJ9_floorMod_7cf53, cJ9_floorMod_7cf53, 3, some FieldType.int, { frames := 0, cells := 0, slots := 0, locals := 0 }, 2)
theorem kJ9_floorMod_7cf53 : xM mJ9_floorMod_7cf53 := ⟨wc_J9_floorMod_7cf53, wz_J9, by decide +kernel, by decide +kernel, by decide +kernel⟩
theorem ktJ9_floorMod_7cf53 : xMS mJ9_floorMod_7cf53 := ⟨kJ9_floorMod_7cf53, wt_J9_floorMod_7cf53⟩
abbrev mJ9_max_7cf53 : MT := (yJ9_max_7cf53, cJ9_max_7cf53, 2, some FieldType.int, { frames := 0, cells := 0, slots := 0, locals := 0 }, 2)
theorem kJ9_max_7cf53 : xM mJ9_max_7cf53 := ⟨wc_J9_max_7cf53, wz_J9, by decide +kernel, by decide +kernel, by decide +kernel⟩
theorem ktJ9_max_7cf53 : xMS mJ9_max_7cf53 := ⟨kJ9_max_7cf53, wt_J9_max_7cf53⟩
abbrev mJ9_min_7cf53 : MT := (yJ9_min_7cf53, cJ9_min_7cf53, 2, some FieldType.int, { frames := 0, cells := 0, slots := 0, locals := 0 }, 2)
theorem kJ9_min_7cf53 : xM mJ9_min_7cf53 := ⟨wc_J9_min_7cf53, wz_J9, by decide +kernel, by decide +kernel, by decide +kernel⟩
theorem ktJ9_min_7cf53 : xMS mJ9_min_7cf53 := ⟨kJ9_min_7cf53, wt_J9_min_7cf53⟩
abbrev mL_cell : MT := (yL_cell, cL_cell, 2, some FieldType.int, { frames := 0, cells := 0, slots := 0, locals := 0 }, 2)
theorem kL_cell : xM mL_cell := ⟨wc_L_cell, wz_L, by decide +kernel, by decide +kernel, by decide +kernel⟩
theorem ktL_cell : xMS mL_cell := ⟨kL_cell, wt_L_cell⟩
abbrev mL_low : MT := (yL_low, cL_low, 2, some FieldType.int, { frames := 0, cells := 0, slots := 0, locals := 0 }, 2)
theorem kL_low : xM mL_low := ⟨wc_L_low, wz_L, by decide +kernel, by decide +kernel, by decide +kernel⟩
theorem ktL_low : xMS mL_low := ⟨kL_low, wt_L_low⟩
abbrev mL_does : MT := (yL_does, cL_does, 7, some FieldType.int, { frames := 7, cells := 0, slots := 0, locals := 191 }, 2)
theorem kL_does : xM mL_does := ⟨wc_L_does, wz_L, by decide +kernel, by decide +kernel, by decide +kernel⟩
theorem ktL_does : xMS mL_does := ⟨kL_does, wt_L_does⟩
abbrev mL_areCountsSo : MT := (yL_areCountsSo, cL_areCountsSo, 10, some FieldType.boolean, { frames := 3, cells := 0, slots := 0, locals := 71 }, 1)
theorem kL_areCountsSo : xM mL_areCountsSo := ⟨wc_L_areCountsSo, wz_L, by decide +kernel, by decide +kernel, by decide +kernel⟩
theorem ktL_areCountsSo : xMS mL_areCountsSo := ⟨kL_areCountsSo, wt_L_areCountsSo⟩
abbrev mL_isLogSo : MT := (yL_isLogSo, cL_isLogSo, 10, some FieldType.boolean, { frames := 3, cells := 0, slots := 0, locals := 71 }, 1)
theorem kL_isLogSo : xM mL_isLogSo := ⟨wc_L_isLogSo, wz_L, by decide +kernel, by decide +kernel, by decide +kernel⟩
theorem ktL_isLogSo : xMS mL_isLogSo := ⟨kL_isLogSo, wt_L_isLogSo⟩
abbrev mL_areIfsSo : MT := (yL_areIfsSo, cL_areIfsSo, 9, some FieldType.boolean, { frames := 7, cells := 2, slots := 8, locals := 191 }, 2)
theorem kL_areIfsSo : xM mL_areIfsSo := ⟨wc_L_areIfsSo, wz_L, by decide +kernel, by decide +kernel, by decide +kernel⟩
theorem ktL_areIfsSo : xMS mL_areIfsSo := ⟨kL_areIfsSo, wt_L_areIfsSo⟩
abbrev mL_areWinnersSo : MT := (yL_areWinnersSo, cL_areWinnersSo, 9, some FieldType.boolean, { frames := 5, cells := 0, slots := 0, locals := 113 }, 1)
theorem kL_areWinnersSo : xM mL_areWinnersSo := ⟨wc_L_areWinnersSo, wz_L, by decide +kernel, by decide +kernel, by decide +kernel⟩
theorem ktL_areWinnersSo : xMS mL_areWinnersSo := ⟨kL_areWinnersSo, wt_L_areWinnersSo⟩
