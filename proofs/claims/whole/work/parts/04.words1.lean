theorem sg1 {w : Cond} (h : w ∈ tables_1_1) (g : goodWord w = true) : w ∈ gT := gT_in (List.mem_append_right _ (List.mem_append_right _ (List.mem_append_left _ h))) g
theorem sg2 {w : Cond} (h : w ∈ tables_1_2) (g : goodWord w = true) : w ∈ gT := gT_in (List.mem_append_right _ (List.mem_append_right _ (List.mem_append_right _ (List.mem_append_left _ h)))) g
theorem sg3 {w : Cond} (h : w ∈ tables_1_3) (g : goodWord w = true) : w ∈ gT := gT_in (List.mem_append_right _ (List.mem_append_right _ (List.mem_append_right _ (List.mem_append_right _ (List.mem_append_left _ h))))) g
theorem sg4 {w : Cond} (h : w ∈ tables_1_4) (g : goodWord w = true) : w ∈ gT := gT_in (List.mem_append_right _ (List.mem_append_right _ (List.mem_append_right _ (List.mem_append_right _ (List.mem_append_right _ (List.mem_append_left _ h)))))) g
theorem sg5 {w : Cond} (h : w ∈ tables_1_5) (g : goodWord w = true) : w ∈ gT := gT_in (List.mem_append_right _ (List.mem_append_right _ (List.mem_append_right _ (List.mem_append_right _ (List.mem_append_right _ (List.mem_append_right _ (h))))))) g
theorem sgp {w : Cond} (h : w ∈ k2_sels lw_privs) (g : goodWord w = true) : w ∈ gT := gT_in (List.mem_append_right _ (List.mem_append_left _ h)) g
theorem sge {w : Cond} (h : w ∈ lw_ex) (g : goodWord w = true) : w ∈ gT := gT_in (List.mem_append_left _ h) g
theorem ms_X6_runWord : Cond.selects RX6 yX6_runWord yX6_runWord ∈ gT := sgp (List.mem_of_getElem? (i := 0) rfl) rfl
theorem ms_X6_changePause : Cond.selects RX6 yX6_changePause yX6_changePause ∈ gT := sgp (List.mem_of_getElem? (i := 1) rfl) rfl
theorem ms_X6_runWordWithArgument : Cond.selects RX6 yX6_runWordWithArgument yX6_runWordWithArgument ∈ gT := sgp (List.mem_of_getElem? (i := 2) rfl) rfl
theorem ms_X6_changePolicy : Cond.selects RX6 yX6_changePolicy yX6_changePolicy ∈ gT := sgp (List.mem_of_getElem? (i := 3) rfl) rfl
theorem ms_X6_changeCap : Cond.selects RX6 yX6_changeCap yX6_changeCap ∈ gT := sgp (List.mem_of_getElem? (i := 4) rfl) rfl
theorem ms_X6_seek : Cond.selects RX6 yX6_seek yX6_seek ∈ gT := sgp (List.mem_of_getElem? (i := 5) rfl) rfl
theorem ms_X2_canStartDownload : Cond.selects RX2 yX2_canStartDownload yX2_canStartDownload ∈ gT := sgp (List.mem_of_getElem? (i := 6) rfl) rfl
theorem ms_X2_hasNextSegment : Cond.selects RX2 yX2_hasNextSegment yX2_hasNextSegment ∈ gT := sgp (List.mem_of_getElem? (i := 7) rfl) rfl
theorem ms_X2_chooseLevel : Cond.selects RX2 yX2_chooseLevel yX2_chooseLevel ∈ gT := sgp (List.mem_of_getElem? (i := 8) rfl) rfl
theorem ms_X2_levelByRate : Cond.selects RX2 yX2_levelByRate yX2_levelByRate ∈ gT := sgp (List.mem_of_getElem? (i := 9) rfl) rfl
theorem ms_X2_levelByBuffer : Cond.selects RX2 yX2_levelByBuffer yX2_levelByBuffer ∈ gT := sgp (List.mem_of_getElem? (i := 10) rfl) rfl
theorem ms_X2_levelByBoth : Cond.selects RX2 yX2_levelByBoth yX2_levelByBoth ∈ gT := sgp (List.mem_of_getElem? (i := 11) rfl) rfl
theorem ms_X2_completeSegment : Cond.selects RX2 yX2_completeSegment yX2_completeSegment ∈ gT := sgp (List.mem_of_getElem? (i := 12) rfl) rfl
theorem ms_X2_play : Cond.selects RX2 yX2_play yX2_play ∈ gT := sgp (List.mem_of_getElem? (i := 13) rfl) rfl
theorem ms_X2_playIfReady : Cond.selects RX2 yX2_playIfReady yX2_playIfReady ∈ gT := sgp (List.mem_of_getElem? (i := 14) rfl) rfl
theorem ms_X2_playMillisecond : Cond.selects RX2 yX2_playMillisecond yX2_playMillisecond ∈ gT := sgp (List.mem_of_getElem? (i := 15) rfl) rfl
theorem ms_X6_simulationError : Cond.selects RX6 yX6_simulationError yX6_simulationError ∈ gT := sgp (List.mem_of_getElem? (i := 16) rfl) rfl
theorem ms_X7_begins : Cond.selects RX7 yX7_begins yX7_begins ∈ gT := sgp (List.mem_of_getElem? (i := 17) rfl) rfl
theorem ms_X7_has : Cond.selects RX7 yX7_has yX7_has ∈ gT := sgp (List.mem_of_getElem? (i := 18) rfl) rfl
theorem ms_X7_policyFrom : Cond.selects RX7 yX7_policyFrom yX7_policyFrom ∈ gT := sgp (List.mem_of_getElem? (i := 19) rfl) rfl
theorem ms_X7_setsPolicy : Cond.selects RX7 yX7_setsPolicy yX7_setsPolicy ∈ gT := sgp (List.mem_of_getElem? (i := 20) rfl) rfl
theorem ms_X7_capFrom : Cond.selects RX7 yX7_capFrom yX7_capFrom ∈ gT := sgp (List.mem_of_getElem? (i := 21) rfl) rfl
theorem ms_X7_numberFrom : Cond.selects RX7 yX7_numberFrom yX7_numberFrom ∈ gT := sgp (List.mem_of_getElem? (i := 22) rfl) rfl
theorem ms_X7_isDigit : Cond.selects RX7 yX7_isDigit yX7_isDigit ∈ gT := sgp (List.mem_of_getElem? (i := 23) rfl) rfl
theorem ms_X7_seekFrom : Cond.selects RX7 yX7_seekFrom yX7_seekFrom ∈ gT := sgp (List.mem_of_getElem? (i := 24) rfl) rfl
theorem ms_X7_pauses : Cond.selects RX7 yX7_pauses yX7_pauses ∈ gT := sgp (List.mem_of_getElem? (i := 25) rfl) rfl
theorem ms_X7_passes : Cond.selects RX7 yX7_passes yX7_passes ∈ gT := sgp (List.mem_of_getElem? (i := 26) rfl) rfl
theorem ms_X7_startsDownload : Cond.selects RX7 yX7_startsDownload yX7_startsDownload ∈ gT := sgp (List.mem_of_getElem? (i := 27) rfl) rfl
theorem ms_X7_chosen : Cond.selects RX7 yX7_chosen yX7_chosen ∈ gT := sgp (List.mem_of_getElem? (i := 28) rfl) rfl
theorem ms_X7_highest : Cond.selects RX7 yX7_highest yX7_highest ∈ gT := sgp (List.mem_of_getElem? (i := 29) rfl) rfl
theorem ms_X7_levelByRate : Cond.selects RX7 yX7_levelByRate yX7_levelByRate ∈ gT := sgp (List.mem_of_getElem? (i := 30) rfl) rfl
theorem ms_X7_estimate : Cond.selects RX7 yX7_estimate yX7_estimate ∈ gT := sgp (List.mem_of_getElem? (i := 31) rfl) rfl
theorem ms_X7_levelByBuffer : Cond.selects RX7 yX7_levelByBuffer yX7_levelByBuffer ∈ gT := sgp (List.mem_of_getElem? (i := 32) rfl) rfl
theorem ms_X7_levelOfBoth : Cond.selects RX7 yX7_levelOfBoth yX7_levelOfBoth ∈ gT := sgp (List.mem_of_getElem? (i := 33) rfl) rfl
theorem ms_X7_sizeOf : Cond.selects RX7 yX7_sizeOf yX7_sizeOf ∈ gT := sgp (List.mem_of_getElem? (i := 34) rfl) rfl
theorem ms_X7_receives : Cond.selects RX7 yX7_receives yX7_receives ∈ gT := sgp (List.mem_of_getElem? (i := 35) rfl) rfl
theorem ms_X7_rateAt : Cond.selects RX7 yX7_rateAt yX7_rateAt ∈ gT := sgp (List.mem_of_getElem? (i := 36) rfl) rfl
theorem ms_X7_completes : Cond.selects RX7 yX7_completes yX7_completes ∈ gT := sgp (List.mem_of_getElem? (i := 37) rfl) rfl
theorem ms_X7_plays : Cond.selects RX7 yX7_plays yX7_plays ∈ gT := sgp (List.mem_of_getElem? (i := 38) rfl) rfl
theorem ms_X7_waits : Cond.selects RX7 yX7_waits yX7_waits ∈ gT := sgp (List.mem_of_getElem? (i := 39) rfl) rfl
theorem ms_X7_simulated : Cond.selects RX7 yX7_simulated yX7_simulated ∈ gT := sgp (List.mem_of_getElem? (i := 40) rfl) rfl
theorem ms_X7_setsAside : Cond.selects RX7 yX7_setsAside yX7_setsAside ∈ gT := sgp (List.mem_of_getElem? (i := 41) rfl) rfl
theorem ms_X7_simulates : Cond.selects RX7 yX7_simulates yX7_simulates ∈ gT := sgp (List.mem_of_getElem? (i := 42) rfl) rfl
theorem ms_X7_takesBack : Cond.selects RX7 yX7_takesBack yX7_takesBack ∈ gT := sgp (List.mem_of_getElem? (i := 43) rfl) rfl
theorem ms_J4_J5_ensureCapacityInternal_d00df_J5_ensureCapacityInternal_d00df : Cond.selects RJ4 yJ5_ensureCapacityInternal_d00df yJ5_ensureCapacityInternal_d00df ∈ gT := sge (List.mem_of_getElem? (i := 0) rfl) rfl
theorem ms_J4_J5_newCapacity_0f7a4_J5_newCapacity_0f7a4 : Cond.selects RJ4 yJ5_newCapacity_0f7a4 yJ5_newCapacity_0f7a4 ∈ gT := sge (List.mem_of_getElem? (i := 1) rfl) rfl
theorem ms_J4_J5_inflate_da8c8_J5_inflate_da8c8 : Cond.selects RJ4 yJ5_inflate_da8c8 yJ5_inflate_da8c8 ∈ gT := sge (List.mem_of_getElem? (i := 2) rfl) rfl
theorem mn_L : Cond.initialized RL ∈ gT := sg1 (List.mem_of_getElem? (i := 0) rfl) rfl
theorem mn_X6 : Cond.initialized RX6 ∈ gT := sg1 (List.mem_of_getElem? (i := 1) rfl) rfl
theorem mn_X5 : Cond.initialized RX5 ∈ gT := sg1 (List.mem_of_getElem? (i := 2) rfl) rfl
theorem mn_X0 : Cond.initialized RX0 ∈ gT := sg1 (List.mem_of_getElem? (i := 3) rfl) rfl
theorem mn_X3 : Cond.initialized RX3 ∈ gT := sg1 (List.mem_of_getElem? (i := 4) rfl) rfl
theorem mn_X2 : Cond.initialized RX2 ∈ gT := sg1 (List.mem_of_getElem? (i := 5) rfl) rfl
theorem mn_X4 : Cond.initialized RX4 ∈ gT := sg1 (List.mem_of_getElem? (i := 6) rfl) rfl
theorem mn_X1 : Cond.initialized RX1 ∈ gT := sg1 (List.mem_of_getElem? (i := 7) rfl) rfl
theorem mn_J5 : Cond.initialized RJ5 ∈ gT := sg1 (List.mem_of_getElem? (i := 8) rfl) rfl
theorem mn_J4 : Cond.initialized RJ4 ∈ gT := sg1 (List.mem_of_getElem? (i := 9) rfl) rfl
theorem mn_J0 : Cond.initialized RJ0 ∈ gT := sg1 (List.mem_of_getElem? (i := 10) rfl) rfl
theorem mn_J2 : Cond.initialized RJ2 ∈ gT := sg1 (List.mem_of_getElem? (i := 11) rfl) rfl
theorem mn_X7 : Cond.initialized RX7 ∈ gT := sg1 (List.mem_of_getElem? (i := 12) rfl) rfl
theorem mn_J8 : Cond.initialized RJ8 ∈ gT := sg1 (List.mem_of_getElem? (i := 13) rfl) rfl
theorem mn_J9 : Cond.initialized RJ9 ∈ gT := sg1 (List.mem_of_getElem? (i := 14) rfl) rfl
theorem mn_J7 : Cond.initialized RJ7 ∈ gT := sg1 (List.mem_of_getElem? (i := 15) rfl) rfl
theorem mn_J10 : Cond.initialized RJ10 ∈ gT := sg1 (List.mem_of_getElem? (i := 16) rfl) rfl
theorem mn_J1 : Cond.initialized RJ1 ∈ gT := sg1 (List.mem_of_getElem? (i := 17) rfl) rfl
theorem mn_J3 : Cond.initialized RJ3 ∈ gT := sg1 (List.mem_of_getElem? (i := 18) rfl) rfl
theorem mn_J11 : Cond.initialized RJ11 ∈ gT := sg1 (List.mem_of_getElem? (i := 19) rfl) rfl
theorem ml_L_7 : Cond.classLink RL 7 RX6 ∈ gT := sg1 (List.mem_of_getElem? (i := 20) rfl) rfl
theorem mq_X6 : Cond.instantiable RX6 8 ∈ gT := sg1 (List.mem_of_getElem? (i := 21) rfl) rfl
theorem mm_L_9 : Cond.methodLink RL 9 yX6_init ∈ gT := sg1 (List.mem_of_getElem? (i := 22) rfl) rfl
theorem mi_X6_init : Cond.instanceMethod yX6_init ∈ gT := sg1 (List.mem_of_getElem? (i := 23) rfl) rfl
theorem mc_X6_init : Cond.code yX6_init cX6_init 1 none ∈ gT := sg1 (List.mem_of_getElem? (i := 24) rfl) rfl
theorem mm_X6_3 : Cond.methodLink RX6 3 Lib.objectInit ∈ gT := sg1 (List.mem_of_getElem? (i := 25) rfl) rfl
theorem mi_objectInit : Cond.instanceMethod Lib.objectInit ∈ gT := sg1 (List.mem_of_getElem? (i := 26) rfl) rfl
theorem mc_objectInit : Cond.code Lib.objectInit object_method_1_code 1 none ∈ gT := sg1 (List.mem_of_getElem? (i := 27) rfl) rfl
theorem ml_X6_9 : Cond.classLink RX6 9 RX5 ∈ gT := sg1 (List.mem_of_getElem? (i := 28) rfl) rfl
theorem mq_X5 : Cond.instantiable RX5 5 ∈ gT := sg1 (List.mem_of_getElem? (i := 29) rfl) rfl
theorem mm_X6_11 : Cond.methodLink RX6 11 yX5_init ∈ gT := sg1 (List.mem_of_getElem? (i := 30) rfl) rfl
theorem mi_X5_init : Cond.instanceMethod yX5_init ∈ gT := sg1 (List.mem_of_getElem? (i := 31) rfl) rfl
theorem mc_X5_init : Cond.code yX5_init cX5_init 1 none ∈ gT := sg1 (List.mem_of_getElem? (i := 32) rfl) rfl
theorem mm_X5_3 : Cond.methodLink RX5 3 Lib.objectInit ∈ gT := sg1 (List.mem_of_getElem? (i := 33) rfl) rfl
theorem mm_X5_18 : Cond.methodLink RX5 18 yX5_replace ∈ gT := sg1 (List.mem_of_getElem? (i := 34) rfl) rfl
theorem mi_X5_replace : Cond.instanceMethod yX5_replace ∈ gT := sg1 (List.mem_of_getElem? (i := 35) rfl) rfl
theorem ms_X5_replace : Cond.selects RX5 yX5_replace yX5_replace ∈ gT := sg1 (List.mem_of_getElem? (i := 36) rfl) rfl
theorem mc_X5_replace : Cond.code yX5_replace cX5_replace 4 none ∈ gT := sg1 (List.mem_of_getElem? (i := 37) rfl) rfl
theorem mf_X5_9 : Cond.fieldLink RX5 9 "AdaptivePlayer$Video" "bitrates" "[I" ∈ gT := sg1 (List.mem_of_getElem? (i := 38) rfl) rfl
theorem mf_X5_15 : Cond.fieldLink RX5 15 "AdaptivePlayer$Video" "variations" "[I" ∈ gT := sg1 (List.mem_of_getElem? (i := 39) rfl) rfl
theorem mf_X5_22 : Cond.fieldLink RX5 22 "AdaptivePlayer$Video" "segmentCount" "I" ∈ gT := sg1 (List.mem_of_getElem? (i := 40) rfl) rfl
theorem mf_X2_138 : Cond.fieldLink RX2 138 "AdaptivePlayer$Video" "segmentCount" "I" ∈ gT := sg1 (List.mem_of_getElem? (i := 41) rfl) rfl
theorem mf_X5_26 : Cond.fieldLink RX5 26 "AdaptivePlayer$Video" "duration" "I" ∈ gT := sg1 (List.mem_of_getElem? (i := 42) rfl) rfl
theorem mf_X2_86 : Cond.fieldLink RX2 86 "AdaptivePlayer$Video" "duration" "I" ∈ gT := sg1 (List.mem_of_getElem? (i := 43) rfl) rfl
theorem mf_X5_29 : Cond.fieldLink RX5 29 "AdaptivePlayer$Video" "levelCount" "I" ∈ gT := sg1 (List.mem_of_getElem? (i := 44) rfl) rfl
theorem mf_X6_71 : Cond.fieldLink RX6 71 "AdaptivePlayer$Video" "levelCount" "I" ∈ gT := sg1 (List.mem_of_getElem? (i := 45) rfl) rfl
theorem mf_X2_171 : Cond.fieldLink RX2 171 "AdaptivePlayer$Video" "levelCount" "I" ∈ gT := sg1 (List.mem_of_getElem? (i := 46) rfl) rfl
theorem ma_int : Cond.arrayClass .int ∈ gT := sg1 (List.mem_of_getElem? (i := 58) rfl) rfl
theorem ml_X6_16 : Cond.classLink RX6 16 RX0 ∈ gT := sg1 (List.mem_of_getElem? (i := 59) rfl) rfl
theorem mq_X0 : Cond.instantiable RX0 3 ∈ gT := sg1 (List.mem_of_getElem? (i := 60) rfl) rfl
theorem mi_X0_init : Cond.instanceMethod yX0_init ∈ gT := sg1 (List.mem_of_getElem? (i := 62) rfl) rfl
theorem mc_X0_init : Cond.code yX0_init cX0_init 1 none ∈ gT := sg1 (List.mem_of_getElem? (i := 63) rfl) rfl
theorem mm_X0_3 : Cond.methodLink RX0 3 Lib.objectInit ∈ gT := sg1 (List.mem_of_getElem? (i := 64) rfl) rfl
theorem mf_X0_9 : Cond.fieldLink RX0 9 "AdaptivePlayer$Connection" "ends" "[I" ∈ gT := sg1 (List.mem_of_getElem? (i := 65) rfl) rfl
theorem mf_X0_15 : Cond.fieldLink RX0 15 "AdaptivePlayer$Connection" "rates" "[I" ∈ gT := sg1 (List.mem_of_getElem? (i := 66) rfl) rfl
theorem mf_X0_18 : Cond.fieldLink RX0 18 "AdaptivePlayer$Connection" "periodCount" "I" ∈ gT := sg1 (List.mem_of_getElem? (i := 67) rfl) rfl
theorem mf_X6_90 : Cond.fieldLink RX6 90 "AdaptivePlayer$Connection" "periodCount" "I" ∈ gT := sg1 (List.mem_of_getElem? (i := 68) rfl) rfl
theorem ml_X6_23 : Cond.classLink RX6 23 RX3 ∈ gT := sg1 (List.mem_of_getElem? (i := 76) rfl) rfl
theorem mq_X3 : Cond.instantiable RX3 5 ∈ gT := sg1 (List.mem_of_getElem? (i := 77) rfl) rfl
theorem mi_X3_init : Cond.instanceMethod yX3_init ∈ gT := sg1 (List.mem_of_getElem? (i := 79) rfl) rfl
theorem mc_X3_init : Cond.code yX3_init cX3_init 1 none ∈ gT := sg1 (List.mem_of_getElem? (i := 80) rfl) rfl
theorem mm_X3_1 : Cond.methodLink RX3 1 Lib.objectInit ∈ gT := sg1 (List.mem_of_getElem? (i := 81) rfl) rfl
theorem mf_X3_7 : Cond.fieldLink RX3 7 "AdaptivePlayer$Settings" "maximumBuffer" "I" ∈ gT := sg1 (List.mem_of_getElem? (i := 82) rfl) rfl
theorem mf_X2_144 : Cond.fieldLink RX2 144 "AdaptivePlayer$Settings" "maximumBuffer" "I" ∈ gT := sg1 (List.mem_of_getElem? (i := 83) rfl) rfl
theorem mf_X3_13 : Cond.fieldLink RX3 13 "AdaptivePlayer$Settings" "threshold" "I" ∈ gT := sg1 (List.mem_of_getElem? (i := 84) rfl) rfl
theorem mf_X2_168 : Cond.fieldLink RX2 168 "AdaptivePlayer$Settings" "threshold" "I" ∈ gT := sg1 (List.mem_of_getElem? (i := 85) rfl) rfl
theorem mf_X3_16 : Cond.fieldLink RX3 16 "AdaptivePlayer$Settings" "safety" "I" ∈ gT := sg1 (List.mem_of_getElem? (i := 86) rfl) rfl
theorem mf_X2_191 : Cond.fieldLink RX2 191 "AdaptivePlayer$Settings" "safety" "I" ∈ gT := sg1 (List.mem_of_getElem? (i := 87) rfl) rfl
theorem mf_X3_19 : Cond.fieldLink RX3 19 "AdaptivePlayer$Settings" "reservoir" "I" ∈ gT := sg1 (List.mem_of_getElem? (i := 88) rfl) rfl
theorem mf_X2_197 : Cond.fieldLink RX2 197 "AdaptivePlayer$Settings" "reservoir" "I" ∈ gT := sg1 (List.mem_of_getElem? (i := 89) rfl) rfl
theorem mf_X3_22 : Cond.fieldLink RX3 22 "AdaptivePlayer$Settings" "cushion" "I" ∈ gT := sg1 (List.mem_of_getElem? (i := 90) rfl) rfl
theorem mf_X2_200 : Cond.fieldLink RX2 200 "AdaptivePlayer$Settings" "cushion" "I" ∈ gT := sg1 (List.mem_of_getElem? (i := 91) rfl) rfl
theorem ml_X6_30 : Cond.classLink RX6 30 RX2 ∈ gT := sg1 (List.mem_of_getElem? (i := 103) rfl) rfl
theorem mq_X2 : Cond.instantiable RX2 18 ∈ gT := sg1 (List.mem_of_getElem? (i := 104) rfl) rfl
theorem mm_X6_32 : Cond.methodLink RX6 32 yX2_init ∈ gT := sg1 (List.mem_of_getElem? (i := 105) rfl) rfl
theorem mi_X2_init : Cond.instanceMethod yX2_init ∈ gT := sg1 (List.mem_of_getElem? (i := 106) rfl) rfl
theorem mc_X2_init : Cond.code yX2_init cX2_init 4 none ∈ gT := sg1 (List.mem_of_getElem? (i := 107) rfl) rfl
theorem mm_X2_3 : Cond.methodLink RX2 3 Lib.objectInit ∈ gT := sg1 (List.mem_of_getElem? (i := 108) rfl) rfl
theorem ml_X2_15 : Cond.classLink RX2 15 RX4 ∈ gT := sg1 (List.mem_of_getElem? (i := 109) rfl) rfl
theorem mq_X4 : Cond.instantiable RX4 2 ∈ gT := sg1 (List.mem_of_getElem? (i := 110) rfl) rfl
theorem mi_X4_init : Cond.instanceMethod yX4_init ∈ gT := sg1 (List.mem_of_getElem? (i := 112) rfl) rfl
theorem mc_X4_init : Cond.code yX4_init cX4_init 1 none ∈ gT := sg1 (List.mem_of_getElem? (i := 113) rfl) rfl
theorem mm_X4_3 : Cond.methodLink RX4 3 Lib.objectInit ∈ gT := sg1 (List.mem_of_getElem? (i := 114) rfl) rfl
theorem mf_X4_9 : Cond.fieldLink RX4 9 "AdaptivePlayer$Throughputs" "latest" "[I" ∈ gT := sg1 (List.mem_of_getElem? (i := 115) rfl) rfl
theorem mf_X4_15 : Cond.fieldLink RX4 15 "AdaptivePlayer$Throughputs" "count" "I" ∈ gT := sg1 (List.mem_of_getElem? (i := 116) rfl) rfl
theorem ml_X2_22 : Cond.classLink RX2 22 RX1 ∈ gT := sg1 (List.mem_of_getElem? (i := 122) rfl) rfl
theorem mq_X1 : Cond.instantiable RX1 5 ∈ gT := sg1 (List.mem_of_getElem? (i := 123) rfl) rfl
theorem mi_X1_init : Cond.instanceMethod yX1_init ∈ gT := sg1 (List.mem_of_getElem? (i := 125) rfl) rfl
theorem mc_X1_init : Cond.code yX1_init cX1_init 1 none ∈ gT := sg1 (List.mem_of_getElem? (i := 126) rfl) rfl
theorem mm_X1_1 : Cond.methodLink RX1 1 Lib.objectInit ∈ gT := sg1 (List.mem_of_getElem? (i := 127) rfl) rfl
theorem mf_X1_7 : Cond.fieldLink RX1 7 "AdaptivePlayer$Download" "running" "Z" ∈ gT := sg1 (List.mem_of_getElem? (i := 128) rfl) rfl
theorem mf_X2_117 : Cond.fieldLink RX2 117 "AdaptivePlayer$Download" "running" "Z" ∈ gT := sg1 (List.mem_of_getElem? (i := 129) rfl) rfl
theorem mf_X6_164 : Cond.fieldLink RX6 164 "AdaptivePlayer$Download" "running" "Z" ∈ gT := sg1 (List.mem_of_getElem? (i := 130) rfl) rfl
theorem mf_X1_13 : Cond.fieldLink RX1 13 "AdaptivePlayer$Download" "level" "I" ∈ gT := sg1 (List.mem_of_getElem? (i := 131) rfl) rfl
theorem mf_X2_149 : Cond.fieldLink RX2 149 "AdaptivePlayer$Download" "level" "I" ∈ gT := sg1 (List.mem_of_getElem? (i := 132) rfl) rfl
theorem mf_X1_17 : Cond.fieldLink RX1 17 "AdaptivePlayer$Download" "size" "I" ∈ gT := sg1 (List.mem_of_getElem? (i := 133) rfl) rfl
theorem mf_X1_20 : Cond.fieldLink RX1 20 "AdaptivePlayer$Download" "received" "I" ∈ gT := sg1 (List.mem_of_getElem? (i := 134) rfl) rfl
theorem mf_X1_23 : Cond.fieldLink RX1 23 "AdaptivePlayer$Download" "timeSpent" "I" ∈ gT := sg1 (List.mem_of_getElem? (i := 135) rfl) rfl
theorem mm_X2_41 : Cond.methodLink RX2 41 yX2_begin ∈ gT := sg1 (List.mem_of_getElem? (i := 147) rfl) rfl
theorem mi_X2_begin : Cond.instanceMethod yX2_begin ∈ gT := sg1 (List.mem_of_getElem? (i := 148) rfl) rfl
theorem ms_X2_begin : Cond.selects RX2 yX2_begin yX2_begin ∈ gT := sg1 (List.mem_of_getElem? (i := 149) rfl) rfl
theorem mc_X2_begin : Cond.code yX2_begin cX2_begin 2 none ∈ gT := sg1 (List.mem_of_getElem? (i := 150) rfl) rfl
theorem mm_X2_44 : Cond.methodLink RX2 44 yX2_moveTo ∈ gT := sg1 (List.mem_of_getElem? (i := 151) rfl) rfl
theorem mi_X2_moveTo : Cond.instanceMethod yX2_moveTo ∈ gT := sg1 (List.mem_of_getElem? (i := 152) rfl) rfl
theorem ms_X2_moveTo : Cond.selects RX2 yX2_moveTo yX2_moveTo ∈ gT := sg1 (List.mem_of_getElem? (i := 153) rfl) rfl
theorem mc_X2_moveTo : Cond.code yX2_moveTo cX2_moveTo 2 none ∈ gT := sg1 (List.mem_of_getElem? (i := 154) rfl) rfl
theorem mm_X2_74 : Cond.methodLink RX2 74 yX1_stop ∈ gT := sg1 (List.mem_of_getElem? (i := 155) rfl) rfl
theorem mi_X1_stop : Cond.instanceMethod yX1_stop ∈ gT := sg1 (List.mem_of_getElem? (i := 156) rfl) rfl
theorem ms_X1_stop : Cond.selects RX1 yX1_stop yX1_stop ∈ gT := sg1 (List.mem_of_getElem? (i := 157) rfl) rfl
theorem mc_X1_stop : Cond.code yX1_stop cX1_stop 1 none ∈ gT := sg1 (List.mem_of_getElem? (i := 158) rfl) rfl
theorem mm_X2_77 : Cond.methodLink RX2 77 yX4_forget ∈ gT := sg1 (List.mem_of_getElem? (i := 159) rfl) rfl
theorem mi_X4_forget : Cond.instanceMethod yX4_forget ∈ gT := sg1 (List.mem_of_getElem? (i := 160) rfl) rfl
theorem ms_X4_forget : Cond.selects RX4 yX4_forget yX4_forget ∈ gT := sg1 (List.mem_of_getElem? (i := 161) rfl) rfl
theorem mc_X4_forget : Cond.code yX4_forget cX4_forget 1 none ∈ gT := sg1 (List.mem_of_getElem? (i := 162) rfl) rfl
theorem mf_X2_29 : Cond.fieldLink RX2 29 "AdaptivePlayer$Session" "video" "LAdaptivePlayer$Video;" ∈ gT := sg1 (List.mem_of_getElem? (i := 163) rfl) rfl
theorem mf_X2_33 : Cond.fieldLink RX2 33 "AdaptivePlayer$Session" "connection" "LAdaptivePlayer$Connection;" ∈ gT := sg1 (List.mem_of_getElem? (i := 164) rfl) rfl
theorem mf_X2_37 : Cond.fieldLink RX2 37 "AdaptivePlayer$Session" "settings" "LAdaptivePlayer$Settings;" ∈ gT := sg1 (List.mem_of_getElem? (i := 165) rfl) rfl
theorem mf_X2_9 : Cond.fieldLink RX2 9 "AdaptivePlayer$Session" "completedLevels" "[I" ∈ gT := sg1 (List.mem_of_getElem? (i := 166) rfl) rfl
theorem mf_X2_18 : Cond.fieldLink RX2 18 "AdaptivePlayer$Session" "throughputs" "LAdaptivePlayer$Throughputs;" ∈ gT := sg1 (List.mem_of_getElem? (i := 167) rfl) rfl
theorem mf_X6_175 : Cond.fieldLink RX6 175 "AdaptivePlayer$Session" "throughputs" "LAdaptivePlayer$Throughputs;" ∈ gT := sg1 (List.mem_of_getElem? (i := 168) rfl) rfl
theorem mf_X2_25 : Cond.fieldLink RX2 25 "AdaptivePlayer$Session" "download" "LAdaptivePlayer$Download;" ∈ gT := sg1 (List.mem_of_getElem? (i := 169) rfl) rfl
theorem mf_X6_160 : Cond.fieldLink RX6 160 "AdaptivePlayer$Session" "download" "LAdaptivePlayer$Download;" ∈ gT := sg1 (List.mem_of_getElem? (i := 170) rfl) rfl
theorem mf_X2_48 : Cond.fieldLink RX2 48 "AdaptivePlayer$Session" "paused" "Z" ∈ gT := sg1 (List.mem_of_getElem? (i := 171) rfl) rfl
theorem mf_X6_156 : Cond.fieldLink RX6 156 "AdaptivePlayer$Session" "paused" "Z" ∈ gT := sg1 (List.mem_of_getElem? (i := 172) rfl) rfl
theorem mf_X2_52 : Cond.fieldLink RX2 52 "AdaptivePlayer$Session" "time" "I" ∈ gT := sg1 (List.mem_of_getElem? (i := 173) rfl) rfl
theorem mf_X6_141 : Cond.fieldLink RX6 141 "AdaptivePlayer$Session" "time" "I" ∈ gT := sg1 (List.mem_of_getElem? (i := 174) rfl) rfl
theorem mf_X2_91 : Cond.fieldLink RX2 91 "AdaptivePlayer$Session" "position" "I" ∈ gT := sg1 (List.mem_of_getElem? (i := 175) rfl) rfl
theorem mf_X6_147 : Cond.fieldLink RX6 147 "AdaptivePlayer$Session" "position" "I" ∈ gT := sg1 (List.mem_of_getElem? (i := 176) rfl) rfl
theorem mf_X2_80 : Cond.fieldLink RX2 80 "AdaptivePlayer$Session" "buffer" "I" ∈ gT := sg1 (List.mem_of_getElem? (i := 177) rfl) rfl
theorem mf_X6_150 : Cond.fieldLink RX6 150 "AdaptivePlayer$Session" "buffer" "I" ∈ gT := sg1 (List.mem_of_getElem? (i := 178) rfl) rfl
theorem mf_X2_94 : Cond.fieldLink RX2 94 "AdaptivePlayer$Session" "state" "I" ∈ gT := sg1 (List.mem_of_getElem? (i := 179) rfl) rfl
theorem mf_X6_153 : Cond.fieldLink RX6 153 "AdaptivePlayer$Session" "state" "I" ∈ gT := sg1 (List.mem_of_getElem? (i := 180) rfl) rfl
theorem mf_X2_83 : Cond.fieldLink RX2 83 "AdaptivePlayer$Session" "nextSegment" "I" ∈ gT := sg1 (List.mem_of_getElem? (i := 181) rfl) rfl
theorem mf_X6_169 : Cond.fieldLink RX6 169 "AdaptivePlayer$Session" "nextSegment" "I" ∈ gT := sg1 (List.mem_of_getElem? (i := 182) rfl) rfl
theorem mf_X2_56 : Cond.fieldLink RX2 56 "AdaptivePlayer$Session" "switchCount" "I" ∈ gT := sg1 (List.mem_of_getElem? (i := 183) rfl) rfl
theorem mf_X6_184 : Cond.fieldLink RX6 184 "AdaptivePlayer$Session" "switchCount" "I" ∈ gT := sg1 (List.mem_of_getElem? (i := 184) rfl) rfl
theorem mf_X2_59 : Cond.fieldLink RX2 59 "AdaptivePlayer$Session" "stallCount" "I" ∈ gT := sg1 (List.mem_of_getElem? (i := 185) rfl) rfl
theorem mf_X6_187 : Cond.fieldLink RX6 187 "AdaptivePlayer$Session" "stallCount" "I" ∈ gT := sg1 (List.mem_of_getElem? (i := 186) rfl) rfl
theorem mf_X2_62 : Cond.fieldLink RX2 62 "AdaptivePlayer$Session" "stallTime" "I" ∈ gT := sg1 (List.mem_of_getElem? (i := 187) rfl) rfl
theorem mf_X6_190 : Cond.fieldLink RX6 190 "AdaptivePlayer$Session" "stallTime" "I" ∈ gT := sg1 (List.mem_of_getElem? (i := 188) rfl) rfl
theorem mf_X2_65 : Cond.fieldLink RX2 65 "AdaptivePlayer$Session" "startupTime" "I" ∈ gT := sg1 (List.mem_of_getElem? (i := 189) rfl) rfl
theorem mf_X6_193 : Cond.fieldLink RX6 193 "AdaptivePlayer$Session" "startupTime" "I" ∈ gT := sg1 (List.mem_of_getElem? (i := 190) rfl) rfl
theorem mf_X2_68 : Cond.fieldLink RX2 68 "AdaptivePlayer$Session" "bitrateSum" "I" ∈ gT := sg1 (List.mem_of_getElem? (i := 191) rfl) rfl
theorem mf_X6_196 : Cond.fieldLink RX6 196 "AdaptivePlayer$Session" "bitrateSum" "I" ∈ gT := sg1 (List.mem_of_getElem? (i := 192) rfl) rfl
theorem mf_X2_71 : Cond.fieldLink RX2 71 "AdaptivePlayer$Session" "latestLevel" "I" ∈ gT := sg1 (List.mem_of_getElem? (i := 193) rfl) rfl
theorem ml_X6_42 : Cond.classLink RX6 42 RJ4 ∈ gT := sg1 (List.mem_of_getElem? (i := 231) rfl) rfl
theorem mq_J4 : Cond.instantiable RJ4 4 ∈ gT := sg1 (List.mem_of_getElem? (i := 232) rfl) rfl
theorem mm_X6_44 : Cond.methodLink RX6 44 yJ4_init_da8c8 ∈ gT := sg1 (List.mem_of_getElem? (i := 233) rfl) rfl
theorem mi_J4_init_da8c8 : Cond.instanceMethod yJ4_init_da8c8 ∈ gT := sg1 (List.mem_of_getElem? (i := 234) rfl) rfl
theorem mc_J4_init_da8c8 : Cond.code yJ4_init_da8c8 cJ4_init_da8c8 1 none ∈ gT := sg1 (List.mem_of_getElem? (i := 235) rfl) rfl
theorem mm_J4_1 : Cond.methodLink RJ4 1 yJ5_init_d00df ∈ gT := sg1 (List.mem_of_getElem? (i := 236) rfl) rfl
theorem mi_J5_init_d00df : Cond.instanceMethod yJ5_init_d00df ∈ gT := sg1 (List.mem_of_getElem? (i := 237) rfl) rfl
theorem mc_J5_init_d00df : Cond.code yJ5_init_d00df cJ5_init_d00df 2 none ∈ gT := sg1 (List.mem_of_getElem? (i := 238) rfl) rfl
theorem mm_J5_3 : Cond.methodLink RJ5 3 Lib.objectInit ∈ gT := sg1 (List.mem_of_getElem? (i := 239) rfl) rfl
theorem mf_J5_18 : Cond.fieldLink RJ5 18 "java/lang/String" "COMPACT_STRINGS" "Z" ∈ gT := sg2 (List.mem_of_getElem? (i := 0) rfl) rfl
theorem mm_J5_26 : Cond.methodLink RJ5 26 yJ2_newBytesFor_77867 ∈ gT := sg2 (List.mem_of_getElem? (i := 2) rfl) rfl
theorem mt_J2_newBytesFor_77867 : Cond.static yJ2_newBytesFor_77867 ∈ gT := sg2 (List.mem_of_getElem? (i := 3) rfl) rfl
theorem mc_J2_newBytesFor_77867 : Cond.code yJ2_newBytesFor_77867 cJ2_newBytesFor_77867 1 (some (.array .byte)) ∈ gT := sg2 (List.mem_of_getElem? (i := 4) rfl) rfl
theorem mm_J2_11 : Cond.methodLink RJ2 11 yJ2_newBytesLength_0f7a4 ∈ gT := sg2 (List.mem_of_getElem? (i := 5) rfl) rfl
theorem mt_J2_newBytesLength_0f7a4 : Cond.static yJ2_newBytesLength_0f7a4 ∈ gT := sg2 (List.mem_of_getElem? (i := 6) rfl) rfl
theorem mc_J2_newBytesLength_0f7a4 : Cond.code yJ2_newBytesLength_0f7a4 cJ2_newBytesLength_0f7a4 1 (some .int) ∈ gT := sg2 (List.mem_of_getElem? (i := 7) rfl) rfl
theorem mk_J2_20 : Cond.constant RJ2 20 (1073741823) ∈ gT := sg2 (List.mem_of_getElem? (i := 8) rfl) rfl
theorem mf_J5_15 : Cond.fieldLink RJ5 15 "java/lang/AbstractStringBuilder" "value" "[B" ∈ gT := sg2 (List.mem_of_getElem? (i := 9) rfl) rfl
theorem mf_J5_22 : Cond.fieldLink RJ5 22 "java/lang/AbstractStringBuilder" "coder" "B" ∈ gT := sg2 (List.mem_of_getElem? (i := 10) rfl) rfl
theorem mf_J5_73 : Cond.fieldLink RJ5 73 "java/lang/AbstractStringBuilder" "maybeLatin1" "Z" ∈ gT := sg2 (List.mem_of_getElem? (i := 11) rfl) rfl
theorem mf_J0_1048 : Cond.fieldLink RJ0 1048 "java/lang/AbstractStringBuilder" "maybeLatin1" "Z" ∈ gT := sg2 (List.mem_of_getElem? (i := 12) rfl) rfl
theorem mf_J5_79 : Cond.fieldLink RJ5 79 "java/lang/AbstractStringBuilder" "count" "I" ∈ gT := sg2 (List.mem_of_getElem? (i := 13) rfl) rfl
theorem ma_byte : Cond.arrayClass .byte ∈ gT := sg2 (List.mem_of_getElem? (i := 23) rfl) rfl
theorem mf_X6_12 : Cond.fieldLink RX6 12 "AdaptivePlayer" "video" "LAdaptivePlayer$Video;" ∈ gT := sg2 (List.mem_of_getElem? (i := 24) rfl) rfl
theorem mf_X6_19 : Cond.fieldLink RX6 19 "AdaptivePlayer" "connection" "LAdaptivePlayer$Connection;" ∈ gT := sg2 (List.mem_of_getElem? (i := 25) rfl) rfl
theorem mf_X6_26 : Cond.fieldLink RX6 26 "AdaptivePlayer" "settings" "LAdaptivePlayer$Settings;" ∈ gT := sg2 (List.mem_of_getElem? (i := 26) rfl) rfl
theorem mf_X6_35 : Cond.fieldLink RX6 35 "AdaptivePlayer" "session" "LAdaptivePlayer$Session;" ∈ gT := sg2 (List.mem_of_getElem? (i := 27) rfl) rfl
theorem mf_X6_39 : Cond.fieldLink RX6 39 "AdaptivePlayer" "whatIf" "LAdaptivePlayer$Session;" ∈ gT := sg2 (List.mem_of_getElem? (i := 28) rfl) rfl
theorem mf_X6_45 : Cond.fieldLink RX6 45 "AdaptivePlayer" "commandLine" "Ljava/lang/StringBuilder;" ∈ gT := sg2 (List.mem_of_getElem? (i := 29) rfl) rfl
theorem mf_X6_49 : Cond.fieldLink RX6 49 "AdaptivePlayer" "policy" "I" ∈ gT := sg2 (List.mem_of_getElem? (i := 30) rfl) rfl
theorem mf_X6_53 : Cond.fieldLink RX6 53 "AdaptivePlayer" "cap" "I" ∈ gT := sg2 (List.mem_of_getElem? (i := 31) rfl) rfl
theorem mm_L_13 : Cond.methodLink RL 13 yX6_setVideo ∈ gT := sg2 (List.mem_of_getElem? (i := 49) rfl) rfl
theorem mi_X6_setVideo : Cond.instanceMethod yX6_setVideo ∈ gT := sg2 (List.mem_of_getElem? (i := 50) rfl) rfl
theorem ms_X6_setVideo : Cond.selects RX6 yX6_setVideo yX6_setVideo ∈ gT := sg2 (List.mem_of_getElem? (i := 51) rfl) rfl
theorem mc_X6_setVideo : Cond.code yX6_setVideo cX6_setVideo 3 (some .int) ∈ gT := sg2 (List.mem_of_getElem? (i := 52) rfl) rfl
theorem mm_X6_56 : Cond.methodLink RX6 56 yX6_isWithin ∈ gT := sg2 (List.mem_of_getElem? (i := 53) rfl) rfl
theorem mt_X6_isWithin : Cond.static yX6_isWithin ∈ gT := sg2 (List.mem_of_getElem? (i := 54) rfl) rfl
theorem mc_X6_isWithin : Cond.code yX6_isWithin cX6_isWithin 3 (some .boolean) ∈ gT := sg2 (List.mem_of_getElem? (i := 55) rfl) rfl
theorem mm_X6_60 : Cond.methodLink RX6 60 yX5_replace ∈ gT := sg2 (List.mem_of_getElem? (i := 56) rfl) rfl
theorem mm_X6_64 : Cond.methodLink RX6 64 yX2_begin ∈ gT := sg2 (List.mem_of_getElem? (i := 57) rfl) rfl
theorem mm_L_18 : Cond.methodLink RL 18 yX6_addLevel ∈ gT := sg2 (List.mem_of_getElem? (i := 58) rfl) rfl
theorem mi_X6_addLevel : Cond.instanceMethod yX6_addLevel ∈ gT := sg2 (List.mem_of_getElem? (i := 59) rfl) rfl
theorem ms_X6_addLevel : Cond.selects RX6 yX6_addLevel yX6_addLevel ∈ gT := sg2 (List.mem_of_getElem? (i := 60) rfl) rfl
theorem mc_X6_addLevel : Cond.code yX6_addLevel cX6_addLevel 2 (some .int) ∈ gT := sg2 (List.mem_of_getElem? (i := 61) rfl) rfl
theorem mm_X6_67 : Cond.methodLink RX6 67 yX5_highestBitrate ∈ gT := sg2 (List.mem_of_getElem? (i := 62) rfl) rfl
theorem mi_X5_highestBitrate : Cond.instanceMethod yX5_highestBitrate ∈ gT := sg2 (List.mem_of_getElem? (i := 63) rfl) rfl
theorem ms_X5_highestBitrate : Cond.selects RX5 yX5_highestBitrate yX5_highestBitrate ∈ gT := sg2 (List.mem_of_getElem? (i := 64) rfl) rfl
theorem mc_X5_highestBitrate : Cond.code yX5_highestBitrate cX5_highestBitrate 1 (some .int) ∈ gT := sg2 (List.mem_of_getElem? (i := 65) rfl) rfl
theorem mm_X5_36 : Cond.methodLink RX5 36 yX5_bitrateOf ∈ gT := sg2 (List.mem_of_getElem? (i := 66) rfl) rfl
theorem mi_X5_bitrateOf : Cond.instanceMethod yX5_bitrateOf ∈ gT := sg2 (List.mem_of_getElem? (i := 67) rfl) rfl
theorem ms_X5_bitrateOf : Cond.selects RX5 yX5_bitrateOf yX5_bitrateOf ∈ gT := sg2 (List.mem_of_getElem? (i := 68) rfl) rfl
theorem mc_X5_bitrateOf : Cond.code yX5_bitrateOf cX5_bitrateOf 2 (some .int) ∈ gT := sg2 (List.mem_of_getElem? (i := 69) rfl) rfl
theorem mm_X5_32 : Cond.methodLink RX5 32 yX5_hasLevel ∈ gT := sg2 (List.mem_of_getElem? (i := 70) rfl) rfl
theorem mi_X5_hasLevel : Cond.instanceMethod yX5_hasLevel ∈ gT := sg2 (List.mem_of_getElem? (i := 71) rfl) rfl
theorem ms_X5_hasLevel : Cond.selects RX5 yX5_hasLevel yX5_hasLevel ∈ gT := sg2 (List.mem_of_getElem? (i := 72) rfl) rfl
theorem mc_X5_hasLevel : Cond.code yX5_hasLevel cX5_hasLevel 2 (some .boolean) ∈ gT := sg2 (List.mem_of_getElem? (i := 73) rfl) rfl
theorem mm_X6_74 : Cond.methodLink RX6 74 yX5_appendLevel ∈ gT := sg2 (List.mem_of_getElem? (i := 74) rfl) rfl
theorem mi_X5_appendLevel : Cond.instanceMethod yX5_appendLevel ∈ gT := sg2 (List.mem_of_getElem? (i := 75) rfl) rfl
theorem ms_X5_appendLevel : Cond.selects RX5 yX5_appendLevel yX5_appendLevel ∈ gT := sg2 (List.mem_of_getElem? (i := 76) rfl) rfl
theorem mc_X5_appendLevel : Cond.code yX5_appendLevel cX5_appendLevel 2 none ∈ gT := sg2 (List.mem_of_getElem? (i := 77) rfl) rfl
theorem mm_L_23 : Cond.methodLink RL 23 yX6_setVariation ∈ gT := sg2 (List.mem_of_getElem? (i := 78) rfl) rfl
theorem mi_X6_setVariation : Cond.instanceMethod yX6_setVariation ∈ gT := sg2 (List.mem_of_getElem? (i := 79) rfl) rfl
theorem ms_X6_setVariation : Cond.selects RX6 yX6_setVariation yX6_setVariation ∈ gT := sg2 (List.mem_of_getElem? (i := 80) rfl) rfl
theorem mc_X6_setVariation : Cond.code yX6_setVariation cX6_setVariation 4 (some .int) ∈ gT := sg2 (List.mem_of_getElem? (i := 81) rfl) rfl
theorem mm_X6_78 : Cond.methodLink RX6 78 yX5_hasSegment ∈ gT := sg2 (List.mem_of_getElem? (i := 82) rfl) rfl
theorem mi_X5_hasSegment : Cond.instanceMethod yX5_hasSegment ∈ gT := sg2 (List.mem_of_getElem? (i := 83) rfl) rfl
theorem ms_X5_hasSegment : Cond.selects RX5 yX5_hasSegment yX5_hasSegment ∈ gT := sg2 (List.mem_of_getElem? (i := 84) rfl) rfl
theorem mc_X5_hasSegment : Cond.code yX5_hasSegment cX5_hasSegment 2 (some .boolean) ∈ gT := sg2 (List.mem_of_getElem? (i := 85) rfl) rfl
theorem mm_X6_82 : Cond.methodLink RX6 82 yX5_variationOf ∈ gT := sg2 (List.mem_of_getElem? (i := 86) rfl) rfl
theorem mi_X5_variationOf : Cond.instanceMethod yX5_variationOf ∈ gT := sg2 (List.mem_of_getElem? (i := 87) rfl) rfl
theorem ms_X5_variationOf : Cond.selects RX5 yX5_variationOf yX5_variationOf ∈ gT := sg2 (List.mem_of_getElem? (i := 88) rfl) rfl
theorem mc_X5_variationOf : Cond.code yX5_variationOf cX5_variationOf 2 (some .int) ∈ gT := sg2 (List.mem_of_getElem? (i := 89) rfl) rfl
theorem mm_X5_46 : Cond.methodLink RX5 46 yX5_hasSegment ∈ gT := sg2 (List.mem_of_getElem? (i := 90) rfl) rfl
theorem mm_X6_86 : Cond.methodLink RX6 86 yX5_changeVariation ∈ gT := sg2 (List.mem_of_getElem? (i := 91) rfl) rfl
theorem mi_X5_changeVariation : Cond.instanceMethod yX5_changeVariation ∈ gT := sg2 (List.mem_of_getElem? (i := 92) rfl) rfl
theorem ms_X5_changeVariation : Cond.selects RX5 yX5_changeVariation yX5_changeVariation ∈ gT := sg2 (List.mem_of_getElem? (i := 93) rfl) rfl
theorem mc_X5_changeVariation : Cond.code yX5_changeVariation cX5_changeVariation 3 none ∈ gT := sg2 (List.mem_of_getElem? (i := 94) rfl) rfl
theorem mm_L_27 : Cond.methodLink RL 27 yX6_addPeriod ∈ gT := sg2 (List.mem_of_getElem? (i := 95) rfl) rfl
theorem mi_X6_addPeriod : Cond.instanceMethod yX6_addPeriod ∈ gT := sg2 (List.mem_of_getElem? (i := 96) rfl) rfl
theorem ms_X6_addPeriod : Cond.selects RX6 yX6_addPeriod yX6_addPeriod ∈ gT := sg2 (List.mem_of_getElem? (i := 97) rfl) rfl
theorem mc_X6_addPeriod : Cond.code yX6_addPeriod cX6_addPeriod 3 (some .int) ∈ gT := sg2 (List.mem_of_getElem? (i := 98) rfl) rfl
theorem mk_X6_89 : Cond.constant RX6 89 (60000) ∈ gT := sg2 (List.mem_of_getElem? (i := 99) rfl) rfl
theorem mm_X6_93 : Cond.methodLink RX6 93 yX0_appendPeriod ∈ gT := sg2 (List.mem_of_getElem? (i := 100) rfl) rfl
theorem mi_X0_appendPeriod : Cond.instanceMethod yX0_appendPeriod ∈ gT := sg2 (List.mem_of_getElem? (i := 101) rfl) rfl
theorem ms_X0_appendPeriod : Cond.selects RX0 yX0_appendPeriod yX0_appendPeriod ∈ gT := sg2 (List.mem_of_getElem? (i := 102) rfl) rfl
theorem mc_X0_appendPeriod : Cond.code yX0_appendPeriod cX0_appendPeriod 4 none ∈ gT := sg2 (List.mem_of_getElem? (i := 103) rfl) rfl
theorem mm_L_31 : Cond.methodLink RL 31 yX6_setBuffer ∈ gT := sg2 (List.mem_of_getElem? (i := 104) rfl) rfl
theorem mi_X6_setBuffer : Cond.instanceMethod yX6_setBuffer ∈ gT := sg2 (List.mem_of_getElem? (i := 105) rfl) rfl
theorem ms_X6_setBuffer : Cond.selects RX6 yX6_setBuffer yX6_setBuffer ∈ gT := sg2 (List.mem_of_getElem? (i := 106) rfl) rfl
theorem mc_X6_setBuffer : Cond.code yX6_setBuffer cX6_setBuffer 3 (some .int) ∈ gT := sg2 (List.mem_of_getElem? (i := 107) rfl) rfl
theorem mm_X6_96 : Cond.methodLink RX6 96 yX3_changeBuffer ∈ gT := sg2 (List.mem_of_getElem? (i := 108) rfl) rfl
theorem mi_X3_changeBuffer : Cond.instanceMethod yX3_changeBuffer ∈ gT := sg2 (List.mem_of_getElem? (i := 109) rfl) rfl
theorem ms_X3_changeBuffer : Cond.selects RX3 yX3_changeBuffer yX3_changeBuffer ∈ gT := sg2 (List.mem_of_getElem? (i := 110) rfl) rfl
theorem mc_X3_changeBuffer : Cond.code yX3_changeBuffer cX3_changeBuffer 4 (some .boolean) ∈ gT := sg2 (List.mem_of_getElem? (i := 111) rfl) rfl
theorem mm_X6_100 : Cond.methodLink RX6 100 yX6_oneIf ∈ gT := sg2 (List.mem_of_getElem? (i := 112) rfl) rfl
theorem mt_X6_oneIf : Cond.static yX6_oneIf ∈ gT := sg2 (List.mem_of_getElem? (i := 113) rfl) rfl
theorem mc_X6_oneIf : Cond.code yX6_oneIf cX6_oneIf 1 (some .int) ∈ gT := sg2 (List.mem_of_getElem? (i := 114) rfl) rfl
theorem mm_L_35 : Cond.methodLink RL 35 yX6_setPolicyNumbers ∈ gT := sg2 (List.mem_of_getElem? (i := 115) rfl) rfl
theorem mi_X6_setPolicyNumbers : Cond.instanceMethod yX6_setPolicyNumbers ∈ gT := sg2 (List.mem_of_getElem? (i := 116) rfl) rfl
theorem ms_X6_setPolicyNumbers : Cond.selects RX6 yX6_setPolicyNumbers yX6_setPolicyNumbers ∈ gT := sg2 (List.mem_of_getElem? (i := 117) rfl) rfl
theorem mc_X6_setPolicyNumbers : Cond.code yX6_setPolicyNumbers cX6_setPolicyNumbers 4 (some .int) ∈ gT := sg2 (List.mem_of_getElem? (i := 118) rfl) rfl
theorem mm_X6_104 : Cond.methodLink RX6 104 yX3_changePolicyNumbers ∈ gT := sg2 (List.mem_of_getElem? (i := 119) rfl) rfl
theorem mi_X3_changePolicyNumbers : Cond.instanceMethod yX3_changePolicyNumbers ∈ gT := sg2 (List.mem_of_getElem? (i := 120) rfl) rfl
theorem ms_X3_changePolicyNumbers : Cond.selects RX3 yX3_changePolicyNumbers yX3_changePolicyNumbers ∈ gT := sg2 (List.mem_of_getElem? (i := 121) rfl) rfl
theorem mc_X3_changePolicyNumbers : Cond.code yX3_changePolicyNumbers cX3_changePolicyNumbers 5 (some .boolean) ∈ gT := sg2 (List.mem_of_getElem? (i := 122) rfl) rfl
theorem mm_L_40 : Cond.methodLink RL 40 yX6_typeKey ∈ gT := sg2 (List.mem_of_getElem? (i := 123) rfl) rfl
theorem mi_X6_typeKey : Cond.instanceMethod yX6_typeKey ∈ gT := sg2 (List.mem_of_getElem? (i := 124) rfl) rfl
theorem ms_X6_typeKey : Cond.selects RX6 yX6_typeKey yX6_typeKey ∈ gT := sg2 (List.mem_of_getElem? (i := 125) rfl) rfl
theorem mc_X6_typeKey : Cond.code yX6_typeKey cX6_typeKey 2 (some .int) ∈ gT := sg2 (List.mem_of_getElem? (i := 126) rfl) rfl
theorem mm_X6_107 : Cond.methodLink RX6 107 yJ4_length_8abf5 ∈ gT := sg2 (List.mem_of_getElem? (i := 127) rfl) rfl
theorem mi_J4_length_8abf5 : Cond.instanceMethod yJ4_length_8abf5 ∈ gT := sg2 (List.mem_of_getElem? (i := 128) rfl) rfl
theorem ms_J4_length_8abf5 : Cond.selects RJ4 yJ4_length_8abf5 yJ4_length_8abf5 ∈ gT := sg2 (List.mem_of_getElem? (i := 129) rfl) rfl
theorem mc_J4_length_8abf5 : Cond.code yJ4_length_8abf5 cJ4_length_8abf5 1 (some .int) ∈ gT := sg2 (List.mem_of_getElem? (i := 130) rfl) rfl
theorem mm_J4_343 : Cond.methodLink RJ4 343 yJ5_length_8abf5 ∈ gT := sg2 (List.mem_of_getElem? (i := 131) rfl) rfl
theorem mi_J5_length_8abf5 : Cond.instanceMethod yJ5_length_8abf5 ∈ gT := sg2 (List.mem_of_getElem? (i := 132) rfl) rfl
theorem mc_J5_length_8abf5 : Cond.code yJ5_length_8abf5 cJ5_length_8abf5 1 (some .int) ∈ gT := sg2 (List.mem_of_getElem? (i := 133) rfl) rfl
theorem mm_X6_110 : Cond.methodLink RX6 110 yJ4_append_cf468 ∈ gT := sg2 (List.mem_of_getElem? (i := 134) rfl) rfl
theorem mi_J4_append_cf468 : Cond.instanceMethod yJ4_append_cf468 ∈ gT := sg2 (List.mem_of_getElem? (i := 135) rfl) rfl
theorem ms_J4_append_cf468 : Cond.selects RJ4 yJ4_append_cf468 yJ4_append_cf468 ∈ gT := sg2 (List.mem_of_getElem? (i := 136) rfl) rfl
theorem mc_J4_append_cf468 : Cond.code yJ4_append_cf468 cJ4_append_cf468 2 (some (.object "java/lang/StringBuilder")) ∈ gT := sg2 (List.mem_of_getElem? (i := 137) rfl) rfl
theorem mm_J4_50 : Cond.methodLink RJ4 50 yJ5_append_3fe6f ∈ gT := sg2 (List.mem_of_getElem? (i := 138) rfl) rfl
theorem mi_J5_append_3fe6f : Cond.instanceMethod yJ5_append_3fe6f ∈ gT := sg2 (List.mem_of_getElem? (i := 139) rfl) rfl
theorem mc_J5_append_3fe6f : Cond.code yJ5_append_3fe6f cJ5_append_3fe6f 2 (some (.object "java/lang/AbstractStringBuilder")) ∈ gT := sg2 (List.mem_of_getElem? (i := 140) rfl) rfl
theorem mm_J5_100 : Cond.methodLink RJ5 100 yJ5_ensureCapacityInternal_d00df ∈ gT := sg2 (List.mem_of_getElem? (i := 141) rfl) rfl
theorem mi_J5_ensureCapacityInternal_d00df : Cond.instanceMethod yJ5_ensureCapacityInternal_d00df ∈ gT := sg2 (List.mem_of_getElem? (i := 143) rfl) rfl
theorem mc_J5_ensureCapacityInternal_d00df : Cond.code yJ5_ensureCapacityInternal_d00df cJ5_ensureCapacityInternal_d00df 3 none ∈ gT := sg2 (List.mem_of_getElem? (i := 144) rfl) rfl
theorem mm_J5_104 : Cond.methodLink RJ5 104 yJ5_newCapacity_0f7a4 ∈ gT := sg2 (List.mem_of_getElem? (i := 145) rfl) rfl
theorem mi_J5_newCapacity_0f7a4 : Cond.instanceMethod yJ5_newCapacity_0f7a4 ∈ gT := sg2 (List.mem_of_getElem? (i := 147) rfl) rfl
theorem mc_J5_newCapacity_0f7a4 : Cond.code yJ5_newCapacity_0f7a4 cJ5_newCapacity_0f7a4 6 (some .int) ∈ gT := sg2 (List.mem_of_getElem? (i := 148) rfl) rfl
theorem mm_J5_114 : Cond.methodLink RJ5 114 yJ8_newLength_cabcc ∈ gT := sg2 (List.mem_of_getElem? (i := 149) rfl) rfl
theorem mt_J8_newLength_cabcc : Cond.static yJ8_newLength_cabcc ∈ gT := sg2 (List.mem_of_getElem? (i := 150) rfl) rfl
theorem mc_J8_newLength_cabcc : Cond.code yJ8_newLength_cabcc cJ8_newLength_cabcc 4 (some .int) ∈ gT := sg2 (List.mem_of_getElem? (i := 151) rfl) rfl
theorem mm_J8_194 : Cond.methodLink RJ8 194 yJ9_max_7cf53 ∈ gT := sg2 (List.mem_of_getElem? (i := 152) rfl) rfl
theorem mt_J9_max_7cf53 : Cond.static yJ9_max_7cf53 ∈ gT := sg2 (List.mem_of_getElem? (i := 153) rfl) rfl
theorem mc_J9_max_7cf53 : Cond.code yJ9_max_7cf53 cJ9_max_7cf53 2 (some .int) ∈ gT := sg2 (List.mem_of_getElem? (i := 154) rfl) rfl
theorem mk_J8_200 : Cond.constant RJ8 200 (2147483639) ∈ gT := sg2 (List.mem_of_getElem? (i := 155) rfl) rfl
theorem mm_J8_201 : Cond.methodLink RJ8 201 yJ8_hugeLength_7cf53 ∈ gT := sg2 (List.mem_of_getElem? (i := 156) rfl) rfl
theorem mt_J8_hugeLength_7cf53 : Cond.static yJ8_hugeLength_7cf53 ∈ gT := sg2 (List.mem_of_getElem? (i := 157) rfl) rfl
theorem mc_J8_hugeLength_7cf53 : Cond.code yJ8_hugeLength_7cf53 cJ8_hugeLength_7cf53 3 (some .int) ∈ gT := sg2 (List.mem_of_getElem? (i := 158) rfl) rfl
theorem mk_J5_39 : Cond.constant RJ5 39 (2147483647) ∈ gT := sg2 (List.mem_of_getElem? (i := 159) rfl) rfl
theorem mm_J5_108 : Cond.methodLink RJ5 108 yJ7_copyOf_9075b ∈ gT := sg2 (List.mem_of_getElem? (i := 160) rfl) rfl
theorem mt_J7_copyOf_9075b : Cond.static yJ7_copyOf_9075b ∈ gT := sg2 (List.mem_of_getElem? (i := 161) rfl) rfl
theorem mc_J7_copyOf_9075b : Cond.code yJ7_copyOf_9075b cJ7_copyOf_9075b 3 (some (.array .byte)) ∈ gT := sg2 (List.mem_of_getElem? (i := 162) rfl) rfl
theorem mm_J7_310 : Cond.methodLink RJ7 310 ⟨"[B", "clone", "()Ljava/lang/Object;"⟩ ∈ gT := sg2 (List.mem_of_getElem? (i := 163) rfl) rfl
theorem ml_J7_311 : Cond.classLink RJ7 311 "[B" ∈ gT := sg2 (List.mem_of_getElem? (i := 169) rfl) rfl
theorem mm_J7_304 : Cond.methodLink RJ7 304 yJ9_min_7cf53 ∈ gT := sg2 (List.mem_of_getElem? (i := 170) rfl) rfl
theorem mt_J9_min_7cf53 : Cond.static yJ9_min_7cf53 ∈ gT := sg2 (List.mem_of_getElem? (i := 171) rfl) rfl
theorem mc_J9_min_7cf53 : Cond.code yJ9_min_7cf53 cJ9_min_7cf53 2 (some .int) ∈ gT := sg2 (List.mem_of_getElem? (i := 172) rfl) rfl
theorem mm_J7_150 : Cond.methodLink RJ7 150 ⟨RJ10, "arraycopy", "(Ljava/lang/Object;ILjava/lang/Object;II)V"⟩ ∈ gT := sg2 (List.mem_of_getElem? (i := 173) rfl) rfl
theorem mm_J5_83 : Cond.methodLink RJ5 83 yJ5_isLatin1_aae02 ∈ gT := sg2 (List.mem_of_getElem? (i := 176) rfl) rfl
theorem mi_J5_isLatin1_aae02 : Cond.instanceMethod yJ5_isLatin1_aae02 ∈ gT := sg2 (List.mem_of_getElem? (i := 177) rfl) rfl
theorem ms_J4_J5_isLatin1_aae02_J5_isLatin1_aae02 : Cond.selects RJ4 yJ5_isLatin1_aae02 yJ5_isLatin1_aae02 ∈ gT := sg2 (List.mem_of_getElem? (i := 179) rfl) rfl
theorem mc_J5_isLatin1_aae02 : Cond.code yJ5_isLatin1_aae02 cJ5_isLatin1_aae02 1 (some .boolean) ∈ gT := sg2 (List.mem_of_getElem? (i := 180) rfl) rfl
theorem mm_J5_191 : Cond.methodLink RJ5 191 yJ1_canEncode_fc78d ∈ gT := sg2 (List.mem_of_getElem? (i := 181) rfl) rfl
theorem mt_J1_canEncode_fc78d : Cond.static yJ1_canEncode_fc78d ∈ gT := sg2 (List.mem_of_getElem? (i := 182) rfl) rfl
theorem mc_J1_canEncode_fc78d : Cond.code yJ1_canEncode_fc78d cJ1_canEncode_fc78d 1 (some .boolean) ∈ gT := sg2 (List.mem_of_getElem? (i := 183) rfl) rfl
theorem mm_J5_195 : Cond.methodLink RJ5 195 yJ5_inflate_da8c8 ∈ gT := sg2 (List.mem_of_getElem? (i := 184) rfl) rfl
theorem mi_J5_inflate_da8c8 : Cond.instanceMethod yJ5_inflate_da8c8 ∈ gT := sg2 (List.mem_of_getElem? (i := 186) rfl) rfl
theorem mc_J5_inflate_da8c8 : Cond.code yJ5_inflate_da8c8 cJ5_inflate_da8c8 2 none ∈ gT := sg2 (List.mem_of_getElem? (i := 187) rfl) rfl
theorem mm_J5_125 : Cond.methodLink RJ5 125 yJ1_inflate_0e8fd ∈ gT := sg2 (List.mem_of_getElem? (i := 188) rfl) rfl
theorem mt_J1_inflate_0e8fd : Cond.static yJ1_inflate_0e8fd ∈ gT := sg2 (List.mem_of_getElem? (i := 189) rfl) rfl
theorem mc_J1_inflate_0e8fd : Cond.code yJ1_inflate_0e8fd cJ1_inflate_0e8fd 5 none ∈ gT := sg2 (List.mem_of_getElem? (i := 190) rfl) rfl
theorem mm_J1_240 : Cond.methodLink RJ1 240 yJ2_inflate_0e8fd ∈ gT := sg2 (List.mem_of_getElem? (i := 191) rfl) rfl
theorem mt_J2_inflate_0e8fd : Cond.static yJ2_inflate_0e8fd ∈ gT := sg2 (List.mem_of_getElem? (i := 192) rfl) rfl
theorem mc_J2_inflate_0e8fd : Cond.code yJ2_inflate_0e8fd cJ2_inflate_0e8fd 6 none ∈ gT := sg2 (List.mem_of_getElem? (i := 193) rfl) rfl
theorem mm_J2_173 : Cond.methodLink RJ2 173 yJ2_checkBoundsOffCount_d044e ∈ gT := sg2 (List.mem_of_getElem? (i := 194) rfl) rfl
theorem mt_J2_checkBoundsOffCount_d044e : Cond.static yJ2_checkBoundsOffCount_d044e ∈ gT := sg2 (List.mem_of_getElem? (i := 195) rfl) rfl
theorem mc_J2_checkBoundsOffCount_d044e : Cond.code yJ2_checkBoundsOffCount_d044e cJ2_checkBoundsOffCount_d044e 3 none ∈ gT := sg2 (List.mem_of_getElem? (i := 196) rfl) rfl
theorem mm_J2_48 : Cond.methodLink RJ2 48 yJ2_length_9d52b ∈ gT := sg2 (List.mem_of_getElem? (i := 197) rfl) rfl
theorem mt_J2_length_9d52b : Cond.static yJ2_length_9d52b ∈ gT := sg2 (List.mem_of_getElem? (i := 198) rfl) rfl
theorem mc_J2_length_9d52b : Cond.code yJ2_length_9d52b cJ2_length_9d52b 1 (some .int) ∈ gT := sg2 (List.mem_of_getElem? (i := 199) rfl) rfl
theorem mm_J2_419 : Cond.methodLink RJ2 419 yJ0_checkBoundsOffCount_cabcc ∈ gT := sg2 (List.mem_of_getElem? (i := 200) rfl) rfl
theorem mt_J0_checkBoundsOffCount_cabcc : Cond.static yJ0_checkBoundsOffCount_cabcc ∈ gT := sg2 (List.mem_of_getElem? (i := 201) rfl) rfl
theorem mc_J0_checkBoundsOffCount_cabcc : Cond.code yJ0_checkBoundsOffCount_cabcc cJ0_checkBoundsOffCount_cabcc 3 (some .int) ∈ gT := sg2 (List.mem_of_getElem? (i := 202) rfl) rfl
theorem mf_J0_1053 : Cond.fieldLink RJ0 1053 "jdk/internal/util/Preconditions" "SIOOBE_FORMATTER" "Ljava/util/function/BiFunction;" ∈ gT := sg2 (List.mem_of_getElem? (i := 203) rfl) rfl
theorem mm_J0_1065 : Cond.methodLink RJ0 1065 yJ3_checkFromIndexSize_8c36e ∈ gT := sg2 (List.mem_of_getElem? (i := 205) rfl) rfl
theorem mt_J3_checkFromIndexSize_8c36e : Cond.static yJ3_checkFromIndexSize_8c36e ∈ gT := sg2 (List.mem_of_getElem? (i := 206) rfl) rfl
theorem mc_J3_checkFromIndexSize_8c36e : Cond.code yJ3_checkFromIndexSize_8c36e cJ3_checkFromIndexSize_8c36e 4 (some .int) ∈ gT := sg2 (List.mem_of_getElem? (i := 207) rfl) rfl
theorem mm_J2_111 : Cond.methodLink RJ2 111 yJ2_putChar_b72d1 ∈ gT := sg2 (List.mem_of_getElem? (i := 208) rfl) rfl
theorem mt_J2_putChar_b72d1 : Cond.static yJ2_putChar_b72d1 ∈ gT := sg2 (List.mem_of_getElem? (i := 209) rfl) rfl
theorem mc_J2_putChar_b72d1 : Cond.code yJ2_putChar_b72d1 cJ2_putChar_b72d1 3 none ∈ gT := sg2 (List.mem_of_getElem? (i := 210) rfl) rfl
theorem mf_J2_44 : Cond.fieldLink RJ2 44 "java/lang/StringUTF16" "$assertionsDisabled" "Z" ∈ gT := sg2 (List.mem_of_getElem? (i := 211) rfl) rfl
theorem mf_J2_59 : Cond.fieldLink RJ2 59 "java/lang/StringUTF16" "HI_BYTE_SHIFT" "I" ∈ gT := sg2 (List.mem_of_getElem? (i := 213) rfl) rfl
theorem mf_J2_63 : Cond.fieldLink RJ2 63 "java/lang/StringUTF16" "LO_BYTE_SHIFT" "I" ∈ gT := sg2 (List.mem_of_getElem? (i := 215) rfl) rfl
theorem mm_J5_197 : Cond.methodLink RJ5 197 yJ2_putCharSB_b72d1 ∈ gT := sg2 (List.mem_of_getElem? (i := 217) rfl) rfl
theorem mt_J2_putCharSB_b72d1 : Cond.static yJ2_putCharSB_b72d1 ∈ gT := sg2 (List.mem_of_getElem? (i := 218) rfl) rfl
theorem mc_J2_putCharSB_b72d1 : Cond.code yJ2_putCharSB_b72d1 cJ2_putCharSB_b72d1 3 none ∈ gT := sg2 (List.mem_of_getElem? (i := 219) rfl) rfl
theorem mm_J2_67 : Cond.methodLink RJ2 67 yJ2_checkIndex_2214a ∈ gT := sg2 (List.mem_of_getElem? (i := 220) rfl) rfl
theorem mt_J2_checkIndex_2214a : Cond.static yJ2_checkIndex_2214a ∈ gT := sg2 (List.mem_of_getElem? (i := 221) rfl) rfl
theorem mc_J2_checkIndex_2214a : Cond.code yJ2_checkIndex_2214a cJ2_checkIndex_2214a 2 none ∈ gT := sg2 (List.mem_of_getElem? (i := 222) rfl) rfl
theorem mm_J2_414 : Cond.methodLink RJ2 414 yJ0_checkIndex_df160 ∈ gT := sg2 (List.mem_of_getElem? (i := 223) rfl) rfl
theorem mt_J0_checkIndex_df160 : Cond.static yJ0_checkIndex_df160 ∈ gT := sg2 (List.mem_of_getElem? (i := 224) rfl) rfl
theorem mc_J0_checkIndex_df160 : Cond.code yJ0_checkIndex_df160 cJ0_checkIndex_df160 2 none ∈ gT := sg2 (List.mem_of_getElem? (i := 225) rfl) rfl
theorem mm_J0_1059 : Cond.methodLink RJ0 1059 yJ3_checkIndex_8e157 ∈ gT := sg2 (List.mem_of_getElem? (i := 226) rfl) rfl
theorem mt_J3_checkIndex_8e157 : Cond.static yJ3_checkIndex_8e157 ∈ gT := sg2 (List.mem_of_getElem? (i := 227) rfl) rfl
theorem mc_J3_checkIndex_8e157 : Cond.code yJ3_checkIndex_8e157 cJ3_checkIndex_8e157 3 (some .int) ∈ gT := sg2 (List.mem_of_getElem? (i := 228) rfl) rfl
theorem mm_L_44 : Cond.methodLink RL 44 yX6_runCommand ∈ gT := sg2 (List.mem_of_getElem? (i := 229) rfl) rfl
theorem mi_X6_runCommand : Cond.instanceMethod yX6_runCommand ∈ gT := sg2 (List.mem_of_getElem? (i := 230) rfl) rfl
theorem ms_X6_runCommand : Cond.selects RX6 yX6_runCommand yX6_runCommand ∈ gT := sg2 (List.mem_of_getElem? (i := 231) rfl) rfl
theorem mc_X6_runCommand : Cond.code yX6_runCommand cX6_runCommand 3 (some .int) ∈ gT := sg2 (List.mem_of_getElem? (i := 232) rfl) rfl
theorem mm_X6_114 : Cond.methodLink RX6 114 yJ4_toString_0e30d ∈ gT := sg2 (List.mem_of_getElem? (i := 233) rfl) rfl
theorem mi_J4_toString_0e30d : Cond.instanceMethod yJ4_toString_0e30d ∈ gT := sg2 (List.mem_of_getElem? (i := 234) rfl) rfl
theorem ms_J4_toString_0e30d : Cond.selects RJ4 yJ4_toString_0e30d yJ4_toString_0e30d ∈ gT := sg2 (List.mem_of_getElem? (i := 235) rfl) rfl
theorem mc_J4_toString_0e30d : Cond.code yJ4_toString_0e30d cJ4_toString_0e30d 1 (some (.object "java/lang/String")) ∈ gT := sg2 (List.mem_of_getElem? (i := 236) rfl) rfl
theorem ml_J4_18 : Cond.classLink RJ4 18 RJ0 ∈ gT := sg2 (List.mem_of_getElem? (i := 237) rfl) rfl
theorem mq_J0 : Cond.instantiable RJ0 4 ∈ gT := sg2 (List.mem_of_getElem? (i := 238) rfl) rfl
theorem mm_J4_137 : Cond.methodLink RJ4 137 yJ0_init_81219 ∈ gT := sg2 (List.mem_of_getElem? (i := 239) rfl) rfl
theorem mi_J0_init_81219 : Cond.instanceMethod yJ0_init_81219 ∈ gT := sg3 (List.mem_of_getElem? (i := 0) rfl) rfl
theorem mc_J0_init_81219 : Cond.code yJ0_init_81219 cJ0_init_81219 2 none ∈ gT := sg3 (List.mem_of_getElem? (i := 1) rfl) rfl
theorem mm_J0_489 : Cond.methodLink RJ0 489 yJ0_init_db425 ∈ gT := sg3 (List.mem_of_getElem? (i := 2) rfl) rfl
theorem mi_J0_init_db425 : Cond.instanceMethod yJ0_init_db425 ∈ gT := sg3 (List.mem_of_getElem? (i := 3) rfl) rfl
theorem mc_J0_init_db425 : Cond.code yJ0_init_db425 cJ0_init_db425 5 none ∈ gT := sg3 (List.mem_of_getElem? (i := 4) rfl) rfl
theorem mm_J0_1 : Cond.methodLink RJ0 1 Lib.objectInit ∈ gT := sg3 (List.mem_of_getElem? (i := 5) rfl) rfl
theorem mm_J0_552 : Cond.methodLink RJ0 552 yJ5_getValue_6d5f1 ∈ gT := sg3 (List.mem_of_getElem? (i := 6) rfl) rfl
theorem mi_J5_getValue_6d5f1 : Cond.instanceMethod yJ5_getValue_6d5f1 ∈ gT := sg3 (List.mem_of_getElem? (i := 7) rfl) rfl
theorem ms_J4_J5_getValue_6d5f1_J5_getValue_6d5f1 : Cond.selects RJ4 yJ5_getValue_6d5f1 yJ5_getValue_6d5f1 ∈ gT := sg3 (List.mem_of_getElem? (i := 9) rfl) rfl
theorem mc_J5_getValue_6d5f1 : Cond.code yJ5_getValue_6d5f1 cJ5_getValue_6d5f1 1 (some (.array .byte)) ∈ gT := sg3 (List.mem_of_getElem? (i := 10) rfl) rfl
theorem mm_J0_549 : Cond.methodLink RJ0 549 yJ5_length_8abf5 ∈ gT := sg3 (List.mem_of_getElem? (i := 11) rfl) rfl
theorem mm_J0_1047 : Cond.methodLink RJ0 1047 yJ5_isLatin1_aae02 ∈ gT := sg3 (List.mem_of_getElem? (i := 12) rfl) rfl
theorem mm_J0_54 : Cond.methodLink RJ0 54 yJ7_copyOfRange_39247 ∈ gT := sg3 (List.mem_of_getElem? (i := 13) rfl) rfl
theorem mt_J7_copyOfRange_39247 : Cond.static yJ7_copyOfRange_39247 ∈ gT := sg3 (List.mem_of_getElem? (i := 14) rfl) rfl
theorem mc_J7_copyOfRange_39247 : Cond.code yJ7_copyOfRange_39247 cJ7_copyOfRange_39247 3 (some (.array .byte)) ∈ gT := sg3 (List.mem_of_getElem? (i := 15) rfl) rfl
theorem mm_J7_339 : Cond.methodLink RJ7 339 yJ7_copyOfRangeByte_39247 ∈ gT := sg3 (List.mem_of_getElem? (i := 16) rfl) rfl
theorem mt_J7_copyOfRangeByte_39247 : Cond.static yJ7_copyOfRangeByte_39247 ∈ gT := sg3 (List.mem_of_getElem? (i := 17) rfl) rfl
theorem mc_J7_copyOfRangeByte_39247 : Cond.code yJ7_copyOfRangeByte_39247 cJ7_copyOfRangeByte_39247 5 (some (.array .byte)) ∈ gT := sg3 (List.mem_of_getElem? (i := 18) rfl) rfl
theorem mm_J7_343 : Cond.methodLink RJ7 343 yJ7_checkLength_df160 ∈ gT := sg3 (List.mem_of_getElem? (i := 19) rfl) rfl
theorem mt_J7_checkLength_df160 : Cond.static yJ7_checkLength_df160 ∈ gT := sg3 (List.mem_of_getElem? (i := 20) rfl) rfl
theorem mc_J7_checkLength_df160 : Cond.code yJ7_checkLength_df160 cJ7_checkLength_df160 2 none ∈ gT := sg3 (List.mem_of_getElem? (i := 21) rfl) rfl
theorem mf_J0_38 : Cond.fieldLink RJ0 38 "java/lang/String" "COMPACT_STRINGS" "Z" ∈ gT := sg3 (List.mem_of_getElem? (i := 22) rfl) rfl
theorem mm_J0_1051 : Cond.methodLink RJ0 1051 yJ2_compress_39247 ∈ gT := sg3 (List.mem_of_getElem? (i := 23) rfl) rfl
theorem mt_J2_compress_39247 : Cond.static yJ2_compress_39247 ∈ gT := sg3 (List.mem_of_getElem? (i := 24) rfl) rfl
theorem mc_J2_compress_39247 : Cond.code yJ2_compress_39247 cJ2_compress_39247 6 (some (.array .byte)) ∈ gT := sg3 (List.mem_of_getElem? (i := 25) rfl) rfl
theorem mm_J2_123 : Cond.methodLink RJ2 123 yJ2_compress_5af95 ∈ gT := sg3 (List.mem_of_getElem? (i := 26) rfl) rfl
theorem mt_J2_compress_5af95 : Cond.static yJ2_compress_5af95 ∈ gT := sg3 (List.mem_of_getElem? (i := 27) rfl) rfl
theorem mc_J2_compress_5af95 : Cond.code yJ2_compress_5af95 cJ2_compress_5af95 7 (some .int) ∈ gT := sg3 (List.mem_of_getElem? (i := 28) rfl) rfl
theorem mm_J2_71 : Cond.methodLink RJ2 71 yJ2_getChar_3b067 ∈ gT := sg3 (List.mem_of_getElem? (i := 29) rfl) rfl
theorem mt_J2_getChar_3b067 : Cond.static yJ2_getChar_3b067 ∈ gT := sg3 (List.mem_of_getElem? (i := 30) rfl) rfl
theorem mc_J2_getChar_3b067 : Cond.code yJ2_getChar_3b067 cJ2_getChar_3b067 2 (some .char) ∈ gT := sg3 (List.mem_of_getElem? (i := 31) rfl) rfl
theorem mm_J2_126 : Cond.methodLink RJ2 126 yJ7_copyOfRange_39247 ∈ gT := sg3 (List.mem_of_getElem? (i := 32) rfl) rfl
theorem mm_J0_47 : Cond.methodLink RJ0 47 yJ2_coderFromArrayLen_85cad ∈ gT := sg3 (List.mem_of_getElem? (i := 33) rfl) rfl
theorem mt_J2_coderFromArrayLen_85cad : Cond.static yJ2_coderFromArrayLen_85cad ∈ gT := sg3 (List.mem_of_getElem? (i := 34) rfl) rfl
theorem mc_J2_coderFromArrayLen_85cad : Cond.code yJ2_coderFromArrayLen_85cad cJ2_coderFromArrayLen_85cad 2 (some .byte) ∈ gT := sg3 (List.mem_of_getElem? (i := 35) rfl) rfl
theorem mf_J0_9 : Cond.fieldLink RJ0 9 "java/lang/String" "value" "[B" ∈ gT := sg3 (List.mem_of_getElem? (i := 36) rfl) rfl
theorem mf_J0_15 : Cond.fieldLink RJ0 15 "java/lang/String" "coder" "B" ∈ gT := sg3 (List.mem_of_getElem? (i := 37) rfl) rfl
theorem mm_X6_118 : Cond.methodLink RX6 118 yJ4_setLength_d00df ∈ gT := sg3 (List.mem_of_getElem? (i := 47) rfl) rfl
theorem mi_J4_setLength_d00df : Cond.instanceMethod yJ4_setLength_d00df ∈ gT := sg3 (List.mem_of_getElem? (i := 48) rfl) rfl
theorem ms_J4_setLength_d00df : Cond.selects RJ4 yJ4_setLength_d00df yJ4_setLength_d00df ∈ gT := sg3 (List.mem_of_getElem? (i := 49) rfl) rfl
theorem mc_J4_setLength_d00df : Cond.code yJ4_setLength_d00df cJ4_setLength_d00df 2 none ∈ gT := sg3 (List.mem_of_getElem? (i := 50) rfl) rfl
theorem mm_J4_333 : Cond.methodLink RJ4 333 yJ5_setLength_d00df ∈ gT := sg3 (List.mem_of_getElem? (i := 51) rfl) rfl
theorem mi_J5_setLength_d00df : Cond.instanceMethod yJ5_setLength_d00df ∈ gT := sg3 (List.mem_of_getElem? (i := 52) rfl) rfl
theorem mc_J5_setLength_d00df : Cond.code yJ5_setLength_d00df cJ5_setLength_d00df 2 none ∈ gT := sg3 (List.mem_of_getElem? (i := 53) rfl) rfl
theorem mm_J5_133 : Cond.methodLink RJ5 133 yJ1_fillNull_b72d1 ∈ gT := sg3 (List.mem_of_getElem? (i := 54) rfl) rfl
theorem mt_J1_fillNull_b72d1 : Cond.static yJ1_fillNull_b72d1 ∈ gT := sg3 (List.mem_of_getElem? (i := 55) rfl) rfl
theorem mc_J1_fillNull_b72d1 : Cond.code yJ1_fillNull_b72d1 cJ1_fillNull_b72d1 3 none ∈ gT := sg3 (List.mem_of_getElem? (i := 56) rfl) rfl
theorem mm_J1_236 : Cond.methodLink RJ1 236 yJ7_fill_eb02e ∈ gT := sg3 (List.mem_of_getElem? (i := 57) rfl) rfl
theorem mt_J7_fill_eb02e : Cond.static yJ7_fill_eb02e ∈ gT := sg3 (List.mem_of_getElem? (i := 58) rfl) rfl
theorem mc_J7_fill_eb02e : Cond.code yJ7_fill_eb02e cJ7_fill_eb02e 5 none ∈ gT := sg3 (List.mem_of_getElem? (i := 59) rfl) rfl
theorem mm_J7_13 : Cond.methodLink RJ7 13 yJ7_rangeCheck_23922 ∈ gT := sg3 (List.mem_of_getElem? (i := 60) rfl) rfl
theorem mt_J7_rangeCheck_23922 : Cond.static yJ7_rangeCheck_23922 ∈ gT := sg3 (List.mem_of_getElem? (i := 61) rfl) rfl
theorem mc_J7_rangeCheck_23922 : Cond.code yJ7_rangeCheck_23922 cJ7_rangeCheck_23922 3 none ∈ gT := sg3 (List.mem_of_getElem? (i := 62) rfl) rfl
theorem mm_J5_137 : Cond.methodLink RJ5 137 yJ2_fillNull_b72d1 ∈ gT := sg3 (List.mem_of_getElem? (i := 63) rfl) rfl
theorem mt_J2_fillNull_b72d1 : Cond.static yJ2_fillNull_b72d1 ∈ gT := sg3 (List.mem_of_getElem? (i := 64) rfl) rfl
theorem mc_J2_fillNull_b72d1 : Cond.code yJ2_fillNull_b72d1 cJ2_fillNull_b72d1 3 none ∈ gT := sg3 (List.mem_of_getElem? (i := 65) rfl) rfl
theorem mm_J2_380 : Cond.methodLink RJ2 380 yJ7_fill_eb02e ∈ gT := sg3 (List.mem_of_getElem? (i := 66) rfl) rfl
theorem mm_X6_121 : Cond.methodLink RX6 121 yJ0_indexOf_0f7a4 ∈ gT := sg3 (List.mem_of_getElem? (i := 67) rfl) rfl
theorem mi_J0_indexOf_0f7a4 : Cond.instanceMethod yJ0_indexOf_0f7a4 ∈ gT := sg3 (List.mem_of_getElem? (i := 68) rfl) rfl
theorem ms_J0_indexOf_0f7a4 : Cond.selects RJ0 yJ0_indexOf_0f7a4 yJ0_indexOf_0f7a4 ∈ gT := sg3 (List.mem_of_getElem? (i := 69) rfl) rfl
theorem mc_J0_indexOf_0f7a4 : Cond.code yJ0_indexOf_0f7a4 cJ0_indexOf_0f7a4 2 (some .int) ∈ gT := sg3 (List.mem_of_getElem? (i := 70) rfl) rfl
theorem mm_J0_633 : Cond.methodLink RJ0 633 yJ0_indexOf_7cf53 ∈ gT := sg3 (List.mem_of_getElem? (i := 71) rfl) rfl
theorem mi_J0_indexOf_7cf53 : Cond.instanceMethod yJ0_indexOf_7cf53 ∈ gT := sg3 (List.mem_of_getElem? (i := 72) rfl) rfl
theorem ms_J0_indexOf_7cf53 : Cond.selects RJ0 yJ0_indexOf_7cf53 yJ0_indexOf_7cf53 ∈ gT := sg3 (List.mem_of_getElem? (i := 73) rfl) rfl
theorem mc_J0_indexOf_7cf53 : Cond.code yJ0_indexOf_7cf53 cJ0_indexOf_7cf53 3 (some .int) ∈ gT := sg3 (List.mem_of_getElem? (i := 74) rfl) rfl
theorem mm_J0_492 : Cond.methodLink RJ0 492 yJ0_isLatin1_aae02 ∈ gT := sg3 (List.mem_of_getElem? (i := 75) rfl) rfl
theorem mi_J0_isLatin1_aae02 : Cond.instanceMethod yJ0_isLatin1_aae02 ∈ gT := sg3 (List.mem_of_getElem? (i := 76) rfl) rfl
theorem ms_J0_isLatin1_aae02 : Cond.selects RJ0 yJ0_isLatin1_aae02 yJ0_isLatin1_aae02 ∈ gT := sg3 (List.mem_of_getElem? (i := 77) rfl) rfl
theorem mc_J0_isLatin1_aae02 : Cond.code yJ0_isLatin1_aae02 cJ0_isLatin1_aae02 1 (some .boolean) ∈ gT := sg3 (List.mem_of_getElem? (i := 78) rfl) rfl
theorem mm_J0_505 : Cond.methodLink RJ0 505 yJ0_length_8abf5 ∈ gT := sg3 (List.mem_of_getElem? (i := 79) rfl) rfl
theorem mi_J0_length_8abf5 : Cond.instanceMethod yJ0_length_8abf5 ∈ gT := sg3 (List.mem_of_getElem? (i := 80) rfl) rfl
theorem ms_J0_length_8abf5 : Cond.selects RJ0 yJ0_length_8abf5 yJ0_length_8abf5 ∈ gT := sg3 (List.mem_of_getElem? (i := 81) rfl) rfl
theorem mc_J0_length_8abf5 : Cond.code yJ0_length_8abf5 cJ0_length_8abf5 1 (some .int) ∈ gT := sg3 (List.mem_of_getElem? (i := 82) rfl) rfl
theorem mm_J0_335 : Cond.methodLink RJ0 335 yJ0_coder_7d493 ∈ gT := sg3 (List.mem_of_getElem? (i := 83) rfl) rfl
theorem mi_J0_coder_7d493 : Cond.instanceMethod yJ0_coder_7d493 ∈ gT := sg3 (List.mem_of_getElem? (i := 84) rfl) rfl
theorem ms_J0_coder_7d493 : Cond.selects RJ0 yJ0_coder_7d493 yJ0_coder_7d493 ∈ gT := sg3 (List.mem_of_getElem? (i := 85) rfl) rfl
theorem mc_J0_coder_7d493 : Cond.code yJ0_coder_7d493 cJ0_coder_7d493 1 (some .byte) ∈ gT := sg3 (List.mem_of_getElem? (i := 86) rfl) rfl
theorem mm_J0_637 : Cond.methodLink RJ0 637 yJ1_indexOf_4cfef ∈ gT := sg3 (List.mem_of_getElem? (i := 87) rfl) rfl
theorem mt_J1_indexOf_4cfef : Cond.static yJ1_indexOf_4cfef ∈ gT := sg3 (List.mem_of_getElem? (i := 88) rfl) rfl
theorem mc_J1_indexOf_4cfef : Cond.code yJ1_indexOf_4cfef cJ1_indexOf_4cfef 4 (some .int) ∈ gT := sg3 (List.mem_of_getElem? (i := 89) rfl) rfl
theorem mm_J1_88 : Cond.methodLink RJ1 88 yJ1_canEncode_9a6ad ∈ gT := sg3 (List.mem_of_getElem? (i := 90) rfl) rfl
theorem mt_J1_canEncode_9a6ad : Cond.static yJ1_canEncode_9a6ad ∈ gT := sg3 (List.mem_of_getElem? (i := 91) rfl) rfl
theorem mc_J1_canEncode_9a6ad : Cond.code yJ1_canEncode_9a6ad cJ1_canEncode_9a6ad 1 (some .boolean) ∈ gT := sg3 (List.mem_of_getElem? (i := 92) rfl) rfl
theorem mm_J1_92 : Cond.methodLink RJ1 92 yJ9_max_7cf53 ∈ gT := sg3 (List.mem_of_getElem? (i := 93) rfl) rfl
theorem mm_J1_38 : Cond.methodLink RJ1 38 yJ9_min_7cf53 ∈ gT := sg3 (List.mem_of_getElem? (i := 94) rfl) rfl
theorem mm_J1_95 : Cond.methodLink RJ1 95 yJ1_indexOfChar_4cfef ∈ gT := sg3 (List.mem_of_getElem? (i := 95) rfl) rfl
theorem mt_J1_indexOfChar_4cfef : Cond.static yJ1_indexOfChar_4cfef ∈ gT := sg3 (List.mem_of_getElem? (i := 96) rfl) rfl
theorem mc_J1_indexOfChar_4cfef : Cond.code yJ1_indexOfChar_4cfef cJ1_indexOfChar_4cfef 6 (some .int) ∈ gT := sg3 (List.mem_of_getElem? (i := 97) rfl) rfl
theorem mm_J0_640 : Cond.methodLink RJ0 640 yJ2_indexOf_4cfef ∈ gT := sg3 (List.mem_of_getElem? (i := 98) rfl) rfl
theorem mt_J2_indexOf_4cfef : Cond.static yJ2_indexOf_4cfef ∈ gT := sg3 (List.mem_of_getElem? (i := 99) rfl) rfl
theorem mc_J2_indexOf_4cfef : Cond.code yJ2_indexOf_4cfef cJ2_indexOf_4cfef 4 (some .int) ∈ gT := sg3 (List.mem_of_getElem? (i := 100) rfl) rfl
theorem mm_J2_224 : Cond.methodLink RJ2 224 yJ9_max_7cf53 ∈ gT := sg3 (List.mem_of_getElem? (i := 101) rfl) rfl
theorem mm_J2_183 : Cond.methodLink RJ2 183 yJ9_min_7cf53 ∈ gT := sg3 (List.mem_of_getElem? (i := 102) rfl) rfl
theorem mk_J2_227 : Cond.constant RJ2 227 (65536) ∈ gT := sg3 (List.mem_of_getElem? (i := 103) rfl) rfl
theorem mm_J2_228 : Cond.methodLink RJ2 228 yJ2_indexOfChar_4cfef ∈ gT := sg3 (List.mem_of_getElem? (i := 104) rfl) rfl
theorem mt_J2_indexOfChar_4cfef : Cond.static yJ2_indexOfChar_4cfef ∈ gT := sg3 (List.mem_of_getElem? (i := 105) rfl) rfl
theorem mc_J2_indexOfChar_4cfef : Cond.code yJ2_indexOfChar_4cfef cJ2_indexOfChar_4cfef 4 (some .int) ∈ gT := sg3 (List.mem_of_getElem? (i := 106) rfl) rfl
theorem mm_J2_96 : Cond.methodLink RJ2 96 yJ2_checkBoundsBeginEnd_d044e ∈ gT := sg3 (List.mem_of_getElem? (i := 107) rfl) rfl
