theorem ms_RX9_yX9_isFigure : Cond.selects RX9 yX9_isFigure yX9_isFigure ∈ wsL_law := wm_0 (i := 0) (by decide +kernel) rfl
theorem ms_RX9_yX9_doneOnFloor : Cond.selects RX9 yX9_doneOnFloor yX9_doneOnFloor ∈ wsL_law := wm_0 (i := 1) (by decide +kernel) rfl
theorem ms_RX9_yX9_isVillage : Cond.selects RX9 yX9_isVillage yX9_isVillage ∈ wsL_law := wm_0 (i := 2) (by decide +kernel) rfl
theorem ms_RX9_yX9_beatsOf : Cond.selects RX9 yX9_beatsOf yX9_beatsOf ∈ wsL_law := wm_0 (i := 3) (by decide +kernel) rfl
theorem mn_RL : Cond.initialized RL ∈ wsL_law := wm_1 (i := 0) (by decide +kernel) rfl
theorem mn_RX9 : Cond.initialized RX9 ∈ wsL_law := wm_1 (i := 1) (by decide +kernel) rfl
theorem mn_RX1 : Cond.initialized RX1 ∈ wsL_law := wm_1 (i := 2) (by decide +kernel) rfl
theorem mn_RX8 : Cond.initialized RX8 ∈ wsL_law := wm_1 (i := 3) (by decide +kernel) rfl
theorem mn_RX2 : Cond.initialized RX2 ∈ wsL_law := wm_1 (i := 4) (by decide +kernel) rfl
theorem mn_RX5 : Cond.initialized RX5 ∈ wsL_law := wm_1 (i := 5) (by decide +kernel) rfl
theorem mn_RX6 : Cond.initialized RX6 ∈ wsL_law := wm_1 (i := 6) (by decide +kernel) rfl
theorem mn_RX0 : Cond.initialized RX0 ∈ wsL_law := wm_1 (i := 7) (by decide +kernel) rfl
theorem mn_RX3 : Cond.initialized RX3 ∈ wsL_law := wm_1 (i := 8) (by decide +kernel) rfl
theorem mn_RX7 : Cond.initialized RX7 ∈ wsL_law := wm_1 (i := 9) (by decide +kernel) rfl
theorem mn_RX4 : Cond.initialized RX4 ∈ wsL_law := wm_1 (i := 10) (by decide +kernel) rfl
theorem mn_RJ0 : Cond.initialized RJ0 ∈ wsL_law := wm_1 (i := 11) (by decide +kernel) rfl
theorem mn_RJ1 : Cond.initialized RJ1 ∈ wsL_law := wm_1 (i := 12) (by decide +kernel) rfl
theorem mn_java_lang_Math : Cond.initialized "java/lang/Math" ∈ wsL_law := wm_1 (i := 13) (by decide +kernel) rfl
theorem mn_RJ2 : Cond.initialized RJ2 ∈ wsL_law := wm_1 (i := 14) (by decide +kernel) rfl
theorem mn_RJ3 : Cond.initialized RJ3 ∈ wsL_law := wm_1 (i := 15) (by decide +kernel) rfl
theorem mn_RJ11 : Cond.initialized RJ11 ∈ wsL_law := wm_1 (i := 16) (by decide +kernel) rfl
theorem mn_java_lang_System : Cond.initialized "java/lang/System" ∈ wsL_law := wm_1 (i := 17) (by decide +kernel) rfl
theorem mn_RJ6 : Cond.initialized RJ6 ∈ wsL_law := wm_1 (i := 18) (by decide +kernel) rfl
theorem m_L_10 : Cond.classLink RL 10 RX9 ∈ wsL_law := wm_1 (i := 19) (by decide +kernel) rfl
theorem mj_RX9 : Cond.instantiable RX9 16 ∈ wsL_law := wm_1 (i := 20) (by decide +kernel) rfl
theorem m_L_36 : Cond.methodLink RL 36 yX9_init ∈ wsL_law := wm_1 (i := 21) (by decide +kernel) rfl
theorem mi_yX9_init : Cond.instanceMethod yX9_init ∈ wsL_law := wm_1 (i := 22) (by decide +kernel) rfl
theorem mc_yX9_init : Cond.code yX9_init cX9_init 2 none ∈ wsL_law := wm_1 (i := 23) (by decide +kernel) rfl
theorem m_X9_1 : Cond.methodLink RX9 1 objectInit ∈ wsL_law := wm_1 (i := 24) (by decide +kernel) rfl
theorem mi_objectInit : Cond.instanceMethod objectInit ∈ wsL_law := wm_1 (i := 25) (by decide +kernel) rfl
theorem mc_objectInit : Cond.code objectInit ⟨#[0xb1]⟩ 1 none ∈ wsL_law := wm_1 (i := 26) (by decide +kernel) rfl
theorem m_X9_7 : Cond.classLink RX9 7 RX1 ∈ wsL_law := wm_1 (i := 27) (by decide +kernel) rfl
theorem mj_RX1 : Cond.instantiable RX1 5 ∈ wsL_law := wm_1 (i := 28) (by decide +kernel) rfl
theorem m_X9_9 : Cond.methodLink RX9 9 yX1_init ∈ wsL_law := wm_1 (i := 29) (by decide +kernel) rfl
theorem mi_yX1_init : Cond.instanceMethod yX1_init ∈ wsL_law := wm_1 (i := 30) (by decide +kernel) rfl
theorem mc_yX1_init : Cond.code yX1_init cX1_init 2 none ∈ wsL_law := wm_1 (i := 31) (by decide +kernel) rfl
theorem m_X1_3 : Cond.methodLink RX1 3 objectInit ∈ wsL_law := wm_1 (i := 32) (by decide +kernel) rfl
theorem m_X1_9 : Cond.classLink RX1 9 RX8 ∈ wsL_law := wm_1 (i := 33) (by decide +kernel) rfl
theorem mj_RX8 : Cond.instantiable RX8 5 ∈ wsL_law := wm_1 (i := 34) (by decide +kernel) rfl
theorem m_X1_11 : Cond.methodLink RX1 11 yX8_init ∈ wsL_law := wm_1 (i := 35) (by decide +kernel) rfl
theorem mi_yX8_init : Cond.instanceMethod yX8_init ∈ wsL_law := wm_1 (i := 36) (by decide +kernel) rfl
theorem mc_yX8_init : Cond.code yX8_init cX8_init 1 none ∈ wsL_law := wm_1 (i := 37) (by decide +kernel) rfl
theorem m_X8_3 : Cond.methodLink RX8 3 objectInit ∈ wsL_law := wm_1 (i := 38) (by decide +kernel) rfl
theorem m_X8_9 : Cond.methodLink RX8 9 yX8_begin ∈ wsL_law := wm_1 (i := 39) (by decide +kernel) rfl
theorem mi_yX8_begin : Cond.instanceMethod yX8_begin ∈ wsL_law := wm_1 (i := 40) (by decide +kernel) rfl
theorem ms_RX8_yX8_begin : Cond.selects RX8 yX8_begin yX8_begin ∈ wsL_law := wm_1 (i := 41) (by decide +kernel) rfl
theorem mc_yX8_begin : Cond.code yX8_begin cX8_begin 2 none ∈ wsL_law := wm_1 (i := 42) (by decide +kernel) rfl
theorem m_X8_19 : Cond.constantLong RX8 19 (1985229328) ∈ wsL_law := wm_1 (i := 43) (by decide +kernel) rfl
theorem m_X8_21 : Cond.methodLink RX8 21 yX8_seatBits ∈ wsL_law := wm_1 (i := 44) (by decide +kernel) rfl
theorem mi_yX8_seatBits : Cond.instanceMethod yX8_seatBits ∈ wsL_law := wm_1 (i := 45) (by decide +kernel) rfl
theorem ms_RX8_yX8_seatBits : Cond.selects RX8 yX8_seatBits yX8_seatBits ∈ wsL_law := wm_1 (i := 46) (by decide +kernel) rfl
theorem mc_yX8_seatBits : Cond.code yX8_seatBits cX8_seatBits 1 (some .long) ∈ wsL_law := wm_1 (i := 47) (by decide +kernel) rfl
theorem m_X8_15 : Cond.fieldLink RX8 15 "BladeRing$Weave" "dancers" "I" ∈ wsL_law := wm_1 (i := 48) (by decide +kernel) rfl
theorem m_X9_101 : Cond.fieldLink RX9 101 "BladeRing$Weave" "dancers" "I" ∈ wsL_law := wm_1 (i := 49) (by decide +kernel) rfl
theorem m_X1_70 : Cond.fieldLink RX1 70 "BladeRing$Weave" "dancers" "I" ∈ wsL_law := wm_1 (i := 50) (by decide +kernel) rfl
theorem m_X8_25 : Cond.fieldLink RX8 25 "BladeRing$Weave" "seats" "J" ∈ wsL_law := wm_1 (i := 51) (by decide +kernel) rfl
theorem m_X8_29 : Cond.fieldLink RX8 29 "BladeRing$Weave" "inward" "I" ∈ wsL_law := wm_1 (i := 52) (by decide +kernel) rfl
theorem m_X9_108 : Cond.fieldLink RX9 108 "BladeRing$Weave" "inward" "I" ∈ wsL_law := wm_1 (i := 53) (by decide +kernel) rfl
theorem m_X8_32 : Cond.fieldLink RX8 32 "BladeRing$Weave" "held" "I" ∈ wsL_law := wm_1 (i := 54) (by decide +kernel) rfl
theorem m_X9_111 : Cond.fieldLink RX9 111 "BladeRing$Weave" "held" "I" ∈ wsL_law := wm_1 (i := 55) (by decide +kernel) rfl
theorem m_X8_35 : Cond.fieldLink RX8 35 "BladeRing$Weave" "overs" "J" ∈ wsL_law := wm_1 (i := 56) (by decide +kernel) rfl
theorem ml_X8_dancers : Cond.lays RX8 "BladeRing$Weave" "dancers" "I" ∈ wsL_law := wm_1 (i := 57) (by decide +kernel) rfl
theorem ml_X8_seats : Cond.lays RX8 "BladeRing$Weave" "seats" "J" ∈ wsL_law := wm_1 (i := 59) (by decide +kernel) rfl
theorem ml_X8_inward : Cond.lays RX8 "BladeRing$Weave" "inward" "I" ∈ wsL_law := wm_1 (i := 61) (by decide +kernel) rfl
theorem ml_X8_held : Cond.lays RX8 "BladeRing$Weave" "held" "I" ∈ wsL_law := wm_1 (i := 63) (by decide +kernel) rfl
theorem ml_X8_overs : Cond.lays RX8 "BladeRing$Weave" "overs" "J" ∈ wsL_law := wm_1 (i := 65) (by decide +kernel) rfl
theorem m_X1_12 : Cond.fieldLink RX1 12 "BladeRing$Floor" "now" "LBladeRing$Weave;" ∈ wsL_law := wm_1 (i := 69) (by decide +kernel) rfl
theorem m_X9_79 : Cond.fieldLink RX9 79 "BladeRing$Floor" "now" "LBladeRing$Weave;" ∈ wsL_law := wm_1 (i := 70) (by decide +kernel) rfl
theorem m_X1_18 : Cond.fieldLink RX1 18 "BladeRing$Floor" "past" "[LBladeRing$Weave;" ∈ wsL_law := wm_1 (i := 71) (by decide +kernel) rfl
theorem m_X1_26 : Cond.fieldLink RX1 26 "BladeRing$Floor" "next" "I" ∈ wsL_law := wm_1 (i := 72) (by decide +kernel) rfl
theorem m_X1_22 : Cond.fieldLink RX1 22 "BladeRing$Floor" "undoable" "I" ∈ wsL_law := wm_1 (i := 73) (by decide +kernel) rfl
theorem m_X1_46 : Cond.fieldLink RX1 46 "BladeRing$Floor" "refusal" "I" ∈ wsL_law := wm_1 (i := 74) (by decide +kernel) rfl
theorem m_X9_224 : Cond.fieldLink RX9 224 "BladeRing$Floor" "refusal" "I" ∈ wsL_law := wm_1 (i := 75) (by decide +kernel) rfl
theorem ml_X1_now : Cond.laysFinal RX1 "BladeRing$Floor" "now" "LBladeRing$Weave;" ∈ wsL_law := wm_1 (i := 76) (by decide +kernel) rfl
theorem ml_X1_past : Cond.laysFinal RX1 "BladeRing$Floor" "past" "[LBladeRing$Weave;" ∈ wsL_law := wm_1 (i := 78) (by decide +kernel) rfl
theorem ml_X1_next : Cond.lays RX1 "BladeRing$Floor" "next" "I" ∈ wsL_law := wm_1 (i := 80) (by decide +kernel) rfl
theorem ml_X1_undoable : Cond.lays RX1 "BladeRing$Floor" "undoable" "I" ∈ wsL_law := wm_1 (i := 82) (by decide +kernel) rfl
theorem ml_X1_refusal : Cond.lays RX1 "BladeRing$Floor" "refusal" "I" ∈ wsL_law := wm_1 (i := 84) (by decide +kernel) rfl
theorem m_X9_19 : Cond.classLink RX9 19 RX8 ∈ wsL_law := wm_1 (i := 87) (by decide +kernel) rfl
theorem m_X9_21 : Cond.methodLink RX9 21 yX8_init ∈ wsL_law := wm_1 (i := 88) (by decide +kernel) rfl
theorem m_X9_30 : Cond.classLink RX9 30 RX2 ∈ wsL_law := wm_1 (i := 89) (by decide +kernel) rfl
theorem mj_RX2 : Cond.instantiable RX2 14 ∈ wsL_law := wm_1 (i := 90) (by decide +kernel) rfl
theorem mi_yX2_init : Cond.instanceMethod yX2_init ∈ wsL_law := wm_1 (i := 92) (by decide +kernel) rfl
theorem mc_yX2_init : Cond.code yX2_init cX2_init 1 none ∈ wsL_law := wm_1 (i := 93) (by decide +kernel) rfl
theorem m_X2_3 : Cond.methodLink RX2 3 objectInit ∈ wsL_law := wm_1 (i := 94) (by decide +kernel) rfl
theorem m_X2_31 : Cond.classLink RX2 31 RX8 ∈ wsL_law := wm_1 (i := 95) (by decide +kernel) rfl
theorem m_X2_33 : Cond.methodLink RX2 33 yX8_init ∈ wsL_law := wm_1 (i := 96) (by decide +kernel) rfl
theorem m_X2_9 : Cond.fieldLink RX2 9 "BladeRing$Search" "seats" "[J" ∈ wsL_law := wm_1 (i := 97) (by decide +kernel) rfl
theorem m_X2_15 : Cond.fieldLink RX2 15 "BladeRing$Search" "overs" "[J" ∈ wsL_law := wm_1 (i := 98) (by decide +kernel) rfl
theorem m_X2_18 : Cond.fieldLink RX2 18 "BladeRing$Search" "keys" "[J" ∈ wsL_law := wm_1 (i := 99) (by decide +kernel) rfl
theorem m_X2_21 : Cond.fieldLink RX2 21 "BladeRing$Search" "parents" "[I" ∈ wsL_law := wm_1 (i := 100) (by decide +kernel) rfl
theorem m_X2_25 : Cond.fieldLink RX2 25 "BladeRing$Search" "acts" "[I" ∈ wsL_law := wm_1 (i := 101) (by decide +kernel) rfl
theorem m_X2_28 : Cond.fieldLink RX2 28 "BladeRing$Search" "slots" "[I" ∈ wsL_law := wm_1 (i := 102) (by decide +kernel) rfl
theorem m_X2_34 : Cond.fieldLink RX2 34 "BladeRing$Search" "from" "LBladeRing$Weave;" ∈ wsL_law := wm_1 (i := 103) (by decide +kernel) rfl
theorem m_X2_38 : Cond.fieldLink RX2 38 "BladeRing$Search" "to" "LBladeRing$Weave;" ∈ wsL_law := wm_1 (i := 104) (by decide +kernel) rfl
theorem m_X2_41 : Cond.fieldLink RX2 41 "BladeRing$Search" "step" "LBladeRing$Weave;" ∈ wsL_law := wm_1 (i := 105) (by decide +kernel) rfl
theorem ml_X2_seats : Cond.laysFinal RX2 "BladeRing$Search" "seats" "[J" ∈ wsL_law := wm_1 (i := 106) (by decide +kernel) rfl
theorem ml_X2_overs : Cond.laysFinal RX2 "BladeRing$Search" "overs" "[J" ∈ wsL_law := wm_1 (i := 108) (by decide +kernel) rfl
theorem ml_X2_keys : Cond.laysFinal RX2 "BladeRing$Search" "keys" "[J" ∈ wsL_law := wm_1 (i := 110) (by decide +kernel) rfl
theorem ml_X2_parents : Cond.laysFinal RX2 "BladeRing$Search" "parents" "[I" ∈ wsL_law := wm_1 (i := 112) (by decide +kernel) rfl
theorem ml_X2_acts : Cond.laysFinal RX2 "BladeRing$Search" "acts" "[I" ∈ wsL_law := wm_1 (i := 114) (by decide +kernel) rfl
theorem ml_X2_slots : Cond.laysFinal RX2 "BladeRing$Search" "slots" "[I" ∈ wsL_law := wm_1 (i := 116) (by decide +kernel) rfl
theorem ml_X2_from : Cond.laysFinal RX2 "BladeRing$Search" "from" "LBladeRing$Weave;" ∈ wsL_law := wm_1 (i := 118) (by decide +kernel) rfl
theorem ml_X2_to : Cond.laysFinal RX2 "BladeRing$Search" "to" "LBladeRing$Weave;" ∈ wsL_law := wm_1 (i := 120) (by decide +kernel) rfl
theorem ml_X2_step : Cond.laysFinal RX2 "BladeRing$Search" "step" "LBladeRing$Weave;" ∈ wsL_law := wm_1 (i := 122) (by decide +kernel) rfl
theorem ml_X2_goalKey : Cond.lays RX2 "BladeRing$Search" "goalKey" "J" ∈ wsL_law := wm_1 (i := 124) (by decide +kernel) rfl
theorem ml_X2_searched : Cond.lays RX2 "BladeRing$Search" "searched" "Z" ∈ wsL_law := wm_1 (i := 126) (by decide +kernel) rfl
theorem ml_X2_metCount : Cond.lays RX2 "BladeRing$Search" "metCount" "I" ∈ wsL_law := wm_1 (i := 128) (by decide +kernel) rfl
theorem ml_X2_goal : Cond.lays RX2 "BladeRing$Search" "goal" "I" ∈ wsL_law := wm_1 (i := 130) (by decide +kernel) rfl
theorem ml_X2_answer : Cond.lays RX2 "BladeRing$Search" "answer" "I" ∈ wsL_law := wm_1 (i := 132) (by decide +kernel) rfl
theorem ma_long : Cond.arrayClass .long ∈ wsL_law := wm_1 (i := 135) (by decide +kernel) rfl
theorem ma_int : Cond.arrayClass .int ∈ wsL_law := wm_1 (i := 136) (by decide +kernel) rfl
theorem m_X9_37 : Cond.classLink RX9 37 RX5 ∈ wsL_law := wm_1 (i := 137) (by decide +kernel) rfl
theorem mj_RX5 : Cond.instantiable RX5 6 ∈ wsL_law := wm_1 (i := 138) (by decide +kernel) rfl
theorem mi_yX5_init : Cond.instanceMethod yX5_init ∈ wsL_law := wm_1 (i := 140) (by decide +kernel) rfl
theorem mc_yX5_init : Cond.code yX5_init cX5_init 1 none ∈ wsL_law := wm_1 (i := 141) (by decide +kernel) rfl
theorem m_X5_3 : Cond.methodLink RX5 3 objectInit ∈ wsL_law := wm_1 (i := 142) (by decide +kernel) rfl
theorem m_X5_9 : Cond.fieldLink RX5 9 "BladeRing$Tape" "bytes" "[B" ∈ wsL_law := wm_1 (i := 143) (by decide +kernel) rfl
theorem m_X5_15 : Cond.fieldLink RX5 15 "BladeRing$Tape" "length" "I" ∈ wsL_law := wm_1 (i := 144) (by decide +kernel) rfl
theorem m_X9_171 : Cond.fieldLink RX9 171 "BladeRing$Tape" "length" "I" ∈ wsL_law := wm_1 (i := 145) (by decide +kernel) rfl
theorem m_X5_19 : Cond.fieldLink RX5 19 "BladeRing$Tape" "reading" "I" ∈ wsL_law := wm_1 (i := 146) (by decide +kernel) rfl
theorem m_X6_50 : Cond.fieldLink RX6 50 "BladeRing$Tape" "kind" "I" ∈ wsL_law := wm_1 (i := 147) (by decide +kernel) rfl
theorem m_X5_36 : Cond.fieldLink RX5 36 "BladeRing$Tape" "kind" "I" ∈ wsL_law := wm_1 (i := 148) (by decide +kernel) rfl
theorem m_X6_44 : Cond.fieldLink RX6 44 "BladeRing$Tape" "place" "I" ∈ wsL_law := wm_1 (i := 149) (by decide +kernel) rfl
theorem m_X5_26 : Cond.fieldLink RX5 26 "BladeRing$Tape" "place" "I" ∈ wsL_law := wm_1 (i := 150) (by decide +kernel) rfl
theorem m_X6_79 : Cond.fieldLink RX6 79 "BladeRing$Tape" "value" "I" ∈ wsL_law := wm_1 (i := 151) (by decide +kernel) rfl
theorem m_X5_46 : Cond.fieldLink RX5 46 "BladeRing$Tape" "value" "I" ∈ wsL_law := wm_1 (i := 152) (by decide +kernel) rfl
theorem ml_X5_bytes : Cond.laysFinal RX5 "BladeRing$Tape" "bytes" "[B" ∈ wsL_law := wm_1 (i := 153) (by decide +kernel) rfl
theorem ml_X5_length : Cond.lays RX5 "BladeRing$Tape" "length" "I" ∈ wsL_law := wm_1 (i := 155) (by decide +kernel) rfl
theorem ml_X5_reading : Cond.lays RX5 "BladeRing$Tape" "reading" "I" ∈ wsL_law := wm_1 (i := 157) (by decide +kernel) rfl
theorem ml_X5_kind : Cond.lays RX5 "BladeRing$Tape" "kind" "I" ∈ wsL_law := wm_1 (i := 159) (by decide +kernel) rfl
theorem ml_X5_place : Cond.lays RX5 "BladeRing$Tape" "place" "I" ∈ wsL_law := wm_1 (i := 161) (by decide +kernel) rfl
theorem ml_X5_value : Cond.lays RX5 "BladeRing$Tape" "value" "I" ∈ wsL_law := wm_1 (i := 163) (by decide +kernel) rfl
theorem ma_byte : Cond.arrayClass .byte ∈ wsL_law := wm_1 (i := 166) (by decide +kernel) rfl
theorem m_X9_44 : Cond.classLink RX9 44 RX6 ∈ wsL_law := wm_1 (i := 167) (by decide +kernel) rfl
theorem mj_RX6 : Cond.instantiable RX6 11 ∈ wsL_law := wm_1 (i := 168) (by decide +kernel) rfl
theorem mi_yX6_init : Cond.instanceMethod yX6_init ∈ wsL_law := wm_1 (i := 170) (by decide +kernel) rfl
theorem mc_yX6_init : Cond.code yX6_init cX6_init 1 none ∈ wsL_law := wm_1 (i := 171) (by decide +kernel) rfl
theorem m_X6_3 : Cond.methodLink RX6 3 objectInit ∈ wsL_law := wm_1 (i := 172) (by decide +kernel) rfl
theorem m_X6_9 : Cond.classLink RX6 9 RX0 ∈ wsL_law := wm_1 (i := 173) (by decide +kernel) rfl
theorem mj_RX0 : Cond.instantiable RX0 2 ∈ wsL_law := wm_1 (i := 174) (by decide +kernel) rfl
theorem mi_yX0_init : Cond.instanceMethod yX0_init ∈ wsL_law := wm_1 (i := 176) (by decide +kernel) rfl
theorem mc_yX0_init : Cond.code yX0_init cX0_init 1 none ∈ wsL_law := wm_1 (i := 177) (by decide +kernel) rfl
theorem m_X0_3 : Cond.methodLink RX0 3 objectInit ∈ wsL_law := wm_1 (i := 178) (by decide +kernel) rfl
theorem m_X0_9 : Cond.fieldLink RX0 9 "BladeRing$Figure" "beats" "[B" ∈ wsL_law := wm_1 (i := 179) (by decide +kernel) rfl
theorem m_X0_15 : Cond.fieldLink RX0 15 "BladeRing$Figure" "length" "I" ∈ wsL_law := wm_1 (i := 180) (by decide +kernel) rfl
theorem m_X6_57 : Cond.fieldLink RX6 57 "BladeRing$Figure" "length" "I" ∈ wsL_law := wm_1 (i := 181) (by decide +kernel) rfl
theorem m_X1_49 : Cond.fieldLink RX1 49 "BladeRing$Figure" "length" "I" ∈ wsL_law := wm_1 (i := 182) (by decide +kernel) rfl
theorem m_X9_201 : Cond.fieldLink RX9 201 "BladeRing$Figure" "length" "I" ∈ wsL_law := wm_1 (i := 183) (by decide +kernel) rfl
theorem ml_X0_beats : Cond.laysFinal RX0 "BladeRing$Figure" "beats" "[B" ∈ wsL_law := wm_1 (i := 184) (by decide +kernel) rfl
theorem ml_X0_length : Cond.lays RX0 "BladeRing$Figure" "length" "I" ∈ wsL_law := wm_1 (i := 186) (by decide +kernel) rfl
theorem m_X6_12 : Cond.fieldLink RX6 12 "BladeRing$Teller" "draft" "LBladeRing$Figure;" ∈ wsL_law := wm_1 (i := 189) (by decide +kernel) rfl
theorem m_X9_190 : Cond.fieldLink RX9 190 "BladeRing$Teller" "draft" "LBladeRing$Figure;" ∈ wsL_law := wm_1 (i := 190) (by decide +kernel) rfl
theorem m_X6_18 : Cond.fieldLink RX6 18 "BladeRing$Teller" "starts" "[I" ∈ wsL_law := wm_1 (i := 191) (by decide +kernel) rfl
theorem m_X6_22 : Cond.fieldLink RX6 22 "BladeRing$Teller" "times" "[I" ∈ wsL_law := wm_1 (i := 192) (by decide +kernel) rfl
theorem m_X6_60 : Cond.fieldLink RX6 60 "BladeRing$Teller" "open" "I" ∈ wsL_law := wm_1 (i := 193) (by decide +kernel) rfl
theorem m_X6_63 : Cond.fieldLink RX6 63 "BladeRing$Teller" "wanted" "I" ∈ wsL_law := wm_1 (i := 194) (by decide +kernel) rfl
theorem m_X6_82 : Cond.fieldLink RX6 82 "BladeRing$Teller" "letter" "I" ∈ wsL_law := wm_1 (i := 195) (by decide +kernel) rfl
theorem m_X6_85 : Cond.fieldLink RX6 85 "BladeRing$Teller" "rounds" "I" ∈ wsL_law := wm_1 (i := 196) (by decide +kernel) rfl
theorem m_X6_66 : Cond.fieldLink RX6 66 "BladeRing$Teller" "empty" "Z" ∈ wsL_law := wm_1 (i := 197) (by decide +kernel) rfl
theorem m_X6_53 : Cond.fieldLink RX6 53 "BladeRing$Teller" "overlong" "Z" ∈ wsL_law := wm_1 (i := 198) (by decide +kernel) rfl
theorem m_X6_40 : Cond.fieldLink RX6 40 "BladeRing$Teller" "fault" "I" ∈ wsL_law := wm_1 (i := 199) (by decide +kernel) rfl
theorem m_X9_181 : Cond.fieldLink RX9 181 "BladeRing$Teller" "fault" "I" ∈ wsL_law := wm_1 (i := 200) (by decide +kernel) rfl
theorem m_X6_47 : Cond.fieldLink RX6 47 "BladeRing$Teller" "faultPlace" "I" ∈ wsL_law := wm_1 (i := 201) (by decide +kernel) rfl
theorem m_X9_187 : Cond.fieldLink RX9 187 "BladeRing$Teller" "faultPlace" "I" ∈ wsL_law := wm_1 (i := 202) (by decide +kernel) rfl
theorem ml_X6_draft : Cond.laysFinal RX6 "BladeRing$Teller" "draft" "LBladeRing$Figure;" ∈ wsL_law := wm_1 (i := 203) (by decide +kernel) rfl
theorem ml_X6_starts : Cond.laysFinal RX6 "BladeRing$Teller" "starts" "[I" ∈ wsL_law := wm_1 (i := 205) (by decide +kernel) rfl
theorem ml_X6_times : Cond.laysFinal RX6 "BladeRing$Teller" "times" "[I" ∈ wsL_law := wm_1 (i := 207) (by decide +kernel) rfl
theorem ml_X6_open : Cond.lays RX6 "BladeRing$Teller" "open" "I" ∈ wsL_law := wm_1 (i := 209) (by decide +kernel) rfl
theorem ml_X6_wanted : Cond.lays RX6 "BladeRing$Teller" "wanted" "I" ∈ wsL_law := wm_1 (i := 211) (by decide +kernel) rfl
theorem ml_X6_letter : Cond.lays RX6 "BladeRing$Teller" "letter" "I" ∈ wsL_law := wm_1 (i := 213) (by decide +kernel) rfl
theorem ml_X6_rounds : Cond.lays RX6 "BladeRing$Teller" "rounds" "I" ∈ wsL_law := wm_1 (i := 215) (by decide +kernel) rfl
theorem ml_X6_empty : Cond.lays RX6 "BladeRing$Teller" "empty" "Z" ∈ wsL_law := wm_1 (i := 217) (by decide +kernel) rfl
theorem ml_X6_overlong : Cond.lays RX6 "BladeRing$Teller" "overlong" "Z" ∈ wsL_law := wm_1 (i := 219) (by decide +kernel) rfl
theorem ml_X6_fault : Cond.lays RX6 "BladeRing$Teller" "fault" "I" ∈ wsL_law := wm_1 (i := 221) (by decide +kernel) rfl
theorem ml_X6_faultPlace : Cond.lays RX6 "BladeRing$Teller" "faultPlace" "I" ∈ wsL_law := wm_1 (i := 223) (by decide +kernel) rfl
theorem m_X9_51 : Cond.classLink RX9 51 RX0 ∈ wsL_law := wm_1 (i := 226) (by decide +kernel) rfl
theorem m_X9_57 : Cond.classLink RX9 57 RX7 ∈ wsL_law := wm_1 (i := 228) (by decide +kernel) rfl
theorem m_X9_63 : Cond.classLink RX9 63 RX3 ∈ wsL_law := wm_1 (i := 230) (by decide +kernel) rfl
theorem mj_RX3 : Cond.instantiable RX3 2 ∈ wsL_law := wm_1 (i := 231) (by decide +kernel) rfl
theorem mi_yX3_init : Cond.instanceMethod yX3_init ∈ wsL_law := wm_1 (i := 233) (by decide +kernel) rfl
theorem mc_yX3_init : Cond.code yX3_init cX3_init 1 none ∈ wsL_law := wm_1 (i := 234) (by decide +kernel) rfl
theorem m_X3_3 : Cond.methodLink RX3 3 objectInit ∈ wsL_law := wm_1 (i := 235) (by decide +kernel) rfl
theorem m_X3_9 : Cond.classLink RX3 9 "[[I" ∈ wsL_law := wm_1 (i := 236) (by decide +kernel) rfl
theorem m_X3_16 : Cond.classLink RX3 16 RX7 ∈ wsL_law := wm_1 (i := 238) (by decide +kernel) rfl
theorem mj_RX7 : Cond.instantiable RX7 2 ∈ wsL_law := wm_1 (i := 239) (by decide +kernel) rfl
theorem mi_yX7_init : Cond.instanceMethod yX7_init ∈ wsL_law := wm_2 (i := 1) (by decide +kernel) rfl
theorem mc_yX7_init : Cond.code yX7_init cX7_init 1 none ∈ wsL_law := wm_2 (i := 2) (by decide +kernel) rfl
theorem m_X7_3 : Cond.methodLink RX7 3 objectInit ∈ wsL_law := wm_2 (i := 3) (by decide +kernel) rfl
theorem m_X7_9 : Cond.fieldLink RX7 9 "BladeRing$Village" "figures" "[I" ∈ wsL_law := wm_2 (i := 4) (by decide +kernel) rfl
theorem m_X7_15 : Cond.fieldLink RX7 15 "BladeRing$Village" "length" "I" ∈ wsL_law := wm_2 (i := 5) (by decide +kernel) rfl
theorem m_X3_27 : Cond.fieldLink RX3 27 "BladeRing$Village" "length" "I" ∈ wsL_law := wm_2 (i := 6) (by decide +kernel) rfl
theorem m_X9_258 : Cond.fieldLink RX9 258 "BladeRing$Village" "length" "I" ∈ wsL_law := wm_2 (i := 7) (by decide +kernel) rfl
theorem ml_X7_figures : Cond.laysFinal RX7 "BladeRing$Village" "figures" "[I" ∈ wsL_law := wm_2 (i := 8) (by decide +kernel) rfl
theorem ml_X7_length : Cond.lays RX7 "BladeRing$Village" "length" "I" ∈ wsL_law := wm_2 (i := 10) (by decide +kernel) rfl
theorem m_X3_11 : Cond.fieldLink RX3 11 "BladeRing$Sharing" "lengths" "[[I" ∈ wsL_law := wm_2 (i := 13) (by decide +kernel) rfl
theorem m_X3_19 : Cond.fieldLink RX3 19 "BladeRing$Sharing" "row" "LBladeRing$Village;" ∈ wsL_law := wm_2 (i := 14) (by decide +kernel) rfl
theorem m_X9_269 : Cond.fieldLink RX9 269 "BladeRing$Sharing" "row" "LBladeRing$Village;" ∈ wsL_law := wm_2 (i := 15) (by decide +kernel) rfl
theorem ml_X3_lengths : Cond.laysFinal RX3 "BladeRing$Sharing" "lengths" "[[I" ∈ wsL_law := wm_2 (i := 16) (by decide +kernel) rfl
theorem ml_X3_row : Cond.laysFinal RX3 "BladeRing$Sharing" "row" "LBladeRing$Village;" ∈ wsL_law := wm_2 (i := 18) (by decide +kernel) rfl
theorem m_X9_70 : Cond.classLink RX9 70 RX4 ∈ wsL_law := wm_2 (i := 21) (by decide +kernel) rfl
theorem mj_RX4 : Cond.instantiable RX4 3 ∈ wsL_law := wm_2 (i := 25) (by decide +kernel) rfl
theorem mi_yX4_init : Cond.instanceMethod yX4_init ∈ wsL_law := wm_2 (i := 27) (by decide +kernel) rfl
theorem mc_yX4_init : Cond.code yX4_init cX4_init 1 none ∈ wsL_law := wm_2 (i := 28) (by decide +kernel) rfl
theorem m_X4_3 : Cond.methodLink RX4 3 objectInit ∈ wsL_law := wm_2 (i := 29) (by decide +kernel) rfl
theorem m_X4_9 : Cond.fieldLink RX4 9 "BladeRing$Sheet" "cells" "[I" ∈ wsL_law := wm_2 (i := 30) (by decide +kernel) rfl
theorem m_X4_15 : Cond.fieldLink RX4 15 "BladeRing$Sheet" "lane" "I" ∈ wsL_law := wm_2 (i := 31) (by decide +kernel) rfl
theorem ml_X4_cells : Cond.laysFinal RX4 "BladeRing$Sheet" "cells" "[I" ∈ wsL_law := wm_2 (i := 32) (by decide +kernel) rfl
theorem ml_X4_lane : Cond.lays RX4 "BladeRing$Sheet" "lane" "I" ∈ wsL_law := wm_2 (i := 34) (by decide +kernel) rfl
theorem ml_X4_size : Cond.lays RX4 "BladeRing$Sheet" "size" "I" ∈ wsL_law := wm_2 (i := 36) (by decide +kernel) rfl
theorem m_X9_10 : Cond.fieldLink RX9 10 "BladeRing" "floor" "LBladeRing$Floor;" ∈ wsL_law := wm_2 (i := 39) (by decide +kernel) rfl
theorem m_X9_16 : Cond.fieldLink RX9 16 "BladeRing" "trial" "LBladeRing$Floor;" ∈ wsL_law := wm_2 (i := 40) (by decide +kernel) rfl
theorem m_X9_22 : Cond.fieldLink RX9 22 "BladeRing" "probe" "LBladeRing$Weave;" ∈ wsL_law := wm_2 (i := 41) (by decide +kernel) rfl
theorem m_X9_26 : Cond.fieldLink RX9 26 "BladeRing" "poses" "[LBladeRing$Weave;" ∈ wsL_law := wm_2 (i := 42) (by decide +kernel) rfl
theorem m_X9_89 : Cond.fieldLink RX9 89 "BladeRing" "poseCount" "I" ∈ wsL_law := wm_2 (i := 43) (by decide +kernel) rfl
theorem m_X9_33 : Cond.fieldLink RX9 33 "BladeRing" "search" "LBladeRing$Search;" ∈ wsL_law := wm_2 (i := 44) (by decide +kernel) rfl
theorem m_X9_40 : Cond.fieldLink RX9 40 "BladeRing" "tape" "LBladeRing$Tape;" ∈ wsL_law := wm_2 (i := 45) (by decide +kernel) rfl
theorem m_X9_47 : Cond.fieldLink RX9 47 "BladeRing" "teller" "LBladeRing$Teller;" ∈ wsL_law := wm_2 (i := 46) (by decide +kernel) rfl
theorem m_X9_53 : Cond.fieldLink RX9 53 "BladeRing" "figures" "[LBladeRing$Figure;" ∈ wsL_law := wm_2 (i := 47) (by decide +kernel) rfl
theorem m_X9_174 : Cond.fieldLink RX9 174 "BladeRing" "figureCount" "I" ∈ wsL_law := wm_2 (i := 48) (by decide +kernel) rfl
theorem m_X9_184 : Cond.fieldLink RX9 184 "BladeRing" "latestFault" "I" ∈ wsL_law := wm_2 (i := 49) (by decide +kernel) rfl
theorem m_X9_218 : Cond.fieldLink RX9 218 "BladeRing" "latestStop" "I" ∈ wsL_law := wm_2 (i := 50) (by decide +kernel) rfl
theorem m_X9_59 : Cond.fieldLink RX9 59 "BladeRing" "villages" "[LBladeRing$Village;" ∈ wsL_law := wm_2 (i := 51) (by decide +kernel) rfl
theorem m_X9_250 : Cond.fieldLink RX9 250 "BladeRing" "villageCount" "I" ∈ wsL_law := wm_2 (i := 52) (by decide +kernel) rfl
theorem m_X9_66 : Cond.fieldLink RX9 66 "BladeRing" "sharing" "LBladeRing$Sharing;" ∈ wsL_law := wm_2 (i := 53) (by decide +kernel) rfl
theorem m_X9_72 : Cond.fieldLink RX9 72 "BladeRing" "sheets" "[LBladeRing$Sheet;" ∈ wsL_law := wm_2 (i := 54) (by decide +kernel) rfl
theorem ml_X9_floor : Cond.laysFinal RX9 "BladeRing" "floor" "LBladeRing$Floor;" ∈ wsL_law := wm_2 (i := 55) (by decide +kernel) rfl
theorem ml_X9_trial : Cond.laysFinal RX9 "BladeRing" "trial" "LBladeRing$Floor;" ∈ wsL_law := wm_2 (i := 57) (by decide +kernel) rfl
theorem ml_X9_probe : Cond.laysFinal RX9 "BladeRing" "probe" "LBladeRing$Weave;" ∈ wsL_law := wm_2 (i := 59) (by decide +kernel) rfl
theorem ml_X9_poses : Cond.laysFinal RX9 "BladeRing" "poses" "[LBladeRing$Weave;" ∈ wsL_law := wm_2 (i := 61) (by decide +kernel) rfl
theorem ml_X9_poseCount : Cond.lays RX9 "BladeRing" "poseCount" "I" ∈ wsL_law := wm_2 (i := 63) (by decide +kernel) rfl
theorem ml_X9_search : Cond.laysFinal RX9 "BladeRing" "search" "LBladeRing$Search;" ∈ wsL_law := wm_2 (i := 65) (by decide +kernel) rfl
theorem ml_X9_tape : Cond.laysFinal RX9 "BladeRing" "tape" "LBladeRing$Tape;" ∈ wsL_law := wm_2 (i := 67) (by decide +kernel) rfl
theorem ml_X9_teller : Cond.laysFinal RX9 "BladeRing" "teller" "LBladeRing$Teller;" ∈ wsL_law := wm_2 (i := 69) (by decide +kernel) rfl
theorem ml_X9_figures : Cond.laysFinal RX9 "BladeRing" "figures" "[LBladeRing$Figure;" ∈ wsL_law := wm_2 (i := 71) (by decide +kernel) rfl
theorem ml_X9_figureCount : Cond.lays RX9 "BladeRing" "figureCount" "I" ∈ wsL_law := wm_2 (i := 73) (by decide +kernel) rfl
theorem ml_X9_latestFault : Cond.lays RX9 "BladeRing" "latestFault" "I" ∈ wsL_law := wm_2 (i := 75) (by decide +kernel) rfl
theorem ml_X9_latestStop : Cond.lays RX9 "BladeRing" "latestStop" "I" ∈ wsL_law := wm_2 (i := 77) (by decide +kernel) rfl
theorem ml_X9_villages : Cond.laysFinal RX9 "BladeRing" "villages" "[LBladeRing$Village;" ∈ wsL_law := wm_2 (i := 79) (by decide +kernel) rfl
theorem ml_X9_villageCount : Cond.lays RX9 "BladeRing" "villageCount" "I" ∈ wsL_law := wm_2 (i := 81) (by decide +kernel) rfl
theorem ml_X9_sharing : Cond.laysFinal RX9 "BladeRing" "sharing" "LBladeRing$Sharing;" ∈ wsL_law := wm_2 (i := 83) (by decide +kernel) rfl
theorem ml_X9_sheets : Cond.laysFinal RX9 "BladeRing" "sheets" "[LBladeRing$Sheet;" ∈ wsL_law := wm_2 (i := 85) (by decide +kernel) rfl
theorem m_L_37 : Cond.methodLink RL 37 yX9_ring ∈ wsL_law := wm_2 (i := 88) (by decide +kernel) rfl
theorem mi_yX9_ring : Cond.instanceMethod yX9_ring ∈ wsL_law := wm_2 (i := 89) (by decide +kernel) rfl
theorem ms_RX9_yX9_ring : Cond.selects RX9 yX9_ring yX9_ring ∈ wsL_law := wm_2 (i := 90) (by decide +kernel) rfl
theorem mc_yX9_ring : Cond.code yX9_ring cX9_ring 2 (some .int) ∈ wsL_law := wm_2 (i := 91) (by decide +kernel) rfl
theorem m_X9_82 : Cond.methodLink RX9 82 yX8_begin ∈ wsL_law := wm_2 (i := 92) (by decide +kernel) rfl
theorem m_X9_86 : Cond.methodLink RX9 86 yX1_forget ∈ wsL_law := wm_2 (i := 93) (by decide +kernel) rfl
theorem mi_yX1_forget : Cond.instanceMethod yX1_forget ∈ wsL_law := wm_2 (i := 94) (by decide +kernel) rfl
theorem ms_RX1_yX1_forget : Cond.selects RX1 yX1_forget yX1_forget ∈ wsL_law := wm_2 (i := 95) (by decide +kernel) rfl
theorem mc_yX1_forget : Cond.code yX1_forget cX1_forget 1 none ∈ wsL_law := wm_2 (i := 96) (by decide +kernel) rfl
theorem m_L_71 : Cond.methodLink RL 71 yX9_place ∈ wsL_law := wm_2 (i := 97) (by decide +kernel) rfl
theorem mi_yX9_place : Cond.instanceMethod yX9_place ∈ wsL_law := wm_2 (i := 98) (by decide +kernel) rfl
theorem ms_RX9_yX9_place : Cond.selects RX9 yX9_place yX9_place ∈ wsL_law := wm_2 (i := 99) (by decide +kernel) rfl
theorem mc_yX9_place : Cond.code yX9_place cX9_place 4 (some .int) ∈ wsL_law := wm_2 (i := 100) (by decide +kernel) rfl
theorem m_X9_104 : Cond.methodLink RX9 104 yX8_dancerAt ∈ wsL_law := wm_2 (i := 101) (by decide +kernel) rfl
theorem mi_yX8_dancerAt : Cond.instanceMethod yX8_dancerAt ∈ wsL_law := wm_2 (i := 102) (by decide +kernel) rfl
theorem ms_RX8_yX8_dancerAt : Cond.selects RX8 yX8_dancerAt yX8_dancerAt ∈ wsL_law := wm_2 (i := 103) (by decide +kernel) rfl
theorem mc_yX8_dancerAt : Cond.code yX8_dancerAt cX8_dancerAt 2 (some .int) ∈ wsL_law := wm_2 (i := 104) (by decide +kernel) rfl
theorem m_L_74 : Cond.methodLink RL 74 yX9_blade ∈ wsL_law := wm_2 (i := 105) (by decide +kernel) rfl
theorem mi_yX9_blade : Cond.instanceMethod yX9_blade ∈ wsL_law := wm_2 (i := 106) (by decide +kernel) rfl
theorem ms_RX9_yX9_blade : Cond.selects RX9 yX9_blade yX9_blade ∈ wsL_law := wm_2 (i := 107) (by decide +kernel) rfl
theorem mc_yX9_blade : Cond.code yX9_blade cX9_blade 4 (some .int) ∈ wsL_law := wm_2 (i := 108) (by decide +kernel) rfl
theorem m_X9_114 : Cond.methodLink RX9 114 yX8_thoseBelow ∈ wsL_law := wm_2 (i := 109) (by decide +kernel) rfl
theorem mi_yX8_thoseBelow : Cond.instanceMethod yX8_thoseBelow ∈ wsL_law := wm_2 (i := 110) (by decide +kernel) rfl
theorem ms_RX8_yX8_thoseBelow : Cond.selects RX8 yX8_thoseBelow yX8_thoseBelow ∈ wsL_law := wm_2 (i := 111) (by decide +kernel) rfl
theorem mc_yX8_thoseBelow : Cond.code yX8_thoseBelow cX8_thoseBelow 2 (some .int) ∈ wsL_law := wm_2 (i := 112) (by decide +kernel) rfl
theorem m_X9_117 : Cond.methodLink RX9 117 yJ6_bitCount_0f7a4 ∈ wsL_law := wm_2 (i := 113) (by decide +kernel) rfl
theorem mt_yJ6_bitCount_0f7a4 : Cond.static yJ6_bitCount_0f7a4 ∈ wsL_law := wm_2 (i := 114) (by decide +kernel) rfl
theorem mc_yJ6_bitCount_0f7a4 : Cond.code yJ6_bitCount_0f7a4 cJ6_bitCount_0f7a4 1 (some .int) ∈ wsL_law := wm_2 (i := 115) (by decide +kernel) rfl
theorem m_J6_265 : Cond.constant RJ6 265 (1431655765) ∈ wsL_law := wm_2 (i := 116) (by decide +kernel) rfl
theorem m_J6_266 : Cond.constant RJ6 266 (858993459) ∈ wsL_law := wm_2 (i := 117) (by decide +kernel) rfl
theorem m_J6_267 : Cond.constant RJ6 267 (252645135) ∈ wsL_law := wm_2 (i := 118) (by decide +kernel) rfl
theorem m_X9_122 : Cond.methodLink RX9 122 yX8_thoseAbove ∈ wsL_law := wm_2 (i := 119) (by decide +kernel) rfl
theorem mi_yX8_thoseAbove : Cond.instanceMethod yX8_thoseAbove ∈ wsL_law := wm_2 (i := 120) (by decide +kernel) rfl
theorem ms_RX8_yX8_thoseAbove : Cond.selects RX8 yX8_thoseAbove yX8_thoseAbove ∈ wsL_law := wm_2 (i := 121) (by decide +kernel) rfl
theorem mc_yX8_thoseAbove : Cond.code yX8_thoseAbove cX8_thoseAbove 4 (some .int) ∈ wsL_law := wm_2 (i := 122) (by decide +kernel) rfl
theorem m_X8_55 : Cond.methodLink RX8 55 yX8_lies ∈ wsL_law := wm_2 (i := 123) (by decide +kernel) rfl
theorem mi_yX8_lies : Cond.instanceMethod yX8_lies ∈ wsL_law := wm_2 (i := 124) (by decide +kernel) rfl
theorem ms_RX8_yX8_lies : Cond.selects RX8 yX8_lies yX8_lies ∈ wsL_law := wm_2 (i := 125) (by decide +kernel) rfl
theorem mc_yX8_lies : Cond.code yX8_lies cX8_lies 3 (some .boolean) ∈ wsL_law := wm_2 (i := 126) (by decide +kernel) rfl
theorem m_X8_51 : Cond.methodLink RX8 51 yX8_overBit ∈ wsL_law := wm_2 (i := 127) (by decide +kernel) rfl
theorem mi_yX8_overBit : Cond.instanceMethod yX8_overBit ∈ wsL_law := wm_2 (i := 128) (by decide +kernel) rfl
theorem ms_RX8_yX8_overBit : Cond.selects RX8 yX8_overBit yX8_overBit ∈ wsL_law := wm_2 (i := 129) (by decide +kernel) rfl
theorem mc_yX8_overBit : Cond.code yX8_overBit cX8_overBit 3 (some .long) ∈ wsL_law := wm_2 (i := 130) (by decide +kernel) rfl
theorem m_X9_125 : Cond.methodLink RX9 125 yX8_layerOf ∈ wsL_law := wm_2 (i := 131) (by decide +kernel) rfl
theorem mi_yX8_layerOf : Cond.instanceMethod yX8_layerOf ∈ wsL_law := wm_2 (i := 132) (by decide +kernel) rfl
theorem ms_RX8_yX8_layerOf : Cond.selects RX8 yX8_layerOf yX8_layerOf ∈ wsL_law := wm_2 (i := 133) (by decide +kernel) rfl
theorem mc_yX8_layerOf : Cond.code yX8_layerOf cX8_layerOf 5 (some .int) ∈ wsL_law := wm_2 (i := 134) (by decide +kernel) rfl
theorem m_X8_105 : Cond.methodLink RX8 105 yX8_freeOf ∈ wsL_law := wm_2 (i := 135) (by decide +kernel) rfl
theorem mi_yX8_freeOf : Cond.instanceMethod yX8_freeOf ∈ wsL_law := wm_2 (i := 136) (by decide +kernel) rfl
theorem ms_RX8_yX8_freeOf : Cond.selects RX8 yX8_freeOf yX8_freeOf ∈ wsL_law := wm_2 (i := 137) (by decide +kernel) rfl
theorem mc_yX8_freeOf : Cond.code yX8_freeOf cX8_freeOf 4 (some .int) ∈ wsL_law := wm_2 (i := 138) (by decide +kernel) rfl
theorem m_X8_102 : Cond.methodLink RX8 102 yX8_thoseAbove ∈ wsL_law := wm_2 (i := 139) (by decide +kernel) rfl
theorem m_L_77 : Cond.methodLink RL 77 yX9_over ∈ wsL_law := wm_2 (i := 140) (by decide +kernel) rfl
theorem mi_yX9_over : Cond.instanceMethod yX9_over ∈ wsL_law := wm_2 (i := 141) (by decide +kernel) rfl
theorem ms_RX9_yX9_over : Cond.selects RX9 yX9_over yX9_over ∈ wsL_law := wm_2 (i := 142) (by decide +kernel) rfl
theorem mc_yX9_over : Cond.code yX9_over cX9_over 4 (some .int) ∈ wsL_law := wm_2 (i := 143) (by decide +kernel) rfl
theorem m_X9_128 : Cond.methodLink RX9 128 yX8_lies ∈ wsL_law := wm_2 (i := 144) (by decide +kernel) rfl
theorem m_L_62 : Cond.methodLink RL 62 yX9_dance ∈ wsL_law := wm_2 (i := 145) (by decide +kernel) rfl
theorem mi_yX9_dance : Cond.instanceMethod yX9_dance ∈ wsL_law := wm_2 (i := 146) (by decide +kernel) rfl
theorem ms_RX9_yX9_dance : Cond.selects RX9 yX9_dance yX9_dance ∈ wsL_law := wm_2 (i := 147) (by decide +kernel) rfl
theorem mc_yX9_dance : Cond.code yX9_dance cX9_dance 2 (some .int) ∈ wsL_law := wm_2 (i := 148) (by decide +kernel) rfl
theorem m_X9_197 : Cond.methodLink RX9 197 yX9_isFigure ∈ wsL_law := wm_2 (i := 149) (by decide +kernel) rfl
theorem mi_yX9_isFigure : Cond.instanceMethod yX9_isFigure ∈ wsL_law := wm_2 (i := 151) (by decide +kernel) rfl
theorem mc_yX9_isFigure : Cond.code yX9_isFigure cX9_isFigure 2 (some .boolean) ∈ wsL_law := wm_2 (i := 152) (by decide +kernel) rfl
theorem m_X9_214 : Cond.methodLink RX9 214 yX9_doneOnFloor ∈ wsL_law := wm_2 (i := 153) (by decide +kernel) rfl
theorem mi_yX9_doneOnFloor : Cond.instanceMethod yX9_doneOnFloor ∈ wsL_law := wm_2 (i := 155) (by decide +kernel) rfl
theorem mc_yX9_doneOnFloor : Cond.code yX9_doneOnFloor cX9_doneOnFloor 4 (some .int) ∈ wsL_law := wm_2 (i := 156) (by decide +kernel) rfl
theorem m_X9_221 : Cond.methodLink RX9 221 yX1_run ∈ wsL_law := wm_2 (i := 157) (by decide +kernel) rfl
theorem mi_yX1_run : Cond.instanceMethod yX1_run ∈ wsL_law := wm_2 (i := 158) (by decide +kernel) rfl
theorem ms_RX1_yX1_run : Cond.selects RX1 yX1_run yX1_run ∈ wsL_law := wm_2 (i := 159) (by decide +kernel) rfl
theorem mc_yX1_run : Cond.code yX1_run cX1_run 8 (some .int) ∈ wsL_law := wm_2 (i := 160) (by decide +kernel) rfl
theorem m_X1_54 : Cond.methodLink RX1 54 yX0_sortOf ∈ wsL_law := wm_2 (i := 161) (by decide +kernel) rfl
theorem mi_yX0_sortOf : Cond.instanceMethod yX0_sortOf ∈ wsL_law := wm_2 (i := 162) (by decide +kernel) rfl
theorem ms_RX0_yX0_sortOf : Cond.selects RX0 yX0_sortOf yX0_sortOf ∈ wsL_law := wm_2 (i := 163) (by decide +kernel) rfl
theorem mc_yX0_sortOf : Cond.code yX0_sortOf cX0_sortOf 2 (some .int) ∈ wsL_law := wm_2 (i := 164) (by decide +kernel) rfl
theorem m_X0_25 : Cond.methodLink RX0 25 yX0_beatAt ∈ wsL_law := wm_2 (i := 165) (by decide +kernel) rfl
theorem mi_yX0_beatAt : Cond.instanceMethod yX0_beatAt ∈ wsL_law := wm_2 (i := 166) (by decide +kernel) rfl
theorem ms_RX0_yX0_beatAt : Cond.selects RX0 yX0_beatAt yX0_beatAt ∈ wsL_law := wm_2 (i := 167) (by decide +kernel) rfl
theorem mc_yX0_beatAt : Cond.code yX0_beatAt cX0_beatAt 2 (some .int) ∈ wsL_law := wm_2 (i := 168) (by decide +kernel) rfl
theorem m_X1_58 : Cond.methodLink RX1 58 yX0_numberOf ∈ wsL_law := wm_2 (i := 169) (by decide +kernel) rfl
theorem mi_yX0_numberOf : Cond.instanceMethod yX0_numberOf ∈ wsL_law := wm_2 (i := 170) (by decide +kernel) rfl
theorem ms_RX0_yX0_numberOf : Cond.selects RX0 yX0_numberOf yX0_numberOf ∈ wsL_law := wm_2 (i := 171) (by decide +kernel) rfl
theorem mc_yX0_numberOf : Cond.code yX0_numberOf cX0_numberOf 2 (some .int) ∈ wsL_law := wm_2 (i := 172) (by decide +kernel) rfl
theorem m_X1_61 : Cond.methodLink RX1 61 yX1_sortBack ∈ wsL_law := wm_2 (i := 173) (by decide +kernel) rfl
theorem mi_yX1_sortBack : Cond.instanceMethod yX1_sortBack ∈ wsL_law := wm_2 (i := 174) (by decide +kernel) rfl
theorem ms_RX1_yX1_sortBack : Cond.selects RX1 yX1_sortBack yX1_sortBack ∈ wsL_law := wm_2 (i := 175) (by decide +kernel) rfl
theorem mc_yX1_sortBack : Cond.code yX1_sortBack cX1_sortBack 2 (some .int) ∈ wsL_law := wm_2 (i := 176) (by decide +kernel) rfl
theorem m_X1_64 : Cond.methodLink RX1 64 yX1_numberBack ∈ wsL_law := wm_2 (i := 177) (by decide +kernel) rfl
theorem mi_yX1_numberBack : Cond.instanceMethod yX1_numberBack ∈ wsL_law := wm_2 (i := 178) (by decide +kernel) rfl
theorem ms_RX1_yX1_numberBack : Cond.selects RX1 yX1_numberBack yX1_numberBack ∈ wsL_law := wm_2 (i := 179) (by decide +kernel) rfl
theorem mc_yX1_numberBack : Cond.code yX1_numberBack cX1_numberBack 3 (some .int) ∈ wsL_law := wm_2 (i := 180) (by decide +kernel) rfl
theorem m_X1_73 : Cond.methodLink RX1 73 yX8_withinRing ∈ wsL_law := wm_2 (i := 181) (by decide +kernel) rfl
theorem mi_yX8_withinRing : Cond.instanceMethod yX8_withinRing ∈ wsL_law := wm_2 (i := 182) (by decide +kernel) rfl
theorem ms_RX8_yX8_withinRing : Cond.selects RX8 yX8_withinRing yX8_withinRing ∈ wsL_law := wm_2 (i := 183) (by decide +kernel) rfl
theorem mc_yX8_withinRing : Cond.code yX8_withinRing cX8_withinRing 2 (some .int) ∈ wsL_law := wm_2 (i := 184) (by decide +kernel) rfl
theorem m_X1_67 : Cond.methodLink RX1 67 yX1_attempt ∈ wsL_law := wm_2 (i := 185) (by decide +kernel) rfl
theorem mi_yX1_attempt : Cond.instanceMethod yX1_attempt ∈ wsL_law := wm_2 (i := 186) (by decide +kernel) rfl
theorem ms_RX1_yX1_attempt : Cond.selects RX1 yX1_attempt yX1_attempt ∈ wsL_law := wm_2 (i := 187) (by decide +kernel) rfl
theorem mc_yX1_attempt : Cond.code yX1_attempt cX1_attempt 4 (some .int) ∈ wsL_law := wm_2 (i := 188) (by decide +kernel) rfl
theorem m_X1_29 : Cond.methodLink RX1 29 yX1_rowAt ∈ wsL_law := wm_2 (i := 189) (by decide +kernel) rfl
theorem mi_yX1_rowAt : Cond.instanceMethod yX1_rowAt ∈ wsL_law := wm_2 (i := 190) (by decide +kernel) rfl
theorem ms_RX1_yX1_rowAt : Cond.selects RX1 yX1_rowAt yX1_rowAt ∈ wsL_law := wm_2 (i := 191) (by decide +kernel) rfl
theorem mc_yX1_rowAt : Cond.code yX1_rowAt cX1_rowAt 2 (some (.object "BladeRing$Weave") ) ∈ wsL_law := wm_2 (i := 192) (by decide +kernel) rfl
theorem m_X1_33 : Cond.methodLink RX1 33 yX8_become ∈ wsL_law := wm_2 (i := 193) (by decide +kernel) rfl
theorem mi_yX8_become : Cond.instanceMethod yX8_become ∈ wsL_law := wm_2 (i := 194) (by decide +kernel) rfl
theorem ms_RX8_yX8_become : Cond.selects RX8 yX8_become yX8_become ∈ wsL_law := wm_2 (i := 195) (by decide +kernel) rfl
theorem mc_yX8_become : Cond.code yX8_become cX8_become 2 none ∈ wsL_law := wm_2 (i := 196) (by decide +kernel) rfl
theorem m_X1_37 : Cond.methodLink RX1 37 yX8_change ∈ wsL_law := wm_2 (i := 197) (by decide +kernel) rfl
theorem mi_yX8_change : Cond.instanceMethod yX8_change ∈ wsL_law := wm_2 (i := 198) (by decide +kernel) rfl
theorem ms_RX8_yX8_change : Cond.selects RX8 yX8_change yX8_change ∈ wsL_law := wm_2 (i := 199) (by decide +kernel) rfl
theorem mc_yX8_change : Cond.code yX8_change cX8_change 3 (some .int) ∈ wsL_law := wm_2 (i := 200) (by decide +kernel) rfl
theorem m_X8_59 : Cond.methodLink RX8 59 yX8_pass ∈ wsL_law := wm_2 (i := 201) (by decide +kernel) rfl
theorem mi_yX8_pass : Cond.instanceMethod yX8_pass ∈ wsL_law := wm_2 (i := 202) (by decide +kernel) rfl
theorem ms_RX8_yX8_pass : Cond.selects RX8 yX8_pass yX8_pass ∈ wsL_law := wm_2 (i := 203) (by decide +kernel) rfl
theorem mc_yX8_pass : Cond.code yX8_pass cX8_pass 13 (some .int) ∈ wsL_law := wm_2 (i := 204) (by decide +kernel) rfl
theorem m_X8_75 : Cond.methodLink RX8 75 yX8_next ∈ wsL_law := wm_2 (i := 205) (by decide +kernel) rfl
theorem mi_yX8_next : Cond.instanceMethod yX8_next ∈ wsL_law := wm_2 (i := 206) (by decide +kernel) rfl
theorem ms_RX8_yX8_next : Cond.selects RX8 yX8_next yX8_next ∈ wsL_law := wm_2 (i := 207) (by decide +kernel) rfl
theorem mc_yX8_next : Cond.code yX8_next cX8_next 2 (some .int) ∈ wsL_law := wm_2 (i := 208) (by decide +kernel) rfl
theorem m_X8_63 : Cond.methodLink RX8 63 yX8_dancerAt ∈ wsL_law := wm_2 (i := 209) (by decide +kernel) rfl
theorem m_X8_78 : Cond.methodLink RX8 78 yX8_previous ∈ wsL_law := wm_2 (i := 210) (by decide +kernel) rfl
theorem mi_yX8_previous : Cond.instanceMethod yX8_previous ∈ wsL_law := wm_2 (i := 211) (by decide +kernel) rfl
theorem ms_RX8_yX8_previous : Cond.selects RX8 yX8_previous yX8_previous ∈ wsL_law := wm_2 (i := 212) (by decide +kernel) rfl
theorem mc_yX8_previous : Cond.code yX8_previous cX8_previous 2 (some .int) ∈ wsL_law := wm_2 (i := 213) (by decide +kernel) rfl
theorem m_X8_81 : Cond.methodLink RX8 81 yX8_canCross ∈ wsL_law := wm_2 (i := 214) (by decide +kernel) rfl
theorem mi_yX8_canCross : Cond.instanceMethod yX8_canCross ∈ wsL_law := wm_2 (i := 215) (by decide +kernel) rfl
theorem ms_RX8_yX8_canCross : Cond.selects RX8 yX8_canCross yX8_canCross ∈ wsL_law := wm_2 (i := 216) (by decide +kernel) rfl
theorem mc_yX8_canCross : Cond.code yX8_canCross cX8_canCross 4 (some .boolean) ∈ wsL_law := wm_2 (i := 217) (by decide +kernel) rfl
theorem m_X8_84 : Cond.methodLink RX8 84 Lib.Math.abs.name ∈ wsL_law := wm_2 (i := 218) (by decide +kernel) rfl
theorem mt_Lib_Math_abs_name : Cond.static Lib.Math.abs.name ∈ wsL_law := wm_2 (i := 219) (by decide +kernel) rfl
theorem mc_Lib_Math_abs_name : Cond.code Lib.Math.abs.name Lib.Math.abs.code 1 (some .int) ∈ wsL_law := wm_2 (i := 220) (by decide +kernel) rfl
theorem m_X8_66 : Cond.methodLink RX8 66 yX8_withinRing ∈ wsL_law := wm_2 (i := 221) (by decide +kernel) rfl
theorem m_X8_47 : Cond.methodLink RX8 47 yX8_seatsAfter ∈ wsL_law := wm_2 (i := 222) (by decide +kernel) rfl
theorem mi_yX8_seatsAfter : Cond.instanceMethod yX8_seatsAfter ∈ wsL_law := wm_2 (i := 223) (by decide +kernel) rfl
theorem ms_RX8_yX8_seatsAfter : Cond.selects RX8 yX8_seatsAfter yX8_seatsAfter ∈ wsL_law := wm_2 (i := 224) (by decide +kernel) rfl
theorem mc_yX8_seatsAfter : Cond.code yX8_seatsAfter cX8_seatsAfter 2 (some .long) ∈ wsL_law := wm_2 (i := 225) (by decide +kernel) rfl
theorem m_X8_69 : Cond.methodLink RX8 69 yX8_letGo ∈ wsL_law := wm_2 (i := 226) (by decide +kernel) rfl
theorem mi_yX8_letGo : Cond.instanceMethod yX8_letGo ∈ wsL_law := wm_2 (i := 227) (by decide +kernel) rfl
theorem ms_RX8_yX8_letGo : Cond.selects RX8 yX8_letGo yX8_letGo ∈ wsL_law := wm_2 (i := 228) (by decide +kernel) rfl
theorem mc_yX8_letGo : Cond.code yX8_letGo cX8_letGo 2 (some .int) ∈ wsL_law := wm_2 (i := 229) (by decide +kernel) rfl
theorem m_X8_89 : Cond.constantLong RX8 89 (255) ∈ wsL_law := wm_2 (i := 230) (by decide +kernel) rfl
theorem m_X8_91 : Cond.constantLong RX8 91 (72340172838076673) ∈ wsL_law := wm_2 (i := 231) (by decide +kernel) rfl
theorem m_X8_93 : Cond.constantLong RX8 93 (-1) ∈ wsL_law := wm_2 (i := 232) (by decide +kernel) rfl
theorem m_X8_72 : Cond.methodLink RX8 72 yX8_takeUp ∈ wsL_law := wm_2 (i := 233) (by decide +kernel) rfl
theorem mi_yX8_takeUp : Cond.instanceMethod yX8_takeUp ∈ wsL_law := wm_2 (i := 234) (by decide +kernel) rfl
theorem ms_RX8_yX8_takeUp : Cond.selects RX8 yX8_takeUp yX8_takeUp ∈ wsL_law := wm_2 (i := 235) (by decide +kernel) rfl
theorem mc_yX8_takeUp : Cond.code yX8_takeUp cX8_takeUp 3 (some .int) ∈ wsL_law := wm_2 (i := 236) (by decide +kernel) rfl
theorem m_X8_43 : Cond.methodLink RX8 43 yX8_placeOf ∈ wsL_law := wm_2 (i := 237) (by decide +kernel) rfl
theorem mi_yX8_placeOf : Cond.instanceMethod yX8_placeOf ∈ wsL_law := wm_2 (i := 238) (by decide +kernel) rfl
theorem ms_RX8_yX8_placeOf : Cond.selects RX8 yX8_placeOf yX8_placeOf ∈ wsL_law := wm_2 (i := 239) (by decide +kernel) rfl
theorem mc_yX8_placeOf : Cond.code yX8_placeOf cX8_placeOf 3 (some .int) ∈ wsL_law := wm_3 (i := 0) (by decide +kernel) rfl
theorem m_X8_41 : Cond.constantLong RX8 41 (15) ∈ wsL_law := wm_3 (i := 1) (by decide +kernel) rfl
theorem m_X8_95 : Cond.methodLink RX8 95 yX8_stepsUp ∈ wsL_law := wm_3 (i := 2) (by decide +kernel) rfl
theorem mi_yX8_stepsUp : Cond.instanceMethod yX8_stepsUp ∈ wsL_law := wm_3 (i := 3) (by decide +kernel) rfl
theorem ms_RX8_yX8_stepsUp : Cond.selects RX8 yX8_stepsUp yX8_stepsUp ∈ wsL_law := wm_3 (i := 4) (by decide +kernel) rfl
theorem mc_yX8_stepsUp : Cond.code yX8_stepsUp cX8_stepsUp 3 (some .int) ∈ wsL_law := wm_3 (i := 5) (by decide +kernel) rfl
theorem m_X1_41 : Cond.methodLink RX1 41 Lib.Math.min.name ∈ wsL_law := wm_3 (i := 6) (by decide +kernel) rfl
theorem mt_Lib_Math_min_name : Cond.static Lib.Math.min.name ∈ wsL_law := wm_3 (i := 7) (by decide +kernel) rfl
theorem mc_Lib_Math_min_name : Cond.code Lib.Math.min.name Lib.Math.min.code 2 (some .int) ∈ wsL_law := wm_3 (i := 8) (by decide +kernel) rfl
theorem m_L_68 : Cond.methodLink RL 68 yX9_why ∈ wsL_law := wm_3 (i := 9) (by decide +kernel) rfl
theorem mi_yX9_why : Cond.instanceMethod yX9_why ∈ wsL_law := wm_3 (i := 10) (by decide +kernel) rfl
theorem ms_RX9_yX9_why : Cond.selects RX9 yX9_why yX9_why ∈ wsL_law := wm_3 (i := 11) (by decide +kernel) rfl
theorem mc_yX9_why : Cond.code yX9_why cX9_why 1 (some .int) ∈ wsL_law := wm_3 (i := 12) (by decide +kernel) rfl
theorem m_L_80 : Cond.methodLink RL 80 yX9_back ∈ wsL_law := wm_3 (i := 13) (by decide +kernel) rfl
theorem mi_yX9_back : Cond.instanceMethod yX9_back ∈ wsL_law := wm_3 (i := 14) (by decide +kernel) rfl
theorem ms_RX9_yX9_back : Cond.selects RX9 yX9_back yX9_back ∈ wsL_law := wm_3 (i := 15) (by decide +kernel) rfl
theorem mc_yX9_back : Cond.code yX9_back cX9_back 2 (some .int) ∈ wsL_law := wm_3 (i := 16) (by decide +kernel) rfl
theorem m_L_40 : Cond.methodLink RL 40 yX9_village ∈ wsL_law := wm_3 (i := 17) (by decide +kernel) rfl
theorem mi_yX9_village : Cond.instanceMethod yX9_village ∈ wsL_law := wm_3 (i := 18) (by decide +kernel) rfl
theorem ms_RX9_yX9_village : Cond.selects RX9 yX9_village yX9_village ∈ wsL_law := wm_3 (i := 19) (by decide +kernel) rfl
theorem mc_yX9_village : Cond.code yX9_village cX9_village 1 (some .int) ∈ wsL_law := wm_3 (i := 20) (by decide +kernel) rfl
theorem m_L_50 : Cond.methodLink RL 50 yX9_add ∈ wsL_law := wm_3 (i := 21) (by decide +kernel) rfl
theorem mi_yX9_add : Cond.instanceMethod yX9_add ∈ wsL_law := wm_3 (i := 22) (by decide +kernel) rfl
theorem ms_RX9_yX9_add : Cond.selects RX9 yX9_add yX9_add ∈ wsL_law := wm_3 (i := 23) (by decide +kernel) rfl
theorem mc_yX9_add : Cond.code yX9_add cX9_add 3 (some .int) ∈ wsL_law := wm_3 (i := 24) (by decide +kernel) rfl
theorem m_X9_253 : Cond.methodLink RX9 253 yX9_isVillage ∈ wsL_law := wm_3 (i := 25) (by decide +kernel) rfl
theorem mi_yX9_isVillage : Cond.instanceMethod yX9_isVillage ∈ wsL_law := wm_3 (i := 27) (by decide +kernel) rfl
theorem mc_yX9_isVillage : Cond.code yX9_isVillage cX9_isVillage 2 (some .boolean) ∈ wsL_law := wm_3 (i := 28) (by decide +kernel) rfl
theorem m_X9_256 : Cond.methodLink RX9 256 yX7_append ∈ wsL_law := wm_3 (i := 29) (by decide +kernel) rfl
theorem mi_yX7_append : Cond.instanceMethod yX7_append ∈ wsL_law := wm_3 (i := 30) (by decide +kernel) rfl
theorem ms_RX7_yX7_append : Cond.selects RX7 yX7_append yX7_append ∈ wsL_law := wm_3 (i := 31) (by decide +kernel) rfl
theorem mc_yX7_append : Cond.code yX7_append cX7_append 2 (some .boolean) ∈ wsL_law := wm_3 (i := 32) (by decide +kernel) rfl
theorem m_L_53 : Cond.methodLink RL 53 yX9_danceOf ∈ wsL_law := wm_3 (i := 33) (by decide +kernel) rfl
theorem mi_yX9_danceOf : Cond.instanceMethod yX9_danceOf ∈ wsL_law := wm_3 (i := 34) (by decide +kernel) rfl
theorem ms_RX9_yX9_danceOf : Cond.selects RX9 yX9_danceOf yX9_danceOf ∈ wsL_law := wm_3 (i := 35) (by decide +kernel) rfl
theorem mc_yX9_danceOf : Cond.code yX9_danceOf cX9_danceOf 4 (some .int) ∈ wsL_law := wm_3 (i := 36) (by decide +kernel) rfl
theorem m_X9_259 : Cond.methodLink RX9 259 yX9_beatsOf ∈ wsL_law := wm_3 (i := 37) (by decide +kernel) rfl
theorem mi_yX9_beatsOf : Cond.instanceMethod yX9_beatsOf ∈ wsL_law := wm_3 (i := 39) (by decide +kernel) rfl
theorem mc_yX9_beatsOf : Cond.code yX9_beatsOf cX9_beatsOf 5 (some .int) ∈ wsL_law := wm_3 (i := 40) (by decide +kernel) rfl
theorem m_X9_263 : Cond.methodLink RX9 263 yX7_figureAt ∈ wsL_law := wm_3 (i := 41) (by decide +kernel) rfl
theorem mi_yX7_figureAt : Cond.instanceMethod yX7_figureAt ∈ wsL_law := wm_3 (i := 42) (by decide +kernel) rfl
theorem ms_RX7_yX7_figureAt : Cond.selects RX7 yX7_figureAt yX7_figureAt ∈ wsL_law := wm_3 (i := 43) (by decide +kernel) rfl
theorem mc_yX7_figureAt : Cond.code yX7_figureAt cX7_figureAt 2 (some .int) ∈ wsL_law := wm_3 (i := 44) (by decide +kernel) rfl
theorem m_L_58 : Cond.methodLink RL 58 yX9_shared ∈ wsL_law := wm_3 (i := 45) (by decide +kernel) rfl
theorem mi_yX9_shared : Cond.instanceMethod yX9_shared ∈ wsL_law := wm_3 (i := 46) (by decide +kernel) rfl
theorem ms_RX9_yX9_shared : Cond.selects RX9 yX9_shared yX9_shared ∈ wsL_law := wm_3 (i := 47) (by decide +kernel) rfl
theorem mc_yX9_shared : Cond.code yX9_shared cX9_shared 4 (some .int) ∈ wsL_law := wm_3 (i := 48) (by decide +kernel) rfl
theorem m_X9_266 : Cond.methodLink RX9 266 yX3_find ∈ wsL_law := wm_3 (i := 49) (by decide +kernel) rfl
theorem mi_yX3_find : Cond.instanceMethod yX3_find ∈ wsL_law := wm_3 (i := 50) (by decide +kernel) rfl
theorem ms_RX3_yX3_find : Cond.selects RX3 yX3_find yX3_find ∈ wsL_law := wm_3 (i := 51) (by decide +kernel) rfl
theorem mc_yX3_find : Cond.code yX3_find cX3_find 7 none ∈ wsL_law := wm_3 (i := 52) (by decide +kernel) rfl
theorem m_X3_23 : Cond.methodLink RX3 23 yX3_measure ∈ wsL_law := wm_3 (i := 53) (by decide +kernel) rfl
theorem mi_yX3_measure : Cond.instanceMethod yX3_measure ∈ wsL_law := wm_3 (i := 54) (by decide +kernel) rfl
theorem ms_RX3_yX3_measure : Cond.selects RX3 yX3_measure yX3_measure ∈ wsL_law := wm_3 (i := 55) (by decide +kernel) rfl
theorem mc_yX3_measure : Cond.code yX3_measure cX3_measure 5 none ∈ wsL_law := wm_3 (i := 56) (by decide +kernel) rfl
theorem m_X3_43 : Cond.methodLink RX3 43 yX3_lengthAt ∈ wsL_law := wm_3 (i := 57) (by decide +kernel) rfl
theorem mi_yX3_lengthAt : Cond.instanceMethod yX3_lengthAt ∈ wsL_law := wm_3 (i := 58) (by decide +kernel) rfl
theorem ms_RX3_yX3_lengthAt : Cond.selects RX3 yX3_lengthAt yX3_lengthAt ∈ wsL_law := wm_3 (i := 59) (by decide +kernel) rfl
theorem mc_yX3_lengthAt : Cond.code yX3_lengthAt cX3_lengthAt 5 (some .int) ∈ wsL_law := wm_3 (i := 60) (by decide +kernel) rfl
theorem m_X3_47 : Cond.methodLink RX3 47 yX7_figureAt ∈ wsL_law := wm_3 (i := 61) (by decide +kernel) rfl
theorem m_X3_51 : Cond.methodLink RX3 51 Lib.Math.max.name ∈ wsL_law := wm_3 (i := 62) (by decide +kernel) rfl
theorem mt_Lib_Math_max_name : Cond.static Lib.Math.max.name ∈ wsL_law := wm_3 (i := 63) (by decide +kernel) rfl
theorem mc_Lib_Math_max_name : Cond.code Lib.Math.max.name Lib.Math.max.code 2 (some .int) ∈ wsL_law := wm_3 (i := 64) (by decide +kernel) rfl
theorem m_X3_31 : Cond.methodLink RX3 31 yX3_leastNext ∈ wsL_law := wm_3 (i := 65) (by decide +kernel) rfl
theorem mi_yX3_leastNext : Cond.instanceMethod yX3_leastNext ∈ wsL_law := wm_3 (i := 66) (by decide +kernel) rfl
theorem ms_RX3_yX3_leastNext : Cond.selects RX3 yX3_leastNext yX3_leastNext ∈ wsL_law := wm_3 (i := 67) (by decide +kernel) rfl
theorem mc_yX3_leastNext : Cond.code yX3_leastNext cX3_leastNext 9 (some .int) ∈ wsL_law := wm_3 (i := 68) (by decide +kernel) rfl
theorem m_X3_35 : Cond.methodLink RX3 35 yX7_placeFrom ∈ wsL_law := wm_3 (i := 69) (by decide +kernel) rfl
theorem mi_yX7_placeFrom : Cond.instanceMethod yX7_placeFrom ∈ wsL_law := wm_3 (i := 70) (by decide +kernel) rfl
theorem ms_RX7_yX7_placeFrom : Cond.selects RX7 yX7_placeFrom yX7_placeFrom ∈ wsL_law := wm_3 (i := 71) (by decide +kernel) rfl
theorem mc_yX7_placeFrom : Cond.code yX7_placeFrom cX7_placeFrom 4 (some .int) ∈ wsL_law := wm_3 (i := 72) (by decide +kernel) rfl
theorem m_X7_19 : Cond.methodLink RX7 19 yX7_figureAt ∈ wsL_law := wm_3 (i := 73) (by decide +kernel) rfl
theorem m_X3_39 : Cond.methodLink RX3 39 yX7_append ∈ wsL_law := wm_3 (i := 74) (by decide +kernel) rfl
theorem m_L_65 : Cond.methodLink RL 65 yX9_perform ∈ wsL_law := wm_3 (i := 75) (by decide +kernel) rfl
theorem mi_yX9_perform : Cond.instanceMethod yX9_perform ∈ wsL_law := wm_3 (i := 76) (by decide +kernel) rfl
theorem ms_RX9_yX9_perform : Cond.selects RX9 yX9_perform yX9_perform ∈ wsL_law := wm_3 (i := 77) (by decide +kernel) rfl
theorem mc_yX9_perform : Cond.code yX9_perform cX9_perform 5 (some .int) ∈ wsL_law := wm_3 (i := 78) (by decide +kernel) rfl
theorem m_L_29 : Cond.methodLink RL 29 yL_part ∈ wsL_law := wm_3 (i := 79) (by decide +kernel) rfl
theorem mt_yL_part : Cond.static yL_part ∈ wsL_law := wm_3 (i := 80) (by decide +kernel) rfl
theorem mc_yL_part : Cond.code yL_part cL_part 2 (some .int) ∈ wsL_law := wm_3 (i := 81) (by decide +kernel) rfl
theorem m_L_7 : Cond.constant RL 7 (2147483647) ∈ wsL_law := wm_3 (i := 82) (by decide +kernel) rfl
theorem m_L_23 : Cond.methodLink RL 23 yL_cell ∈ wsL_law := wm_3 (i := 83) (by decide +kernel) rfl
theorem mt_yL_cell : Cond.static yL_cell ∈ wsL_law := wm_3 (i := 84) (by decide +kernel) rfl
theorem mc_yL_cell : Cond.code yL_cell cL_cell 2 (some .int) ∈ wsL_law := wm_3 (i := 85) (by decide +kernel) rfl
theorem m_L_8 : Cond.constant RL 8 (2654435) ∈ wsL_law := wm_3 (i := 86) (by decide +kernel) rfl
theorem m_L_46 : Cond.methodLink RL 46 yL_says ∈ wsL_law := wm_3 (i := 87) (by decide +kernel) rfl
theorem mt_yL_says : Cond.static yL_says ∈ wsL_law := wm_3 (i := 88) (by decide +kernel) rfl
theorem mc_yL_says : Cond.code yL_says cL_says 7 (some .int) ∈ wsL_law := wm_3 (i := 89) (by decide +kernel) rfl
theorem m_L_9 : Cond.methodLink RL 9 yX9_feed ∈ wsL_law := wm_3 (i := 90) (by decide +kernel) rfl
theorem mi_yX9_feed : Cond.instanceMethod yX9_feed ∈ wsL_law := wm_3 (i := 91) (by decide +kernel) rfl
theorem ms_RX9_yX9_feed : Cond.selects RX9 yX9_feed yX9_feed ∈ wsL_law := wm_3 (i := 92) (by decide +kernel) rfl
theorem mc_yX9_feed : Cond.code yX9_feed cX9_feed 3 (some .int) ∈ wsL_law := wm_3 (i := 93) (by decide +kernel) rfl
theorem m_X9_167 : Cond.methodLink RX9 167 yX5_append ∈ wsL_law := wm_3 (i := 94) (by decide +kernel) rfl
theorem mi_yX5_append : Cond.instanceMethod yX5_append ∈ wsL_law := wm_3 (i := 95) (by decide +kernel) rfl
theorem ms_RX5_yX5_append : Cond.selects RX5 yX5_append yX5_append ∈ wsL_law := wm_3 (i := 96) (by decide +kernel) rfl
theorem mc_yX5_append : Cond.code yX5_append cX5_append 4 (some .boolean) ∈ wsL_law := wm_3 (i := 97) (by decide +kernel) rfl
theorem m_L_15 : Cond.methodLink RL 15 yX9_end ∈ wsL_law := wm_3 (i := 98) (by decide +kernel) rfl
theorem mi_yX9_end : Cond.instanceMethod yX9_end ∈ wsL_law := wm_3 (i := 99) (by decide +kernel) rfl
theorem ms_RX9_yX9_end : Cond.selects RX9 yX9_end yX9_end ∈ wsL_law := wm_3 (i := 100) (by decide +kernel) rfl
theorem mc_yX9_end : Cond.code yX9_end cX9_end 3 (some .int) ∈ wsL_law := wm_3 (i := 101) (by decide +kernel) rfl
theorem m_L_19 : Cond.methodLink RL 19 yX9_figure ∈ wsL_law := wm_3 (i := 102) (by decide +kernel) rfl
theorem mi_yX9_figure : Cond.instanceMethod yX9_figure ∈ wsL_law := wm_3 (i := 103) (by decide +kernel) rfl
theorem ms_RX9_yX9_figure : Cond.selects RX9 yX9_figure yX9_figure ∈ wsL_law := wm_3 (i := 104) (by decide +kernel) rfl
theorem mc_yX9_figure : Cond.code yX9_figure cX9_figure 1 (some .int) ∈ wsL_law := wm_3 (i := 105) (by decide +kernel) rfl
theorem m_X9_177 : Cond.methodLink RX9 177 yX6_tell ∈ wsL_law := wm_3 (i := 106) (by decide +kernel) rfl
theorem mi_yX6_tell : Cond.instanceMethod yX6_tell ∈ wsL_law := wm_3 (i := 107) (by decide +kernel) rfl
theorem ms_RX6_yX6_tell : Cond.selects RX6 yX6_tell yX6_tell ∈ wsL_law := wm_3 (i := 108) (by decide +kernel) rfl
theorem mc_yX6_tell : Cond.code yX6_tell cX6_tell 5 none ∈ wsL_law := wm_3 (i := 109) (by decide +kernel) rfl
theorem m_X6_25 : Cond.methodLink RX6 25 yX6_begin ∈ wsL_law := wm_3 (i := 110) (by decide +kernel) rfl
theorem mi_yX6_begin : Cond.instanceMethod yX6_begin ∈ wsL_law := wm_3 (i := 111) (by decide +kernel) rfl
theorem ms_RX6_yX6_begin : Cond.selects RX6 yX6_begin yX6_begin ∈ wsL_law := wm_3 (i := 112) (by decide +kernel) rfl
theorem mc_yX6_begin : Cond.code yX6_begin cX6_begin 1 none ∈ wsL_law := wm_3 (i := 113) (by decide +kernel) rfl
theorem m_X6_28 : Cond.methodLink RX6 28 yX5_rewind ∈ wsL_law := wm_3 (i := 114) (by decide +kernel) rfl
theorem mi_yX5_rewind : Cond.instanceMethod yX5_rewind ∈ wsL_law := wm_3 (i := 115) (by decide +kernel) rfl
theorem ms_RX5_yX5_rewind : Cond.selects RX5 yX5_rewind yX5_rewind ∈ wsL_law := wm_3 (i := 116) (by decide +kernel) rfl
theorem mc_yX5_rewind : Cond.code yX5_rewind cX5_rewind 1 none ∈ wsL_law := wm_3 (i := 117) (by decide +kernel) rfl
theorem m_X6_33 : Cond.methodLink RX6 33 yX5_readToken ∈ wsL_law := wm_3 (i := 118) (by decide +kernel) rfl
theorem mi_yX5_readToken : Cond.instanceMethod yX5_readToken ∈ wsL_law := wm_3 (i := 119) (by decide +kernel) rfl
theorem ms_RX5_yX5_readToken : Cond.selects RX5 yX5_readToken yX5_readToken ∈ wsL_law := wm_3 (i := 120) (by decide +kernel) rfl
theorem mc_yX5_readToken : Cond.code yX5_readToken cX5_readToken 2 none ∈ wsL_law := wm_3 (i := 121) (by decide +kernel) rfl
theorem m_X5_22 : Cond.methodLink RX5 22 yX5_byteAt ∈ wsL_law := wm_3 (i := 122) (by decide +kernel) rfl
theorem mi_yX5_byteAt : Cond.instanceMethod yX5_byteAt ∈ wsL_law := wm_3 (i := 123) (by decide +kernel) rfl
theorem ms_RX5_yX5_byteAt : Cond.selects RX5 yX5_byteAt yX5_byteAt ∈ wsL_law := wm_3 (i := 124) (by decide +kernel) rfl
theorem mc_yX5_byteAt : Cond.code yX5_byteAt cX5_byteAt 2 (some .int) ∈ wsL_law := wm_3 (i := 125) (by decide +kernel) rfl
theorem m_X5_29 : Cond.methodLink RX5 29 yX5_isDigit ∈ wsL_law := wm_3 (i := 126) (by decide +kernel) rfl
theorem mi_yX5_isDigit : Cond.instanceMethod yX5_isDigit ∈ wsL_law := wm_3 (i := 127) (by decide +kernel) rfl
theorem ms_RX5_yX5_isDigit : Cond.selects RX5 yX5_isDigit yX5_isDigit ∈ wsL_law := wm_3 (i := 128) (by decide +kernel) rfl
theorem mc_yX5_isDigit : Cond.code yX5_isDigit cX5_isDigit 2 (some .boolean) ∈ wsL_law := wm_3 (i := 129) (by decide +kernel) rfl
theorem m_X5_33 : Cond.methodLink RX5 33 yX5_readNumber ∈ wsL_law := wm_3 (i := 130) (by decide +kernel) rfl
theorem mi_yX5_readNumber : Cond.instanceMethod yX5_readNumber ∈ wsL_law := wm_3 (i := 131) (by decide +kernel) rfl
theorem ms_RX5_yX5_readNumber : Cond.selects RX5 yX5_readNumber yX5_readNumber ∈ wsL_law := wm_3 (i := 132) (by decide +kernel) rfl
theorem mc_yX5_readNumber : Cond.code yX5_readNumber cX5_readNumber 3 none ∈ wsL_law := wm_3 (i := 133) (by decide +kernel) rfl
theorem m_X5_41 : Cond.methodLink RX5 41 yJ0_indexOf_0f7a4 ∈ wsL_law := wm_3 (i := 135) (by decide +kernel) rfl
theorem mi_yJ0_indexOf_0f7a4 : Cond.instanceMethod yJ0_indexOf_0f7a4 ∈ wsL_law := wm_3 (i := 136) (by decide +kernel) rfl
theorem ms_RJ0_yJ0_indexOf_0f7a4 : Cond.selects RJ0 yJ0_indexOf_0f7a4 yJ0_indexOf_0f7a4 ∈ wsL_law := wm_3 (i := 137) (by decide +kernel) rfl
theorem mc_yJ0_indexOf_0f7a4 : Cond.code yJ0_indexOf_0f7a4 cJ0_indexOf_0f7a4 2 (some .int) ∈ wsL_law := wm_3 (i := 138) (by decide +kernel) rfl
theorem m_J0_633 : Cond.methodLink RJ0 633 yJ0_indexOf_7cf53 ∈ wsL_law := wm_3 (i := 139) (by decide +kernel) rfl
theorem mi_yJ0_indexOf_7cf53 : Cond.instanceMethod yJ0_indexOf_7cf53 ∈ wsL_law := wm_3 (i := 140) (by decide +kernel) rfl
theorem ms_RJ0_yJ0_indexOf_7cf53 : Cond.selects RJ0 yJ0_indexOf_7cf53 yJ0_indexOf_7cf53 ∈ wsL_law := wm_3 (i := 141) (by decide +kernel) rfl
theorem mc_yJ0_indexOf_7cf53 : Cond.code yJ0_indexOf_7cf53 cJ0_indexOf_7cf53 3 (some .int) ∈ wsL_law := wm_3 (i := 142) (by decide +kernel) rfl
theorem m_J0_492 : Cond.methodLink RJ0 492 yJ0_isLatin1_aae02 ∈ wsL_law := wm_3 (i := 143) (by decide +kernel) rfl
theorem mi_yJ0_isLatin1_aae02 : Cond.instanceMethod yJ0_isLatin1_aae02 ∈ wsL_law := wm_3 (i := 144) (by decide +kernel) rfl
theorem ms_RJ0_yJ0_isLatin1_aae02 : Cond.selects RJ0 yJ0_isLatin1_aae02 yJ0_isLatin1_aae02 ∈ wsL_law := wm_3 (i := 145) (by decide +kernel) rfl
theorem mc_yJ0_isLatin1_aae02 : Cond.code yJ0_isLatin1_aae02 cJ0_isLatin1_aae02 1 (some .boolean) ∈ wsL_law := wm_3 (i := 146) (by decide +kernel) rfl
theorem m_J0_38 : Cond.fieldLink RJ0 38 "java/lang/String" "COMPACT_STRINGS" "Z" ∈ wsL_law := wm_3 (i := 147) (by decide +kernel) rfl
theorem m_J0_505 : Cond.methodLink RJ0 505 yJ0_length_8abf5 ∈ wsL_law := wm_3 (i := 149) (by decide +kernel) rfl
theorem mi_yJ0_length_8abf5 : Cond.instanceMethod yJ0_length_8abf5 ∈ wsL_law := wm_3 (i := 150) (by decide +kernel) rfl
theorem ms_RJ0_yJ0_length_8abf5 : Cond.selects RJ0 yJ0_length_8abf5 yJ0_length_8abf5 ∈ wsL_law := wm_3 (i := 151) (by decide +kernel) rfl
theorem mc_yJ0_length_8abf5 : Cond.code yJ0_length_8abf5 cJ0_length_8abf5 1 (some .int) ∈ wsL_law := wm_3 (i := 152) (by decide +kernel) rfl
theorem m_J0_335 : Cond.methodLink RJ0 335 yJ0_coder_7d493 ∈ wsL_law := wm_3 (i := 153) (by decide +kernel) rfl
theorem mi_yJ0_coder_7d493 : Cond.instanceMethod yJ0_coder_7d493 ∈ wsL_law := wm_3 (i := 154) (by decide +kernel) rfl
theorem ms_RJ0_yJ0_coder_7d493 : Cond.selects RJ0 yJ0_coder_7d493 yJ0_coder_7d493 ∈ wsL_law := wm_3 (i := 155) (by decide +kernel) rfl
theorem mc_yJ0_coder_7d493 : Cond.code yJ0_coder_7d493 cJ0_coder_7d493 1 (some .byte) ∈ wsL_law := wm_3 (i := 156) (by decide +kernel) rfl
theorem m_J0_637 : Cond.methodLink RJ0 637 yJ1_indexOf_4cfef ∈ wsL_law := wm_3 (i := 157) (by decide +kernel) rfl
theorem mt_yJ1_indexOf_4cfef : Cond.static yJ1_indexOf_4cfef ∈ wsL_law := wm_3 (i := 158) (by decide +kernel) rfl
theorem mc_yJ1_indexOf_4cfef : Cond.code yJ1_indexOf_4cfef cJ1_indexOf_4cfef 4 (some .int) ∈ wsL_law := wm_3 (i := 159) (by decide +kernel) rfl
theorem m_J1_88 : Cond.methodLink RJ1 88 yJ1_canEncode_9a6ad ∈ wsL_law := wm_3 (i := 160) (by decide +kernel) rfl
theorem mt_yJ1_canEncode_9a6ad : Cond.static yJ1_canEncode_9a6ad ∈ wsL_law := wm_3 (i := 161) (by decide +kernel) rfl
theorem mc_yJ1_canEncode_9a6ad : Cond.code yJ1_canEncode_9a6ad cJ1_canEncode_9a6ad 1 (some .boolean) ∈ wsL_law := wm_3 (i := 162) (by decide +kernel) rfl
theorem m_J1_92 : Cond.methodLink RJ1 92 Lib.Math.max.name ∈ wsL_law := wm_3 (i := 163) (by decide +kernel) rfl
theorem m_J1_38 : Cond.methodLink RJ1 38 Lib.Math.min.name ∈ wsL_law := wm_3 (i := 164) (by decide +kernel) rfl
theorem m_J1_95 : Cond.methodLink RJ1 95 yJ1_indexOfChar_4cfef ∈ wsL_law := wm_3 (i := 165) (by decide +kernel) rfl
theorem mt_yJ1_indexOfChar_4cfef : Cond.static yJ1_indexOfChar_4cfef ∈ wsL_law := wm_3 (i := 166) (by decide +kernel) rfl
theorem mc_yJ1_indexOfChar_4cfef : Cond.code yJ1_indexOfChar_4cfef cJ1_indexOfChar_4cfef 6 (some .int) ∈ wsL_law := wm_3 (i := 167) (by decide +kernel) rfl
theorem m_J0_640 : Cond.methodLink RJ0 640 yJ2_indexOf_4cfef ∈ wsL_law := wm_3 (i := 168) (by decide +kernel) rfl
theorem mt_yJ2_indexOf_4cfef : Cond.static yJ2_indexOf_4cfef ∈ wsL_law := wm_3 (i := 169) (by decide +kernel) rfl
theorem mc_yJ2_indexOf_4cfef : Cond.code yJ2_indexOf_4cfef cJ2_indexOf_4cfef 4 (some .int) ∈ wsL_law := wm_3 (i := 170) (by decide +kernel) rfl
theorem m_J2_224 : Cond.methodLink RJ2 224 Lib.Math.max.name ∈ wsL_law := wm_3 (i := 171) (by decide +kernel) rfl
theorem m_J2_183 : Cond.methodLink RJ2 183 Lib.Math.min.name ∈ wsL_law := wm_3 (i := 172) (by decide +kernel) rfl
theorem m_J2_227 : Cond.constant RJ2 227 (65536) ∈ wsL_law := wm_3 (i := 173) (by decide +kernel) rfl
theorem m_J2_228 : Cond.methodLink RJ2 228 yJ2_indexOfChar_4cfef ∈ wsL_law := wm_3 (i := 174) (by decide +kernel) rfl
theorem mt_yJ2_indexOfChar_4cfef : Cond.static yJ2_indexOfChar_4cfef ∈ wsL_law := wm_3 (i := 175) (by decide +kernel) rfl
theorem mc_yJ2_indexOfChar_4cfef : Cond.code yJ2_indexOfChar_4cfef cJ2_indexOfChar_4cfef 4 (some .int) ∈ wsL_law := wm_3 (i := 176) (by decide +kernel) rfl
theorem m_J2_96 : Cond.methodLink RJ2 96 yJ2_checkBoundsBeginEnd_d044e ∈ wsL_law := wm_3 (i := 177) (by decide +kernel) rfl
theorem mt_yJ2_checkBoundsBeginEnd_d044e : Cond.static yJ2_checkBoundsBeginEnd_d044e ∈ wsL_law := wm_3 (i := 178) (by decide +kernel) rfl
theorem mc_yJ2_checkBoundsBeginEnd_d044e : Cond.code yJ2_checkBoundsBeginEnd_d044e cJ2_checkBoundsBeginEnd_d044e 3 none ∈ wsL_law := wm_3 (i := 179) (by decide +kernel) rfl
theorem m_J2_48 : Cond.methodLink RJ2 48 yJ2_length_9d52b ∈ wsL_law := wm_3 (i := 180) (by decide +kernel) rfl
theorem mt_yJ2_length_9d52b : Cond.static yJ2_length_9d52b ∈ wsL_law := wm_3 (i := 181) (by decide +kernel) rfl
theorem mc_yJ2_length_9d52b : Cond.code yJ2_length_9d52b cJ2_length_9d52b 1 (some .int) ∈ wsL_law := wm_3 (i := 182) (by decide +kernel) rfl
theorem m_J2_241 : Cond.methodLink RJ2 241 yJ0_checkBoundsBeginEnd_23922 ∈ wsL_law := wm_3 (i := 183) (by decide +kernel) rfl
theorem mt_yJ0_checkBoundsBeginEnd_23922 : Cond.static yJ0_checkBoundsBeginEnd_23922 ∈ wsL_law := wm_3 (i := 184) (by decide +kernel) rfl
theorem mc_yJ0_checkBoundsBeginEnd_23922 : Cond.code yJ0_checkBoundsBeginEnd_23922 cJ0_checkBoundsBeginEnd_23922 3 none ∈ wsL_law := wm_3 (i := 185) (by decide +kernel) rfl
theorem m_J0_1053 : Cond.fieldLink RJ0 1053 "jdk/internal/util/Preconditions" "SIOOBE_FORMATTER" "Ljava/util/function/BiFunction;" ∈ wsL_law := wm_3 (i := 186) (by decide +kernel) rfl
theorem m_J0_1062 : Cond.methodLink RJ0 1062 yJ3_checkFromToIndex_8c36e ∈ wsL_law := wm_3 (i := 188) (by decide +kernel) rfl
theorem mt_yJ3_checkFromToIndex_8c36e : Cond.static yJ3_checkFromToIndex_8c36e ∈ wsL_law := wm_3 (i := 189) (by decide +kernel) rfl
theorem mc_yJ3_checkFromToIndex_8c36e : Cond.code yJ3_checkFromToIndex_8c36e cJ3_checkFromToIndex_8c36e 4 (some .int) ∈ wsL_law := wm_3 (i := 190) (by decide +kernel) rfl
theorem m_J2_244 : Cond.methodLink RJ2 244 yJ2_indexOfCharUnsafe_4cfef ∈ wsL_law := wm_3 (i := 191) (by decide +kernel) rfl
theorem mt_yJ2_indexOfCharUnsafe_4cfef : Cond.static yJ2_indexOfCharUnsafe_4cfef ∈ wsL_law := wm_3 (i := 192) (by decide +kernel) rfl
theorem mc_yJ2_indexOfCharUnsafe_4cfef : Cond.code yJ2_indexOfCharUnsafe_4cfef cJ2_indexOfCharUnsafe_4cfef 5 (some .int) ∈ wsL_law := wm_3 (i := 193) (by decide +kernel) rfl
theorem m_J2_71 : Cond.methodLink RJ2 71 yJ2_getChar_3b067 ∈ wsL_law := wm_3 (i := 194) (by decide +kernel) rfl
theorem mt_yJ2_getChar_3b067 : Cond.static yJ2_getChar_3b067 ∈ wsL_law := wm_3 (i := 195) (by decide +kernel) rfl
theorem mc_yJ2_getChar_3b067 : Cond.code yJ2_getChar_3b067 cJ2_getChar_3b067 2 (some .char) ∈ wsL_law := wm_3 (i := 196) (by decide +kernel) rfl
theorem m_J2_44 : Cond.fieldLink RJ2 44 "java/lang/StringUTF16" "$assertionsDisabled" "Z" ∈ wsL_law := wm_3 (i := 197) (by decide +kernel) rfl
theorem m_J2_59 : Cond.fieldLink RJ2 59 "java/lang/StringUTF16" "HI_BYTE_SHIFT" "I" ∈ wsL_law := wm_3 (i := 199) (by decide +kernel) rfl
theorem m_J2_63 : Cond.fieldLink RJ2 63 "java/lang/StringUTF16" "LO_BYTE_SHIFT" "I" ∈ wsL_law := wm_3 (i := 201) (by decide +kernel) rfl
theorem m_J2_232 : Cond.methodLink RJ2 232 yJ2_indexOfSupplementary_4cfef ∈ wsL_law := wm_3 (i := 203) (by decide +kernel) rfl
theorem mt_yJ2_indexOfSupplementary_4cfef : Cond.static yJ2_indexOfSupplementary_4cfef ∈ wsL_law := wm_3 (i := 204) (by decide +kernel) rfl
theorem mc_yJ2_indexOfSupplementary_4cfef : Cond.code yJ2_indexOfSupplementary_4cfef cJ2_indexOfSupplementary_4cfef 7 (some .int) ∈ wsL_law := wm_3 (i := 205) (by decide +kernel) rfl
theorem m_J2_164 : Cond.methodLink RJ2 164 yJ11_isValidCodePoint_9a6ad ∈ wsL_law := wm_3 (i := 206) (by decide +kernel) rfl
theorem mt_yJ11_isValidCodePoint_9a6ad : Cond.static yJ11_isValidCodePoint_9a6ad ∈ wsL_law := wm_3 (i := 207) (by decide +kernel) rfl
theorem mc_yJ11_isValidCodePoint_9a6ad : Cond.code yJ11_isValidCodePoint_9a6ad cJ11_isValidCodePoint_9a6ad 2 (some .boolean) ∈ wsL_law := wm_3 (i := 208) (by decide +kernel) rfl
theorem m_J2_157 : Cond.methodLink RJ2 157 yJ11_highSurrogate_5068e ∈ wsL_law := wm_3 (i := 209) (by decide +kernel) rfl
theorem mt_yJ11_highSurrogate_5068e : Cond.static yJ11_highSurrogate_5068e ∈ wsL_law := wm_3 (i := 210) (by decide +kernel) rfl
theorem mc_yJ11_highSurrogate_5068e : Cond.code yJ11_highSurrogate_5068e cJ11_highSurrogate_5068e 1 (some .char) ∈ wsL_law := wm_3 (i := 211) (by decide +kernel) rfl
theorem m_J11_110 : Cond.constant RJ11 110 (55232) ∈ wsL_law := wm_3 (i := 212) (by decide +kernel) rfl
theorem m_J2_161 : Cond.methodLink RJ2 161 yJ11_lowSurrogate_5068e ∈ wsL_law := wm_3 (i := 213) (by decide +kernel) rfl
theorem mt_yJ11_lowSurrogate_5068e : Cond.static yJ11_lowSurrogate_5068e ∈ wsL_law := wm_3 (i := 214) (by decide +kernel) rfl
theorem mc_yJ11_lowSurrogate_5068e : Cond.code yJ11_lowSurrogate_5068e cJ11_lowSurrogate_5068e 1 (some .char) ∈ wsL_law := wm_3 (i := 215) (by decide +kernel) rfl
theorem m_J11_76 : Cond.constant RJ11 76 (56320) ∈ wsL_law := wm_3 (i := 216) (by decide +kernel) rfl
theorem m_X5_49 : Cond.methodLink RX5 49 yX5_kindOf ∈ wsL_law := wm_3 (i := 217) (by decide +kernel) rfl
theorem mi_yX5_kindOf : Cond.instanceMethod yX5_kindOf ∈ wsL_law := wm_3 (i := 218) (by decide +kernel) rfl
theorem ms_RX5_yX5_kindOf : Cond.selects RX5 yX5_kindOf yX5_kindOf ∈ wsL_law := wm_3 (i := 219) (by decide +kernel) rfl
theorem mc_yX5_kindOf : Cond.code yX5_kindOf cX5_kindOf 2 (some .int) ∈ wsL_law := wm_3 (i := 220) (by decide +kernel) rfl
theorem m_X6_36 : Cond.methodLink RX6 36 yX6_taken ∈ wsL_law := wm_3 (i := 221) (by decide +kernel) rfl
theorem mi_yX6_taken : Cond.instanceMethod yX6_taken ∈ wsL_law := wm_3 (i := 222) (by decide +kernel) rfl
theorem ms_RX6_yX6_taken : Cond.selects RX6 yX6_taken yX6_taken ∈ wsL_law := wm_3 (i := 223) (by decide +kernel) rfl
theorem mc_yX6_taken : Cond.code yX6_taken cX6_taken 4 (some .int) ∈ wsL_law := wm_3 (i := 224) (by decide +kernel) rfl
theorem m_X6_69 : Cond.methodLink RX6 69 yX6_takenNumber ∈ wsL_law := wm_3 (i := 225) (by decide +kernel) rfl
theorem mi_yX6_takenNumber : Cond.instanceMethod yX6_takenNumber ∈ wsL_law := wm_3 (i := 226) (by decide +kernel) rfl
theorem ms_RX6_yX6_takenNumber : Cond.selects RX6 yX6_takenNumber yX6_takenNumber ∈ wsL_law := wm_3 (i := 227) (by decide +kernel) rfl
theorem mc_yX6_takenNumber : Cond.code yX6_takenNumber cX6_takenNumber 5 (some .int) ∈ wsL_law := wm_3 (i := 228) (by decide +kernel) rfl
theorem m_X6_96 : Cond.methodLink RX6 96 Lib.Math.min.name ∈ wsL_law := wm_3 (i := 229) (by decide +kernel) rfl
theorem m_X6_102 : Cond.methodLink RX6 102 yX6_writeOut ∈ wsL_law := wm_3 (i := 230) (by decide +kernel) rfl
theorem mi_yX6_writeOut : Cond.instanceMethod yX6_writeOut ∈ wsL_law := wm_3 (i := 231) (by decide +kernel) rfl
theorem ms_RX6_yX6_writeOut : Cond.selects RX6 yX6_writeOut yX6_writeOut ∈ wsL_law := wm_3 (i := 232) (by decide +kernel) rfl
theorem mc_yX6_writeOut : Cond.code yX6_writeOut cX6_writeOut 5 none ∈ wsL_law := wm_3 (i := 233) (by decide +kernel) rfl
theorem m_X6_106 : Cond.methodLink RX6 106 yX0_beatAt ∈ wsL_law := wm_3 (i := 234) (by decide +kernel) rfl
theorem m_X6_110 : Cond.methodLink RX6 110 yX0_append ∈ wsL_law := wm_3 (i := 235) (by decide +kernel) rfl
theorem mi_yX0_append : Cond.instanceMethod yX0_append ∈ wsL_law := wm_3 (i := 236) (by decide +kernel) rfl
theorem ms_RX0_yX0_append : Cond.selects RX0 yX0_append yX0_append ∈ wsL_law := wm_3 (i := 237) (by decide +kernel) rfl
theorem mc_yX0_append : Cond.code yX0_append cX0_append 2 (some .boolean) ∈ wsL_law := wm_3 (i := 238) (by decide +kernel) rfl
theorem m_X6_88 : Cond.methodLink RX6 88 yX6_write ∈ wsL_law := wm_3 (i := 239) (by decide +kernel) rfl
theorem mi_yX6_write : Cond.instanceMethod yX6_write ∈ wsL_law := wm_4 (i := 0) (by decide +kernel) rfl
theorem ms_RX6_yX6_write : Cond.selects RX6 yX6_write yX6_write ∈ wsL_law := wm_4 (i := 1) (by decide +kernel) rfl
theorem mc_yX6_write : Cond.code yX6_write cX6_write 3 none ∈ wsL_law := wm_4 (i := 2) (by decide +kernel) rfl
theorem m_X6_72 : Cond.methodLink RX6 72 yX6_takenOpen ∈ wsL_law := wm_4 (i := 3) (by decide +kernel) rfl
theorem mi_yX6_takenOpen : Cond.instanceMethod yX6_takenOpen ∈ wsL_law := wm_4 (i := 4) (by decide +kernel) rfl
theorem ms_RX6_yX6_takenOpen : Cond.selects RX6 yX6_takenOpen yX6_takenOpen ∈ wsL_law := wm_4 (i := 5) (by decide +kernel) rfl
theorem mc_yX6_takenOpen : Cond.code yX6_takenOpen cX6_takenOpen 2 (some .int) ∈ wsL_law := wm_4 (i := 6) (by decide +kernel) rfl
theorem m_X6_76 : Cond.methodLink RX6 76 yX6_takenItem ∈ wsL_law := wm_4 (i := 7) (by decide +kernel) rfl
theorem mi_yX6_takenItem : Cond.instanceMethod yX6_takenItem ∈ wsL_law := wm_4 (i := 8) (by decide +kernel) rfl
theorem ms_RX6_yX6_takenItem : Cond.selects RX6 yX6_takenItem yX6_takenItem ∈ wsL_law := wm_4 (i := 9) (by decide +kernel) rfl
theorem mc_yX6_takenItem : Cond.code yX6_takenItem cX6_takenItem 2 (some .int) ∈ wsL_law := wm_4 (i := 10) (by decide +kernel) rfl
theorem m_X6_92 : Cond.methodLink RX6 92 yX6_closed ∈ wsL_law := wm_4 (i := 11) (by decide +kernel) rfl
theorem mi_yX6_closed : Cond.instanceMethod yX6_closed ∈ wsL_law := wm_4 (i := 12) (by decide +kernel) rfl
theorem ms_RX6_yX6_closed : Cond.selects RX6 yX6_closed yX6_closed ∈ wsL_law := wm_4 (i := 13) (by decide +kernel) rfl
theorem mc_yX6_closed : Cond.code yX6_closed cX6_closed 4 (some .int) ∈ wsL_law := wm_4 (i := 14) (by decide +kernel) rfl
theorem m_X9_194 : Cond.methodLink RX9 194 yX0_become ∈ wsL_law := wm_4 (i := 15) (by decide +kernel) rfl
theorem mi_yX0_become : Cond.instanceMethod yX0_become ∈ wsL_law := wm_4 (i := 16) (by decide +kernel) rfl
theorem ms_RX0_yX0_become : Cond.selects RX0 yX0_become yX0_become ∈ wsL_law := wm_4 (i := 17) (by decide +kernel) rfl
theorem mc_yX0_become : Cond.code yX0_become cX0_become 2 none ∈ wsL_law := wm_4 (i := 18) (by decide +kernel) rfl
theorem m_X0_19 : Cond.methodLink RX0 19 arraycopyName ∈ wsL_law := wm_4 (i := 19) (by decide +kernel) rfl
theorem mt_arraycopyName : Cond.static arraycopyName ∈ wsL_law := wm_4 (i := 20) (by decide +kernel) rfl
theorem mv_arraycopyName : Cond.native arraycopyName ∈ wsL_law := wm_4 (i := 21) (by decide +kernel) rfl
theorem m_L_43 : Cond.methodLink RL 43 yL_figure ∈ wsL_law := wm_4 (i := 22) (by decide +kernel) rfl
theorem mt_yL_figure : Cond.static yL_figure ∈ wsL_law := wm_4 (i := 23) (by decide +kernel) rfl
theorem mc_yL_figure : Cond.code yL_figure cL_figure 20 (some .int) ∈ wsL_law := wm_4 (i := 24) (by decide +kernel) rfl
theorem m_L_33 : Cond.methodLink RL 33 yL_letter ∈ wsL_law := wm_4 (i := 25) (by decide +kernel) rfl
theorem mt_yL_letter : Cond.static yL_letter ∈ wsL_law := wm_4 (i := 26) (by decide +kernel) rfl
theorem mc_yL_letter : Cond.code yL_letter cL_letter 1 (some .int) ∈ wsL_law := wm_4 (i := 27) (by decide +kernel) rfl
theorem m_L_56 : Cond.constantLong RL 56 (4) ∈ wsL_law := wm_4 (i := 28) (by decide +kernel) rfl
theorem m_J0_15 : Cond.fieldLink RJ0 15 "java/lang/String" "coder" "B" ∈ wsL_law := wm_4 (i := 29) (by decide +kernel) rfl
theorem m_J0_9 : Cond.fieldLink RJ0 9 "java/lang/String" "value" "[B" ∈ wsL_law := wm_4 (i := 30) (by decide +kernel) rfl
theorem inlX0 : ∀ w ∈ u_ws RX0 TX0 2, w ∈ wsL_law := show ∀ w ∈ [Cond.laysFinal RX0 "BladeRing$Figure" "beats" "[B", Cond.lays RX0 "BladeRing$Figure" "length" "I"], w ∈ wsL_law from List.forall_mem_cons.mpr ⟨ml_X0_beats, List.forall_mem_cons.mpr ⟨ml_X0_length, fun _ h => absurd h List.not_mem_nil⟩⟩
theorem inlX1 : ∀ w ∈ u_ws RX1 TX1 5, w ∈ wsL_law := show ∀ w ∈ [Cond.laysFinal RX1 "BladeRing$Floor" "now" "LBladeRing$Weave;", Cond.laysFinal RX1 "BladeRing$Floor" "past" "[LBladeRing$Weave;", Cond.lays RX1 "BladeRing$Floor" "next" "I", Cond.lays RX1 "BladeRing$Floor" "undoable" "I", Cond.lays RX1 "BladeRing$Floor" "refusal" "I"], w ∈ wsL_law from List.forall_mem_cons.mpr ⟨ml_X1_now, List.forall_mem_cons.mpr ⟨ml_X1_past, List.forall_mem_cons.mpr ⟨ml_X1_next, List.forall_mem_cons.mpr ⟨ml_X1_undoable, List.forall_mem_cons.mpr ⟨ml_X1_refusal, fun _ h => absurd h List.not_mem_nil⟩⟩⟩⟩⟩
theorem inlX2 : ∀ w ∈ u_ws RX2 TX2 14, w ∈ wsL_law := show ∀ w ∈ [Cond.laysFinal RX2 "BladeRing$Search" "seats" "[J", Cond.laysFinal RX2 "BladeRing$Search" "overs" "[J", Cond.laysFinal RX2 "BladeRing$Search" "keys" "[J", Cond.laysFinal RX2 "BladeRing$Search" "parents" "[I", Cond.laysFinal RX2 "BladeRing$Search" "acts" "[I", Cond.laysFinal RX2 "BladeRing$Search" "slots" "[I", Cond.laysFinal RX2 "BladeRing$Search" "from" "LBladeRing$Weave;", Cond.laysFinal RX2 "BladeRing$Search" "to" "LBladeRing$Weave;", Cond.laysFinal RX2 "BladeRing$Search" "step" "LBladeRing$Weave;", Cond.lays RX2 "BladeRing$Search" "goalKey" "J", Cond.lays RX2 "BladeRing$Search" "searched" "Z", Cond.lays RX2 "BladeRing$Search" "metCount" "I", Cond.lays RX2 "BladeRing$Search" "goal" "I", Cond.lays RX2 "BladeRing$Search" "answer" "I"], w ∈ wsL_law from List.forall_mem_cons.mpr ⟨ml_X2_seats, List.forall_mem_cons.mpr ⟨ml_X2_overs, List.forall_mem_cons.mpr ⟨ml_X2_keys, List.forall_mem_cons.mpr ⟨ml_X2_parents, List.forall_mem_cons.mpr ⟨ml_X2_acts, List.forall_mem_cons.mpr ⟨ml_X2_slots, List.forall_mem_cons.mpr ⟨ml_X2_from, List.forall_mem_cons.mpr ⟨ml_X2_to, List.forall_mem_cons.mpr ⟨ml_X2_step, List.forall_mem_cons.mpr ⟨ml_X2_goalKey, List.forall_mem_cons.mpr ⟨ml_X2_searched, List.forall_mem_cons.mpr ⟨ml_X2_metCount, List.forall_mem_cons.mpr ⟨ml_X2_goal, List.forall_mem_cons.mpr ⟨ml_X2_answer, fun _ h => absurd h List.not_mem_nil⟩⟩⟩⟩⟩⟩⟩⟩⟩⟩⟩⟩⟩⟩
theorem inlX3 : ∀ w ∈ u_ws RX3 TX3 2, w ∈ wsL_law := show ∀ w ∈ [Cond.laysFinal RX3 "BladeRing$Sharing" "lengths" "[[I", Cond.laysFinal RX3 "BladeRing$Sharing" "row" "LBladeRing$Village;"], w ∈ wsL_law from List.forall_mem_cons.mpr ⟨ml_X3_lengths, List.forall_mem_cons.mpr ⟨ml_X3_row, fun _ h => absurd h List.not_mem_nil⟩⟩
theorem inlX4 : ∀ w ∈ u_ws RX4 TX4 3, w ∈ wsL_law := show ∀ w ∈ [Cond.laysFinal RX4 "BladeRing$Sheet" "cells" "[I", Cond.lays RX4 "BladeRing$Sheet" "lane" "I", Cond.lays RX4 "BladeRing$Sheet" "size" "I"], w ∈ wsL_law from List.forall_mem_cons.mpr ⟨ml_X4_cells, List.forall_mem_cons.mpr ⟨ml_X4_lane, List.forall_mem_cons.mpr ⟨ml_X4_size, fun _ h => absurd h List.not_mem_nil⟩⟩⟩
theorem inlX5 : ∀ w ∈ u_ws RX5 TX5 6, w ∈ wsL_law := show ∀ w ∈ [Cond.laysFinal RX5 "BladeRing$Tape" "bytes" "[B", Cond.lays RX5 "BladeRing$Tape" "length" "I", Cond.lays RX5 "BladeRing$Tape" "reading" "I", Cond.lays RX5 "BladeRing$Tape" "kind" "I", Cond.lays RX5 "BladeRing$Tape" "place" "I", Cond.lays RX5 "BladeRing$Tape" "value" "I"], w ∈ wsL_law from List.forall_mem_cons.mpr ⟨ml_X5_bytes, List.forall_mem_cons.mpr ⟨ml_X5_length, List.forall_mem_cons.mpr ⟨ml_X5_reading, List.forall_mem_cons.mpr ⟨ml_X5_kind, List.forall_mem_cons.mpr ⟨ml_X5_place, List.forall_mem_cons.mpr ⟨ml_X5_value, fun _ h => absurd h List.not_mem_nil⟩⟩⟩⟩⟩⟩
theorem inlX6 : ∀ w ∈ u_ws RX6 TX6 11, w ∈ wsL_law := show ∀ w ∈ [Cond.laysFinal RX6 "BladeRing$Teller" "draft" "LBladeRing$Figure;", Cond.laysFinal RX6 "BladeRing$Teller" "starts" "[I", Cond.laysFinal RX6 "BladeRing$Teller" "times" "[I", Cond.lays RX6 "BladeRing$Teller" "open" "I", Cond.lays RX6 "BladeRing$Teller" "wanted" "I", Cond.lays RX6 "BladeRing$Teller" "letter" "I", Cond.lays RX6 "BladeRing$Teller" "rounds" "I", Cond.lays RX6 "BladeRing$Teller" "empty" "Z", Cond.lays RX6 "BladeRing$Teller" "overlong" "Z", Cond.lays RX6 "BladeRing$Teller" "fault" "I", Cond.lays RX6 "BladeRing$Teller" "faultPlace" "I"], w ∈ wsL_law from List.forall_mem_cons.mpr ⟨ml_X6_draft, List.forall_mem_cons.mpr ⟨ml_X6_starts, List.forall_mem_cons.mpr ⟨ml_X6_times, List.forall_mem_cons.mpr ⟨ml_X6_open, List.forall_mem_cons.mpr ⟨ml_X6_wanted, List.forall_mem_cons.mpr ⟨ml_X6_letter, List.forall_mem_cons.mpr ⟨ml_X6_rounds, List.forall_mem_cons.mpr ⟨ml_X6_empty, List.forall_mem_cons.mpr ⟨ml_X6_overlong, List.forall_mem_cons.mpr ⟨ml_X6_fault, List.forall_mem_cons.mpr ⟨ml_X6_faultPlace, fun _ h => absurd h List.not_mem_nil⟩⟩⟩⟩⟩⟩⟩⟩⟩⟩⟩
theorem inlX7 : ∀ w ∈ u_ws RX7 TX7 2, w ∈ wsL_law := show ∀ w ∈ [Cond.laysFinal RX7 "BladeRing$Village" "figures" "[I", Cond.lays RX7 "BladeRing$Village" "length" "I"], w ∈ wsL_law from List.forall_mem_cons.mpr ⟨ml_X7_figures, List.forall_mem_cons.mpr ⟨ml_X7_length, fun _ h => absurd h List.not_mem_nil⟩⟩
theorem inlX8 : ∀ w ∈ u_ws RX8 TX8 5, w ∈ wsL_law := show ∀ w ∈ [Cond.lays RX8 "BladeRing$Weave" "dancers" "I", Cond.lays RX8 "BladeRing$Weave" "seats" "J", Cond.lays RX8 "BladeRing$Weave" "inward" "I", Cond.lays RX8 "BladeRing$Weave" "held" "I", Cond.lays RX8 "BladeRing$Weave" "overs" "J"], w ∈ wsL_law from List.forall_mem_cons.mpr ⟨ml_X8_dancers, List.forall_mem_cons.mpr ⟨ml_X8_seats, List.forall_mem_cons.mpr ⟨ml_X8_inward, List.forall_mem_cons.mpr ⟨ml_X8_held, List.forall_mem_cons.mpr ⟨ml_X8_overs, fun _ h => absurd h List.not_mem_nil⟩⟩⟩⟩⟩
theorem inlX9 : ∀ w ∈ u_ws RX9 TX9 16, w ∈ wsL_law := show ∀ w ∈ [Cond.laysFinal RX9 "BladeRing" "floor" "LBladeRing$Floor;", Cond.laysFinal RX9 "BladeRing" "trial" "LBladeRing$Floor;", Cond.laysFinal RX9 "BladeRing" "probe" "LBladeRing$Weave;", Cond.laysFinal RX9 "BladeRing" "poses" "[LBladeRing$Weave;", Cond.lays RX9 "BladeRing" "poseCount" "I", Cond.laysFinal RX9 "BladeRing" "search" "LBladeRing$Search;", Cond.laysFinal RX9 "BladeRing" "tape" "LBladeRing$Tape;", Cond.laysFinal RX9 "BladeRing" "teller" "LBladeRing$Teller;", Cond.laysFinal RX9 "BladeRing" "figures" "[LBladeRing$Figure;", Cond.lays RX9 "BladeRing" "figureCount" "I", Cond.lays RX9 "BladeRing" "latestFault" "I", Cond.lays RX9 "BladeRing" "latestStop" "I", Cond.laysFinal RX9 "BladeRing" "villages" "[LBladeRing$Village;", Cond.lays RX9 "BladeRing" "villageCount" "I", Cond.laysFinal RX9 "BladeRing" "sharing" "LBladeRing$Sharing;", Cond.laysFinal RX9 "BladeRing" "sheets" "[LBladeRing$Sheet;"], w ∈ wsL_law from List.forall_mem_cons.mpr ⟨ml_X9_floor, List.forall_mem_cons.mpr ⟨ml_X9_trial, List.forall_mem_cons.mpr ⟨ml_X9_probe, List.forall_mem_cons.mpr ⟨ml_X9_poses, List.forall_mem_cons.mpr ⟨ml_X9_poseCount, List.forall_mem_cons.mpr ⟨ml_X9_search, List.forall_mem_cons.mpr ⟨ml_X9_tape, List.forall_mem_cons.mpr ⟨ml_X9_teller, List.forall_mem_cons.mpr ⟨ml_X9_figures, List.forall_mem_cons.mpr ⟨ml_X9_figureCount, List.forall_mem_cons.mpr ⟨ml_X9_latestFault, List.forall_mem_cons.mpr ⟨ml_X9_latestStop, List.forall_mem_cons.mpr ⟨ml_X9_villages, List.forall_mem_cons.mpr ⟨ml_X9_villageCount, List.forall_mem_cons.mpr ⟨ml_X9_sharing, List.forall_mem_cons.mpr ⟨ml_X9_sheets, fun _ h => absurd h List.not_mem_nil⟩⟩⟩⟩⟩⟩⟩⟩⟩⟩⟩⟩⟩⟩⟩⟩
