theorem ms_RX9_yX9_isFigure : Cond.selects RX9 yX9_isFigure yX9_isFigure ∈ wsL_law := wm_0 (i := 0) (by decide +kernel) rfl
theorem ms_RX9_yX9_doneOnFloor : Cond.selects RX9 yX9_doneOnFloor yX9_doneOnFloor ∈ wsL_law := wm_0 (i := 1) (by decide +kernel) rfl
theorem ms_RX9_yX9_isPose : Cond.selects RX9 yX9_isPose yX9_isPose ∈ wsL_law := wm_0 (i := 2) (by decide +kernel) rfl
theorem ms_RX9_yX9_isVillage : Cond.selects RX9 yX9_isVillage yX9_isVillage ∈ wsL_law := wm_0 (i := 3) (by decide +kernel) rfl
theorem ms_RX9_yX9_beatsOf : Cond.selects RX9 yX9_beatsOf yX9_beatsOf ∈ wsL_law := wm_0 (i := 4) (by decide +kernel) rfl
theorem ms_RX9_yX9_isSheet : Cond.selects RX9 yX9_isSheet yX9_isSheet ∈ wsL_law := wm_0 (i := 5) (by decide +kernel) rfl
theorem ms_RX9_yX9_isLane : Cond.selects RX9 yX9_isLane yX9_isLane ∈ wsL_law := wm_0 (i := 6) (by decide +kernel) rfl
theorem ms_RX10_yX10_doesAct : Cond.selects RX10 yX10_doesAct yX10_doesAct ∈ wsL_law := wm_0 (i := 7) (by decide +kernel) rfl
theorem ms_RX10_yX10_packed : Cond.selects RX10 yX10_packed yX10_packed ∈ wsL_law := wm_0 (i := 8) (by decide +kernel) rfl
theorem ms_RX10_yX10_does : Cond.selects RX10 yX10_does yX10_does ∈ wsL_law := wm_0 (i := 9) (by decide +kernel) rfl
theorem ms_RX10_yX10_goRound : Cond.selects RX10 yX10_goRound yX10_goRound ∈ wsL_law := wm_0 (i := 10) (by decide +kernel) rfl
theorem ms_RX10_yX10_change : Cond.selects RX10 yX10_change yX10_change ∈ wsL_law := wm_0 (i := 11) (by decide +kernel) rfl
theorem ms_RX10_yX10_dancerAt : Cond.selects RX10 yX10_dancerAt yX10_dancerAt ∈ wsL_law := wm_0 (i := 12) (by decide +kernel) rfl
theorem ms_RX10_yX10_isHeld : Cond.selects RX10 yX10_isHeld yX10_isHeld ∈ wsL_law := wm_0 (i := 13) (by decide +kernel) rfl
theorem ms_RX10_yX10_areJoined : Cond.selects RX10 yX10_areJoined yX10_areJoined ∈ wsL_law := wm_0 (i := 14) (by decide +kernel) rfl
theorem ms_RX10_yX10_isOver : Cond.selects RX10 yX10_isOver yX10_isOver ∈ wsL_law := wm_0 (i := 15) (by decide +kernel) rfl
theorem ms_RX10_yX10_doCross : Cond.selects RX10 yX10_doCross yX10_doCross ∈ wsL_law := wm_0 (i := 16) (by decide +kernel) rfl
theorem ms_RX10_yX10_lays : Cond.selects RX10 yX10_lays yX10_lays ∈ wsL_law := wm_0 (i := 17) (by decide +kernel) rfl
theorem ms_RX10_yX10_areBeside : Cond.selects RX10 yX10_areBeside yX10_areBeside ∈ wsL_law := wm_0 (i := 18) (by decide +kernel) rfl
theorem ms_RX10_yX10_unpack : Cond.selects RX10 yX10_unpack yX10_unpack ∈ wsL_law := wm_0 (i := 19) (by decide +kernel) rfl
theorem ms_RX10_yX10_record : Cond.selects RX10 yX10_record yX10_record ∈ wsL_law := wm_0 (i := 20) (by decide +kernel) rfl
theorem ms_RX10_yX10_layLayers : Cond.selects RX10 yX10_layLayers yX10_layLayers ∈ wsL_law := wm_0 (i := 21) (by decide +kernel) rfl
theorem ms_RX10_yX10_aboveOf : Cond.selects RX10 yX10_aboveOf yX10_aboveOf ∈ wsL_law := wm_0 (i := 22) (by decide +kernel) rfl
theorem ms_RX10_yX10_belowOf : Cond.selects RX10 yX10_belowOf yX10_belowOf ∈ wsL_law := wm_0 (i := 23) (by decide +kernel) rfl
theorem ms_RX10_yX10_isLock : Cond.selects RX10 yX10_isLock yX10_isLock ∈ wsL_law := wm_0 (i := 24) (by decide +kernel) rfl
theorem ms_RX10_yX10_star : Cond.selects RX10 yX10_star yX10_star ∈ wsL_law := wm_0 (i := 25) (by decide +kernel) rfl
theorem ms_RX10_yX10_turns : Cond.selects RX10 yX10_turns yX10_turns ∈ wsL_law := wm_0 (i := 26) (by decide +kernel) rfl
theorem ms_RX10_yX10_next : Cond.selects RX10 yX10_next yX10_next ∈ wsL_law := wm_0 (i := 27) (by decide +kernel) rfl
theorem ms_RX10_yX10_byteAt : Cond.selects RX10 yX10_byteAt yX10_byteAt ∈ wsL_law := wm_0 (i := 28) (by decide +kernel) rfl
theorem ms_RX10_yX10_fails : Cond.selects RX10 yX10_fails yX10_fails ∈ wsL_law := wm_0 (i := 29) (by decide +kernel) rfl
theorem ms_RX10_yX10_letter : Cond.selects RX10 yX10_letter yX10_letter ∈ wsL_law := wm_0 (i := 30) (by decide +kernel) rfl
theorem ms_RX10_yX10_beat : Cond.selects RX10 yX10_beat yX10_beat ∈ wsL_law := wm_0 (i := 31) (by decide +kernel) rfl
theorem ms_RX10_yX10_opens : Cond.selects RX10 yX10_opens yX10_opens ∈ wsL_law := wm_0 (i := 32) (by decide +kernel) rfl
theorem ms_RX10_yX10_shuts : Cond.selects RX10 yX10_shuts yX10_shuts ∈ wsL_law := wm_0 (i := 33) (by decide +kernel) rfl
theorem ms_RX10_yX10_isFigure : Cond.selects RX10 yX10_isFigure yX10_isFigure ∈ wsL_law := wm_0 (i := 34) (by decide +kernel) rfl
theorem ms_RX10_yX10_goes : Cond.selects RX10 yX10_goes yX10_goes ∈ wsL_law := wm_0 (i := 35) (by decide +kernel) rfl
theorem ms_RX10_yX10_goesBack : Cond.selects RX10 yX10_goesBack yX10_goesBack ∈ wsL_law := wm_0 (i := 36) (by decide +kernel) rfl
theorem ms_RX10_yX10_putAside : Cond.selects RX10 yX10_putAside yX10_putAside ∈ wsL_law := wm_0 (i := 37) (by decide +kernel) rfl
theorem ms_RX10_yX10_isAside : Cond.selects RX10 yX10_isAside yX10_isAside ∈ wsL_law := wm_0 (i := 38) (by decide +kernel) rfl
theorem ms_RX10_yX10_bringBack : Cond.selects RX10 yX10_bringBack yX10_bringBack ∈ wsL_law := wm_0 (i := 39) (by decide +kernel) rfl
theorem ms_RX10_yX10_isPose : Cond.selects RX10 yX10_isPose yX10_isPose ∈ wsL_law := wm_0 (i := 40) (by decide +kernel) rfl
theorem ms_RX10_yX10_isAlike : Cond.selects RX10 yX10_isAlike yX10_isAlike ∈ wsL_law := wm_0 (i := 41) (by decide +kernel) rfl
theorem ms_RX10_yX10_turned : Cond.selects RX10 yX10_turned yX10_turned ∈ wsL_law := wm_0 (i := 42) (by decide +kernel) rfl
theorem ms_RX10_yX10_seek : Cond.selects RX10 yX10_seek yX10_seek ∈ wsL_law := wm_0 (i := 43) (by decide +kernel) rfl
theorem ms_RX10_yX10_search : Cond.selects RX10 yX10_search yX10_search ∈ wsL_law := wm_0 (i := 44) (by decide +kernel) rfl
theorem ms_RX10_yX10_meets : Cond.selects RX10 yX10_meets yX10_meets ∈ wsL_law := wm_0 (i := 45) (by decide +kernel) rfl
theorem ms_RX10_yX10_steps : Cond.selects RX10 yX10_steps yX10_steps ∈ wsL_law := wm_0 (i := 46) (by decide +kernel) rfl
theorem ms_RX10_yX10_isVillage : Cond.selects RX10 yX10_isVillage yX10_isVillage ∈ wsL_law := wm_0 (i := 47) (by decide +kernel) rfl
theorem ms_RX10_yX10_layLongest : Cond.selects RX10 yX10_layLongest yX10_layLongest ∈ wsL_law := wm_0 (i := 48) (by decide +kernel) rfl
theorem ms_RX10_yX10_firstOf : Cond.selects RX10 yX10_firstOf yX10_firstOf ∈ wsL_law := wm_0 (i := 49) (by decide +kernel) rfl
theorem mn_RL : Cond.initialized RL ∈ wsL_law := wm_1 (i := 0) (by decide +kernel) rfl
theorem mn_RX9 : Cond.initialized RX9 ∈ wsL_law := wm_1 (i := 1) (by decide +kernel) rfl
theorem mn_RX1 : Cond.initialized RX1 ∈ wsL_law := wm_1 (i := 2) (by decide +kernel) rfl
theorem mn_RX8 : Cond.initialized RX8 ∈ wsL_law := wm_1 (i := 3) (by decide +kernel) rfl
theorem mn_RX2 : Cond.initialized RX2 ∈ wsL_law := wm_1 (i := 4) (by decide +kernel) rfl
theorem mn_RX5 : Cond.initialized RX5 ∈ wsL_law := wm_1 (i := 5) (by decide +kernel) rfl
theorem mn_RX6 : Cond.initialized RX6 ∈ wsL_law := wm_1 (i := 6) (by decide +kernel) rfl
theorem mn_RX0 : Cond.initialized RX0 ∈ wsL_law := wm_1 (i := 7) (by decide +kernel) rfl
theorem mn_RX3 : Cond.initialized RX3 ∈ wsL_law := wm_1 (i := 8) (by decide +kernel) rfl
theorem mn_RX7 : Cond.initialized RX7 ∈ wsL_law := wm_1 (i := 9) (by decide +kernel) rfl
theorem mn_RX4 : Cond.initialized RX4 ∈ wsL_law := wm_1 (i := 10) (by decide +kernel) rfl
theorem mn_RX10 : Cond.initialized RX10 ∈ wsL_law := wm_1 (i := 11) (by decide +kernel) rfl
theorem mn_java_lang_Math : Cond.initialized "java/lang/Math" ∈ wsL_law := wm_1 (i := 12) (by decide +kernel) rfl
theorem mn_RJ6 : Cond.initialized RJ6 ∈ wsL_law := wm_1 (i := 13) (by decide +kernel) rfl
theorem mn_RJ13 : Cond.initialized RJ13 ∈ wsL_law := wm_1 (i := 14) (by decide +kernel) rfl
theorem mn_RJ0 : Cond.initialized RJ0 ∈ wsL_law := wm_1 (i := 15) (by decide +kernel) rfl
theorem mn_RJ1 : Cond.initialized RJ1 ∈ wsL_law := wm_1 (i := 16) (by decide +kernel) rfl
theorem mn_RJ2 : Cond.initialized RJ2 ∈ wsL_law := wm_1 (i := 17) (by decide +kernel) rfl
theorem mn_RJ3 : Cond.initialized RJ3 ∈ wsL_law := wm_1 (i := 18) (by decide +kernel) rfl
theorem mn_RJ11 : Cond.initialized RJ11 ∈ wsL_law := wm_1 (i := 19) (by decide +kernel) rfl
theorem mn_java_lang_System : Cond.initialized "java/lang/System" ∈ wsL_law := wm_1 (i := 20) (by decide +kernel) rfl
theorem mn_RJ7 : Cond.initialized RJ7 ∈ wsL_law := wm_1 (i := 21) (by decide +kernel) rfl
theorem m_L_7 : Cond.classLink RL 7 RX9 ∈ wsL_law := wm_1 (i := 22) (by decide +kernel) rfl
theorem mj_RX9 : Cond.instantiable RX9 16 ∈ wsL_law := wm_1 (i := 23) (by decide +kernel) rfl
theorem m_L_9 : Cond.methodLink RL 9 yX9_init ∈ wsL_law := wm_1 (i := 24) (by decide +kernel) rfl
theorem mi_yX9_init : Cond.instanceMethod yX9_init ∈ wsL_law := wm_1 (i := 25) (by decide +kernel) rfl
theorem mc_yX9_init : Cond.code yX9_init cX9_init 2 none ∈ wsL_law := wm_1 (i := 26) (by decide +kernel) rfl
theorem m_X9_1 : Cond.methodLink RX9 1 objectInit ∈ wsL_law := wm_1 (i := 27) (by decide +kernel) rfl
theorem mi_objectInit : Cond.instanceMethod objectInit ∈ wsL_law := wm_1 (i := 28) (by decide +kernel) rfl
theorem mc_objectInit : Cond.code objectInit ⟨#[0xb1]⟩ 1 none ∈ wsL_law := wm_1 (i := 29) (by decide +kernel) rfl
theorem m_X9_7 : Cond.classLink RX9 7 RX1 ∈ wsL_law := wm_1 (i := 30) (by decide +kernel) rfl
theorem mj_RX1 : Cond.instantiable RX1 5 ∈ wsL_law := wm_1 (i := 31) (by decide +kernel) rfl
theorem m_X9_9 : Cond.methodLink RX9 9 yX1_init ∈ wsL_law := wm_1 (i := 32) (by decide +kernel) rfl
theorem mi_yX1_init : Cond.instanceMethod yX1_init ∈ wsL_law := wm_1 (i := 33) (by decide +kernel) rfl
theorem mc_yX1_init : Cond.code yX1_init cX1_init 2 none ∈ wsL_law := wm_1 (i := 34) (by decide +kernel) rfl
theorem m_X1_3 : Cond.methodLink RX1 3 objectInit ∈ wsL_law := wm_1 (i := 35) (by decide +kernel) rfl
theorem m_X1_9 : Cond.classLink RX1 9 RX8 ∈ wsL_law := wm_1 (i := 36) (by decide +kernel) rfl
theorem mj_RX8 : Cond.instantiable RX8 5 ∈ wsL_law := wm_1 (i := 37) (by decide +kernel) rfl
theorem m_X1_11 : Cond.methodLink RX1 11 yX8_init ∈ wsL_law := wm_1 (i := 38) (by decide +kernel) rfl
theorem mi_yX8_init : Cond.instanceMethod yX8_init ∈ wsL_law := wm_1 (i := 39) (by decide +kernel) rfl
theorem mc_yX8_init : Cond.code yX8_init cX8_init 1 none ∈ wsL_law := wm_1 (i := 40) (by decide +kernel) rfl
theorem m_X8_3 : Cond.methodLink RX8 3 objectInit ∈ wsL_law := wm_1 (i := 41) (by decide +kernel) rfl
theorem m_X8_9 : Cond.methodLink RX8 9 yX8_begin ∈ wsL_law := wm_1 (i := 42) (by decide +kernel) rfl
theorem mi_yX8_begin : Cond.instanceMethod yX8_begin ∈ wsL_law := wm_1 (i := 43) (by decide +kernel) rfl
theorem ms_RX8_yX8_begin : Cond.selects RX8 yX8_begin yX8_begin ∈ wsL_law := wm_1 (i := 44) (by decide +kernel) rfl
theorem mc_yX8_begin : Cond.code yX8_begin cX8_begin 2 none ∈ wsL_law := wm_1 (i := 45) (by decide +kernel) rfl
theorem m_X8_19 : Cond.constantLong RX8 19 (1985229328) ∈ wsL_law := wm_1 (i := 46) (by decide +kernel) rfl
theorem m_X8_21 : Cond.methodLink RX8 21 yX8_seatBits ∈ wsL_law := wm_1 (i := 47) (by decide +kernel) rfl
theorem mi_yX8_seatBits : Cond.instanceMethod yX8_seatBits ∈ wsL_law := wm_1 (i := 48) (by decide +kernel) rfl
theorem ms_RX8_yX8_seatBits : Cond.selects RX8 yX8_seatBits yX8_seatBits ∈ wsL_law := wm_1 (i := 49) (by decide +kernel) rfl
theorem mc_yX8_seatBits : Cond.code yX8_seatBits cX8_seatBits 1 (some .long) ∈ wsL_law := wm_1 (i := 50) (by decide +kernel) rfl
theorem m_X8_15 : Cond.fieldLink RX8 15 "BladeRing$Weave" "dancers" "I" ∈ wsL_law := wm_1 (i := 51) (by decide +kernel) rfl
theorem m_X2_96 : Cond.fieldLink RX2 96 "BladeRing$Weave" "dancers" "I" ∈ wsL_law := wm_1 (i := 52) (by decide +kernel) rfl
theorem m_X9_101 : Cond.fieldLink RX9 101 "BladeRing$Weave" "dancers" "I" ∈ wsL_law := wm_1 (i := 53) (by decide +kernel) rfl
theorem m_X1_70 : Cond.fieldLink RX1 70 "BladeRing$Weave" "dancers" "I" ∈ wsL_law := wm_1 (i := 54) (by decide +kernel) rfl
theorem m_X8_25 : Cond.fieldLink RX8 25 "BladeRing$Weave" "seats" "J" ∈ wsL_law := wm_1 (i := 55) (by decide +kernel) rfl
theorem m_X2_99 : Cond.fieldLink RX2 99 "BladeRing$Weave" "seats" "J" ∈ wsL_law := wm_1 (i := 56) (by decide +kernel) rfl
theorem m_X8_29 : Cond.fieldLink RX8 29 "BladeRing$Weave" "inward" "I" ∈ wsL_law := wm_1 (i := 57) (by decide +kernel) rfl
theorem m_X9_108 : Cond.fieldLink RX9 108 "BladeRing$Weave" "inward" "I" ∈ wsL_law := wm_1 (i := 58) (by decide +kernel) rfl
theorem m_X8_32 : Cond.fieldLink RX8 32 "BladeRing$Weave" "held" "I" ∈ wsL_law := wm_1 (i := 59) (by decide +kernel) rfl
theorem m_X2_111 : Cond.fieldLink RX2 111 "BladeRing$Weave" "held" "I" ∈ wsL_law := wm_1 (i := 60) (by decide +kernel) rfl
theorem m_X9_111 : Cond.fieldLink RX9 111 "BladeRing$Weave" "held" "I" ∈ wsL_law := wm_1 (i := 61) (by decide +kernel) rfl
theorem m_X8_35 : Cond.fieldLink RX8 35 "BladeRing$Weave" "overs" "J" ∈ wsL_law := wm_1 (i := 62) (by decide +kernel) rfl
theorem m_X2_101 : Cond.fieldLink RX2 101 "BladeRing$Weave" "overs" "J" ∈ wsL_law := wm_1 (i := 63) (by decide +kernel) rfl
theorem m_X9_132 : Cond.fieldLink RX9 132 "BladeRing$Weave" "overs" "J" ∈ wsL_law := wm_1 (i := 64) (by decide +kernel) rfl
theorem ml_X8_dancers : Cond.lays RX8 "BladeRing$Weave" "dancers" "I" ∈ wsL_law := wm_1 (i := 65) (by decide +kernel) rfl
theorem ml_X8_seats : Cond.lays RX8 "BladeRing$Weave" "seats" "J" ∈ wsL_law := wm_1 (i := 67) (by decide +kernel) rfl
theorem ml_X8_inward : Cond.lays RX8 "BladeRing$Weave" "inward" "I" ∈ wsL_law := wm_1 (i := 69) (by decide +kernel) rfl
theorem ml_X8_held : Cond.lays RX8 "BladeRing$Weave" "held" "I" ∈ wsL_law := wm_1 (i := 71) (by decide +kernel) rfl
theorem ml_X8_overs : Cond.lays RX8 "BladeRing$Weave" "overs" "J" ∈ wsL_law := wm_1 (i := 73) (by decide +kernel) rfl
theorem m_X1_12 : Cond.fieldLink RX1 12 "BladeRing$Floor" "now" "LBladeRing$Weave;" ∈ wsL_law := wm_1 (i := 77) (by decide +kernel) rfl
theorem m_X9_79 : Cond.fieldLink RX9 79 "BladeRing$Floor" "now" "LBladeRing$Weave;" ∈ wsL_law := wm_1 (i := 78) (by decide +kernel) rfl
theorem m_X1_18 : Cond.fieldLink RX1 18 "BladeRing$Floor" "past" "[LBladeRing$Weave;" ∈ wsL_law := wm_1 (i := 79) (by decide +kernel) rfl
theorem m_X1_26 : Cond.fieldLink RX1 26 "BladeRing$Floor" "next" "I" ∈ wsL_law := wm_1 (i := 80) (by decide +kernel) rfl
theorem m_X1_22 : Cond.fieldLink RX1 22 "BladeRing$Floor" "undoable" "I" ∈ wsL_law := wm_1 (i := 81) (by decide +kernel) rfl
theorem m_X9_157 : Cond.fieldLink RX9 157 "BladeRing$Floor" "undoable" "I" ∈ wsL_law := wm_1 (i := 82) (by decide +kernel) rfl
theorem m_X1_46 : Cond.fieldLink RX1 46 "BladeRing$Floor" "refusal" "I" ∈ wsL_law := wm_1 (i := 83) (by decide +kernel) rfl
theorem m_X9_224 : Cond.fieldLink RX9 224 "BladeRing$Floor" "refusal" "I" ∈ wsL_law := wm_1 (i := 84) (by decide +kernel) rfl
theorem ml_X1_now : Cond.laysFinal RX1 "BladeRing$Floor" "now" "LBladeRing$Weave;" ∈ wsL_law := wm_1 (i := 85) (by decide +kernel) rfl
theorem ml_X1_past : Cond.laysFinal RX1 "BladeRing$Floor" "past" "[LBladeRing$Weave;" ∈ wsL_law := wm_1 (i := 87) (by decide +kernel) rfl
theorem ml_X1_next : Cond.lays RX1 "BladeRing$Floor" "next" "I" ∈ wsL_law := wm_1 (i := 89) (by decide +kernel) rfl
theorem ml_X1_undoable : Cond.lays RX1 "BladeRing$Floor" "undoable" "I" ∈ wsL_law := wm_1 (i := 91) (by decide +kernel) rfl
theorem ml_X1_refusal : Cond.lays RX1 "BladeRing$Floor" "refusal" "I" ∈ wsL_law := wm_1 (i := 93) (by decide +kernel) rfl
theorem m_X9_19 : Cond.classLink RX9 19 RX8 ∈ wsL_law := wm_1 (i := 96) (by decide +kernel) rfl
theorem m_X9_21 : Cond.methodLink RX9 21 yX8_init ∈ wsL_law := wm_1 (i := 97) (by decide +kernel) rfl
theorem m_X9_30 : Cond.classLink RX9 30 RX2 ∈ wsL_law := wm_1 (i := 98) (by decide +kernel) rfl
theorem mj_RX2 : Cond.instantiable RX2 14 ∈ wsL_law := wm_1 (i := 99) (by decide +kernel) rfl
theorem mi_yX2_init : Cond.instanceMethod yX2_init ∈ wsL_law := wm_1 (i := 101) (by decide +kernel) rfl
theorem mc_yX2_init : Cond.code yX2_init cX2_init 1 none ∈ wsL_law := wm_1 (i := 102) (by decide +kernel) rfl
theorem m_X2_3 : Cond.methodLink RX2 3 objectInit ∈ wsL_law := wm_1 (i := 103) (by decide +kernel) rfl
theorem m_X2_31 : Cond.classLink RX2 31 RX8 ∈ wsL_law := wm_1 (i := 104) (by decide +kernel) rfl
theorem m_X2_33 : Cond.methodLink RX2 33 yX8_init ∈ wsL_law := wm_1 (i := 105) (by decide +kernel) rfl
theorem m_X2_9 : Cond.fieldLink RX2 9 "BladeRing$Search" "seats" "[J" ∈ wsL_law := wm_1 (i := 106) (by decide +kernel) rfl
theorem m_X2_15 : Cond.fieldLink RX2 15 "BladeRing$Search" "overs" "[J" ∈ wsL_law := wm_1 (i := 107) (by decide +kernel) rfl
theorem m_X2_18 : Cond.fieldLink RX2 18 "BladeRing$Search" "keys" "[J" ∈ wsL_law := wm_1 (i := 108) (by decide +kernel) rfl
theorem m_X2_21 : Cond.fieldLink RX2 21 "BladeRing$Search" "parents" "[I" ∈ wsL_law := wm_1 (i := 109) (by decide +kernel) rfl
theorem m_X2_25 : Cond.fieldLink RX2 25 "BladeRing$Search" "acts" "[I" ∈ wsL_law := wm_1 (i := 110) (by decide +kernel) rfl
theorem m_X2_28 : Cond.fieldLink RX2 28 "BladeRing$Search" "slots" "[I" ∈ wsL_law := wm_1 (i := 111) (by decide +kernel) rfl
theorem m_X2_34 : Cond.fieldLink RX2 34 "BladeRing$Search" "from" "LBladeRing$Weave;" ∈ wsL_law := wm_1 (i := 112) (by decide +kernel) rfl
theorem m_X2_38 : Cond.fieldLink RX2 38 "BladeRing$Search" "to" "LBladeRing$Weave;" ∈ wsL_law := wm_1 (i := 113) (by decide +kernel) rfl
theorem m_X2_41 : Cond.fieldLink RX2 41 "BladeRing$Search" "step" "LBladeRing$Weave;" ∈ wsL_law := wm_1 (i := 114) (by decide +kernel) rfl
theorem m_X2_60 : Cond.fieldLink RX2 60 "BladeRing$Search" "goalKey" "J" ∈ wsL_law := wm_1 (i := 115) (by decide +kernel) rfl
theorem m_X2_44 : Cond.fieldLink RX2 44 "BladeRing$Search" "searched" "Z" ∈ wsL_law := wm_1 (i := 116) (by decide +kernel) rfl
theorem m_X2_70 : Cond.fieldLink RX2 70 "BladeRing$Search" "metCount" "I" ∈ wsL_law := wm_1 (i := 117) (by decide +kernel) rfl
theorem m_X9_247 : Cond.fieldLink RX9 247 "BladeRing$Search" "metCount" "I" ∈ wsL_law := wm_1 (i := 118) (by decide +kernel) rfl
theorem m_X2_74 : Cond.fieldLink RX2 74 "BladeRing$Search" "goal" "I" ∈ wsL_law := wm_1 (i := 119) (by decide +kernel) rfl
theorem m_X2_93 : Cond.fieldLink RX2 93 "BladeRing$Search" "answer" "I" ∈ wsL_law := wm_1 (i := 120) (by decide +kernel) rfl
theorem m_X9_241 : Cond.fieldLink RX9 241 "BladeRing$Search" "answer" "I" ∈ wsL_law := wm_1 (i := 121) (by decide +kernel) rfl
theorem ml_X2_seats : Cond.laysFinal RX2 "BladeRing$Search" "seats" "[J" ∈ wsL_law := wm_1 (i := 122) (by decide +kernel) rfl
theorem ml_X2_overs : Cond.laysFinal RX2 "BladeRing$Search" "overs" "[J" ∈ wsL_law := wm_1 (i := 124) (by decide +kernel) rfl
theorem ml_X2_keys : Cond.laysFinal RX2 "BladeRing$Search" "keys" "[J" ∈ wsL_law := wm_1 (i := 126) (by decide +kernel) rfl
theorem ml_X2_parents : Cond.laysFinal RX2 "BladeRing$Search" "parents" "[I" ∈ wsL_law := wm_1 (i := 128) (by decide +kernel) rfl
theorem ml_X2_acts : Cond.laysFinal RX2 "BladeRing$Search" "acts" "[I" ∈ wsL_law := wm_1 (i := 130) (by decide +kernel) rfl
theorem ml_X2_slots : Cond.laysFinal RX2 "BladeRing$Search" "slots" "[I" ∈ wsL_law := wm_1 (i := 132) (by decide +kernel) rfl
theorem ml_X2_from : Cond.laysFinal RX2 "BladeRing$Search" "from" "LBladeRing$Weave;" ∈ wsL_law := wm_1 (i := 134) (by decide +kernel) rfl
theorem ml_X2_to : Cond.laysFinal RX2 "BladeRing$Search" "to" "LBladeRing$Weave;" ∈ wsL_law := wm_1 (i := 136) (by decide +kernel) rfl
theorem ml_X2_step : Cond.laysFinal RX2 "BladeRing$Search" "step" "LBladeRing$Weave;" ∈ wsL_law := wm_1 (i := 138) (by decide +kernel) rfl
theorem ml_X2_goalKey : Cond.lays RX2 "BladeRing$Search" "goalKey" "J" ∈ wsL_law := wm_1 (i := 140) (by decide +kernel) rfl
theorem ml_X2_searched : Cond.lays RX2 "BladeRing$Search" "searched" "Z" ∈ wsL_law := wm_1 (i := 142) (by decide +kernel) rfl
theorem ml_X2_metCount : Cond.lays RX2 "BladeRing$Search" "metCount" "I" ∈ wsL_law := wm_1 (i := 144) (by decide +kernel) rfl
theorem ml_X2_goal : Cond.lays RX2 "BladeRing$Search" "goal" "I" ∈ wsL_law := wm_1 (i := 146) (by decide +kernel) rfl
theorem ml_X2_answer : Cond.lays RX2 "BladeRing$Search" "answer" "I" ∈ wsL_law := wm_1 (i := 148) (by decide +kernel) rfl
theorem ma_long : Cond.arrayClass .long ∈ wsL_law := wm_1 (i := 151) (by decide +kernel) rfl
theorem ma_int : Cond.arrayClass .int ∈ wsL_law := wm_1 (i := 152) (by decide +kernel) rfl
theorem m_X9_37 : Cond.classLink RX9 37 RX5 ∈ wsL_law := wm_1 (i := 153) (by decide +kernel) rfl
theorem mj_RX5 : Cond.instantiable RX5 6 ∈ wsL_law := wm_1 (i := 154) (by decide +kernel) rfl
theorem mi_yX5_init : Cond.instanceMethod yX5_init ∈ wsL_law := wm_1 (i := 156) (by decide +kernel) rfl
theorem mc_yX5_init : Cond.code yX5_init cX5_init 1 none ∈ wsL_law := wm_1 (i := 157) (by decide +kernel) rfl
theorem m_X5_3 : Cond.methodLink RX5 3 objectInit ∈ wsL_law := wm_1 (i := 158) (by decide +kernel) rfl
theorem m_X5_9 : Cond.fieldLink RX5 9 "BladeRing$Tape" "bytes" "[B" ∈ wsL_law := wm_1 (i := 159) (by decide +kernel) rfl
theorem m_X5_15 : Cond.fieldLink RX5 15 "BladeRing$Tape" "length" "I" ∈ wsL_law := wm_1 (i := 160) (by decide +kernel) rfl
theorem m_X9_171 : Cond.fieldLink RX9 171 "BladeRing$Tape" "length" "I" ∈ wsL_law := wm_1 (i := 161) (by decide +kernel) rfl
theorem m_X5_19 : Cond.fieldLink RX5 19 "BladeRing$Tape" "reading" "I" ∈ wsL_law := wm_1 (i := 162) (by decide +kernel) rfl
theorem m_X6_50 : Cond.fieldLink RX6 50 "BladeRing$Tape" "kind" "I" ∈ wsL_law := wm_1 (i := 163) (by decide +kernel) rfl
theorem m_X5_36 : Cond.fieldLink RX5 36 "BladeRing$Tape" "kind" "I" ∈ wsL_law := wm_1 (i := 164) (by decide +kernel) rfl
theorem m_X6_44 : Cond.fieldLink RX6 44 "BladeRing$Tape" "place" "I" ∈ wsL_law := wm_1 (i := 165) (by decide +kernel) rfl
theorem m_X5_26 : Cond.fieldLink RX5 26 "BladeRing$Tape" "place" "I" ∈ wsL_law := wm_1 (i := 166) (by decide +kernel) rfl
theorem m_X6_79 : Cond.fieldLink RX6 79 "BladeRing$Tape" "value" "I" ∈ wsL_law := wm_1 (i := 167) (by decide +kernel) rfl
theorem m_X5_46 : Cond.fieldLink RX5 46 "BladeRing$Tape" "value" "I" ∈ wsL_law := wm_1 (i := 168) (by decide +kernel) rfl
theorem ml_X5_bytes : Cond.laysFinal RX5 "BladeRing$Tape" "bytes" "[B" ∈ wsL_law := wm_1 (i := 169) (by decide +kernel) rfl
theorem ml_X5_length : Cond.lays RX5 "BladeRing$Tape" "length" "I" ∈ wsL_law := wm_1 (i := 171) (by decide +kernel) rfl
theorem ml_X5_reading : Cond.lays RX5 "BladeRing$Tape" "reading" "I" ∈ wsL_law := wm_1 (i := 173) (by decide +kernel) rfl
theorem ml_X5_kind : Cond.lays RX5 "BladeRing$Tape" "kind" "I" ∈ wsL_law := wm_1 (i := 175) (by decide +kernel) rfl
theorem ml_X5_place : Cond.lays RX5 "BladeRing$Tape" "place" "I" ∈ wsL_law := wm_1 (i := 177) (by decide +kernel) rfl
theorem ml_X5_value : Cond.lays RX5 "BladeRing$Tape" "value" "I" ∈ wsL_law := wm_1 (i := 179) (by decide +kernel) rfl
theorem ma_byte : Cond.arrayClass .byte ∈ wsL_law := wm_1 (i := 182) (by decide +kernel) rfl
theorem m_X9_44 : Cond.classLink RX9 44 RX6 ∈ wsL_law := wm_1 (i := 183) (by decide +kernel) rfl
theorem mj_RX6 : Cond.instantiable RX6 11 ∈ wsL_law := wm_1 (i := 184) (by decide +kernel) rfl
theorem mi_yX6_init : Cond.instanceMethod yX6_init ∈ wsL_law := wm_1 (i := 186) (by decide +kernel) rfl
theorem mc_yX6_init : Cond.code yX6_init cX6_init 1 none ∈ wsL_law := wm_1 (i := 187) (by decide +kernel) rfl
theorem m_X6_3 : Cond.methodLink RX6 3 objectInit ∈ wsL_law := wm_1 (i := 188) (by decide +kernel) rfl
theorem m_X6_9 : Cond.classLink RX6 9 RX0 ∈ wsL_law := wm_1 (i := 189) (by decide +kernel) rfl
theorem mj_RX0 : Cond.instantiable RX0 2 ∈ wsL_law := wm_1 (i := 190) (by decide +kernel) rfl
theorem mi_yX0_init : Cond.instanceMethod yX0_init ∈ wsL_law := wm_1 (i := 192) (by decide +kernel) rfl
theorem mc_yX0_init : Cond.code yX0_init cX0_init 1 none ∈ wsL_law := wm_1 (i := 193) (by decide +kernel) rfl
theorem m_X0_3 : Cond.methodLink RX0 3 objectInit ∈ wsL_law := wm_1 (i := 194) (by decide +kernel) rfl
theorem m_X0_9 : Cond.fieldLink RX0 9 "BladeRing$Figure" "beats" "[B" ∈ wsL_law := wm_1 (i := 195) (by decide +kernel) rfl
theorem m_X0_15 : Cond.fieldLink RX0 15 "BladeRing$Figure" "length" "I" ∈ wsL_law := wm_1 (i := 196) (by decide +kernel) rfl
theorem m_X6_57 : Cond.fieldLink RX6 57 "BladeRing$Figure" "length" "I" ∈ wsL_law := wm_1 (i := 197) (by decide +kernel) rfl
theorem m_X1_49 : Cond.fieldLink RX1 49 "BladeRing$Figure" "length" "I" ∈ wsL_law := wm_1 (i := 198) (by decide +kernel) rfl
theorem m_X9_201 : Cond.fieldLink RX9 201 "BladeRing$Figure" "length" "I" ∈ wsL_law := wm_1 (i := 199) (by decide +kernel) rfl
theorem ml_X0_beats : Cond.laysFinal RX0 "BladeRing$Figure" "beats" "[B" ∈ wsL_law := wm_1 (i := 200) (by decide +kernel) rfl
theorem ml_X0_length : Cond.lays RX0 "BladeRing$Figure" "length" "I" ∈ wsL_law := wm_1 (i := 202) (by decide +kernel) rfl
theorem m_X6_12 : Cond.fieldLink RX6 12 "BladeRing$Teller" "draft" "LBladeRing$Figure;" ∈ wsL_law := wm_1 (i := 205) (by decide +kernel) rfl
theorem m_X9_190 : Cond.fieldLink RX9 190 "BladeRing$Teller" "draft" "LBladeRing$Figure;" ∈ wsL_law := wm_1 (i := 206) (by decide +kernel) rfl
theorem m_X6_18 : Cond.fieldLink RX6 18 "BladeRing$Teller" "starts" "[I" ∈ wsL_law := wm_1 (i := 207) (by decide +kernel) rfl
theorem m_X6_22 : Cond.fieldLink RX6 22 "BladeRing$Teller" "times" "[I" ∈ wsL_law := wm_1 (i := 208) (by decide +kernel) rfl
theorem m_X6_60 : Cond.fieldLink RX6 60 "BladeRing$Teller" "open" "I" ∈ wsL_law := wm_1 (i := 209) (by decide +kernel) rfl
theorem m_X6_63 : Cond.fieldLink RX6 63 "BladeRing$Teller" "wanted" "I" ∈ wsL_law := wm_1 (i := 210) (by decide +kernel) rfl
theorem m_X6_82 : Cond.fieldLink RX6 82 "BladeRing$Teller" "letter" "I" ∈ wsL_law := wm_1 (i := 211) (by decide +kernel) rfl
theorem m_X6_85 : Cond.fieldLink RX6 85 "BladeRing$Teller" "rounds" "I" ∈ wsL_law := wm_1 (i := 212) (by decide +kernel) rfl
theorem m_X6_66 : Cond.fieldLink RX6 66 "BladeRing$Teller" "empty" "Z" ∈ wsL_law := wm_1 (i := 213) (by decide +kernel) rfl
theorem m_X6_53 : Cond.fieldLink RX6 53 "BladeRing$Teller" "overlong" "Z" ∈ wsL_law := wm_1 (i := 214) (by decide +kernel) rfl
theorem m_X6_40 : Cond.fieldLink RX6 40 "BladeRing$Teller" "fault" "I" ∈ wsL_law := wm_1 (i := 215) (by decide +kernel) rfl
theorem m_X9_181 : Cond.fieldLink RX9 181 "BladeRing$Teller" "fault" "I" ∈ wsL_law := wm_1 (i := 216) (by decide +kernel) rfl
theorem m_X6_47 : Cond.fieldLink RX6 47 "BladeRing$Teller" "faultPlace" "I" ∈ wsL_law := wm_1 (i := 217) (by decide +kernel) rfl
theorem m_X9_187 : Cond.fieldLink RX9 187 "BladeRing$Teller" "faultPlace" "I" ∈ wsL_law := wm_1 (i := 218) (by decide +kernel) rfl
theorem ml_X6_draft : Cond.laysFinal RX6 "BladeRing$Teller" "draft" "LBladeRing$Figure;" ∈ wsL_law := wm_1 (i := 219) (by decide +kernel) rfl
theorem ml_X6_starts : Cond.laysFinal RX6 "BladeRing$Teller" "starts" "[I" ∈ wsL_law := wm_1 (i := 221) (by decide +kernel) rfl
theorem ml_X6_times : Cond.laysFinal RX6 "BladeRing$Teller" "times" "[I" ∈ wsL_law := wm_1 (i := 223) (by decide +kernel) rfl
theorem ml_X6_open : Cond.lays RX6 "BladeRing$Teller" "open" "I" ∈ wsL_law := wm_1 (i := 225) (by decide +kernel) rfl
theorem ml_X6_wanted : Cond.lays RX6 "BladeRing$Teller" "wanted" "I" ∈ wsL_law := wm_1 (i := 227) (by decide +kernel) rfl
theorem ml_X6_letter : Cond.lays RX6 "BladeRing$Teller" "letter" "I" ∈ wsL_law := wm_1 (i := 229) (by decide +kernel) rfl
theorem ml_X6_rounds : Cond.lays RX6 "BladeRing$Teller" "rounds" "I" ∈ wsL_law := wm_1 (i := 231) (by decide +kernel) rfl
theorem ml_X6_empty : Cond.lays RX6 "BladeRing$Teller" "empty" "Z" ∈ wsL_law := wm_1 (i := 233) (by decide +kernel) rfl
theorem ml_X6_overlong : Cond.lays RX6 "BladeRing$Teller" "overlong" "Z" ∈ wsL_law := wm_1 (i := 235) (by decide +kernel) rfl
theorem ml_X6_fault : Cond.lays RX6 "BladeRing$Teller" "fault" "I" ∈ wsL_law := wm_1 (i := 237) (by decide +kernel) rfl
theorem ml_X6_faultPlace : Cond.lays RX6 "BladeRing$Teller" "faultPlace" "I" ∈ wsL_law := wm_1 (i := 239) (by decide +kernel) rfl
theorem m_X9_51 : Cond.classLink RX9 51 RX0 ∈ wsL_law := wm_2 (i := 2) (by decide +kernel) rfl
theorem m_X9_57 : Cond.classLink RX9 57 RX7 ∈ wsL_law := wm_2 (i := 4) (by decide +kernel) rfl
theorem m_X9_63 : Cond.classLink RX9 63 RX3 ∈ wsL_law := wm_2 (i := 6) (by decide +kernel) rfl
theorem mj_RX3 : Cond.instantiable RX3 2 ∈ wsL_law := wm_2 (i := 7) (by decide +kernel) rfl
theorem mi_yX3_init : Cond.instanceMethod yX3_init ∈ wsL_law := wm_2 (i := 9) (by decide +kernel) rfl
theorem mc_yX3_init : Cond.code yX3_init cX3_init 1 none ∈ wsL_law := wm_2 (i := 10) (by decide +kernel) rfl
theorem m_X3_3 : Cond.methodLink RX3 3 objectInit ∈ wsL_law := wm_2 (i := 11) (by decide +kernel) rfl
theorem m_X3_9 : Cond.classLink RX3 9 "[[I" ∈ wsL_law := wm_2 (i := 12) (by decide +kernel) rfl
theorem m_X3_16 : Cond.classLink RX3 16 RX7 ∈ wsL_law := wm_2 (i := 14) (by decide +kernel) rfl
theorem mj_RX7 : Cond.instantiable RX7 2 ∈ wsL_law := wm_2 (i := 15) (by decide +kernel) rfl
theorem mi_yX7_init : Cond.instanceMethod yX7_init ∈ wsL_law := wm_2 (i := 17) (by decide +kernel) rfl
theorem mc_yX7_init : Cond.code yX7_init cX7_init 1 none ∈ wsL_law := wm_2 (i := 18) (by decide +kernel) rfl
theorem m_X7_3 : Cond.methodLink RX7 3 objectInit ∈ wsL_law := wm_2 (i := 19) (by decide +kernel) rfl
theorem m_X7_9 : Cond.fieldLink RX7 9 "BladeRing$Village" "figures" "[I" ∈ wsL_law := wm_2 (i := 20) (by decide +kernel) rfl
theorem m_X7_15 : Cond.fieldLink RX7 15 "BladeRing$Village" "length" "I" ∈ wsL_law := wm_2 (i := 21) (by decide +kernel) rfl
theorem m_X3_27 : Cond.fieldLink RX3 27 "BladeRing$Village" "length" "I" ∈ wsL_law := wm_2 (i := 22) (by decide +kernel) rfl
theorem m_X9_258 : Cond.fieldLink RX9 258 "BladeRing$Village" "length" "I" ∈ wsL_law := wm_2 (i := 23) (by decide +kernel) rfl
theorem ml_X7_figures : Cond.laysFinal RX7 "BladeRing$Village" "figures" "[I" ∈ wsL_law := wm_2 (i := 24) (by decide +kernel) rfl
theorem ml_X7_length : Cond.lays RX7 "BladeRing$Village" "length" "I" ∈ wsL_law := wm_2 (i := 26) (by decide +kernel) rfl
theorem m_X3_11 : Cond.fieldLink RX3 11 "BladeRing$Sharing" "lengths" "[[I" ∈ wsL_law := wm_2 (i := 29) (by decide +kernel) rfl
theorem m_X3_19 : Cond.fieldLink RX3 19 "BladeRing$Sharing" "row" "LBladeRing$Village;" ∈ wsL_law := wm_2 (i := 30) (by decide +kernel) rfl
theorem m_X9_269 : Cond.fieldLink RX9 269 "BladeRing$Sharing" "row" "LBladeRing$Village;" ∈ wsL_law := wm_2 (i := 31) (by decide +kernel) rfl
theorem ml_X3_lengths : Cond.laysFinal RX3 "BladeRing$Sharing" "lengths" "[[I" ∈ wsL_law := wm_2 (i := 32) (by decide +kernel) rfl
theorem ml_X3_row : Cond.laysFinal RX3 "BladeRing$Sharing" "row" "LBladeRing$Village;" ∈ wsL_law := wm_2 (i := 34) (by decide +kernel) rfl
theorem m_X9_70 : Cond.classLink RX9 70 RX4 ∈ wsL_law := wm_2 (i := 37) (by decide +kernel) rfl
theorem mj_RX4 : Cond.instantiable RX4 3 ∈ wsL_law := wm_2 (i := 41) (by decide +kernel) rfl
theorem mi_yX4_init : Cond.instanceMethod yX4_init ∈ wsL_law := wm_2 (i := 43) (by decide +kernel) rfl
theorem mc_yX4_init : Cond.code yX4_init cX4_init 1 none ∈ wsL_law := wm_2 (i := 44) (by decide +kernel) rfl
theorem m_X4_3 : Cond.methodLink RX4 3 objectInit ∈ wsL_law := wm_2 (i := 45) (by decide +kernel) rfl
theorem m_X4_9 : Cond.fieldLink RX4 9 "BladeRing$Sheet" "cells" "[I" ∈ wsL_law := wm_2 (i := 46) (by decide +kernel) rfl
theorem m_X4_15 : Cond.fieldLink RX4 15 "BladeRing$Sheet" "lane" "I" ∈ wsL_law := wm_2 (i := 47) (by decide +kernel) rfl
theorem m_X9_289 : Cond.fieldLink RX9 289 "BladeRing$Sheet" "lane" "I" ∈ wsL_law := wm_2 (i := 48) (by decide +kernel) rfl
theorem m_X4_25 : Cond.fieldLink RX4 25 "BladeRing$Sheet" "size" "I" ∈ wsL_law := wm_2 (i := 49) (by decide +kernel) rfl
theorem m_X9_298 : Cond.fieldLink RX9 298 "BladeRing$Sheet" "size" "I" ∈ wsL_law := wm_2 (i := 50) (by decide +kernel) rfl
theorem ml_X4_cells : Cond.laysFinal RX4 "BladeRing$Sheet" "cells" "[I" ∈ wsL_law := wm_2 (i := 51) (by decide +kernel) rfl
theorem ml_X4_lane : Cond.lays RX4 "BladeRing$Sheet" "lane" "I" ∈ wsL_law := wm_2 (i := 53) (by decide +kernel) rfl
theorem ml_X4_size : Cond.lays RX4 "BladeRing$Sheet" "size" "I" ∈ wsL_law := wm_2 (i := 55) (by decide +kernel) rfl
theorem m_X9_10 : Cond.fieldLink RX9 10 "BladeRing" "floor" "LBladeRing$Floor;" ∈ wsL_law := wm_2 (i := 58) (by decide +kernel) rfl
theorem m_X9_16 : Cond.fieldLink RX9 16 "BladeRing" "trial" "LBladeRing$Floor;" ∈ wsL_law := wm_2 (i := 59) (by decide +kernel) rfl
theorem m_X9_22 : Cond.fieldLink RX9 22 "BladeRing" "probe" "LBladeRing$Weave;" ∈ wsL_law := wm_2 (i := 60) (by decide +kernel) rfl
theorem m_X9_26 : Cond.fieldLink RX9 26 "BladeRing" "poses" "[LBladeRing$Weave;" ∈ wsL_law := wm_2 (i := 61) (by decide +kernel) rfl
theorem m_X9_89 : Cond.fieldLink RX9 89 "BladeRing" "poseCount" "I" ∈ wsL_law := wm_2 (i := 62) (by decide +kernel) rfl
theorem m_X9_33 : Cond.fieldLink RX9 33 "BladeRing" "search" "LBladeRing$Search;" ∈ wsL_law := wm_2 (i := 63) (by decide +kernel) rfl
theorem m_X9_40 : Cond.fieldLink RX9 40 "BladeRing" "tape" "LBladeRing$Tape;" ∈ wsL_law := wm_2 (i := 64) (by decide +kernel) rfl
theorem m_X9_47 : Cond.fieldLink RX9 47 "BladeRing" "teller" "LBladeRing$Teller;" ∈ wsL_law := wm_2 (i := 65) (by decide +kernel) rfl
theorem m_X9_53 : Cond.fieldLink RX9 53 "BladeRing" "figures" "[LBladeRing$Figure;" ∈ wsL_law := wm_2 (i := 66) (by decide +kernel) rfl
theorem m_X9_174 : Cond.fieldLink RX9 174 "BladeRing" "figureCount" "I" ∈ wsL_law := wm_2 (i := 67) (by decide +kernel) rfl
theorem m_X9_184 : Cond.fieldLink RX9 184 "BladeRing" "latestFault" "I" ∈ wsL_law := wm_2 (i := 68) (by decide +kernel) rfl
theorem m_X9_218 : Cond.fieldLink RX9 218 "BladeRing" "latestStop" "I" ∈ wsL_law := wm_2 (i := 69) (by decide +kernel) rfl
theorem m_X9_59 : Cond.fieldLink RX9 59 "BladeRing" "villages" "[LBladeRing$Village;" ∈ wsL_law := wm_2 (i := 70) (by decide +kernel) rfl
theorem m_X9_250 : Cond.fieldLink RX9 250 "BladeRing" "villageCount" "I" ∈ wsL_law := wm_2 (i := 71) (by decide +kernel) rfl
theorem m_X9_66 : Cond.fieldLink RX9 66 "BladeRing" "sharing" "LBladeRing$Sharing;" ∈ wsL_law := wm_2 (i := 72) (by decide +kernel) rfl
theorem m_X9_72 : Cond.fieldLink RX9 72 "BladeRing" "sheets" "[LBladeRing$Sheet;" ∈ wsL_law := wm_2 (i := 73) (by decide +kernel) rfl
theorem ml_X9_floor : Cond.laysFinal RX9 "BladeRing" "floor" "LBladeRing$Floor;" ∈ wsL_law := wm_2 (i := 74) (by decide +kernel) rfl
theorem ml_X9_trial : Cond.laysFinal RX9 "BladeRing" "trial" "LBladeRing$Floor;" ∈ wsL_law := wm_2 (i := 76) (by decide +kernel) rfl
theorem ml_X9_probe : Cond.laysFinal RX9 "BladeRing" "probe" "LBladeRing$Weave;" ∈ wsL_law := wm_2 (i := 78) (by decide +kernel) rfl
theorem ml_X9_poses : Cond.laysFinal RX9 "BladeRing" "poses" "[LBladeRing$Weave;" ∈ wsL_law := wm_2 (i := 80) (by decide +kernel) rfl
theorem ml_X9_poseCount : Cond.lays RX9 "BladeRing" "poseCount" "I" ∈ wsL_law := wm_2 (i := 82) (by decide +kernel) rfl
theorem ml_X9_search : Cond.laysFinal RX9 "BladeRing" "search" "LBladeRing$Search;" ∈ wsL_law := wm_2 (i := 84) (by decide +kernel) rfl
theorem ml_X9_tape : Cond.laysFinal RX9 "BladeRing" "tape" "LBladeRing$Tape;" ∈ wsL_law := wm_2 (i := 86) (by decide +kernel) rfl
theorem ml_X9_teller : Cond.laysFinal RX9 "BladeRing" "teller" "LBladeRing$Teller;" ∈ wsL_law := wm_2 (i := 88) (by decide +kernel) rfl
theorem ml_X9_figures : Cond.laysFinal RX9 "BladeRing" "figures" "[LBladeRing$Figure;" ∈ wsL_law := wm_2 (i := 90) (by decide +kernel) rfl
theorem ml_X9_figureCount : Cond.lays RX9 "BladeRing" "figureCount" "I" ∈ wsL_law := wm_2 (i := 92) (by decide +kernel) rfl
theorem ml_X9_latestFault : Cond.lays RX9 "BladeRing" "latestFault" "I" ∈ wsL_law := wm_2 (i := 94) (by decide +kernel) rfl
theorem ml_X9_latestStop : Cond.lays RX9 "BladeRing" "latestStop" "I" ∈ wsL_law := wm_2 (i := 96) (by decide +kernel) rfl
theorem ml_X9_villages : Cond.laysFinal RX9 "BladeRing" "villages" "[LBladeRing$Village;" ∈ wsL_law := wm_2 (i := 98) (by decide +kernel) rfl
theorem ml_X9_villageCount : Cond.lays RX9 "BladeRing" "villageCount" "I" ∈ wsL_law := wm_2 (i := 100) (by decide +kernel) rfl
theorem ml_X9_sharing : Cond.laysFinal RX9 "BladeRing" "sharing" "LBladeRing$Sharing;" ∈ wsL_law := wm_2 (i := 102) (by decide +kernel) rfl
theorem ml_X9_sheets : Cond.laysFinal RX9 "BladeRing" "sheets" "[LBladeRing$Sheet;" ∈ wsL_law := wm_2 (i := 104) (by decide +kernel) rfl
theorem m_L_13 : Cond.methodLink RL 13 yX9_ring ∈ wsL_law := wm_2 (i := 107) (by decide +kernel) rfl
theorem mi_yX9_ring : Cond.instanceMethod yX9_ring ∈ wsL_law := wm_2 (i := 108) (by decide +kernel) rfl
theorem ms_RX9_yX9_ring : Cond.selects RX9 yX9_ring yX9_ring ∈ wsL_law := wm_2 (i := 109) (by decide +kernel) rfl
theorem mc_yX9_ring : Cond.code yX9_ring cX9_ring 2 (some .int) ∈ wsL_law := wm_2 (i := 110) (by decide +kernel) rfl
theorem m_X9_82 : Cond.methodLink RX9 82 yX8_begin ∈ wsL_law := wm_2 (i := 111) (by decide +kernel) rfl
theorem m_X9_86 : Cond.methodLink RX9 86 yX1_forget ∈ wsL_law := wm_2 (i := 112) (by decide +kernel) rfl
theorem mi_yX1_forget : Cond.instanceMethod yX1_forget ∈ wsL_law := wm_2 (i := 113) (by decide +kernel) rfl
theorem ms_RX1_yX1_forget : Cond.selects RX1 yX1_forget yX1_forget ∈ wsL_law := wm_2 (i := 114) (by decide +kernel) rfl
theorem mc_yX1_forget : Cond.code yX1_forget cX1_forget 1 none ∈ wsL_law := wm_2 (i := 115) (by decide +kernel) rfl
theorem m_L_18 : Cond.methodLink RL 18 yX9_act ∈ wsL_law := wm_2 (i := 116) (by decide +kernel) rfl
theorem mi_yX9_act : Cond.instanceMethod yX9_act ∈ wsL_law := wm_2 (i := 117) (by decide +kernel) rfl
theorem ms_RX9_yX9_act : Cond.selects RX9 yX9_act yX9_act ∈ wsL_law := wm_2 (i := 118) (by decide +kernel) rfl
theorem mc_yX9_act : Cond.code yX9_act cX9_act 3 (some .int) ∈ wsL_law := wm_2 (i := 119) (by decide +kernel) rfl
theorem m_X9_93 : Cond.methodLink RX9 93 yX1_attempt ∈ wsL_law := wm_2 (i := 120) (by decide +kernel) rfl
theorem mi_yX1_attempt : Cond.instanceMethod yX1_attempt ∈ wsL_law := wm_2 (i := 121) (by decide +kernel) rfl
theorem ms_RX1_yX1_attempt : Cond.selects RX1 yX1_attempt yX1_attempt ∈ wsL_law := wm_2 (i := 122) (by decide +kernel) rfl
theorem mc_yX1_attempt : Cond.code yX1_attempt cX1_attempt 4 (some .int) ∈ wsL_law := wm_2 (i := 123) (by decide +kernel) rfl
theorem m_X1_29 : Cond.methodLink RX1 29 yX1_rowAt ∈ wsL_law := wm_2 (i := 124) (by decide +kernel) rfl
theorem mi_yX1_rowAt : Cond.instanceMethod yX1_rowAt ∈ wsL_law := wm_2 (i := 125) (by decide +kernel) rfl
theorem ms_RX1_yX1_rowAt : Cond.selects RX1 yX1_rowAt yX1_rowAt ∈ wsL_law := wm_2 (i := 126) (by decide +kernel) rfl
theorem mc_yX1_rowAt : Cond.code yX1_rowAt cX1_rowAt 2 (some (.object "BladeRing$Weave") ) ∈ wsL_law := wm_2 (i := 127) (by decide +kernel) rfl
theorem m_X1_33 : Cond.methodLink RX1 33 yX8_become ∈ wsL_law := wm_2 (i := 128) (by decide +kernel) rfl
theorem mi_yX8_become : Cond.instanceMethod yX8_become ∈ wsL_law := wm_2 (i := 129) (by decide +kernel) rfl
theorem ms_RX8_yX8_become : Cond.selects RX8 yX8_become yX8_become ∈ wsL_law := wm_2 (i := 130) (by decide +kernel) rfl
theorem mc_yX8_become : Cond.code yX8_become cX8_become 2 none ∈ wsL_law := wm_2 (i := 131) (by decide +kernel) rfl
theorem m_X1_37 : Cond.methodLink RX1 37 yX8_change ∈ wsL_law := wm_2 (i := 132) (by decide +kernel) rfl
theorem mi_yX8_change : Cond.instanceMethod yX8_change ∈ wsL_law := wm_2 (i := 133) (by decide +kernel) rfl
theorem ms_RX8_yX8_change : Cond.selects RX8 yX8_change yX8_change ∈ wsL_law := wm_2 (i := 134) (by decide +kernel) rfl
theorem mc_yX8_change : Cond.code yX8_change cX8_change 3 (some .int) ∈ wsL_law := wm_2 (i := 135) (by decide +kernel) rfl
theorem m_X8_59 : Cond.methodLink RX8 59 yX8_pass ∈ wsL_law := wm_2 (i := 136) (by decide +kernel) rfl
theorem mi_yX8_pass : Cond.instanceMethod yX8_pass ∈ wsL_law := wm_2 (i := 137) (by decide +kernel) rfl
theorem ms_RX8_yX8_pass : Cond.selects RX8 yX8_pass yX8_pass ∈ wsL_law := wm_2 (i := 138) (by decide +kernel) rfl
theorem mc_yX8_pass : Cond.code yX8_pass cX8_pass 13 (some .int) ∈ wsL_law := wm_2 (i := 139) (by decide +kernel) rfl
theorem m_X8_75 : Cond.methodLink RX8 75 yX8_next ∈ wsL_law := wm_2 (i := 140) (by decide +kernel) rfl
theorem mi_yX8_next : Cond.instanceMethod yX8_next ∈ wsL_law := wm_2 (i := 141) (by decide +kernel) rfl
theorem ms_RX8_yX8_next : Cond.selects RX8 yX8_next yX8_next ∈ wsL_law := wm_2 (i := 142) (by decide +kernel) rfl
theorem mc_yX8_next : Cond.code yX8_next cX8_next 2 (some .int) ∈ wsL_law := wm_2 (i := 143) (by decide +kernel) rfl
theorem m_X8_63 : Cond.methodLink RX8 63 yX8_dancerAt ∈ wsL_law := wm_2 (i := 144) (by decide +kernel) rfl
theorem mi_yX8_dancerAt : Cond.instanceMethod yX8_dancerAt ∈ wsL_law := wm_2 (i := 145) (by decide +kernel) rfl
theorem ms_RX8_yX8_dancerAt : Cond.selects RX8 yX8_dancerAt yX8_dancerAt ∈ wsL_law := wm_2 (i := 146) (by decide +kernel) rfl
theorem mc_yX8_dancerAt : Cond.code yX8_dancerAt cX8_dancerAt 2 (some .int) ∈ wsL_law := wm_2 (i := 147) (by decide +kernel) rfl
theorem m_X8_78 : Cond.methodLink RX8 78 yX8_previous ∈ wsL_law := wm_2 (i := 148) (by decide +kernel) rfl
theorem mi_yX8_previous : Cond.instanceMethod yX8_previous ∈ wsL_law := wm_2 (i := 149) (by decide +kernel) rfl
theorem ms_RX8_yX8_previous : Cond.selects RX8 yX8_previous yX8_previous ∈ wsL_law := wm_2 (i := 150) (by decide +kernel) rfl
theorem mc_yX8_previous : Cond.code yX8_previous cX8_previous 2 (some .int) ∈ wsL_law := wm_2 (i := 151) (by decide +kernel) rfl
theorem m_X8_81 : Cond.methodLink RX8 81 yX8_canCross ∈ wsL_law := wm_2 (i := 152) (by decide +kernel) rfl
theorem mi_yX8_canCross : Cond.instanceMethod yX8_canCross ∈ wsL_law := wm_2 (i := 153) (by decide +kernel) rfl
theorem ms_RX8_yX8_canCross : Cond.selects RX8 yX8_canCross yX8_canCross ∈ wsL_law := wm_2 (i := 154) (by decide +kernel) rfl
theorem mc_yX8_canCross : Cond.code yX8_canCross cX8_canCross 4 (some .boolean) ∈ wsL_law := wm_2 (i := 155) (by decide +kernel) rfl
theorem m_X8_84 : Cond.methodLink RX8 84 Lib.Math.abs.name ∈ wsL_law := wm_2 (i := 156) (by decide +kernel) rfl
theorem mt_Lib_Math_abs_name : Cond.static Lib.Math.abs.name ∈ wsL_law := wm_2 (i := 157) (by decide +kernel) rfl
theorem mc_Lib_Math_abs_name : Cond.code Lib.Math.abs.name Lib.Math.abs.code 1 (some .int) ∈ wsL_law := wm_2 (i := 158) (by decide +kernel) rfl
theorem m_X8_51 : Cond.methodLink RX8 51 yX8_overBit ∈ wsL_law := wm_2 (i := 159) (by decide +kernel) rfl
theorem mi_yX8_overBit : Cond.instanceMethod yX8_overBit ∈ wsL_law := wm_2 (i := 160) (by decide +kernel) rfl
theorem ms_RX8_yX8_overBit : Cond.selects RX8 yX8_overBit yX8_overBit ∈ wsL_law := wm_2 (i := 161) (by decide +kernel) rfl
theorem mc_yX8_overBit : Cond.code yX8_overBit cX8_overBit 3 (some .long) ∈ wsL_law := wm_2 (i := 162) (by decide +kernel) rfl
theorem m_X8_66 : Cond.methodLink RX8 66 yX8_withinRing ∈ wsL_law := wm_2 (i := 163) (by decide +kernel) rfl
theorem mi_yX8_withinRing : Cond.instanceMethod yX8_withinRing ∈ wsL_law := wm_2 (i := 164) (by decide +kernel) rfl
theorem ms_RX8_yX8_withinRing : Cond.selects RX8 yX8_withinRing yX8_withinRing ∈ wsL_law := wm_2 (i := 165) (by decide +kernel) rfl
theorem mc_yX8_withinRing : Cond.code yX8_withinRing cX8_withinRing 2 (some .int) ∈ wsL_law := wm_2 (i := 166) (by decide +kernel) rfl
theorem m_X8_47 : Cond.methodLink RX8 47 yX8_seatsAfter ∈ wsL_law := wm_2 (i := 167) (by decide +kernel) rfl
theorem mi_yX8_seatsAfter : Cond.instanceMethod yX8_seatsAfter ∈ wsL_law := wm_2 (i := 168) (by decide +kernel) rfl
theorem ms_RX8_yX8_seatsAfter : Cond.selects RX8 yX8_seatsAfter yX8_seatsAfter ∈ wsL_law := wm_2 (i := 169) (by decide +kernel) rfl
theorem mc_yX8_seatsAfter : Cond.code yX8_seatsAfter cX8_seatsAfter 2 (some .long) ∈ wsL_law := wm_2 (i := 170) (by decide +kernel) rfl
theorem m_X8_69 : Cond.methodLink RX8 69 yX8_letGo ∈ wsL_law := wm_2 (i := 171) (by decide +kernel) rfl
theorem mi_yX8_letGo : Cond.instanceMethod yX8_letGo ∈ wsL_law := wm_2 (i := 172) (by decide +kernel) rfl
theorem ms_RX8_yX8_letGo : Cond.selects RX8 yX8_letGo yX8_letGo ∈ wsL_law := wm_2 (i := 173) (by decide +kernel) rfl
theorem mc_yX8_letGo : Cond.code yX8_letGo cX8_letGo 2 (some .int) ∈ wsL_law := wm_2 (i := 174) (by decide +kernel) rfl
theorem m_X8_89 : Cond.constantLong RX8 89 (255) ∈ wsL_law := wm_2 (i := 175) (by decide +kernel) rfl
theorem m_X8_91 : Cond.constantLong RX8 91 (72340172838076673) ∈ wsL_law := wm_2 (i := 176) (by decide +kernel) rfl
theorem m_X8_93 : Cond.constantLong RX8 93 (-1) ∈ wsL_law := wm_2 (i := 177) (by decide +kernel) rfl
theorem m_X8_72 : Cond.methodLink RX8 72 yX8_takeUp ∈ wsL_law := wm_2 (i := 178) (by decide +kernel) rfl
theorem mi_yX8_takeUp : Cond.instanceMethod yX8_takeUp ∈ wsL_law := wm_2 (i := 179) (by decide +kernel) rfl
theorem ms_RX8_yX8_takeUp : Cond.selects RX8 yX8_takeUp yX8_takeUp ∈ wsL_law := wm_2 (i := 180) (by decide +kernel) rfl
theorem mc_yX8_takeUp : Cond.code yX8_takeUp cX8_takeUp 3 (some .int) ∈ wsL_law := wm_2 (i := 181) (by decide +kernel) rfl
theorem m_X8_43 : Cond.methodLink RX8 43 yX8_placeOf ∈ wsL_law := wm_2 (i := 182) (by decide +kernel) rfl
theorem mi_yX8_placeOf : Cond.instanceMethod yX8_placeOf ∈ wsL_law := wm_2 (i := 183) (by decide +kernel) rfl
theorem ms_RX8_yX8_placeOf : Cond.selects RX8 yX8_placeOf yX8_placeOf ∈ wsL_law := wm_2 (i := 184) (by decide +kernel) rfl
theorem mc_yX8_placeOf : Cond.code yX8_placeOf cX8_placeOf 3 (some .int) ∈ wsL_law := wm_2 (i := 185) (by decide +kernel) rfl
theorem m_X8_41 : Cond.constantLong RX8 41 (15) ∈ wsL_law := wm_2 (i := 186) (by decide +kernel) rfl
theorem m_X8_95 : Cond.methodLink RX8 95 yX8_stepsUp ∈ wsL_law := wm_2 (i := 187) (by decide +kernel) rfl
theorem mi_yX8_stepsUp : Cond.instanceMethod yX8_stepsUp ∈ wsL_law := wm_2 (i := 188) (by decide +kernel) rfl
theorem ms_RX8_yX8_stepsUp : Cond.selects RX8 yX8_stepsUp yX8_stepsUp ∈ wsL_law := wm_2 (i := 189) (by decide +kernel) rfl
theorem mc_yX8_stepsUp : Cond.code yX8_stepsUp cX8_stepsUp 3 (some .int) ∈ wsL_law := wm_2 (i := 190) (by decide +kernel) rfl
theorem m_X1_41 : Cond.methodLink RX1 41 Lib.Math.min.name ∈ wsL_law := wm_2 (i := 191) (by decide +kernel) rfl
theorem mt_Lib_Math_min_name : Cond.static Lib.Math.min.name ∈ wsL_law := wm_2 (i := 192) (by decide +kernel) rfl
theorem mc_Lib_Math_min_name : Cond.code Lib.Math.min.name Lib.Math.min.code 2 (some .int) ∈ wsL_law := wm_2 (i := 193) (by decide +kernel) rfl
theorem m_L_23 : Cond.methodLink RL 23 yX9_undo ∈ wsL_law := wm_2 (i := 194) (by decide +kernel) rfl
theorem mi_yX9_undo : Cond.instanceMethod yX9_undo ∈ wsL_law := wm_2 (i := 195) (by decide +kernel) rfl
theorem ms_RX9_yX9_undo : Cond.selects RX9 yX9_undo yX9_undo ∈ wsL_law := wm_2 (i := 196) (by decide +kernel) rfl
theorem mc_yX9_undo : Cond.code yX9_undo cX9_undo 1 (some .int) ∈ wsL_law := wm_2 (i := 197) (by decide +kernel) rfl
theorem m_X9_97 : Cond.methodLink RX9 97 yX1_takeBack ∈ wsL_law := wm_2 (i := 198) (by decide +kernel) rfl
theorem mi_yX1_takeBack : Cond.instanceMethod yX1_takeBack ∈ wsL_law := wm_2 (i := 199) (by decide +kernel) rfl
theorem ms_RX1_yX1_takeBack : Cond.selects RX1 yX1_takeBack yX1_takeBack ∈ wsL_law := wm_2 (i := 200) (by decide +kernel) rfl
theorem mc_yX1_takeBack : Cond.code yX1_takeBack cX1_takeBack 1 (some .int) ∈ wsL_law := wm_2 (i := 201) (by decide +kernel) rfl
theorem m_L_28 : Cond.methodLink RL 28 yX9_place ∈ wsL_law := wm_2 (i := 202) (by decide +kernel) rfl
theorem mi_yX9_place : Cond.instanceMethod yX9_place ∈ wsL_law := wm_2 (i := 203) (by decide +kernel) rfl
theorem ms_RX9_yX9_place : Cond.selects RX9 yX9_place yX9_place ∈ wsL_law := wm_2 (i := 204) (by decide +kernel) rfl
theorem mc_yX9_place : Cond.code yX9_place cX9_place 4 (some .int) ∈ wsL_law := wm_2 (i := 205) (by decide +kernel) rfl
theorem m_X9_104 : Cond.methodLink RX9 104 yX8_dancerAt ∈ wsL_law := wm_2 (i := 206) (by decide +kernel) rfl
theorem m_L_32 : Cond.methodLink RL 32 yX9_blade ∈ wsL_law := wm_2 (i := 207) (by decide +kernel) rfl
theorem mi_yX9_blade : Cond.instanceMethod yX9_blade ∈ wsL_law := wm_2 (i := 208) (by decide +kernel) rfl
theorem ms_RX9_yX9_blade : Cond.selects RX9 yX9_blade yX9_blade ∈ wsL_law := wm_2 (i := 209) (by decide +kernel) rfl
theorem mc_yX9_blade : Cond.code yX9_blade cX9_blade 4 (some .int) ∈ wsL_law := wm_2 (i := 210) (by decide +kernel) rfl
theorem m_X9_114 : Cond.methodLink RX9 114 yX8_thoseBelow ∈ wsL_law := wm_2 (i := 211) (by decide +kernel) rfl
theorem mi_yX8_thoseBelow : Cond.instanceMethod yX8_thoseBelow ∈ wsL_law := wm_2 (i := 212) (by decide +kernel) rfl
theorem ms_RX8_yX8_thoseBelow : Cond.selects RX8 yX8_thoseBelow yX8_thoseBelow ∈ wsL_law := wm_2 (i := 213) (by decide +kernel) rfl
theorem mc_yX8_thoseBelow : Cond.code yX8_thoseBelow cX8_thoseBelow 2 (some .int) ∈ wsL_law := wm_2 (i := 214) (by decide +kernel) rfl
theorem m_X9_117 : Cond.methodLink RX9 117 yJ6_bitCount_0f7a4 ∈ wsL_law := wm_2 (i := 215) (by decide +kernel) rfl
theorem mt_yJ6_bitCount_0f7a4 : Cond.static yJ6_bitCount_0f7a4 ∈ wsL_law := wm_2 (i := 216) (by decide +kernel) rfl
theorem mc_yJ6_bitCount_0f7a4 : Cond.code yJ6_bitCount_0f7a4 cJ6_bitCount_0f7a4 1 (some .int) ∈ wsL_law := wm_2 (i := 217) (by decide +kernel) rfl
theorem m_J6_265 : Cond.constant RJ6 265 (1431655765) ∈ wsL_law := wm_2 (i := 218) (by decide +kernel) rfl
theorem m_J6_266 : Cond.constant RJ6 266 (858993459) ∈ wsL_law := wm_2 (i := 219) (by decide +kernel) rfl
theorem m_J6_267 : Cond.constant RJ6 267 (252645135) ∈ wsL_law := wm_2 (i := 220) (by decide +kernel) rfl
theorem m_X9_122 : Cond.methodLink RX9 122 yX8_thoseAbove ∈ wsL_law := wm_2 (i := 221) (by decide +kernel) rfl
theorem mi_yX8_thoseAbove : Cond.instanceMethod yX8_thoseAbove ∈ wsL_law := wm_2 (i := 222) (by decide +kernel) rfl
theorem ms_RX8_yX8_thoseAbove : Cond.selects RX8 yX8_thoseAbove yX8_thoseAbove ∈ wsL_law := wm_2 (i := 223) (by decide +kernel) rfl
theorem mc_yX8_thoseAbove : Cond.code yX8_thoseAbove cX8_thoseAbove 4 (some .int) ∈ wsL_law := wm_2 (i := 224) (by decide +kernel) rfl
theorem m_X8_55 : Cond.methodLink RX8 55 yX8_lies ∈ wsL_law := wm_2 (i := 225) (by decide +kernel) rfl
theorem mi_yX8_lies : Cond.instanceMethod yX8_lies ∈ wsL_law := wm_2 (i := 226) (by decide +kernel) rfl
theorem ms_RX8_yX8_lies : Cond.selects RX8 yX8_lies yX8_lies ∈ wsL_law := wm_2 (i := 227) (by decide +kernel) rfl
theorem mc_yX8_lies : Cond.code yX8_lies cX8_lies 3 (some .boolean) ∈ wsL_law := wm_2 (i := 228) (by decide +kernel) rfl
theorem m_X9_125 : Cond.methodLink RX9 125 yX8_layerOf ∈ wsL_law := wm_2 (i := 229) (by decide +kernel) rfl
theorem mi_yX8_layerOf : Cond.instanceMethod yX8_layerOf ∈ wsL_law := wm_2 (i := 230) (by decide +kernel) rfl
theorem ms_RX8_yX8_layerOf : Cond.selects RX8 yX8_layerOf yX8_layerOf ∈ wsL_law := wm_2 (i := 231) (by decide +kernel) rfl
theorem mc_yX8_layerOf : Cond.code yX8_layerOf cX8_layerOf 5 (some .int) ∈ wsL_law := wm_2 (i := 232) (by decide +kernel) rfl
theorem m_X8_105 : Cond.methodLink RX8 105 yX8_freeOf ∈ wsL_law := wm_2 (i := 233) (by decide +kernel) rfl
theorem mi_yX8_freeOf : Cond.instanceMethod yX8_freeOf ∈ wsL_law := wm_2 (i := 234) (by decide +kernel) rfl
theorem ms_RX8_yX8_freeOf : Cond.selects RX8 yX8_freeOf yX8_freeOf ∈ wsL_law := wm_2 (i := 235) (by decide +kernel) rfl
theorem mc_yX8_freeOf : Cond.code yX8_freeOf cX8_freeOf 4 (some .int) ∈ wsL_law := wm_2 (i := 236) (by decide +kernel) rfl
theorem m_X8_102 : Cond.methodLink RX8 102 yX8_thoseAbove ∈ wsL_law := wm_2 (i := 237) (by decide +kernel) rfl
theorem m_L_36 : Cond.methodLink RL 36 yX9_over ∈ wsL_law := wm_2 (i := 238) (by decide +kernel) rfl
theorem mi_yX9_over : Cond.instanceMethod yX9_over ∈ wsL_law := wm_2 (i := 239) (by decide +kernel) rfl
theorem ms_RX9_yX9_over : Cond.selects RX9 yX9_over yX9_over ∈ wsL_law := wm_3 (i := 0) (by decide +kernel) rfl
theorem mc_yX9_over : Cond.code yX9_over cX9_over 4 (some .int) ∈ wsL_law := wm_3 (i := 1) (by decide +kernel) rfl
theorem m_X9_128 : Cond.methodLink RX9 128 yX8_lies ∈ wsL_law := wm_3 (i := 2) (by decide +kernel) rfl
theorem m_L_40 : Cond.methodLink RL 40 yX9_about ∈ wsL_law := wm_3 (i := 3) (by decide +kernel) rfl
theorem mi_yX9_about : Cond.instanceMethod yX9_about ∈ wsL_law := wm_3 (i := 4) (by decide +kernel) rfl
theorem ms_RX9_yX9_about : Cond.selects RX9 yX9_about yX9_about ∈ wsL_law := wm_3 (i := 5) (by decide +kernel) rfl
theorem mc_yX9_about : Cond.code yX9_about cX9_about 3 (some .int) ∈ wsL_law := wm_3 (i := 6) (by decide +kernel) rfl
theorem m_X9_136 : Cond.methodLink RX9 136 yJ13_bitCount_95d88 ∈ wsL_law := wm_3 (i := 7) (by decide +kernel) rfl
theorem mt_yJ13_bitCount_95d88 : Cond.static yJ13_bitCount_95d88 ∈ wsL_law := wm_3 (i := 8) (by decide +kernel) rfl
theorem mc_yJ13_bitCount_95d88 : Cond.code yJ13_bitCount_95d88 cJ13_bitCount_95d88 2 (some .int) ∈ wsL_law := wm_3 (i := 9) (by decide +kernel) rfl
theorem m_J13_314 : Cond.constantLong RJ13 314 (6148914691236517205) ∈ wsL_law := wm_3 (i := 10) (by decide +kernel) rfl
theorem m_J13_316 : Cond.constantLong RJ13 316 (3689348814741910323) ∈ wsL_law := wm_3 (i := 11) (by decide +kernel) rfl
theorem m_J13_318 : Cond.constantLong RJ13 318 (1085102592571150095) ∈ wsL_law := wm_3 (i := 12) (by decide +kernel) rfl
theorem m_X9_141 : Cond.methodLink RX9 141 yX8_isLock ∈ wsL_law := wm_3 (i := 13) (by decide +kernel) rfl
theorem mi_yX8_isLock : Cond.instanceMethod yX8_isLock ∈ wsL_law := wm_3 (i := 14) (by decide +kernel) rfl
theorem ms_RX8_yX8_isLock : Cond.selects RX8 yX8_isLock yX8_isLock ∈ wsL_law := wm_3 (i := 15) (by decide +kernel) rfl
theorem mc_yX8_isLock : Cond.code yX8_isLock cX8_isLock 2 (some .boolean) ∈ wsL_law := wm_3 (i := 16) (by decide +kernel) rfl
theorem m_X8_99 : Cond.methodLink RX8 99 yX8_thoseBelow ∈ wsL_law := wm_3 (i := 17) (by decide +kernel) rfl
theorem m_X9_145 : Cond.methodLink RX9 145 yX8_layers ∈ wsL_law := wm_3 (i := 18) (by decide +kernel) rfl
theorem mi_yX8_layers : Cond.instanceMethod yX8_layers ∈ wsL_law := wm_3 (i := 19) (by decide +kernel) rfl
theorem ms_RX8_yX8_layers : Cond.selects RX8 yX8_layers yX8_layers ∈ wsL_law := wm_3 (i := 20) (by decide +kernel) rfl
theorem mc_yX8_layers : Cond.code yX8_layers cX8_layers 4 (some .int) ∈ wsL_law := wm_3 (i := 21) (by decide +kernel) rfl
theorem m_X9_148 : Cond.methodLink RX9 148 yX8_bound ∈ wsL_law := wm_3 (i := 22) (by decide +kernel) rfl
theorem mi_yX8_bound : Cond.instanceMethod yX8_bound ∈ wsL_law := wm_3 (i := 23) (by decide +kernel) rfl
theorem ms_RX8_yX8_bound : Cond.selects RX8 yX8_bound yX8_bound ∈ wsL_law := wm_3 (i := 24) (by decide +kernel) rfl
theorem mc_yX8_bound : Cond.code yX8_bound cX8_bound 3 (some .int) ∈ wsL_law := wm_3 (i := 25) (by decide +kernel) rfl
theorem m_X9_151 : Cond.methodLink RX9 151 yX8_star ∈ wsL_law := wm_3 (i := 26) (by decide +kernel) rfl
theorem mi_yX8_star : Cond.instanceMethod yX8_star ∈ wsL_law := wm_3 (i := 27) (by decide +kernel) rfl
theorem ms_RX8_yX8_star : Cond.selects RX8 yX8_star yX8_star ∈ wsL_law := wm_3 (i := 28) (by decide +kernel) rfl
theorem mc_yX8_star : Cond.code yX8_star cX8_star 3 (some .int) ∈ wsL_law := wm_3 (i := 29) (by decide +kernel) rfl
theorem m_X9_154 : Cond.methodLink RX9 154 yX8_turns ∈ wsL_law := wm_3 (i := 30) (by decide +kernel) rfl
theorem mi_yX8_turns : Cond.instanceMethod yX8_turns ∈ wsL_law := wm_3 (i := 31) (by decide +kernel) rfl
theorem ms_RX8_yX8_turns : Cond.selects RX8 yX8_turns yX8_turns ∈ wsL_law := wm_3 (i := 32) (by decide +kernel) rfl
theorem mc_yX8_turns : Cond.code yX8_turns cX8_turns 7 (some .int) ∈ wsL_law := wm_3 (i := 33) (by decide +kernel) rfl
theorem m_L_44 : Cond.methodLink RL 44 yX9_can ∈ wsL_law := wm_3 (i := 34) (by decide +kernel) rfl
theorem mi_yX9_can : Cond.instanceMethod yX9_can ∈ wsL_law := wm_3 (i := 35) (by decide +kernel) rfl
theorem ms_RX9_yX9_can : Cond.selects RX9 yX9_can yX9_can ∈ wsL_law := wm_3 (i := 36) (by decide +kernel) rfl
theorem mc_yX9_can : Cond.code yX9_can cX9_can 4 (some .int) ∈ wsL_law := wm_3 (i := 37) (by decide +kernel) rfl
theorem m_X9_160 : Cond.methodLink RX9 160 yX8_become ∈ wsL_law := wm_3 (i := 38) (by decide +kernel) rfl
theorem m_X9_164 : Cond.methodLink RX9 164 yX8_change ∈ wsL_law := wm_3 (i := 39) (by decide +kernel) rfl
theorem m_L_50 : Cond.methodLink RL 50 yX9_feed ∈ wsL_law := wm_3 (i := 40) (by decide +kernel) rfl
theorem mi_yX9_feed : Cond.instanceMethod yX9_feed ∈ wsL_law := wm_3 (i := 41) (by decide +kernel) rfl
theorem ms_RX9_yX9_feed : Cond.selects RX9 yX9_feed yX9_feed ∈ wsL_law := wm_3 (i := 42) (by decide +kernel) rfl
theorem mc_yX9_feed : Cond.code yX9_feed cX9_feed 3 (some .int) ∈ wsL_law := wm_3 (i := 43) (by decide +kernel) rfl
theorem m_X9_167 : Cond.methodLink RX9 167 yX5_append ∈ wsL_law := wm_3 (i := 44) (by decide +kernel) rfl
theorem mi_yX5_append : Cond.instanceMethod yX5_append ∈ wsL_law := wm_3 (i := 45) (by decide +kernel) rfl
theorem ms_RX5_yX5_append : Cond.selects RX5 yX5_append yX5_append ∈ wsL_law := wm_3 (i := 46) (by decide +kernel) rfl
theorem mc_yX5_append : Cond.code yX5_append cX5_append 4 (some .boolean) ∈ wsL_law := wm_3 (i := 47) (by decide +kernel) rfl
theorem m_L_55 : Cond.methodLink RL 55 yX9_end ∈ wsL_law := wm_3 (i := 48) (by decide +kernel) rfl
theorem mi_yX9_end : Cond.instanceMethod yX9_end ∈ wsL_law := wm_3 (i := 49) (by decide +kernel) rfl
theorem ms_RX9_yX9_end : Cond.selects RX9 yX9_end yX9_end ∈ wsL_law := wm_3 (i := 50) (by decide +kernel) rfl
theorem mc_yX9_end : Cond.code yX9_end cX9_end 3 (some .int) ∈ wsL_law := wm_3 (i := 51) (by decide +kernel) rfl
theorem m_L_59 : Cond.methodLink RL 59 yX9_figure ∈ wsL_law := wm_3 (i := 52) (by decide +kernel) rfl
theorem mi_yX9_figure : Cond.instanceMethod yX9_figure ∈ wsL_law := wm_3 (i := 53) (by decide +kernel) rfl
theorem ms_RX9_yX9_figure : Cond.selects RX9 yX9_figure yX9_figure ∈ wsL_law := wm_3 (i := 54) (by decide +kernel) rfl
theorem mc_yX9_figure : Cond.code yX9_figure cX9_figure 1 (some .int) ∈ wsL_law := wm_3 (i := 55) (by decide +kernel) rfl
theorem m_X9_177 : Cond.methodLink RX9 177 yX6_tell ∈ wsL_law := wm_3 (i := 56) (by decide +kernel) rfl
theorem mi_yX6_tell : Cond.instanceMethod yX6_tell ∈ wsL_law := wm_3 (i := 57) (by decide +kernel) rfl
theorem ms_RX6_yX6_tell : Cond.selects RX6 yX6_tell yX6_tell ∈ wsL_law := wm_3 (i := 58) (by decide +kernel) rfl
theorem mc_yX6_tell : Cond.code yX6_tell cX6_tell 5 none ∈ wsL_law := wm_3 (i := 59) (by decide +kernel) rfl
theorem m_X6_25 : Cond.methodLink RX6 25 yX6_begin ∈ wsL_law := wm_3 (i := 60) (by decide +kernel) rfl
theorem mi_yX6_begin : Cond.instanceMethod yX6_begin ∈ wsL_law := wm_3 (i := 61) (by decide +kernel) rfl
theorem ms_RX6_yX6_begin : Cond.selects RX6 yX6_begin yX6_begin ∈ wsL_law := wm_3 (i := 62) (by decide +kernel) rfl
theorem mc_yX6_begin : Cond.code yX6_begin cX6_begin 1 none ∈ wsL_law := wm_3 (i := 63) (by decide +kernel) rfl
theorem m_X6_28 : Cond.methodLink RX6 28 yX5_rewind ∈ wsL_law := wm_3 (i := 64) (by decide +kernel) rfl
theorem mi_yX5_rewind : Cond.instanceMethod yX5_rewind ∈ wsL_law := wm_3 (i := 65) (by decide +kernel) rfl
theorem ms_RX5_yX5_rewind : Cond.selects RX5 yX5_rewind yX5_rewind ∈ wsL_law := wm_3 (i := 66) (by decide +kernel) rfl
theorem mc_yX5_rewind : Cond.code yX5_rewind cX5_rewind 1 none ∈ wsL_law := wm_3 (i := 67) (by decide +kernel) rfl
theorem m_X6_33 : Cond.methodLink RX6 33 yX5_readToken ∈ wsL_law := wm_3 (i := 68) (by decide +kernel) rfl
theorem mi_yX5_readToken : Cond.instanceMethod yX5_readToken ∈ wsL_law := wm_3 (i := 69) (by decide +kernel) rfl
theorem ms_RX5_yX5_readToken : Cond.selects RX5 yX5_readToken yX5_readToken ∈ wsL_law := wm_3 (i := 70) (by decide +kernel) rfl
theorem mc_yX5_readToken : Cond.code yX5_readToken cX5_readToken 2 none ∈ wsL_law := wm_3 (i := 71) (by decide +kernel) rfl
theorem m_X5_22 : Cond.methodLink RX5 22 yX5_byteAt ∈ wsL_law := wm_3 (i := 72) (by decide +kernel) rfl
theorem mi_yX5_byteAt : Cond.instanceMethod yX5_byteAt ∈ wsL_law := wm_3 (i := 73) (by decide +kernel) rfl
theorem ms_RX5_yX5_byteAt : Cond.selects RX5 yX5_byteAt yX5_byteAt ∈ wsL_law := wm_3 (i := 74) (by decide +kernel) rfl
theorem mc_yX5_byteAt : Cond.code yX5_byteAt cX5_byteAt 2 (some .int) ∈ wsL_law := wm_3 (i := 75) (by decide +kernel) rfl
theorem m_X5_29 : Cond.methodLink RX5 29 yX5_isDigit ∈ wsL_law := wm_3 (i := 76) (by decide +kernel) rfl
theorem mi_yX5_isDigit : Cond.instanceMethod yX5_isDigit ∈ wsL_law := wm_3 (i := 77) (by decide +kernel) rfl
theorem ms_RX5_yX5_isDigit : Cond.selects RX5 yX5_isDigit yX5_isDigit ∈ wsL_law := wm_3 (i := 78) (by decide +kernel) rfl
theorem mc_yX5_isDigit : Cond.code yX5_isDigit cX5_isDigit 2 (some .boolean) ∈ wsL_law := wm_3 (i := 79) (by decide +kernel) rfl
theorem m_X5_33 : Cond.methodLink RX5 33 yX5_readNumber ∈ wsL_law := wm_3 (i := 80) (by decide +kernel) rfl
theorem mi_yX5_readNumber : Cond.instanceMethod yX5_readNumber ∈ wsL_law := wm_3 (i := 81) (by decide +kernel) rfl
theorem ms_RX5_yX5_readNumber : Cond.selects RX5 yX5_readNumber yX5_readNumber ∈ wsL_law := wm_3 (i := 82) (by decide +kernel) rfl
theorem mc_yX5_readNumber : Cond.code yX5_readNumber cX5_readNumber 3 none ∈ wsL_law := wm_3 (i := 83) (by decide +kernel) rfl
theorem m_X5_41 : Cond.methodLink RX5 41 yJ0_indexOf_0f7a4 ∈ wsL_law := wm_3 (i := 85) (by decide +kernel) rfl
theorem mi_yJ0_indexOf_0f7a4 : Cond.instanceMethod yJ0_indexOf_0f7a4 ∈ wsL_law := wm_3 (i := 86) (by decide +kernel) rfl
theorem ms_RJ0_yJ0_indexOf_0f7a4 : Cond.selects RJ0 yJ0_indexOf_0f7a4 yJ0_indexOf_0f7a4 ∈ wsL_law := wm_3 (i := 87) (by decide +kernel) rfl
theorem mc_yJ0_indexOf_0f7a4 : Cond.code yJ0_indexOf_0f7a4 cJ0_indexOf_0f7a4 2 (some .int) ∈ wsL_law := wm_3 (i := 88) (by decide +kernel) rfl
theorem m_J0_633 : Cond.methodLink RJ0 633 yJ0_indexOf_7cf53 ∈ wsL_law := wm_3 (i := 89) (by decide +kernel) rfl
theorem mi_yJ0_indexOf_7cf53 : Cond.instanceMethod yJ0_indexOf_7cf53 ∈ wsL_law := wm_3 (i := 90) (by decide +kernel) rfl
theorem ms_RJ0_yJ0_indexOf_7cf53 : Cond.selects RJ0 yJ0_indexOf_7cf53 yJ0_indexOf_7cf53 ∈ wsL_law := wm_3 (i := 91) (by decide +kernel) rfl
theorem mc_yJ0_indexOf_7cf53 : Cond.code yJ0_indexOf_7cf53 cJ0_indexOf_7cf53 3 (some .int) ∈ wsL_law := wm_3 (i := 92) (by decide +kernel) rfl
theorem m_J0_492 : Cond.methodLink RJ0 492 yJ0_isLatin1_aae02 ∈ wsL_law := wm_3 (i := 93) (by decide +kernel) rfl
theorem mi_yJ0_isLatin1_aae02 : Cond.instanceMethod yJ0_isLatin1_aae02 ∈ wsL_law := wm_3 (i := 94) (by decide +kernel) rfl
theorem ms_RJ0_yJ0_isLatin1_aae02 : Cond.selects RJ0 yJ0_isLatin1_aae02 yJ0_isLatin1_aae02 ∈ wsL_law := wm_3 (i := 95) (by decide +kernel) rfl
theorem mc_yJ0_isLatin1_aae02 : Cond.code yJ0_isLatin1_aae02 cJ0_isLatin1_aae02 1 (some .boolean) ∈ wsL_law := wm_3 (i := 96) (by decide +kernel) rfl
theorem m_J0_38 : Cond.fieldLink RJ0 38 "java/lang/String" "COMPACT_STRINGS" "Z" ∈ wsL_law := wm_3 (i := 97) (by decide +kernel) rfl
theorem m_J0_505 : Cond.methodLink RJ0 505 yJ0_length_8abf5 ∈ wsL_law := wm_3 (i := 99) (by decide +kernel) rfl
theorem mi_yJ0_length_8abf5 : Cond.instanceMethod yJ0_length_8abf5 ∈ wsL_law := wm_3 (i := 100) (by decide +kernel) rfl
theorem ms_RJ0_yJ0_length_8abf5 : Cond.selects RJ0 yJ0_length_8abf5 yJ0_length_8abf5 ∈ wsL_law := wm_3 (i := 101) (by decide +kernel) rfl
theorem mc_yJ0_length_8abf5 : Cond.code yJ0_length_8abf5 cJ0_length_8abf5 1 (some .int) ∈ wsL_law := wm_3 (i := 102) (by decide +kernel) rfl
theorem m_J0_335 : Cond.methodLink RJ0 335 yJ0_coder_7d493 ∈ wsL_law := wm_3 (i := 103) (by decide +kernel) rfl
theorem mi_yJ0_coder_7d493 : Cond.instanceMethod yJ0_coder_7d493 ∈ wsL_law := wm_3 (i := 104) (by decide +kernel) rfl
theorem ms_RJ0_yJ0_coder_7d493 : Cond.selects RJ0 yJ0_coder_7d493 yJ0_coder_7d493 ∈ wsL_law := wm_3 (i := 105) (by decide +kernel) rfl
theorem mc_yJ0_coder_7d493 : Cond.code yJ0_coder_7d493 cJ0_coder_7d493 1 (some .byte) ∈ wsL_law := wm_3 (i := 106) (by decide +kernel) rfl
theorem m_J0_637 : Cond.methodLink RJ0 637 yJ1_indexOf_4cfef ∈ wsL_law := wm_3 (i := 107) (by decide +kernel) rfl
theorem mt_yJ1_indexOf_4cfef : Cond.static yJ1_indexOf_4cfef ∈ wsL_law := wm_3 (i := 108) (by decide +kernel) rfl
theorem mc_yJ1_indexOf_4cfef : Cond.code yJ1_indexOf_4cfef cJ1_indexOf_4cfef 4 (some .int) ∈ wsL_law := wm_3 (i := 109) (by decide +kernel) rfl
theorem m_J1_88 : Cond.methodLink RJ1 88 yJ1_canEncode_9a6ad ∈ wsL_law := wm_3 (i := 110) (by decide +kernel) rfl
theorem mt_yJ1_canEncode_9a6ad : Cond.static yJ1_canEncode_9a6ad ∈ wsL_law := wm_3 (i := 111) (by decide +kernel) rfl
theorem mc_yJ1_canEncode_9a6ad : Cond.code yJ1_canEncode_9a6ad cJ1_canEncode_9a6ad 1 (some .boolean) ∈ wsL_law := wm_3 (i := 112) (by decide +kernel) rfl
theorem m_J1_92 : Cond.methodLink RJ1 92 Lib.Math.max.name ∈ wsL_law := wm_3 (i := 113) (by decide +kernel) rfl
theorem mt_Lib_Math_max_name : Cond.static Lib.Math.max.name ∈ wsL_law := wm_3 (i := 114) (by decide +kernel) rfl
theorem mc_Lib_Math_max_name : Cond.code Lib.Math.max.name Lib.Math.max.code 2 (some .int) ∈ wsL_law := wm_3 (i := 115) (by decide +kernel) rfl
theorem m_J1_38 : Cond.methodLink RJ1 38 Lib.Math.min.name ∈ wsL_law := wm_3 (i := 116) (by decide +kernel) rfl
theorem m_J1_95 : Cond.methodLink RJ1 95 yJ1_indexOfChar_4cfef ∈ wsL_law := wm_3 (i := 117) (by decide +kernel) rfl
theorem mt_yJ1_indexOfChar_4cfef : Cond.static yJ1_indexOfChar_4cfef ∈ wsL_law := wm_3 (i := 118) (by decide +kernel) rfl
theorem mc_yJ1_indexOfChar_4cfef : Cond.code yJ1_indexOfChar_4cfef cJ1_indexOfChar_4cfef 6 (some .int) ∈ wsL_law := wm_3 (i := 119) (by decide +kernel) rfl
theorem m_J0_640 : Cond.methodLink RJ0 640 yJ2_indexOf_4cfef ∈ wsL_law := wm_3 (i := 120) (by decide +kernel) rfl
theorem mt_yJ2_indexOf_4cfef : Cond.static yJ2_indexOf_4cfef ∈ wsL_law := wm_3 (i := 121) (by decide +kernel) rfl
theorem mc_yJ2_indexOf_4cfef : Cond.code yJ2_indexOf_4cfef cJ2_indexOf_4cfef 4 (some .int) ∈ wsL_law := wm_3 (i := 122) (by decide +kernel) rfl
theorem m_J2_224 : Cond.methodLink RJ2 224 Lib.Math.max.name ∈ wsL_law := wm_3 (i := 123) (by decide +kernel) rfl
theorem m_J2_183 : Cond.methodLink RJ2 183 Lib.Math.min.name ∈ wsL_law := wm_3 (i := 124) (by decide +kernel) rfl
theorem m_J2_227 : Cond.constant RJ2 227 (65536) ∈ wsL_law := wm_3 (i := 125) (by decide +kernel) rfl
theorem m_J2_228 : Cond.methodLink RJ2 228 yJ2_indexOfChar_4cfef ∈ wsL_law := wm_3 (i := 126) (by decide +kernel) rfl
theorem mt_yJ2_indexOfChar_4cfef : Cond.static yJ2_indexOfChar_4cfef ∈ wsL_law := wm_3 (i := 127) (by decide +kernel) rfl
theorem mc_yJ2_indexOfChar_4cfef : Cond.code yJ2_indexOfChar_4cfef cJ2_indexOfChar_4cfef 4 (some .int) ∈ wsL_law := wm_3 (i := 128) (by decide +kernel) rfl
theorem m_J2_96 : Cond.methodLink RJ2 96 yJ2_checkBoundsBeginEnd_d044e ∈ wsL_law := wm_3 (i := 129) (by decide +kernel) rfl
theorem mt_yJ2_checkBoundsBeginEnd_d044e : Cond.static yJ2_checkBoundsBeginEnd_d044e ∈ wsL_law := wm_3 (i := 130) (by decide +kernel) rfl
theorem mc_yJ2_checkBoundsBeginEnd_d044e : Cond.code yJ2_checkBoundsBeginEnd_d044e cJ2_checkBoundsBeginEnd_d044e 3 none ∈ wsL_law := wm_3 (i := 131) (by decide +kernel) rfl
theorem m_J2_48 : Cond.methodLink RJ2 48 yJ2_length_9d52b ∈ wsL_law := wm_3 (i := 132) (by decide +kernel) rfl
theorem mt_yJ2_length_9d52b : Cond.static yJ2_length_9d52b ∈ wsL_law := wm_3 (i := 133) (by decide +kernel) rfl
theorem mc_yJ2_length_9d52b : Cond.code yJ2_length_9d52b cJ2_length_9d52b 1 (some .int) ∈ wsL_law := wm_3 (i := 134) (by decide +kernel) rfl
theorem m_J2_241 : Cond.methodLink RJ2 241 yJ0_checkBoundsBeginEnd_23922 ∈ wsL_law := wm_3 (i := 135) (by decide +kernel) rfl
theorem mt_yJ0_checkBoundsBeginEnd_23922 : Cond.static yJ0_checkBoundsBeginEnd_23922 ∈ wsL_law := wm_3 (i := 136) (by decide +kernel) rfl
theorem mc_yJ0_checkBoundsBeginEnd_23922 : Cond.code yJ0_checkBoundsBeginEnd_23922 cJ0_checkBoundsBeginEnd_23922 3 none ∈ wsL_law := wm_3 (i := 137) (by decide +kernel) rfl
theorem m_J0_1053 : Cond.fieldLink RJ0 1053 "jdk/internal/util/Preconditions" "SIOOBE_FORMATTER" "Ljava/util/function/BiFunction;" ∈ wsL_law := wm_3 (i := 138) (by decide +kernel) rfl
theorem m_J0_1062 : Cond.methodLink RJ0 1062 yJ3_checkFromToIndex_8c36e ∈ wsL_law := wm_3 (i := 140) (by decide +kernel) rfl
theorem mt_yJ3_checkFromToIndex_8c36e : Cond.static yJ3_checkFromToIndex_8c36e ∈ wsL_law := wm_3 (i := 141) (by decide +kernel) rfl
theorem mc_yJ3_checkFromToIndex_8c36e : Cond.code yJ3_checkFromToIndex_8c36e cJ3_checkFromToIndex_8c36e 4 (some .int) ∈ wsL_law := wm_3 (i := 142) (by decide +kernel) rfl
theorem m_J2_244 : Cond.methodLink RJ2 244 yJ2_indexOfCharUnsafe_4cfef ∈ wsL_law := wm_3 (i := 143) (by decide +kernel) rfl
theorem mt_yJ2_indexOfCharUnsafe_4cfef : Cond.static yJ2_indexOfCharUnsafe_4cfef ∈ wsL_law := wm_3 (i := 144) (by decide +kernel) rfl
theorem mc_yJ2_indexOfCharUnsafe_4cfef : Cond.code yJ2_indexOfCharUnsafe_4cfef cJ2_indexOfCharUnsafe_4cfef 5 (some .int) ∈ wsL_law := wm_3 (i := 145) (by decide +kernel) rfl
theorem m_J2_71 : Cond.methodLink RJ2 71 yJ2_getChar_3b067 ∈ wsL_law := wm_3 (i := 146) (by decide +kernel) rfl
theorem mt_yJ2_getChar_3b067 : Cond.static yJ2_getChar_3b067 ∈ wsL_law := wm_3 (i := 147) (by decide +kernel) rfl
theorem mc_yJ2_getChar_3b067 : Cond.code yJ2_getChar_3b067 cJ2_getChar_3b067 2 (some .char) ∈ wsL_law := wm_3 (i := 148) (by decide +kernel) rfl
theorem m_J2_44 : Cond.fieldLink RJ2 44 "java/lang/StringUTF16" "$assertionsDisabled" "Z" ∈ wsL_law := wm_3 (i := 149) (by decide +kernel) rfl
theorem m_J2_59 : Cond.fieldLink RJ2 59 "java/lang/StringUTF16" "HI_BYTE_SHIFT" "I" ∈ wsL_law := wm_3 (i := 151) (by decide +kernel) rfl
theorem m_J2_63 : Cond.fieldLink RJ2 63 "java/lang/StringUTF16" "LO_BYTE_SHIFT" "I" ∈ wsL_law := wm_3 (i := 153) (by decide +kernel) rfl
theorem m_J2_232 : Cond.methodLink RJ2 232 yJ2_indexOfSupplementary_4cfef ∈ wsL_law := wm_3 (i := 155) (by decide +kernel) rfl
theorem mt_yJ2_indexOfSupplementary_4cfef : Cond.static yJ2_indexOfSupplementary_4cfef ∈ wsL_law := wm_3 (i := 156) (by decide +kernel) rfl
theorem mc_yJ2_indexOfSupplementary_4cfef : Cond.code yJ2_indexOfSupplementary_4cfef cJ2_indexOfSupplementary_4cfef 7 (some .int) ∈ wsL_law := wm_3 (i := 157) (by decide +kernel) rfl
theorem m_J2_164 : Cond.methodLink RJ2 164 yJ11_isValidCodePoint_9a6ad ∈ wsL_law := wm_3 (i := 158) (by decide +kernel) rfl
theorem mt_yJ11_isValidCodePoint_9a6ad : Cond.static yJ11_isValidCodePoint_9a6ad ∈ wsL_law := wm_3 (i := 159) (by decide +kernel) rfl
theorem mc_yJ11_isValidCodePoint_9a6ad : Cond.code yJ11_isValidCodePoint_9a6ad cJ11_isValidCodePoint_9a6ad 2 (some .boolean) ∈ wsL_law := wm_3 (i := 160) (by decide +kernel) rfl
theorem m_J2_157 : Cond.methodLink RJ2 157 yJ11_highSurrogate_5068e ∈ wsL_law := wm_3 (i := 161) (by decide +kernel) rfl
theorem mt_yJ11_highSurrogate_5068e : Cond.static yJ11_highSurrogate_5068e ∈ wsL_law := wm_3 (i := 162) (by decide +kernel) rfl
theorem mc_yJ11_highSurrogate_5068e : Cond.code yJ11_highSurrogate_5068e cJ11_highSurrogate_5068e 1 (some .char) ∈ wsL_law := wm_3 (i := 163) (by decide +kernel) rfl
theorem m_J11_110 : Cond.constant RJ11 110 (55232) ∈ wsL_law := wm_3 (i := 164) (by decide +kernel) rfl
theorem m_J2_161 : Cond.methodLink RJ2 161 yJ11_lowSurrogate_5068e ∈ wsL_law := wm_3 (i := 165) (by decide +kernel) rfl
theorem mt_yJ11_lowSurrogate_5068e : Cond.static yJ11_lowSurrogate_5068e ∈ wsL_law := wm_3 (i := 166) (by decide +kernel) rfl
theorem mc_yJ11_lowSurrogate_5068e : Cond.code yJ11_lowSurrogate_5068e cJ11_lowSurrogate_5068e 1 (some .char) ∈ wsL_law := wm_3 (i := 167) (by decide +kernel) rfl
theorem m_J11_76 : Cond.constant RJ11 76 (56320) ∈ wsL_law := wm_3 (i := 168) (by decide +kernel) rfl
theorem m_X5_49 : Cond.methodLink RX5 49 yX5_kindOf ∈ wsL_law := wm_3 (i := 169) (by decide +kernel) rfl
theorem mi_yX5_kindOf : Cond.instanceMethod yX5_kindOf ∈ wsL_law := wm_3 (i := 170) (by decide +kernel) rfl
theorem ms_RX5_yX5_kindOf : Cond.selects RX5 yX5_kindOf yX5_kindOf ∈ wsL_law := wm_3 (i := 171) (by decide +kernel) rfl
theorem mc_yX5_kindOf : Cond.code yX5_kindOf cX5_kindOf 2 (some .int) ∈ wsL_law := wm_3 (i := 172) (by decide +kernel) rfl
theorem m_X6_36 : Cond.methodLink RX6 36 yX6_taken ∈ wsL_law := wm_3 (i := 173) (by decide +kernel) rfl
theorem mi_yX6_taken : Cond.instanceMethod yX6_taken ∈ wsL_law := wm_3 (i := 174) (by decide +kernel) rfl
theorem ms_RX6_yX6_taken : Cond.selects RX6 yX6_taken yX6_taken ∈ wsL_law := wm_3 (i := 175) (by decide +kernel) rfl
theorem mc_yX6_taken : Cond.code yX6_taken cX6_taken 4 (some .int) ∈ wsL_law := wm_3 (i := 176) (by decide +kernel) rfl
theorem m_X6_69 : Cond.methodLink RX6 69 yX6_takenNumber ∈ wsL_law := wm_3 (i := 177) (by decide +kernel) rfl
theorem mi_yX6_takenNumber : Cond.instanceMethod yX6_takenNumber ∈ wsL_law := wm_3 (i := 178) (by decide +kernel) rfl
theorem ms_RX6_yX6_takenNumber : Cond.selects RX6 yX6_takenNumber yX6_takenNumber ∈ wsL_law := wm_3 (i := 179) (by decide +kernel) rfl
theorem mc_yX6_takenNumber : Cond.code yX6_takenNumber cX6_takenNumber 5 (some .int) ∈ wsL_law := wm_3 (i := 180) (by decide +kernel) rfl
theorem m_X6_96 : Cond.methodLink RX6 96 Lib.Math.min.name ∈ wsL_law := wm_3 (i := 181) (by decide +kernel) rfl
theorem m_X6_102 : Cond.methodLink RX6 102 yX6_writeOut ∈ wsL_law := wm_3 (i := 182) (by decide +kernel) rfl
theorem mi_yX6_writeOut : Cond.instanceMethod yX6_writeOut ∈ wsL_law := wm_3 (i := 183) (by decide +kernel) rfl
theorem ms_RX6_yX6_writeOut : Cond.selects RX6 yX6_writeOut yX6_writeOut ∈ wsL_law := wm_3 (i := 184) (by decide +kernel) rfl
theorem mc_yX6_writeOut : Cond.code yX6_writeOut cX6_writeOut 5 none ∈ wsL_law := wm_3 (i := 185) (by decide +kernel) rfl
theorem m_X6_106 : Cond.methodLink RX6 106 yX0_beatAt ∈ wsL_law := wm_3 (i := 186) (by decide +kernel) rfl
theorem mi_yX0_beatAt : Cond.instanceMethod yX0_beatAt ∈ wsL_law := wm_3 (i := 187) (by decide +kernel) rfl
theorem ms_RX0_yX0_beatAt : Cond.selects RX0 yX0_beatAt yX0_beatAt ∈ wsL_law := wm_3 (i := 188) (by decide +kernel) rfl
theorem mc_yX0_beatAt : Cond.code yX0_beatAt cX0_beatAt 2 (some .int) ∈ wsL_law := wm_3 (i := 189) (by decide +kernel) rfl
theorem m_X6_110 : Cond.methodLink RX6 110 yX0_append ∈ wsL_law := wm_3 (i := 190) (by decide +kernel) rfl
theorem mi_yX0_append : Cond.instanceMethod yX0_append ∈ wsL_law := wm_3 (i := 191) (by decide +kernel) rfl
theorem ms_RX0_yX0_append : Cond.selects RX0 yX0_append yX0_append ∈ wsL_law := wm_3 (i := 192) (by decide +kernel) rfl
theorem mc_yX0_append : Cond.code yX0_append cX0_append 2 (some .boolean) ∈ wsL_law := wm_3 (i := 193) (by decide +kernel) rfl
theorem m_X6_88 : Cond.methodLink RX6 88 yX6_write ∈ wsL_law := wm_3 (i := 194) (by decide +kernel) rfl
theorem mi_yX6_write : Cond.instanceMethod yX6_write ∈ wsL_law := wm_3 (i := 195) (by decide +kernel) rfl
theorem ms_RX6_yX6_write : Cond.selects RX6 yX6_write yX6_write ∈ wsL_law := wm_3 (i := 196) (by decide +kernel) rfl
theorem mc_yX6_write : Cond.code yX6_write cX6_write 3 none ∈ wsL_law := wm_3 (i := 197) (by decide +kernel) rfl
theorem m_X6_72 : Cond.methodLink RX6 72 yX6_takenOpen ∈ wsL_law := wm_3 (i := 198) (by decide +kernel) rfl
theorem mi_yX6_takenOpen : Cond.instanceMethod yX6_takenOpen ∈ wsL_law := wm_3 (i := 199) (by decide +kernel) rfl
theorem ms_RX6_yX6_takenOpen : Cond.selects RX6 yX6_takenOpen yX6_takenOpen ∈ wsL_law := wm_3 (i := 200) (by decide +kernel) rfl
theorem mc_yX6_takenOpen : Cond.code yX6_takenOpen cX6_takenOpen 2 (some .int) ∈ wsL_law := wm_3 (i := 201) (by decide +kernel) rfl
theorem m_X6_76 : Cond.methodLink RX6 76 yX6_takenItem ∈ wsL_law := wm_3 (i := 202) (by decide +kernel) rfl
theorem mi_yX6_takenItem : Cond.instanceMethod yX6_takenItem ∈ wsL_law := wm_3 (i := 203) (by decide +kernel) rfl
theorem ms_RX6_yX6_takenItem : Cond.selects RX6 yX6_takenItem yX6_takenItem ∈ wsL_law := wm_3 (i := 204) (by decide +kernel) rfl
theorem mc_yX6_takenItem : Cond.code yX6_takenItem cX6_takenItem 2 (some .int) ∈ wsL_law := wm_3 (i := 205) (by decide +kernel) rfl
theorem m_X6_92 : Cond.methodLink RX6 92 yX6_closed ∈ wsL_law := wm_3 (i := 206) (by decide +kernel) rfl
theorem mi_yX6_closed : Cond.instanceMethod yX6_closed ∈ wsL_law := wm_3 (i := 207) (by decide +kernel) rfl
theorem ms_RX6_yX6_closed : Cond.selects RX6 yX6_closed yX6_closed ∈ wsL_law := wm_3 (i := 208) (by decide +kernel) rfl
theorem mc_yX6_closed : Cond.code yX6_closed cX6_closed 4 (some .int) ∈ wsL_law := wm_3 (i := 209) (by decide +kernel) rfl
theorem m_X9_194 : Cond.methodLink RX9 194 yX0_become ∈ wsL_law := wm_3 (i := 210) (by decide +kernel) rfl
theorem mi_yX0_become : Cond.instanceMethod yX0_become ∈ wsL_law := wm_3 (i := 211) (by decide +kernel) rfl
theorem ms_RX0_yX0_become : Cond.selects RX0 yX0_become yX0_become ∈ wsL_law := wm_3 (i := 212) (by decide +kernel) rfl
theorem mc_yX0_become : Cond.code yX0_become cX0_become 2 none ∈ wsL_law := wm_3 (i := 213) (by decide +kernel) rfl
theorem m_X0_19 : Cond.methodLink RX0 19 arraycopyName ∈ wsL_law := wm_3 (i := 214) (by decide +kernel) rfl
theorem mt_arraycopyName : Cond.static arraycopyName ∈ wsL_law := wm_3 (i := 215) (by decide +kernel) rfl
theorem mv_arraycopyName : Cond.native arraycopyName ∈ wsL_law := wm_3 (i := 216) (by decide +kernel) rfl
theorem m_L_63 : Cond.methodLink RL 63 yX9_fault ∈ wsL_law := wm_3 (i := 217) (by decide +kernel) rfl
theorem mi_yX9_fault : Cond.instanceMethod yX9_fault ∈ wsL_law := wm_3 (i := 218) (by decide +kernel) rfl
theorem ms_RX9_yX9_fault : Cond.selects RX9 yX9_fault yX9_fault ∈ wsL_law := wm_3 (i := 219) (by decide +kernel) rfl
theorem mc_yX9_fault : Cond.code yX9_fault cX9_fault 1 (some .int) ∈ wsL_law := wm_3 (i := 220) (by decide +kernel) rfl
theorem m_L_67 : Cond.methodLink RL 67 yX9_told ∈ wsL_law := wm_3 (i := 221) (by decide +kernel) rfl
theorem mi_yX9_told : Cond.instanceMethod yX9_told ∈ wsL_law := wm_3 (i := 222) (by decide +kernel) rfl
theorem ms_RX9_yX9_told : Cond.selects RX9 yX9_told yX9_told ∈ wsL_law := wm_3 (i := 223) (by decide +kernel) rfl
theorem mc_yX9_told : Cond.code yX9_told cX9_told 4 (some .int) ∈ wsL_law := wm_3 (i := 224) (by decide +kernel) rfl
theorem m_X9_197 : Cond.methodLink RX9 197 yX9_isFigure ∈ wsL_law := wm_3 (i := 225) (by decide +kernel) rfl
theorem mi_yX9_isFigure : Cond.instanceMethod yX9_isFigure ∈ wsL_law := wm_3 (i := 227) (by decide +kernel) rfl
theorem mc_yX9_isFigure : Cond.code yX9_isFigure cX9_isFigure 2 (some .boolean) ∈ wsL_law := wm_3 (i := 228) (by decide +kernel) rfl
theorem m_X9_202 : Cond.methodLink RX9 202 yX0_acts ∈ wsL_law := wm_3 (i := 229) (by decide +kernel) rfl
theorem mi_yX0_acts : Cond.instanceMethod yX0_acts ∈ wsL_law := wm_3 (i := 230) (by decide +kernel) rfl
theorem ms_RX0_yX0_acts : Cond.selects RX0 yX0_acts yX0_acts ∈ wsL_law := wm_3 (i := 231) (by decide +kernel) rfl
theorem mc_yX0_acts : Cond.code yX0_acts cX0_acts 3 (some .int) ∈ wsL_law := wm_3 (i := 232) (by decide +kernel) rfl
theorem m_X0_29 : Cond.methodLink RX0 29 yX0_sortOf ∈ wsL_law := wm_3 (i := 233) (by decide +kernel) rfl
theorem mi_yX0_sortOf : Cond.instanceMethod yX0_sortOf ∈ wsL_law := wm_3 (i := 234) (by decide +kernel) rfl
theorem ms_RX0_yX0_sortOf : Cond.selects RX0 yX0_sortOf yX0_sortOf ∈ wsL_law := wm_3 (i := 235) (by decide +kernel) rfl
theorem mc_yX0_sortOf : Cond.code yX0_sortOf cX0_sortOf 2 (some .int) ∈ wsL_law := wm_3 (i := 236) (by decide +kernel) rfl
theorem m_X0_25 : Cond.methodLink RX0 25 yX0_beatAt ∈ wsL_law := wm_3 (i := 237) (by decide +kernel) rfl
theorem m_X9_205 : Cond.methodLink RX9 205 yX0_greatest ∈ wsL_law := wm_3 (i := 238) (by decide +kernel) rfl
theorem mi_yX0_greatest : Cond.instanceMethod yX0_greatest ∈ wsL_law := wm_3 (i := 239) (by decide +kernel) rfl
theorem ms_RX0_yX0_greatest : Cond.selects RX0 yX0_greatest yX0_greatest ∈ wsL_law := wm_4 (i := 0) (by decide +kernel) rfl
theorem mc_yX0_greatest : Cond.code yX0_greatest cX0_greatest 3 (some .int) ∈ wsL_law := wm_4 (i := 1) (by decide +kernel) rfl
theorem m_X0_32 : Cond.methodLink RX0 32 yX0_numberOf ∈ wsL_law := wm_4 (i := 2) (by decide +kernel) rfl
theorem mi_yX0_numberOf : Cond.instanceMethod yX0_numberOf ∈ wsL_law := wm_4 (i := 3) (by decide +kernel) rfl
theorem ms_RX0_yX0_numberOf : Cond.selects RX0 yX0_numberOf yX0_numberOf ∈ wsL_law := wm_4 (i := 4) (by decide +kernel) rfl
theorem mc_yX0_numberOf : Cond.code yX0_numberOf cX0_numberOf 2 (some .int) ∈ wsL_law := wm_4 (i := 5) (by decide +kernel) rfl
theorem m_X0_35 : Cond.methodLink RX0 35 Lib.Math.max.name ∈ wsL_law := wm_4 (i := 6) (by decide +kernel) rfl
theorem m_X9_208 : Cond.methodLink RX9 208 yX0_sortOf ∈ wsL_law := wm_4 (i := 7) (by decide +kernel) rfl
theorem m_X9_211 : Cond.methodLink RX9 211 yX0_numberOf ∈ wsL_law := wm_4 (i := 8) (by decide +kernel) rfl
theorem m_L_71 : Cond.methodLink RL 71 yX9_dance ∈ wsL_law := wm_4 (i := 9) (by decide +kernel) rfl
theorem mi_yX9_dance : Cond.instanceMethod yX9_dance ∈ wsL_law := wm_4 (i := 10) (by decide +kernel) rfl
theorem ms_RX9_yX9_dance : Cond.selects RX9 yX9_dance yX9_dance ∈ wsL_law := wm_4 (i := 11) (by decide +kernel) rfl
theorem mc_yX9_dance : Cond.code yX9_dance cX9_dance 2 (some .int) ∈ wsL_law := wm_4 (i := 12) (by decide +kernel) rfl
theorem m_X9_214 : Cond.methodLink RX9 214 yX9_doneOnFloor ∈ wsL_law := wm_4 (i := 13) (by decide +kernel) rfl
theorem mi_yX9_doneOnFloor : Cond.instanceMethod yX9_doneOnFloor ∈ wsL_law := wm_4 (i := 15) (by decide +kernel) rfl
theorem mc_yX9_doneOnFloor : Cond.code yX9_doneOnFloor cX9_doneOnFloor 4 (some .int) ∈ wsL_law := wm_4 (i := 16) (by decide +kernel) rfl
theorem m_X9_221 : Cond.methodLink RX9 221 yX1_run ∈ wsL_law := wm_4 (i := 17) (by decide +kernel) rfl
theorem mi_yX1_run : Cond.instanceMethod yX1_run ∈ wsL_law := wm_4 (i := 18) (by decide +kernel) rfl
theorem ms_RX1_yX1_run : Cond.selects RX1 yX1_run yX1_run ∈ wsL_law := wm_4 (i := 19) (by decide +kernel) rfl
theorem mc_yX1_run : Cond.code yX1_run cX1_run 8 (some .int) ∈ wsL_law := wm_4 (i := 20) (by decide +kernel) rfl
theorem m_X1_54 : Cond.methodLink RX1 54 yX0_sortOf ∈ wsL_law := wm_4 (i := 21) (by decide +kernel) rfl
theorem m_X1_58 : Cond.methodLink RX1 58 yX0_numberOf ∈ wsL_law := wm_4 (i := 22) (by decide +kernel) rfl
theorem m_X1_61 : Cond.methodLink RX1 61 yX1_sortBack ∈ wsL_law := wm_4 (i := 23) (by decide +kernel) rfl
theorem mi_yX1_sortBack : Cond.instanceMethod yX1_sortBack ∈ wsL_law := wm_4 (i := 24) (by decide +kernel) rfl
theorem ms_RX1_yX1_sortBack : Cond.selects RX1 yX1_sortBack yX1_sortBack ∈ wsL_law := wm_4 (i := 25) (by decide +kernel) rfl
theorem mc_yX1_sortBack : Cond.code yX1_sortBack cX1_sortBack 2 (some .int) ∈ wsL_law := wm_4 (i := 26) (by decide +kernel) rfl
theorem m_X1_64 : Cond.methodLink RX1 64 yX1_numberBack ∈ wsL_law := wm_4 (i := 27) (by decide +kernel) rfl
theorem mi_yX1_numberBack : Cond.instanceMethod yX1_numberBack ∈ wsL_law := wm_4 (i := 28) (by decide +kernel) rfl
theorem ms_RX1_yX1_numberBack : Cond.selects RX1 yX1_numberBack yX1_numberBack ∈ wsL_law := wm_4 (i := 29) (by decide +kernel) rfl
theorem mc_yX1_numberBack : Cond.code yX1_numberBack cX1_numberBack 3 (some .int) ∈ wsL_law := wm_4 (i := 30) (by decide +kernel) rfl
theorem m_X1_73 : Cond.methodLink RX1 73 yX8_withinRing ∈ wsL_law := wm_4 (i := 31) (by decide +kernel) rfl
theorem m_X1_67 : Cond.methodLink RX1 67 yX1_attempt ∈ wsL_law := wm_4 (i := 32) (by decide +kernel) rfl
theorem m_L_75 : Cond.methodLink RL 75 yX9_why ∈ wsL_law := wm_4 (i := 33) (by decide +kernel) rfl
theorem mi_yX9_why : Cond.instanceMethod yX9_why ∈ wsL_law := wm_4 (i := 34) (by decide +kernel) rfl
theorem ms_RX9_yX9_why : Cond.selects RX9 yX9_why yX9_why ∈ wsL_law := wm_4 (i := 35) (by decide +kernel) rfl
theorem mc_yX9_why : Cond.code yX9_why cX9_why 1 (some .int) ∈ wsL_law := wm_4 (i := 36) (by decide +kernel) rfl
theorem m_L_79 : Cond.methodLink RL 79 yX9_back ∈ wsL_law := wm_4 (i := 37) (by decide +kernel) rfl
theorem mi_yX9_back : Cond.instanceMethod yX9_back ∈ wsL_law := wm_4 (i := 38) (by decide +kernel) rfl
theorem ms_RX9_yX9_back : Cond.selects RX9 yX9_back yX9_back ∈ wsL_law := wm_4 (i := 39) (by decide +kernel) rfl
theorem mc_yX9_back : Cond.code yX9_back cX9_back 2 (some .int) ∈ wsL_law := wm_4 (i := 40) (by decide +kernel) rfl
theorem m_L_83 : Cond.methodLink RL 83 yX9_order ∈ wsL_law := wm_4 (i := 41) (by decide +kernel) rfl
theorem mi_yX9_order : Cond.instanceMethod yX9_order ∈ wsL_law := wm_4 (i := 42) (by decide +kernel) rfl
theorem ms_RX9_yX9_order : Cond.selects RX9 yX9_order yX9_order ∈ wsL_law := wm_4 (i := 43) (by decide +kernel) rfl
theorem mc_yX9_order : Cond.code yX9_order cX9_order 3 (some .int) ∈ wsL_law := wm_4 (i := 44) (by decide +kernel) rfl
theorem m_X9_227 : Cond.methodLink RX9 227 yX8_isAs ∈ wsL_law := wm_4 (i := 45) (by decide +kernel) rfl
theorem mi_yX8_isAs : Cond.instanceMethod yX8_isAs ∈ wsL_law := wm_4 (i := 46) (by decide +kernel) rfl
theorem ms_RX8_yX8_isAs : Cond.selects RX8 yX8_isAs yX8_isAs ∈ wsL_law := wm_4 (i := 47) (by decide +kernel) rfl
theorem mc_yX8_isAs : Cond.code yX8_isAs cX8_isAs 2 (some .boolean) ∈ wsL_law := wm_4 (i := 48) (by decide +kernel) rfl
theorem m_L_87 : Cond.methodLink RL 87 yX9_mirrors ∈ wsL_law := wm_4 (i := 49) (by decide +kernel) rfl
theorem mi_yX9_mirrors : Cond.instanceMethod yX9_mirrors ∈ wsL_law := wm_4 (i := 50) (by decide +kernel) rfl
theorem ms_RX9_yX9_mirrors : Cond.selects RX9 yX9_mirrors yX9_mirrors ∈ wsL_law := wm_4 (i := 51) (by decide +kernel) rfl
theorem mc_yX9_mirrors : Cond.code yX9_mirrors cX9_mirrors 2 (some .int) ∈ wsL_law := wm_4 (i := 52) (by decide +kernel) rfl
theorem m_L_91 : Cond.methodLink RL 91 yX9_keep ∈ wsL_law := wm_4 (i := 53) (by decide +kernel) rfl
theorem mi_yX9_keep : Cond.instanceMethod yX9_keep ∈ wsL_law := wm_4 (i := 54) (by decide +kernel) rfl
theorem ms_RX9_yX9_keep : Cond.selects RX9 yX9_keep yX9_keep ∈ wsL_law := wm_4 (i := 55) (by decide +kernel) rfl
theorem mc_yX9_keep : Cond.code yX9_keep cX9_keep 1 (some .int) ∈ wsL_law := wm_4 (i := 56) (by decide +kernel) rfl
theorem m_L_95 : Cond.methodLink RL 95 yX9_stand ∈ wsL_law := wm_4 (i := 57) (by decide +kernel) rfl
theorem mi_yX9_stand : Cond.instanceMethod yX9_stand ∈ wsL_law := wm_4 (i := 58) (by decide +kernel) rfl
theorem ms_RX9_yX9_stand : Cond.selects RX9 yX9_stand yX9_stand ∈ wsL_law := wm_4 (i := 59) (by decide +kernel) rfl
theorem mc_yX9_stand : Cond.code yX9_stand cX9_stand 2 (some .int) ∈ wsL_law := wm_4 (i := 60) (by decide +kernel) rfl
theorem m_X9_231 : Cond.methodLink RX9 231 yX9_isPose ∈ wsL_law := wm_4 (i := 61) (by decide +kernel) rfl
theorem mi_yX9_isPose : Cond.instanceMethod yX9_isPose ∈ wsL_law := wm_4 (i := 63) (by decide +kernel) rfl
theorem mc_yX9_isPose : Cond.code yX9_isPose cX9_isPose 2 (some .boolean) ∈ wsL_law := wm_4 (i := 64) (by decide +kernel) rfl
theorem m_L_99 : Cond.methodLink RL 99 yX9_alike ∈ wsL_law := wm_4 (i := 65) (by decide +kernel) rfl
theorem mi_yX9_alike : Cond.instanceMethod yX9_alike ∈ wsL_law := wm_4 (i := 66) (by decide +kernel) rfl
theorem ms_RX9_yX9_alike : Cond.selects RX9 yX9_alike yX9_alike ∈ wsL_law := wm_4 (i := 67) (by decide +kernel) rfl
theorem mc_yX9_alike : Cond.code yX9_alike cX9_alike 2 (some .int) ∈ wsL_law := wm_4 (i := 68) (by decide +kernel) rfl
theorem m_X9_234 : Cond.methodLink RX9 234 yX8_isAlike ∈ wsL_law := wm_4 (i := 69) (by decide +kernel) rfl
theorem mi_yX8_isAlike : Cond.instanceMethod yX8_isAlike ∈ wsL_law := wm_4 (i := 70) (by decide +kernel) rfl
theorem ms_RX8_yX8_isAlike : Cond.selects RX8 yX8_isAlike yX8_isAlike ∈ wsL_law := wm_4 (i := 71) (by decide +kernel) rfl
theorem mc_yX8_isAlike : Cond.code yX8_isAlike cX8_isAlike 2 (some .boolean) ∈ wsL_law := wm_4 (i := 72) (by decide +kernel) rfl
theorem m_X8_38 : Cond.methodLink RX8 38 yX8_seatsFromFirst ∈ wsL_law := wm_4 (i := 73) (by decide +kernel) rfl
theorem mi_yX8_seatsFromFirst : Cond.instanceMethod yX8_seatsFromFirst ∈ wsL_law := wm_4 (i := 74) (by decide +kernel) rfl
theorem ms_RX8_yX8_seatsFromFirst : Cond.selects RX8 yX8_seatsFromFirst yX8_seatsFromFirst ∈ wsL_law := wm_4 (i := 75) (by decide +kernel) rfl
theorem mc_yX8_seatsFromFirst : Cond.code yX8_seatsFromFirst cX8_seatsFromFirst 1 (some .long) ∈ wsL_law := wm_4 (i := 76) (by decide +kernel) rfl
theorem m_L_103 : Cond.methodLink RL 103 yX9_way ∈ wsL_law := wm_4 (i := 77) (by decide +kernel) rfl
theorem mi_yX9_way : Cond.instanceMethod yX9_way ∈ wsL_law := wm_4 (i := 78) (by decide +kernel) rfl
theorem ms_RX9_yX9_way : Cond.selects RX9 yX9_way yX9_way ∈ wsL_law := wm_4 (i := 79) (by decide +kernel) rfl
theorem mc_yX9_way : Cond.code yX9_way cX9_way 2 (some .int) ∈ wsL_law := wm_4 (i := 80) (by decide +kernel) rfl
theorem m_X9_237 : Cond.methodLink RX9 237 yX2_find ∈ wsL_law := wm_4 (i := 81) (by decide +kernel) rfl
theorem mi_yX2_find : Cond.instanceMethod yX2_find ∈ wsL_law := wm_4 (i := 82) (by decide +kernel) rfl
theorem ms_RX2_yX2_find : Cond.selects RX2 yX2_find yX2_find ∈ wsL_law := wm_4 (i := 83) (by decide +kernel) rfl
theorem mc_yX2_find : Cond.code yX2_find cX2_find 4 none ∈ wsL_law := wm_4 (i := 84) (by decide +kernel) rfl
theorem m_X2_48 : Cond.methodLink RX2 48 yX8_isAs ∈ wsL_law := wm_4 (i := 85) (by decide +kernel) rfl
theorem m_X2_52 : Cond.methodLink RX2 52 yX8_become ∈ wsL_law := wm_4 (i := 86) (by decide +kernel) rfl
theorem m_X2_56 : Cond.methodLink RX2 56 yX8_seatsFromFirst ∈ wsL_law := wm_4 (i := 87) (by decide +kernel) rfl
theorem m_X2_64 : Cond.methodLink RX2 64 yJ7_fill_53178 ∈ wsL_law := wm_4 (i := 88) (by decide +kernel) rfl
theorem mt_yJ7_fill_53178 : Cond.static yJ7_fill_53178 ∈ wsL_law := wm_4 (i := 89) (by decide +kernel) rfl
theorem mc_yJ7_fill_53178 : Cond.code yJ7_fill_53178 cJ7_fill_53178 4 none ∈ wsL_law := wm_4 (i := 90) (by decide +kernel) rfl
theorem m_X2_77 : Cond.methodLink RX2 77 yX2_meet ∈ wsL_law := wm_4 (i := 91) (by decide +kernel) rfl
theorem mi_yX2_meet : Cond.instanceMethod yX2_meet ∈ wsL_law := wm_4 (i := 92) (by decide +kernel) rfl
theorem ms_RX2_yX2_meet : Cond.selects RX2 yX2_meet yX2_meet ∈ wsL_law := wm_4 (i := 93) (by decide +kernel) rfl
theorem mc_yX2_meet : Cond.code yX2_meet cX2_meet 6 none ∈ wsL_law := wm_4 (i := 94) (by decide +kernel) rfl
theorem m_X2_107 : Cond.methodLink RX2 107 yX2_slotOf ∈ wsL_law := wm_4 (i := 95) (by decide +kernel) rfl
theorem mi_yX2_slotOf : Cond.instanceMethod yX2_slotOf ∈ wsL_law := wm_4 (i := 96) (by decide +kernel) rfl
theorem ms_RX2_yX2_slotOf : Cond.selects RX2 yX2_slotOf yX2_slotOf ∈ wsL_law := wm_4 (i := 97) (by decide +kernel) rfl
theorem mc_yX2_slotOf : Cond.code yX2_slotOf cX2_slotOf 10 (some .int) ∈ wsL_law := wm_4 (i := 98) (by decide +kernel) rfl
theorem m_X2_114 : Cond.constantLong RX2 114 (-7046029254386353131) ∈ wsL_law := wm_4 (i := 99) (by decide +kernel) rfl
theorem m_X2_116 : Cond.constantLong RX2 116 (-4417276706812531889) ∈ wsL_law := wm_4 (i := 100) (by decide +kernel) rfl
theorem m_X2_81 : Cond.methodLink RX2 81 yX2_goesOn ∈ wsL_law := wm_4 (i := 101) (by decide +kernel) rfl
theorem mi_yX2_goesOn : Cond.instanceMethod yX2_goesOn ∈ wsL_law := wm_4 (i := 102) (by decide +kernel) rfl
theorem ms_RX2_yX2_goesOn : Cond.selects RX2 yX2_goesOn yX2_goesOn ∈ wsL_law := wm_4 (i := 103) (by decide +kernel) rfl
theorem mc_yX2_goesOn : Cond.code yX2_goesOn cX2_goesOn 1 (some .boolean) ∈ wsL_law := wm_4 (i := 104) (by decide +kernel) rfl
theorem m_X2_85 : Cond.methodLink RX2 85 yX2_ask ∈ wsL_law := wm_4 (i := 105) (by decide +kernel) rfl
theorem mi_yX2_ask : Cond.instanceMethod yX2_ask ∈ wsL_law := wm_4 (i := 106) (by decide +kernel) rfl
theorem ms_RX2_yX2_ask : Cond.selects RX2 yX2_ask yX2_ask ∈ wsL_law := wm_4 (i := 107) (by decide +kernel) rfl
theorem mc_yX2_ask : Cond.code yX2_ask cX2_ask 3 none ∈ wsL_law := wm_4 (i := 108) (by decide +kernel) rfl
theorem m_X2_103 : Cond.methodLink RX2 103 yX8_change ∈ wsL_law := wm_4 (i := 109) (by decide +kernel) rfl
theorem m_X2_89 : Cond.methodLink RX2 89 yX2_lengthOfWay ∈ wsL_law := wm_4 (i := 110) (by decide +kernel) rfl
theorem mi_yX2_lengthOfWay : Cond.instanceMethod yX2_lengthOfWay ∈ wsL_law := wm_4 (i := 111) (by decide +kernel) rfl
theorem ms_RX2_yX2_lengthOfWay : Cond.selects RX2 yX2_lengthOfWay yX2_lengthOfWay ∈ wsL_law := wm_4 (i := 112) (by decide +kernel) rfl
theorem mc_yX2_lengthOfWay : Cond.code yX2_lengthOfWay cX2_lengthOfWay 4 (some .int) ∈ wsL_law := wm_4 (i := 113) (by decide +kernel) rfl
theorem m_L_107 : Cond.methodLink RL 107 yX9_wayAt ∈ wsL_law := wm_4 (i := 114) (by decide +kernel) rfl
theorem mi_yX9_wayAt : Cond.instanceMethod yX9_wayAt ∈ wsL_law := wm_4 (i := 115) (by decide +kernel) rfl
theorem ms_RX9_yX9_wayAt : Cond.selects RX9 yX9_wayAt yX9_wayAt ∈ wsL_law := wm_4 (i := 116) (by decide +kernel) rfl
theorem mc_yX9_wayAt : Cond.code yX9_wayAt cX9_wayAt 3 (some .int) ∈ wsL_law := wm_4 (i := 117) (by decide +kernel) rfl
theorem m_X9_244 : Cond.methodLink RX9 244 yX2_actOfWay ∈ wsL_law := wm_4 (i := 118) (by decide +kernel) rfl
theorem mi_yX2_actOfWay : Cond.instanceMethod yX2_actOfWay ∈ wsL_law := wm_4 (i := 119) (by decide +kernel) rfl
theorem ms_RX2_yX2_actOfWay : Cond.selects RX2 yX2_actOfWay yX2_actOfWay ∈ wsL_law := wm_4 (i := 120) (by decide +kernel) rfl
theorem mc_yX2_actOfWay : Cond.code yX2_actOfWay cX2_actOfWay 4 (some .int) ∈ wsL_law := wm_4 (i := 121) (by decide +kernel) rfl
theorem m_L_111 : Cond.methodLink RL 111 yX9_met ∈ wsL_law := wm_4 (i := 122) (by decide +kernel) rfl
theorem mi_yX9_met : Cond.instanceMethod yX9_met ∈ wsL_law := wm_4 (i := 123) (by decide +kernel) rfl
theorem ms_RX9_yX9_met : Cond.selects RX9 yX9_met yX9_met ∈ wsL_law := wm_4 (i := 124) (by decide +kernel) rfl
theorem mc_yX9_met : Cond.code yX9_met cX9_met 2 (some .int) ∈ wsL_law := wm_4 (i := 125) (by decide +kernel) rfl
theorem m_L_115 : Cond.methodLink RL 115 yX9_village ∈ wsL_law := wm_4 (i := 126) (by decide +kernel) rfl
theorem mi_yX9_village : Cond.instanceMethod yX9_village ∈ wsL_law := wm_4 (i := 127) (by decide +kernel) rfl
theorem ms_RX9_yX9_village : Cond.selects RX9 yX9_village yX9_village ∈ wsL_law := wm_4 (i := 128) (by decide +kernel) rfl
theorem mc_yX9_village : Cond.code yX9_village cX9_village 1 (some .int) ∈ wsL_law := wm_4 (i := 129) (by decide +kernel) rfl
theorem m_L_119 : Cond.methodLink RL 119 yX9_add ∈ wsL_law := wm_4 (i := 130) (by decide +kernel) rfl
theorem mi_yX9_add : Cond.instanceMethod yX9_add ∈ wsL_law := wm_4 (i := 131) (by decide +kernel) rfl
theorem ms_RX9_yX9_add : Cond.selects RX9 yX9_add yX9_add ∈ wsL_law := wm_4 (i := 132) (by decide +kernel) rfl
theorem mc_yX9_add : Cond.code yX9_add cX9_add 3 (some .int) ∈ wsL_law := wm_4 (i := 133) (by decide +kernel) rfl
theorem m_X9_253 : Cond.methodLink RX9 253 yX9_isVillage ∈ wsL_law := wm_4 (i := 134) (by decide +kernel) rfl
theorem mi_yX9_isVillage : Cond.instanceMethod yX9_isVillage ∈ wsL_law := wm_4 (i := 136) (by decide +kernel) rfl
theorem mc_yX9_isVillage : Cond.code yX9_isVillage cX9_isVillage 2 (some .boolean) ∈ wsL_law := wm_4 (i := 137) (by decide +kernel) rfl
theorem m_X9_256 : Cond.methodLink RX9 256 yX7_append ∈ wsL_law := wm_4 (i := 138) (by decide +kernel) rfl
theorem mi_yX7_append : Cond.instanceMethod yX7_append ∈ wsL_law := wm_4 (i := 139) (by decide +kernel) rfl
theorem ms_RX7_yX7_append : Cond.selects RX7 yX7_append yX7_append ∈ wsL_law := wm_4 (i := 140) (by decide +kernel) rfl
theorem mc_yX7_append : Cond.code yX7_append cX7_append 2 (some .boolean) ∈ wsL_law := wm_4 (i := 141) (by decide +kernel) rfl
theorem m_L_123 : Cond.methodLink RL 123 yX9_danceOf ∈ wsL_law := wm_4 (i := 142) (by decide +kernel) rfl
theorem mi_yX9_danceOf : Cond.instanceMethod yX9_danceOf ∈ wsL_law := wm_4 (i := 143) (by decide +kernel) rfl
theorem ms_RX9_yX9_danceOf : Cond.selects RX9 yX9_danceOf yX9_danceOf ∈ wsL_law := wm_4 (i := 144) (by decide +kernel) rfl
theorem mc_yX9_danceOf : Cond.code yX9_danceOf cX9_danceOf 4 (some .int) ∈ wsL_law := wm_4 (i := 145) (by decide +kernel) rfl
theorem m_X9_259 : Cond.methodLink RX9 259 yX9_beatsOf ∈ wsL_law := wm_4 (i := 146) (by decide +kernel) rfl
theorem mi_yX9_beatsOf : Cond.instanceMethod yX9_beatsOf ∈ wsL_law := wm_4 (i := 148) (by decide +kernel) rfl
theorem mc_yX9_beatsOf : Cond.code yX9_beatsOf cX9_beatsOf 5 (some .int) ∈ wsL_law := wm_4 (i := 149) (by decide +kernel) rfl
theorem m_X9_263 : Cond.methodLink RX9 263 yX7_figureAt ∈ wsL_law := wm_4 (i := 150) (by decide +kernel) rfl
theorem mi_yX7_figureAt : Cond.instanceMethod yX7_figureAt ∈ wsL_law := wm_4 (i := 151) (by decide +kernel) rfl
theorem ms_RX7_yX7_figureAt : Cond.selects RX7 yX7_figureAt yX7_figureAt ∈ wsL_law := wm_4 (i := 152) (by decide +kernel) rfl
theorem mc_yX7_figureAt : Cond.code yX7_figureAt cX7_figureAt 2 (some .int) ∈ wsL_law := wm_4 (i := 153) (by decide +kernel) rfl
theorem m_L_127 : Cond.methodLink RL 127 yX9_shared ∈ wsL_law := wm_4 (i := 154) (by decide +kernel) rfl
theorem mi_yX9_shared : Cond.instanceMethod yX9_shared ∈ wsL_law := wm_4 (i := 155) (by decide +kernel) rfl
theorem ms_RX9_yX9_shared : Cond.selects RX9 yX9_shared yX9_shared ∈ wsL_law := wm_4 (i := 156) (by decide +kernel) rfl
theorem mc_yX9_shared : Cond.code yX9_shared cX9_shared 4 (some .int) ∈ wsL_law := wm_4 (i := 157) (by decide +kernel) rfl
theorem m_X9_266 : Cond.methodLink RX9 266 yX3_find ∈ wsL_law := wm_4 (i := 158) (by decide +kernel) rfl
theorem mi_yX3_find : Cond.instanceMethod yX3_find ∈ wsL_law := wm_4 (i := 159) (by decide +kernel) rfl
theorem ms_RX3_yX3_find : Cond.selects RX3 yX3_find yX3_find ∈ wsL_law := wm_4 (i := 160) (by decide +kernel) rfl
theorem mc_yX3_find : Cond.code yX3_find cX3_find 7 none ∈ wsL_law := wm_4 (i := 161) (by decide +kernel) rfl
theorem m_X3_23 : Cond.methodLink RX3 23 yX3_measure ∈ wsL_law := wm_4 (i := 162) (by decide +kernel) rfl
theorem mi_yX3_measure : Cond.instanceMethod yX3_measure ∈ wsL_law := wm_4 (i := 163) (by decide +kernel) rfl
theorem ms_RX3_yX3_measure : Cond.selects RX3 yX3_measure yX3_measure ∈ wsL_law := wm_4 (i := 164) (by decide +kernel) rfl
theorem mc_yX3_measure : Cond.code yX3_measure cX3_measure 5 none ∈ wsL_law := wm_4 (i := 165) (by decide +kernel) rfl
theorem m_X3_43 : Cond.methodLink RX3 43 yX3_lengthAt ∈ wsL_law := wm_4 (i := 166) (by decide +kernel) rfl
theorem mi_yX3_lengthAt : Cond.instanceMethod yX3_lengthAt ∈ wsL_law := wm_4 (i := 167) (by decide +kernel) rfl
theorem ms_RX3_yX3_lengthAt : Cond.selects RX3 yX3_lengthAt yX3_lengthAt ∈ wsL_law := wm_4 (i := 168) (by decide +kernel) rfl
theorem mc_yX3_lengthAt : Cond.code yX3_lengthAt cX3_lengthAt 5 (some .int) ∈ wsL_law := wm_4 (i := 169) (by decide +kernel) rfl
theorem m_X3_47 : Cond.methodLink RX3 47 yX7_figureAt ∈ wsL_law := wm_4 (i := 170) (by decide +kernel) rfl
theorem m_X3_51 : Cond.methodLink RX3 51 Lib.Math.max.name ∈ wsL_law := wm_4 (i := 171) (by decide +kernel) rfl
theorem m_X3_31 : Cond.methodLink RX3 31 yX3_leastNext ∈ wsL_law := wm_4 (i := 172) (by decide +kernel) rfl
theorem mi_yX3_leastNext : Cond.instanceMethod yX3_leastNext ∈ wsL_law := wm_4 (i := 173) (by decide +kernel) rfl
theorem ms_RX3_yX3_leastNext : Cond.selects RX3 yX3_leastNext yX3_leastNext ∈ wsL_law := wm_4 (i := 174) (by decide +kernel) rfl
theorem mc_yX3_leastNext : Cond.code yX3_leastNext cX3_leastNext 9 (some .int) ∈ wsL_law := wm_4 (i := 175) (by decide +kernel) rfl
theorem m_X3_35 : Cond.methodLink RX3 35 yX7_placeFrom ∈ wsL_law := wm_4 (i := 176) (by decide +kernel) rfl
theorem mi_yX7_placeFrom : Cond.instanceMethod yX7_placeFrom ∈ wsL_law := wm_4 (i := 177) (by decide +kernel) rfl
theorem ms_RX7_yX7_placeFrom : Cond.selects RX7 yX7_placeFrom yX7_placeFrom ∈ wsL_law := wm_4 (i := 178) (by decide +kernel) rfl
theorem mc_yX7_placeFrom : Cond.code yX7_placeFrom cX7_placeFrom 4 (some .int) ∈ wsL_law := wm_4 (i := 179) (by decide +kernel) rfl
theorem m_X7_19 : Cond.methodLink RX7 19 yX7_figureAt ∈ wsL_law := wm_4 (i := 180) (by decide +kernel) rfl
theorem m_X3_39 : Cond.methodLink RX3 39 yX7_append ∈ wsL_law := wm_4 (i := 181) (by decide +kernel) rfl
theorem m_L_132 : Cond.methodLink RL 132 yX9_perform ∈ wsL_law := wm_4 (i := 182) (by decide +kernel) rfl
theorem mi_yX9_perform : Cond.instanceMethod yX9_perform ∈ wsL_law := wm_4 (i := 183) (by decide +kernel) rfl
theorem ms_RX9_yX9_perform : Cond.selects RX9 yX9_perform yX9_perform ∈ wsL_law := wm_4 (i := 184) (by decide +kernel) rfl
theorem mc_yX9_perform : Cond.code yX9_perform cX9_perform 5 (some .int) ∈ wsL_law := wm_4 (i := 185) (by decide +kernel) rfl
theorem m_L_136 : Cond.methodLink RL 136 yX9_sheet ∈ wsL_law := wm_4 (i := 186) (by decide +kernel) rfl
theorem mi_yX9_sheet : Cond.instanceMethod yX9_sheet ∈ wsL_law := wm_4 (i := 187) (by decide +kernel) rfl
theorem ms_RX9_yX9_sheet : Cond.selects RX9 yX9_sheet yX9_sheet ∈ wsL_law := wm_4 (i := 188) (by decide +kernel) rfl
theorem mc_yX9_sheet : Cond.code yX9_sheet cX9_sheet 4 (some .int) ∈ wsL_law := wm_4 (i := 189) (by decide +kernel) rfl
theorem m_X9_273 : Cond.methodLink RX9 273 yX9_isSheet ∈ wsL_law := wm_4 (i := 190) (by decide +kernel) rfl
theorem mi_yX9_isSheet : Cond.instanceMethod yX9_isSheet ∈ wsL_law := wm_4 (i := 192) (by decide +kernel) rfl
theorem mc_yX9_isSheet : Cond.code yX9_isSheet cX9_isSheet 2 (some .boolean) ∈ wsL_law := wm_4 (i := 193) (by decide +kernel) rfl
theorem m_X9_276 : Cond.methodLink RX9 276 yX9_isLane ∈ wsL_law := wm_4 (i := 194) (by decide +kernel) rfl
theorem mi_yX9_isLane : Cond.instanceMethod yX9_isLane ∈ wsL_law := wm_4 (i := 196) (by decide +kernel) rfl
theorem mc_yX9_isLane : Cond.code yX9_isLane cX9_isLane 2 (some .boolean) ∈ wsL_law := wm_4 (i := 197) (by decide +kernel) rfl
theorem m_X9_279 : Cond.methodLink RX9 279 yX4_make ∈ wsL_law := wm_4 (i := 198) (by decide +kernel) rfl
theorem mi_yX4_make : Cond.instanceMethod yX4_make ∈ wsL_law := wm_4 (i := 199) (by decide +kernel) rfl
theorem ms_RX4_yX4_make : Cond.selects RX4 yX4_make yX4_make ∈ wsL_law := wm_4 (i := 200) (by decide +kernel) rfl
theorem mc_yX4_make : Cond.code yX4_make cX4_make 3 none ∈ wsL_law := wm_4 (i := 201) (by decide +kernel) rfl
theorem m_X4_19 : Cond.methodLink RX4 19 yJ7_fill_53178 ∈ wsL_law := wm_4 (i := 202) (by decide +kernel) rfl
theorem m_L_140 : Cond.methodLink RL 140 yX9_lay ∈ wsL_law := wm_4 (i := 203) (by decide +kernel) rfl
theorem mi_yX9_lay : Cond.instanceMethod yX9_lay ∈ wsL_law := wm_4 (i := 204) (by decide +kernel) rfl
theorem ms_RX9_yX9_lay : Cond.selects RX9 yX9_lay yX9_lay ∈ wsL_law := wm_4 (i := 205) (by decide +kernel) rfl
theorem mc_yX9_lay : Cond.code yX9_lay cX9_lay 4 (some .int) ∈ wsL_law := wm_4 (i := 206) (by decide +kernel) rfl
theorem m_X9_283 : Cond.methodLink RX9 283 yX4_isNothing ∈ wsL_law := wm_4 (i := 207) (by decide +kernel) rfl
theorem mi_yX4_isNothing : Cond.instanceMethod yX4_isNothing ∈ wsL_law := wm_4 (i := 208) (by decide +kernel) rfl
theorem ms_RX4_yX4_isNothing : Cond.selects RX4 yX4_isNothing yX4_isNothing ∈ wsL_law := wm_4 (i := 209) (by decide +kernel) rfl
theorem mc_yX4_isNothing : Cond.code yX4_isNothing cX4_isNothing 1 (some .boolean) ∈ wsL_law := wm_4 (i := 210) (by decide +kernel) rfl
theorem m_X9_286 : Cond.methodLink RX9 286 yX4_put ∈ wsL_law := wm_4 (i := 211) (by decide +kernel) rfl
theorem mi_yX4_put : Cond.instanceMethod yX4_put ∈ wsL_law := wm_4 (i := 212) (by decide +kernel) rfl
theorem ms_RX4_yX4_put : Cond.selects RX4 yX4_put yX4_put ∈ wsL_law := wm_4 (i := 213) (by decide +kernel) rfl
theorem mc_yX4_put : Cond.code yX4_put cX4_put 3 (some .boolean) ∈ wsL_law := wm_4 (i := 214) (by decide +kernel) rfl
theorem m_X4_28 : Cond.methodLink RX4 28 yX4_has ∈ wsL_law := wm_4 (i := 215) (by decide +kernel) rfl
theorem mi_yX4_has : Cond.instanceMethod yX4_has ∈ wsL_law := wm_4 (i := 216) (by decide +kernel) rfl
theorem ms_RX4_yX4_has : Cond.selects RX4 yX4_has yX4_has ∈ wsL_law := wm_4 (i := 217) (by decide +kernel) rfl
theorem mc_yX4_has : Cond.code yX4_has cX4_has 2 (some .boolean) ∈ wsL_law := wm_4 (i := 218) (by decide +kernel) rfl
theorem m_L_144 : Cond.methodLink RL 144 yX9_scan ∈ wsL_law := wm_4 (i := 219) (by decide +kernel) rfl
theorem mi_yX9_scan : Cond.instanceMethod yX9_scan ∈ wsL_law := wm_4 (i := 220) (by decide +kernel) rfl
theorem ms_RX9_yX9_scan : Cond.selects RX9 yX9_scan yX9_scan ∈ wsL_law := wm_4 (i := 221) (by decide +kernel) rfl
theorem mc_yX9_scan : Cond.code yX9_scan cX9_scan 9 (some .int) ∈ wsL_law := wm_4 (i := 222) (by decide +kernel) rfl
theorem m_X9_292 : Cond.methodLink RX9 292 yX4_has ∈ wsL_law := wm_4 (i := 223) (by decide +kernel) rfl
theorem m_X9_295 : Cond.methodLink RX9 295 yX4_cellAt ∈ wsL_law := wm_4 (i := 224) (by decide +kernel) rfl
theorem mi_yX4_cellAt : Cond.instanceMethod yX4_cellAt ∈ wsL_law := wm_4 (i := 225) (by decide +kernel) rfl
theorem ms_RX4_yX4_cellAt : Cond.selects RX4 yX4_cellAt yX4_cellAt ∈ wsL_law := wm_4 (i := 226) (by decide +kernel) rfl
theorem mc_yX4_cellAt : Cond.code yX4_cellAt cX4_cellAt 2 (some .int) ∈ wsL_law := wm_4 (i := 227) (by decide +kernel) rfl
theorem m_L_149 : Cond.methodLink RL 149 yX9_count ∈ wsL_law := wm_4 (i := 228) (by decide +kernel) rfl
theorem mi_yX9_count : Cond.instanceMethod yX9_count ∈ wsL_law := wm_4 (i := 229) (by decide +kernel) rfl
theorem ms_RX9_yX9_count : Cond.selects RX9 yX9_count yX9_count ∈ wsL_law := wm_4 (i := 230) (by decide +kernel) rfl
theorem mc_yX9_count : Cond.code yX9_count cX9_count 2 (some .int) ∈ wsL_law := wm_4 (i := 231) (by decide +kernel) rfl
theorem m_L_10 : Cond.classLink RL 10 RX10 ∈ wsL_law := wm_4 (i := 232) (by decide +kernel) rfl
theorem mj_RX10 : Cond.instantiable RX10 58 ∈ wsL_law := wm_4 (i := 233) (by decide +kernel) rfl
theorem m_L_12 : Cond.methodLink RL 12 yX10_init ∈ wsL_law := wm_4 (i := 234) (by decide +kernel) rfl
theorem mi_yX10_init : Cond.instanceMethod yX10_init ∈ wsL_law := wm_4 (i := 235) (by decide +kernel) rfl
theorem mc_yX10_init : Cond.code yX10_init cX10_init 1 none ∈ wsL_law := wm_4 (i := 236) (by decide +kernel) rfl
theorem m_X10_1 : Cond.methodLink RX10 1 objectInit ∈ wsL_law := wm_4 (i := 237) (by decide +kernel) rfl
theorem m_X10_7 : Cond.fieldLink RX10 7 "BladeRingModel" "n" "I" ∈ wsL_law := wm_4 (i := 238) (by decide +kernel) rfl
theorem m_X10_13 : Cond.fieldLink RX10 13 "BladeRingModel" "placeOf" "[I" ∈ wsL_law := wm_4 (i := 239) (by decide +kernel) rfl
theorem m_X10_17 : Cond.fieldLink RX10 17 "BladeRingModel" "faces" "I" ∈ wsL_law := wm_5 (i := 0) (by decide +kernel) rfl
theorem m_X10_20 : Cond.fieldLink RX10 20 "BladeRingModel" "held" "I" ∈ wsL_law := wm_5 (i := 1) (by decide +kernel) rfl
theorem m_X10_119 : Cond.fieldLink RX10 119 "BladeRingModel" "over" "J" ∈ wsL_law := wm_5 (i := 2) (by decide +kernel) rfl
theorem m_X10_123 : Cond.fieldLink RX10 123 "BladeRingModel" "undos" "I" ∈ wsL_law := wm_5 (i := 3) (by decide +kernel) rfl
theorem m_X10_23 : Cond.fieldLink RX10 23 "BladeRingModel" "oldPlaces" "[I" ∈ wsL_law := wm_5 (i := 4) (by decide +kernel) rfl
theorem m_X10_26 : Cond.fieldLink RX10 26 "BladeRingModel" "oldFaces" "[I" ∈ wsL_law := wm_5 (i := 5) (by decide +kernel) rfl
theorem m_X10_29 : Cond.fieldLink RX10 29 "BladeRingModel" "oldHeld" "[I" ∈ wsL_law := wm_5 (i := 6) (by decide +kernel) rfl
theorem m_X10_32 : Cond.fieldLink RX10 32 "BladeRingModel" "oldOver" "[J" ∈ wsL_law := wm_5 (i := 7) (by decide +kernel) rfl
theorem m_X10_36 : Cond.fieldLink RX10 36 "BladeRingModel" "layerOf" "[I" ∈ wsL_law := wm_5 (i := 8) (by decide +kernel) rfl
theorem m_X10_189 : Cond.fieldLink RX10 189 "BladeRingModel" "layers" "I" ∈ wsL_law := wm_5 (i := 9) (by decide +kernel) rfl
theorem m_X10_192 : Cond.fieldLink RX10 192 "BladeRingModel" "bound" "I" ∈ wsL_law := wm_5 (i := 10) (by decide +kernel) rfl
theorem m_X10_39 : Cond.fieldLink RX10 39 "BladeRingModel" "tape" "[I" ∈ wsL_law := wm_5 (i := 11) (by decide +kernel) rfl
theorem m_X10_222 : Cond.fieldLink RX10 222 "BladeRingModel" "taped" "I" ∈ wsL_law := wm_5 (i := 12) (by decide +kernel) rfl
theorem m_X10_283 : Cond.fieldLink RX10 283 "BladeRingModel" "fault" "I" ∈ wsL_law := wm_5 (i := 13) (by decide +kernel) rfl
theorem m_X10_225 : Cond.fieldLink RX10 225 "BladeRingModel" "wrong" "I" ∈ wsL_law := wm_5 (i := 14) (by decide +kernel) rfl
theorem m_X10_231 : Cond.fieldLink RX10 231 "BladeRingModel" "wrongAt" "I" ∈ wsL_law := wm_5 (i := 15) (by decide +kernel) rfl
theorem m_X10_234 : Cond.fieldLink RX10 234 "BladeRingModel" "at" "I" ∈ wsL_law := wm_5 (i := 16) (by decide +kernel) rfl
theorem m_X10_228 : Cond.fieldLink RX10 228 "BladeRingModel" "spot" "I" ∈ wsL_law := wm_5 (i := 17) (by decide +kernel) rfl
theorem m_X10_240 : Cond.fieldLink RX10 240 "BladeRingModel" "token" "I" ∈ wsL_law := wm_5 (i := 18) (by decide +kernel) rfl
theorem m_X10_247 : Cond.fieldLink RX10 247 "BladeRingModel" "value" "I" ∈ wsL_law := wm_5 (i := 19) (by decide +kernel) rfl
theorem m_X10_262 : Cond.fieldLink RX10 262 "BladeRingModel" "figures" "I" ∈ wsL_law := wm_5 (i := 20) (by decide +kernel) rfl
theorem m_X10_42 : Cond.fieldLink RX10 42 "BladeRingModel" "beatMany" "[I" ∈ wsL_law := wm_5 (i := 21) (by decide +kernel) rfl
theorem m_X10_45 : Cond.fieldLink RX10 45 "BladeRingModel" "beatSort" "[I" ∈ wsL_law := wm_5 (i := 22) (by decide +kernel) rfl
theorem m_X10_48 : Cond.fieldLink RX10 48 "BladeRingModel" "beatNumber" "[I" ∈ wsL_law := wm_5 (i := 23) (by decide +kernel) rfl
theorem m_X10_256 : Cond.fieldLink RX10 256 "BladeRingModel" "newMany" "I" ∈ wsL_law := wm_5 (i := 24) (by decide +kernel) rfl
theorem m_X10_51 : Cond.fieldLink RX10 51 "BladeRingModel" "newSort" "[I" ∈ wsL_law := wm_5 (i := 25) (by decide +kernel) rfl
theorem m_X10_54 : Cond.fieldLink RX10 54 "BladeRingModel" "newNumber" "[I" ∈ wsL_law := wm_5 (i := 26) (by decide +kernel) rfl
theorem m_X10_269 : Cond.fieldLink RX10 269 "BladeRingModel" "depth" "I" ∈ wsL_law := wm_5 (i := 27) (by decide +kernel) rfl
theorem m_X10_57 : Cond.fieldLink RX10 57 "BladeRingModel" "begins" "[I" ∈ wsL_law := wm_5 (i := 28) (by decide +kernel) rfl
theorem m_X10_60 : Cond.fieldLink RX10 60 "BladeRingModel" "rounds" "[I" ∈ wsL_law := wm_5 (i := 29) (by decide +kernel) rfl
theorem m_X10_63 : Cond.fieldLink RX10 63 "BladeRingModel" "items" "[I" ∈ wsL_law := wm_5 (i := 30) (by decide +kernel) rfl
theorem m_X10_300 : Cond.fieldLink RX10 300 "BladeRingModel" "why" "I" ∈ wsL_law := wm_5 (i := 31) (by decide +kernel) rfl
theorem m_X10_293 : Cond.fieldLink RX10 293 "BladeRingModel" "stopped" "I" ∈ wsL_law := wm_5 (i := 32) (by decide +kernel) rfl
theorem m_X10_306 : Cond.fieldLink RX10 306 "BladeRingModel" "asidePlaces" "I" ∈ wsL_law := wm_5 (i := 33) (by decide +kernel) rfl
theorem m_X10_309 : Cond.fieldLink RX10 309 "BladeRingModel" "asideFaces" "I" ∈ wsL_law := wm_5 (i := 34) (by decide +kernel) rfl
theorem m_X10_312 : Cond.fieldLink RX10 312 "BladeRingModel" "asideHeld" "I" ∈ wsL_law := wm_5 (i := 35) (by decide +kernel) rfl
theorem m_X10_315 : Cond.fieldLink RX10 315 "BladeRingModel" "asideOver" "J" ∈ wsL_law := wm_5 (i := 36) (by decide +kernel) rfl
theorem m_X10_126 : Cond.fieldLink RX10 126 "BladeRingModel" "poses" "I" ∈ wsL_law := wm_5 (i := 37) (by decide +kernel) rfl
theorem m_X10_66 : Cond.fieldLink RX10 66 "BladeRingModel" "posePlaces" "[I" ∈ wsL_law := wm_5 (i := 38) (by decide +kernel) rfl
theorem m_X10_69 : Cond.fieldLink RX10 69 "BladeRingModel" "poseFaces" "[I" ∈ wsL_law := wm_5 (i := 39) (by decide +kernel) rfl
theorem m_X10_72 : Cond.fieldLink RX10 72 "BladeRingModel" "poseHeld" "[I" ∈ wsL_law := wm_5 (i := 40) (by decide +kernel) rfl
theorem m_X10_75 : Cond.fieldLink RX10 75 "BladeRingModel" "poseOver" "[J" ∈ wsL_law := wm_5 (i := 41) (by decide +kernel) rfl
theorem m_X10_342 : Cond.fieldLink RX10 342 "BladeRingModel" "many" "I" ∈ wsL_law := wm_5 (i := 42) (by decide +kernel) rfl
theorem m_X10_78 : Cond.fieldLink RX10 78 "BladeRingModel" "metPlaces" "[I" ∈ wsL_law := wm_5 (i := 43) (by decide +kernel) rfl
theorem m_X10_81 : Cond.fieldLink RX10 81 "BladeRingModel" "metOver" "[J" ∈ wsL_law := wm_5 (i := 44) (by decide +kernel) rfl
theorem m_X10_84 : Cond.fieldLink RX10 84 "BladeRingModel" "metFrom" "[I" ∈ wsL_law := wm_5 (i := 45) (by decide +kernel) rfl
theorem m_X10_87 : Cond.fieldLink RX10 87 "BladeRingModel" "metBy" "[I" ∈ wsL_law := wm_5 (i := 46) (by decide +kernel) rfl
theorem m_X10_90 : Cond.fieldLink RX10 90 "BladeRingModel" "seats" "[I" ∈ wsL_law := wm_5 (i := 47) (by decide +kernel) rfl
theorem m_X10_351 : Cond.fieldLink RX10 351 "BladeRingModel" "goal" "I" ∈ wsL_law := wm_5 (i := 48) (by decide +kernel) rfl
theorem m_X10_360 : Cond.fieldLink RX10 360 "BladeRingModel" "villages" "I" ∈ wsL_law := wm_5 (i := 49) (by decide +kernel) rfl
theorem m_X10_93 : Cond.fieldLink RX10 93 "BladeRingModel" "danceMany" "[I" ∈ wsL_law := wm_5 (i := 50) (by decide +kernel) rfl
theorem m_X10_96 : Cond.fieldLink RX10 96 "BladeRingModel" "dances" "[I" ∈ wsL_law := wm_5 (i := 51) (by decide +kernel) rfl
theorem m_X10_99 : Cond.fieldLink RX10 99 "BladeRingModel" "longest" "[I" ∈ wsL_law := wm_5 (i := 52) (by decide +kernel) rfl
theorem m_X10_102 : Cond.fieldLink RX10 102 "BladeRingModel" "lanes" "[I" ∈ wsL_law := wm_5 (i := 53) (by decide +kernel) rfl
theorem m_X10_105 : Cond.fieldLink RX10 105 "BladeRingModel" "lengths" "[I" ∈ wsL_law := wm_5 (i := 54) (by decide +kernel) rfl
theorem m_X10_108 : Cond.fieldLink RX10 108 "BladeRingModel" "cells" "[I" ∈ wsL_law := wm_5 (i := 55) (by decide +kernel) rfl
theorem ml_X10_n : Cond.lays RX10 "BladeRingModel" "n" "I" ∈ wsL_law := wm_5 (i := 56) (by decide +kernel) rfl
theorem ml_X10_placeOf : Cond.laysFinal RX10 "BladeRingModel" "placeOf" "[I" ∈ wsL_law := wm_5 (i := 58) (by decide +kernel) rfl
theorem ml_X10_faces : Cond.lays RX10 "BladeRingModel" "faces" "I" ∈ wsL_law := wm_5 (i := 60) (by decide +kernel) rfl
theorem ml_X10_held : Cond.lays RX10 "BladeRingModel" "held" "I" ∈ wsL_law := wm_5 (i := 62) (by decide +kernel) rfl
theorem ml_X10_over : Cond.lays RX10 "BladeRingModel" "over" "J" ∈ wsL_law := wm_5 (i := 64) (by decide +kernel) rfl
theorem ml_X10_undos : Cond.lays RX10 "BladeRingModel" "undos" "I" ∈ wsL_law := wm_5 (i := 66) (by decide +kernel) rfl
theorem ml_X10_oldPlaces : Cond.laysFinal RX10 "BladeRingModel" "oldPlaces" "[I" ∈ wsL_law := wm_5 (i := 68) (by decide +kernel) rfl
theorem ml_X10_oldFaces : Cond.laysFinal RX10 "BladeRingModel" "oldFaces" "[I" ∈ wsL_law := wm_5 (i := 70) (by decide +kernel) rfl
theorem ml_X10_oldHeld : Cond.laysFinal RX10 "BladeRingModel" "oldHeld" "[I" ∈ wsL_law := wm_5 (i := 72) (by decide +kernel) rfl
theorem ml_X10_oldOver : Cond.laysFinal RX10 "BladeRingModel" "oldOver" "[J" ∈ wsL_law := wm_5 (i := 74) (by decide +kernel) rfl
theorem ml_X10_layerOf : Cond.laysFinal RX10 "BladeRingModel" "layerOf" "[I" ∈ wsL_law := wm_5 (i := 76) (by decide +kernel) rfl
theorem ml_X10_layers : Cond.lays RX10 "BladeRingModel" "layers" "I" ∈ wsL_law := wm_5 (i := 78) (by decide +kernel) rfl
theorem ml_X10_bound : Cond.lays RX10 "BladeRingModel" "bound" "I" ∈ wsL_law := wm_5 (i := 80) (by decide +kernel) rfl
theorem ml_X10_tape : Cond.laysFinal RX10 "BladeRingModel" "tape" "[I" ∈ wsL_law := wm_5 (i := 82) (by decide +kernel) rfl
theorem ml_X10_taped : Cond.lays RX10 "BladeRingModel" "taped" "I" ∈ wsL_law := wm_5 (i := 84) (by decide +kernel) rfl
theorem ml_X10_fault : Cond.lays RX10 "BladeRingModel" "fault" "I" ∈ wsL_law := wm_5 (i := 86) (by decide +kernel) rfl
theorem ml_X10_wrong : Cond.lays RX10 "BladeRingModel" "wrong" "I" ∈ wsL_law := wm_5 (i := 88) (by decide +kernel) rfl
theorem ml_X10_wrongAt : Cond.lays RX10 "BladeRingModel" "wrongAt" "I" ∈ wsL_law := wm_5 (i := 90) (by decide +kernel) rfl
theorem ml_X10_at : Cond.lays RX10 "BladeRingModel" "at" "I" ∈ wsL_law := wm_5 (i := 92) (by decide +kernel) rfl
theorem ml_X10_spot : Cond.lays RX10 "BladeRingModel" "spot" "I" ∈ wsL_law := wm_5 (i := 94) (by decide +kernel) rfl
theorem ml_X10_token : Cond.lays RX10 "BladeRingModel" "token" "I" ∈ wsL_law := wm_5 (i := 96) (by decide +kernel) rfl
theorem ml_X10_value : Cond.lays RX10 "BladeRingModel" "value" "I" ∈ wsL_law := wm_5 (i := 98) (by decide +kernel) rfl
theorem ml_X10_figures : Cond.lays RX10 "BladeRingModel" "figures" "I" ∈ wsL_law := wm_5 (i := 100) (by decide +kernel) rfl
theorem ml_X10_beatMany : Cond.laysFinal RX10 "BladeRingModel" "beatMany" "[I" ∈ wsL_law := wm_5 (i := 102) (by decide +kernel) rfl
theorem ml_X10_beatSort : Cond.laysFinal RX10 "BladeRingModel" "beatSort" "[I" ∈ wsL_law := wm_5 (i := 104) (by decide +kernel) rfl
theorem ml_X10_beatNumber : Cond.laysFinal RX10 "BladeRingModel" "beatNumber" "[I" ∈ wsL_law := wm_5 (i := 106) (by decide +kernel) rfl
theorem ml_X10_newMany : Cond.lays RX10 "BladeRingModel" "newMany" "I" ∈ wsL_law := wm_5 (i := 108) (by decide +kernel) rfl
theorem ml_X10_newSort : Cond.laysFinal RX10 "BladeRingModel" "newSort" "[I" ∈ wsL_law := wm_5 (i := 110) (by decide +kernel) rfl
theorem ml_X10_newNumber : Cond.laysFinal RX10 "BladeRingModel" "newNumber" "[I" ∈ wsL_law := wm_5 (i := 112) (by decide +kernel) rfl
theorem ml_X10_depth : Cond.lays RX10 "BladeRingModel" "depth" "I" ∈ wsL_law := wm_5 (i := 114) (by decide +kernel) rfl
theorem ml_X10_begins : Cond.laysFinal RX10 "BladeRingModel" "begins" "[I" ∈ wsL_law := wm_5 (i := 116) (by decide +kernel) rfl
theorem ml_X10_rounds : Cond.laysFinal RX10 "BladeRingModel" "rounds" "[I" ∈ wsL_law := wm_5 (i := 118) (by decide +kernel) rfl
theorem ml_X10_items : Cond.laysFinal RX10 "BladeRingModel" "items" "[I" ∈ wsL_law := wm_5 (i := 120) (by decide +kernel) rfl
theorem ml_X10_why : Cond.lays RX10 "BladeRingModel" "why" "I" ∈ wsL_law := wm_5 (i := 122) (by decide +kernel) rfl
theorem ml_X10_stopped : Cond.lays RX10 "BladeRingModel" "stopped" "I" ∈ wsL_law := wm_5 (i := 124) (by decide +kernel) rfl
theorem ml_X10_asidePlaces : Cond.lays RX10 "BladeRingModel" "asidePlaces" "I" ∈ wsL_law := wm_5 (i := 126) (by decide +kernel) rfl
theorem ml_X10_asideFaces : Cond.lays RX10 "BladeRingModel" "asideFaces" "I" ∈ wsL_law := wm_5 (i := 128) (by decide +kernel) rfl
theorem ml_X10_asideHeld : Cond.lays RX10 "BladeRingModel" "asideHeld" "I" ∈ wsL_law := wm_5 (i := 130) (by decide +kernel) rfl
theorem ml_X10_asideOver : Cond.lays RX10 "BladeRingModel" "asideOver" "J" ∈ wsL_law := wm_5 (i := 132) (by decide +kernel) rfl
theorem ml_X10_poses : Cond.lays RX10 "BladeRingModel" "poses" "I" ∈ wsL_law := wm_5 (i := 134) (by decide +kernel) rfl
theorem ml_X10_posePlaces : Cond.laysFinal RX10 "BladeRingModel" "posePlaces" "[I" ∈ wsL_law := wm_5 (i := 136) (by decide +kernel) rfl
theorem ml_X10_poseFaces : Cond.laysFinal RX10 "BladeRingModel" "poseFaces" "[I" ∈ wsL_law := wm_5 (i := 138) (by decide +kernel) rfl
theorem ml_X10_poseHeld : Cond.laysFinal RX10 "BladeRingModel" "poseHeld" "[I" ∈ wsL_law := wm_5 (i := 140) (by decide +kernel) rfl
theorem ml_X10_poseOver : Cond.laysFinal RX10 "BladeRingModel" "poseOver" "[J" ∈ wsL_law := wm_5 (i := 142) (by decide +kernel) rfl
theorem ml_X10_many : Cond.lays RX10 "BladeRingModel" "many" "I" ∈ wsL_law := wm_5 (i := 144) (by decide +kernel) rfl
theorem ml_X10_metPlaces : Cond.laysFinal RX10 "BladeRingModel" "metPlaces" "[I" ∈ wsL_law := wm_5 (i := 146) (by decide +kernel) rfl
theorem ml_X10_metOver : Cond.laysFinal RX10 "BladeRingModel" "metOver" "[J" ∈ wsL_law := wm_5 (i := 148) (by decide +kernel) rfl
theorem ml_X10_metFrom : Cond.laysFinal RX10 "BladeRingModel" "metFrom" "[I" ∈ wsL_law := wm_5 (i := 150) (by decide +kernel) rfl
theorem ml_X10_metBy : Cond.laysFinal RX10 "BladeRingModel" "metBy" "[I" ∈ wsL_law := wm_5 (i := 152) (by decide +kernel) rfl
theorem ml_X10_seats : Cond.laysFinal RX10 "BladeRingModel" "seats" "[I" ∈ wsL_law := wm_5 (i := 154) (by decide +kernel) rfl
theorem ml_X10_goal : Cond.lays RX10 "BladeRingModel" "goal" "I" ∈ wsL_law := wm_5 (i := 156) (by decide +kernel) rfl
theorem ml_X10_villages : Cond.lays RX10 "BladeRingModel" "villages" "I" ∈ wsL_law := wm_5 (i := 158) (by decide +kernel) rfl
theorem ml_X10_danceMany : Cond.laysFinal RX10 "BladeRingModel" "danceMany" "[I" ∈ wsL_law := wm_5 (i := 160) (by decide +kernel) rfl
theorem ml_X10_dances : Cond.laysFinal RX10 "BladeRingModel" "dances" "[I" ∈ wsL_law := wm_5 (i := 162) (by decide +kernel) rfl
theorem ml_X10_longest : Cond.laysFinal RX10 "BladeRingModel" "longest" "[I" ∈ wsL_law := wm_5 (i := 164) (by decide +kernel) rfl
theorem ml_X10_lanes : Cond.laysFinal RX10 "BladeRingModel" "lanes" "[I" ∈ wsL_law := wm_5 (i := 166) (by decide +kernel) rfl
theorem ml_X10_lengths : Cond.laysFinal RX10 "BladeRingModel" "lengths" "[I" ∈ wsL_law := wm_5 (i := 168) (by decide +kernel) rfl
theorem ml_X10_cells : Cond.laysFinal RX10 "BladeRingModel" "cells" "[I" ∈ wsL_law := wm_5 (i := 170) (by decide +kernel) rfl
theorem m_L_17 : Cond.methodLink RL 17 yX10_ring ∈ wsL_law := wm_5 (i := 173) (by decide +kernel) rfl
theorem mi_yX10_ring : Cond.instanceMethod yX10_ring ∈ wsL_law := wm_5 (i := 174) (by decide +kernel) rfl
theorem ms_RX10_yX10_ring : Cond.selects RX10 yX10_ring yX10_ring ∈ wsL_law := wm_5 (i := 175) (by decide +kernel) rfl
theorem mc_yX10_ring : Cond.code yX10_ring cX10_ring 3 (some .int) ∈ wsL_law := wm_5 (i := 176) (by decide +kernel) rfl
theorem m_X10_111 : Cond.constantLong RX10 111 (4) ∈ wsL_law := wm_5 (i := 177) (by decide +kernel) rfl
theorem m_X10_113 : Cond.constantLong RX10 113 (8) ∈ wsL_law := wm_5 (i := 178) (by decide +kernel) rfl
theorem m_X10_115 : Cond.methodLink RX10 115 yX10_in ∈ wsL_law := wm_5 (i := 179) (by decide +kernel) rfl
theorem mt_yX10_in : Cond.static yX10_in ∈ wsL_law := wm_5 (i := 180) (by decide +kernel) rfl
theorem mc_yX10_in : Cond.code yX10_in cX10_in 6 (some .boolean) ∈ wsL_law := wm_5 (i := 181) (by decide +kernel) rfl
theorem m_L_22 : Cond.methodLink RL 22 yX10_act ∈ wsL_law := wm_5 (i := 182) (by decide +kernel) rfl
theorem mi_yX10_act : Cond.instanceMethod yX10_act ∈ wsL_law := wm_5 (i := 183) (by decide +kernel) rfl
theorem ms_RX10_yX10_act : Cond.selects RX10 yX10_act yX10_act ∈ wsL_law := wm_5 (i := 184) (by decide +kernel) rfl
theorem mc_yX10_act : Cond.code yX10_act cX10_act 3 (some .int) ∈ wsL_law := wm_5 (i := 185) (by decide +kernel) rfl
theorem m_X10_165 : Cond.methodLink RX10 165 yX10_isAct ∈ wsL_law := wm_5 (i := 186) (by decide +kernel) rfl
theorem mt_yX10_isAct : Cond.static yX10_isAct ∈ wsL_law := wm_5 (i := 187) (by decide +kernel) rfl
theorem mc_yX10_isAct : Cond.code yX10_isAct cX10_isAct 3 (some .boolean) ∈ wsL_law := wm_5 (i := 188) (by decide +kernel) rfl
theorem m_X10_157 : Cond.constantLong RX10 157 (5) ∈ wsL_law := wm_5 (i := 189) (by decide +kernel) rfl
theorem m_X10_159 : Cond.constantLong RX10 159 (7) ∈ wsL_law := wm_5 (i := 190) (by decide +kernel) rfl
theorem m_X10_186 : Cond.methodLink RX10 186 yX10_doesAct ∈ wsL_law := wm_5 (i := 191) (by decide +kernel) rfl
theorem mi_yX10_doesAct : Cond.instanceMethod yX10_doesAct ∈ wsL_law := wm_5 (i := 193) (by decide +kernel) rfl
theorem mc_yX10_doesAct : Cond.code yX10_doesAct cX10_doesAct 14 (some .int) ∈ wsL_law := wm_5 (i := 194) (by decide +kernel) rfl
theorem m_X10_153 : Cond.methodLink RX10 153 yX10_packed ∈ wsL_law := wm_5 (i := 195) (by decide +kernel) rfl
theorem mi_yX10_packed : Cond.instanceMethod yX10_packed ∈ wsL_law := wm_5 (i := 197) (by decide +kernel) rfl
theorem mc_yX10_packed : Cond.code yX10_packed cX10_packed 3 (some .int) ∈ wsL_law := wm_5 (i := 198) (by decide +kernel) rfl
theorem m_X10_176 : Cond.methodLink RX10 176 yX10_does ∈ wsL_law := wm_5 (i := 199) (by decide +kernel) rfl
theorem mi_yX10_does : Cond.instanceMethod yX10_does ∈ wsL_law := wm_5 (i := 201) (by decide +kernel) rfl
theorem mc_yX10_does : Cond.code yX10_does cX10_does 4 (some .int) ∈ wsL_law := wm_5 (i := 202) (by decide +kernel) rfl
theorem m_X10_161 : Cond.methodLink RX10 161 yX10_goRound ∈ wsL_law := wm_5 (i := 203) (by decide +kernel) rfl
theorem mi_yX10_goRound : Cond.instanceMethod yX10_goRound ∈ wsL_law := wm_5 (i := 205) (by decide +kernel) rfl
theorem mc_yX10_goRound : Cond.code yX10_goRound cX10_goRound 3 none ∈ wsL_law := wm_5 (i := 206) (by decide +kernel) rfl
theorem m_X10_169 : Cond.methodLink RX10 169 yX10_change ∈ wsL_law := wm_5 (i := 207) (by decide +kernel) rfl
theorem mi_yX10_change : Cond.instanceMethod yX10_change ∈ wsL_law := wm_5 (i := 209) (by decide +kernel) rfl
theorem mc_yX10_change : Cond.code yX10_change cX10_change 10 (some .int) ∈ wsL_law := wm_5 (i := 210) (by decide +kernel) rfl
theorem m_X10_135 : Cond.methodLink RX10 135 yX10_dancerAt ∈ wsL_law := wm_5 (i := 211) (by decide +kernel) rfl
theorem mi_yX10_dancerAt : Cond.instanceMethod yX10_dancerAt ∈ wsL_law := wm_5 (i := 213) (by decide +kernel) rfl
theorem mc_yX10_dancerAt : Cond.code yX10_dancerAt cX10_dancerAt 3 (some .int) ∈ wsL_law := wm_5 (i := 214) (by decide +kernel) rfl
theorem m_X10_139 : Cond.methodLink RX10 139 yX10_isHeld ∈ wsL_law := wm_5 (i := 215) (by decide +kernel) rfl
theorem mi_yX10_isHeld : Cond.instanceMethod yX10_isHeld ∈ wsL_law := wm_5 (i := 217) (by decide +kernel) rfl
theorem mc_yX10_isHeld : Cond.code yX10_isHeld cX10_isHeld 2 (some .boolean) ∈ wsL_law := wm_5 (i := 218) (by decide +kernel) rfl
theorem m_X10_143 : Cond.methodLink RX10 143 yX10_areJoined ∈ wsL_law := wm_5 (i := 219) (by decide +kernel) rfl
theorem mi_yX10_areJoined : Cond.instanceMethod yX10_areJoined ∈ wsL_law := wm_5 (i := 221) (by decide +kernel) rfl
theorem mc_yX10_areJoined : Cond.code yX10_areJoined cX10_areJoined 4 (some .boolean) ∈ wsL_law := wm_5 (i := 222) (by decide +kernel) rfl
theorem m_X10_129 : Cond.methodLink RX10 129 yX10_isOver ∈ wsL_law := wm_5 (i := 223) (by decide +kernel) rfl
theorem mi_yX10_isOver : Cond.instanceMethod yX10_isOver ∈ wsL_law := wm_5 (i := 225) (by decide +kernel) rfl
theorem mc_yX10_isOver : Cond.code yX10_isOver cX10_isOver 3 (some .boolean) ∈ wsL_law := wm_5 (i := 226) (by decide +kernel) rfl
theorem m_X10_146 : Cond.methodLink RX10 146 yX10_doCross ∈ wsL_law := wm_5 (i := 227) (by decide +kernel) rfl
theorem mi_yX10_doCross : Cond.instanceMethod yX10_doCross ∈ wsL_law := wm_5 (i := 229) (by decide +kernel) rfl
theorem mc_yX10_doCross : Cond.code yX10_doCross cX10_doCross 3 (some .boolean) ∈ wsL_law := wm_5 (i := 230) (by decide +kernel) rfl
theorem m_X10_149 : Cond.methodLink RX10 149 yX10_lays ∈ wsL_law := wm_5 (i := 231) (by decide +kernel) rfl
theorem mi_yX10_lays : Cond.instanceMethod yX10_lays ∈ wsL_law := wm_5 (i := 233) (by decide +kernel) rfl
theorem mc_yX10_lays : Cond.code yX10_lays cX10_lays 6 none ∈ wsL_law := wm_5 (i := 234) (by decide +kernel) rfl
theorem m_X10_133 : Cond.constantLong RX10 133 (-1) ∈ wsL_law := wm_5 (i := 235) (by decide +kernel) rfl
theorem m_X10_173 : Cond.methodLink RX10 173 yX10_areBeside ∈ wsL_law := wm_5 (i := 236) (by decide +kernel) rfl
theorem mi_yX10_areBeside : Cond.instanceMethod yX10_areBeside ∈ wsL_law := wm_5 (i := 238) (by decide +kernel) rfl
theorem mc_yX10_areBeside : Cond.code yX10_areBeside cX10_areBeside 3 (some .boolean) ∈ wsL_law := wm_5 (i := 239) (by decide +kernel) rfl
theorem m_X10_180 : Cond.methodLink RX10 180 yX10_unpack ∈ wsL_law := wm_6 (i := 0) (by decide +kernel) rfl
theorem mi_yX10_unpack : Cond.instanceMethod yX10_unpack ∈ wsL_law := wm_6 (i := 2) (by decide +kernel) rfl
theorem mc_yX10_unpack : Cond.code yX10_unpack cX10_unpack 3 none ∈ wsL_law := wm_6 (i := 3) (by decide +kernel) rfl
theorem m_X10_183 : Cond.methodLink RX10 183 yX10_record ∈ wsL_law := wm_6 (i := 4) (by decide +kernel) rfl
theorem mi_yX10_record : Cond.instanceMethod yX10_record ∈ wsL_law := wm_6 (i := 6) (by decide +kernel) rfl
theorem mc_yX10_record : Cond.code yX10_record cX10_record 2 none ∈ wsL_law := wm_6 (i := 7) (by decide +kernel) rfl
theorem m_L_27 : Cond.methodLink RL 27 yX10_undo ∈ wsL_law := wm_6 (i := 8) (by decide +kernel) rfl
theorem mi_yX10_undo : Cond.instanceMethod yX10_undo ∈ wsL_law := wm_6 (i := 9) (by decide +kernel) rfl
theorem ms_RX10_yX10_undo : Cond.selects RX10 yX10_undo yX10_undo ∈ wsL_law := wm_6 (i := 10) (by decide +kernel) rfl
theorem mc_yX10_undo : Cond.code yX10_undo cX10_undo 1 (some .int) ∈ wsL_law := wm_6 (i := 11) (by decide +kernel) rfl
theorem m_L_31 : Cond.methodLink RL 31 yX10_place ∈ wsL_law := wm_6 (i := 12) (by decide +kernel) rfl
theorem mi_yX10_place : Cond.instanceMethod yX10_place ∈ wsL_law := wm_6 (i := 13) (by decide +kernel) rfl
theorem ms_RX10_yX10_place : Cond.selects RX10 yX10_place yX10_place ∈ wsL_law := wm_6 (i := 14) (by decide +kernel) rfl
theorem mc_yX10_place : Cond.code yX10_place cX10_place 4 (some .int) ∈ wsL_law := wm_6 (i := 15) (by decide +kernel) rfl
theorem m_L_35 : Cond.methodLink RL 35 yX10_blade ∈ wsL_law := wm_6 (i := 16) (by decide +kernel) rfl
theorem mi_yX10_blade : Cond.instanceMethod yX10_blade ∈ wsL_law := wm_6 (i := 17) (by decide +kernel) rfl
theorem ms_RX10_yX10_blade : Cond.selects RX10 yX10_blade yX10_blade ∈ wsL_law := wm_6 (i := 18) (by decide +kernel) rfl
theorem mc_yX10_blade : Cond.code yX10_blade cX10_blade 5 (some .int) ∈ wsL_law := wm_6 (i := 19) (by decide +kernel) rfl
theorem m_X10_195 : Cond.methodLink RX10 195 yX10_layLayers ∈ wsL_law := wm_6 (i := 20) (by decide +kernel) rfl
theorem mi_yX10_layLayers : Cond.instanceMethod yX10_layLayers ∈ wsL_law := wm_6 (i := 22) (by decide +kernel) rfl
theorem mc_yX10_layLayers : Cond.code yX10_layLayers cX10_layLayers 7 none ∈ wsL_law := wm_6 (i := 23) (by decide +kernel) rfl
theorem m_X10_198 : Cond.methodLink RX10 198 yX10_aboveOf ∈ wsL_law := wm_6 (i := 24) (by decide +kernel) rfl
theorem mi_yX10_aboveOf : Cond.instanceMethod yX10_aboveOf ∈ wsL_law := wm_6 (i := 26) (by decide +kernel) rfl
theorem mc_yX10_aboveOf : Cond.code yX10_aboveOf cX10_aboveOf 4 (some .int) ∈ wsL_law := wm_6 (i := 27) (by decide +kernel) rfl
theorem m_X10_201 : Cond.methodLink RX10 201 yX10_belowOf ∈ wsL_law := wm_6 (i := 28) (by decide +kernel) rfl
theorem mi_yX10_belowOf : Cond.instanceMethod yX10_belowOf ∈ wsL_law := wm_6 (i := 30) (by decide +kernel) rfl
theorem mc_yX10_belowOf : Cond.code yX10_belowOf cX10_belowOf 4 (some .int) ∈ wsL_law := wm_6 (i := 31) (by decide +kernel) rfl
theorem m_L_39 : Cond.methodLink RL 39 yX10_over ∈ wsL_law := wm_6 (i := 32) (by decide +kernel) rfl
theorem mi_yX10_over : Cond.instanceMethod yX10_over ∈ wsL_law := wm_6 (i := 33) (by decide +kernel) rfl
theorem ms_RX10_yX10_over : Cond.selects RX10 yX10_over yX10_over ∈ wsL_law := wm_6 (i := 34) (by decide +kernel) rfl
theorem mc_yX10_over : Cond.code yX10_over cX10_over 3 (some .int) ∈ wsL_law := wm_6 (i := 35) (by decide +kernel) rfl
theorem m_L_43 : Cond.methodLink RL 43 yX10_about ∈ wsL_law := wm_6 (i := 36) (by decide +kernel) rfl
theorem mi_yX10_about : Cond.instanceMethod yX10_about ∈ wsL_law := wm_6 (i := 37) (by decide +kernel) rfl
theorem ms_RX10_yX10_about : Cond.selects RX10 yX10_about yX10_about ∈ wsL_law := wm_6 (i := 38) (by decide +kernel) rfl
theorem mc_yX10_about : Cond.code yX10_about cX10_about 2 (some .int) ∈ wsL_law := wm_6 (i := 39) (by decide +kernel) rfl
theorem m_X10_206 : Cond.constantLong RX10 206 (9) ∈ wsL_law := wm_6 (i := 40) (by decide +kernel) rfl
theorem m_X10_208 : Cond.methodLink RX10 208 yX10_sizeOf ∈ wsL_law := wm_6 (i := 41) (by decide +kernel) rfl
theorem mt_yX10_sizeOf : Cond.static yX10_sizeOf ∈ wsL_law := wm_6 (i := 42) (by decide +kernel) rfl
theorem mc_yX10_sizeOf : Cond.code yX10_sizeOf cX10_sizeOf 4 (some .int) ∈ wsL_law := wm_6 (i := 43) (by decide +kernel) rfl
theorem m_X10_212 : Cond.methodLink RX10 212 yX10_isLock ∈ wsL_law := wm_6 (i := 44) (by decide +kernel) rfl
theorem mi_yX10_isLock : Cond.instanceMethod yX10_isLock ∈ wsL_law := wm_6 (i := 46) (by decide +kernel) rfl
theorem mc_yX10_isLock : Cond.code yX10_isLock cX10_isLock 3 (some .boolean) ∈ wsL_law := wm_6 (i := 47) (by decide +kernel) rfl
theorem m_X10_216 : Cond.methodLink RX10 216 yX10_star ∈ wsL_law := wm_6 (i := 48) (by decide +kernel) rfl
theorem mi_yX10_star : Cond.instanceMethod yX10_star ∈ wsL_law := wm_6 (i := 50) (by decide +kernel) rfl
theorem mc_yX10_star : Cond.code yX10_star cX10_star 4 (some .int) ∈ wsL_law := wm_6 (i := 51) (by decide +kernel) rfl
theorem m_X10_204 : Cond.constantLong RX10 204 (2) ∈ wsL_law := wm_6 (i := 52) (by decide +kernel) rfl
theorem m_X10_219 : Cond.methodLink RX10 219 yX10_turns ∈ wsL_law := wm_6 (i := 53) (by decide +kernel) rfl
theorem mi_yX10_turns : Cond.instanceMethod yX10_turns ∈ wsL_law := wm_6 (i := 55) (by decide +kernel) rfl
theorem mc_yX10_turns : Cond.code yX10_turns cX10_turns 7 (some .int) ∈ wsL_law := wm_6 (i := 56) (by decide +kernel) rfl
theorem m_L_47 : Cond.methodLink RL 47 yX10_can ∈ wsL_law := wm_6 (i := 57) (by decide +kernel) rfl
theorem mi_yX10_can : Cond.instanceMethod yX10_can ∈ wsL_law := wm_6 (i := 58) (by decide +kernel) rfl
theorem ms_RX10_yX10_can : Cond.selects RX10 yX10_can yX10_can ∈ wsL_law := wm_6 (i := 59) (by decide +kernel) rfl
theorem mc_yX10_can : Cond.code yX10_can cX10_can 4 (some .int) ∈ wsL_law := wm_6 (i := 60) (by decide +kernel) rfl
theorem m_L_54 : Cond.methodLink RL 54 yX10_feed ∈ wsL_law := wm_6 (i := 61) (by decide +kernel) rfl
theorem mi_yX10_feed : Cond.instanceMethod yX10_feed ∈ wsL_law := wm_6 (i := 62) (by decide +kernel) rfl
theorem ms_RX10_yX10_feed : Cond.selects RX10 yX10_feed yX10_feed ∈ wsL_law := wm_6 (i := 63) (by decide +kernel) rfl
theorem mc_yX10_feed : Cond.code yX10_feed cX10_feed 4 (some .int) ∈ wsL_law := wm_6 (i := 64) (by decide +kernel) rfl
theorem m_L_58 : Cond.methodLink RL 58 yX10_end ∈ wsL_law := wm_6 (i := 65) (by decide +kernel) rfl
theorem mi_yX10_end : Cond.instanceMethod yX10_end ∈ wsL_law := wm_6 (i := 66) (by decide +kernel) rfl
theorem ms_RX10_yX10_end : Cond.selects RX10 yX10_end yX10_end ∈ wsL_law := wm_6 (i := 67) (by decide +kernel) rfl
theorem mc_yX10_end : Cond.code yX10_end cX10_end 3 (some .int) ∈ wsL_law := wm_6 (i := 68) (by decide +kernel) rfl
theorem m_L_62 : Cond.methodLink RL 62 yX10_figure ∈ wsL_law := wm_6 (i := 69) (by decide +kernel) rfl
theorem mi_yX10_figure : Cond.instanceMethod yX10_figure ∈ wsL_law := wm_6 (i := 70) (by decide +kernel) rfl
theorem ms_RX10_yX10_figure : Cond.selects RX10 yX10_figure yX10_figure ∈ wsL_law := wm_6 (i := 71) (by decide +kernel) rfl
theorem mc_yX10_figure : Cond.code yX10_figure cX10_figure 3 (some .int) ∈ wsL_law := wm_6 (i := 72) (by decide +kernel) rfl
theorem m_X10_259 : Cond.methodLink RX10 259 yX10_next ∈ wsL_law := wm_6 (i := 73) (by decide +kernel) rfl
theorem mi_yX10_next : Cond.instanceMethod yX10_next ∈ wsL_law := wm_6 (i := 75) (by decide +kernel) rfl
theorem mc_yX10_next : Cond.code yX10_next cX10_next 2 none ∈ wsL_law := wm_6 (i := 76) (by decide +kernel) rfl
theorem m_X10_237 : Cond.methodLink RX10 237 yX10_byteAt ∈ wsL_law := wm_6 (i := 77) (by decide +kernel) rfl
theorem mi_yX10_byteAt : Cond.instanceMethod yX10_byteAt ∈ wsL_law := wm_6 (i := 79) (by decide +kernel) rfl
theorem mc_yX10_byteAt : Cond.code yX10_byteAt cX10_byteAt 2 (some .int) ∈ wsL_law := wm_6 (i := 80) (by decide +kernel) rfl
theorem m_X10_243 : Cond.constantLong RX10 243 (48) ∈ wsL_law := wm_6 (i := 81) (by decide +kernel) rfl
theorem m_X10_245 : Cond.constantLong RX10 245 (57) ∈ wsL_law := wm_6 (i := 82) (by decide +kernel) rfl
theorem m_X10_250 : Cond.methodLink RX10 250 yX10_fails ∈ wsL_law := wm_6 (i := 83) (by decide +kernel) rfl
theorem mi_yX10_fails : Cond.instanceMethod yX10_fails ∈ wsL_law := wm_6 (i := 85) (by decide +kernel) rfl
theorem mc_yX10_fails : Cond.code yX10_fails cX10_fails 2 none ∈ wsL_law := wm_6 (i := 86) (by decide +kernel) rfl
theorem m_X10_253 : Cond.methodLink RX10 253 yX10_letterOf ∈ wsL_law := wm_6 (i := 87) (by decide +kernel) rfl
theorem mt_yX10_letterOf : Cond.static yX10_letterOf ∈ wsL_law := wm_6 (i := 88) (by decide +kernel) rfl
theorem mc_yX10_letterOf : Cond.code yX10_letterOf cX10_letterOf 1 (some .int) ∈ wsL_law := wm_6 (i := 89) (by decide +kernel) rfl
theorem m_X10_274 : Cond.methodLink RX10 274 yX10_letter ∈ wsL_law := wm_6 (i := 90) (by decide +kernel) rfl
theorem mi_yX10_letter : Cond.instanceMethod yX10_letter ∈ wsL_law := wm_6 (i := 92) (by decide +kernel) rfl
theorem mc_yX10_letter : Cond.code yX10_letter cX10_letter 3 none ∈ wsL_law := wm_6 (i := 93) (by decide +kernel) rfl
theorem m_X10_265 : Cond.methodLink RX10 265 yX10_beat ∈ wsL_law := wm_6 (i := 94) (by decide +kernel) rfl
theorem mi_yX10_beat : Cond.instanceMethod yX10_beat ∈ wsL_law := wm_6 (i := 96) (by decide +kernel) rfl
theorem mc_yX10_beat : Cond.code yX10_beat cX10_beat 3 none ∈ wsL_law := wm_6 (i := 97) (by decide +kernel) rfl
theorem m_X10_277 : Cond.methodLink RX10 277 yX10_opens ∈ wsL_law := wm_6 (i := 98) (by decide +kernel) rfl
theorem mi_yX10_opens : Cond.instanceMethod yX10_opens ∈ wsL_law := wm_6 (i := 100) (by decide +kernel) rfl
theorem mc_yX10_opens : Cond.code yX10_opens cX10_opens 2 none ∈ wsL_law := wm_6 (i := 101) (by decide +kernel) rfl
theorem m_X10_272 : Cond.constantLong RX10 272 (20) ∈ wsL_law := wm_6 (i := 102) (by decide +kernel) rfl
theorem m_X10_280 : Cond.methodLink RX10 280 yX10_shuts ∈ wsL_law := wm_6 (i := 103) (by decide +kernel) rfl
theorem mi_yX10_shuts : Cond.instanceMethod yX10_shuts ∈ wsL_law := wm_6 (i := 105) (by decide +kernel) rfl
theorem mc_yX10_shuts : Cond.code yX10_shuts cX10_shuts 5 none ∈ wsL_law := wm_6 (i := 106) (by decide +kernel) rfl
theorem m_L_66 : Cond.methodLink RL 66 yX10_fault ∈ wsL_law := wm_6 (i := 107) (by decide +kernel) rfl
theorem mi_yX10_fault : Cond.instanceMethod yX10_fault ∈ wsL_law := wm_6 (i := 108) (by decide +kernel) rfl
theorem ms_RX10_yX10_fault : Cond.selects RX10 yX10_fault yX10_fault ∈ wsL_law := wm_6 (i := 109) (by decide +kernel) rfl
theorem mc_yX10_fault : Cond.code yX10_fault cX10_fault 1 (some .int) ∈ wsL_law := wm_6 (i := 110) (by decide +kernel) rfl
theorem m_L_70 : Cond.methodLink RL 70 yX10_told ∈ wsL_law := wm_6 (i := 111) (by decide +kernel) rfl
theorem mi_yX10_told : Cond.instanceMethod yX10_told ∈ wsL_law := wm_6 (i := 112) (by decide +kernel) rfl
theorem ms_RX10_yX10_told : Cond.selects RX10 yX10_told yX10_told ∈ wsL_law := wm_6 (i := 113) (by decide +kernel) rfl
theorem mc_yX10_told : Cond.code yX10_told cX10_told 8 (some .int) ∈ wsL_law := wm_6 (i := 114) (by decide +kernel) rfl
theorem m_X10_286 : Cond.methodLink RX10 286 yX10_isFigure ∈ wsL_law := wm_6 (i := 115) (by decide +kernel) rfl
theorem mi_yX10_isFigure : Cond.instanceMethod yX10_isFigure ∈ wsL_law := wm_6 (i := 117) (by decide +kernel) rfl
theorem mc_yX10_isFigure : Cond.code yX10_isFigure cX10_isFigure 2 (some .boolean) ∈ wsL_law := wm_6 (i := 118) (by decide +kernel) rfl
theorem m_X10_289 : Cond.constantLong RX10 289 (10) ∈ wsL_law := wm_6 (i := 119) (by decide +kernel) rfl
theorem m_X10_291 : Cond.constantLong RX10 291 (300) ∈ wsL_law := wm_6 (i := 120) (by decide +kernel) rfl
theorem m_L_74 : Cond.methodLink RL 74 yX10_dance ∈ wsL_law := wm_6 (i := 121) (by decide +kernel) rfl
theorem mi_yX10_dance : Cond.instanceMethod yX10_dance ∈ wsL_law := wm_6 (i := 122) (by decide +kernel) rfl
theorem ms_RX10_yX10_dance : Cond.selects RX10 yX10_dance yX10_dance ∈ wsL_law := wm_6 (i := 123) (by decide +kernel) rfl
theorem mc_yX10_dance : Cond.code yX10_dance cX10_dance 3 (some .int) ∈ wsL_law := wm_6 (i := 124) (by decide +kernel) rfl
theorem m_X10_296 : Cond.methodLink RX10 296 yX10_goes ∈ wsL_law := wm_6 (i := 125) (by decide +kernel) rfl
theorem mi_yX10_goes : Cond.instanceMethod yX10_goes ∈ wsL_law := wm_6 (i := 127) (by decide +kernel) rfl
theorem mc_yX10_goes : Cond.code yX10_goes cX10_goes 7 (some .int) ∈ wsL_law := wm_6 (i := 128) (by decide +kernel) rfl
theorem m_L_78 : Cond.methodLink RL 78 yX10_why ∈ wsL_law := wm_6 (i := 129) (by decide +kernel) rfl
theorem mi_yX10_why : Cond.instanceMethod yX10_why ∈ wsL_law := wm_6 (i := 130) (by decide +kernel) rfl
theorem ms_RX10_yX10_why : Cond.selects RX10 yX10_why yX10_why ∈ wsL_law := wm_6 (i := 131) (by decide +kernel) rfl
theorem mc_yX10_why : Cond.code yX10_why cX10_why 1 (some .int) ∈ wsL_law := wm_6 (i := 132) (by decide +kernel) rfl
theorem m_L_82 : Cond.methodLink RL 82 yX10_back ∈ wsL_law := wm_6 (i := 133) (by decide +kernel) rfl
theorem mi_yX10_back : Cond.instanceMethod yX10_back ∈ wsL_law := wm_6 (i := 134) (by decide +kernel) rfl
theorem ms_RX10_yX10_back : Cond.selects RX10 yX10_back yX10_back ∈ wsL_law := wm_6 (i := 135) (by decide +kernel) rfl
theorem mc_yX10_back : Cond.code yX10_back cX10_back 3 (some .int) ∈ wsL_law := wm_6 (i := 136) (by decide +kernel) rfl
theorem m_X10_303 : Cond.methodLink RX10 303 yX10_goesBack ∈ wsL_law := wm_6 (i := 137) (by decide +kernel) rfl
theorem mi_yX10_goesBack : Cond.instanceMethod yX10_goesBack ∈ wsL_law := wm_6 (i := 139) (by decide +kernel) rfl
theorem mc_yX10_goesBack : Cond.code yX10_goesBack cX10_goesBack 9 (some .int) ∈ wsL_law := wm_6 (i := 140) (by decide +kernel) rfl
theorem m_L_86 : Cond.methodLink RL 86 yX10_order ∈ wsL_law := wm_6 (i := 141) (by decide +kernel) rfl
theorem mi_yX10_order : Cond.instanceMethod yX10_order ∈ wsL_law := wm_6 (i := 142) (by decide +kernel) rfl
theorem ms_RX10_yX10_order : Cond.selects RX10 yX10_order yX10_order ∈ wsL_law := wm_6 (i := 143) (by decide +kernel) rfl
theorem mc_yX10_order : Cond.code yX10_order cX10_order 4 (some .int) ∈ wsL_law := wm_6 (i := 144) (by decide +kernel) rfl
theorem m_X10_318 : Cond.methodLink RX10 318 yX10_putAside ∈ wsL_law := wm_6 (i := 145) (by decide +kernel) rfl
theorem mi_yX10_putAside : Cond.instanceMethod yX10_putAside ∈ wsL_law := wm_6 (i := 147) (by decide +kernel) rfl
theorem mc_yX10_putAside : Cond.code yX10_putAside cX10_putAside 1 none ∈ wsL_law := wm_6 (i := 148) (by decide +kernel) rfl
theorem m_X10_321 : Cond.methodLink RX10 321 yX10_isAside ∈ wsL_law := wm_6 (i := 149) (by decide +kernel) rfl
theorem mi_yX10_isAside : Cond.instanceMethod yX10_isAside ∈ wsL_law := wm_6 (i := 151) (by decide +kernel) rfl
theorem mc_yX10_isAside : Cond.code yX10_isAside cX10_isAside 1 (some .boolean) ∈ wsL_law := wm_6 (i := 152) (by decide +kernel) rfl
theorem m_X10_324 : Cond.methodLink RX10 324 yX10_bringBack ∈ wsL_law := wm_6 (i := 153) (by decide +kernel) rfl
theorem mi_yX10_bringBack : Cond.instanceMethod yX10_bringBack ∈ wsL_law := wm_6 (i := 155) (by decide +kernel) rfl
theorem mc_yX10_bringBack : Cond.code yX10_bringBack cX10_bringBack 1 none ∈ wsL_law := wm_6 (i := 156) (by decide +kernel) rfl
theorem m_L_90 : Cond.methodLink RL 90 yX10_mirrors ∈ wsL_law := wm_6 (i := 157) (by decide +kernel) rfl
theorem mi_yX10_mirrors : Cond.instanceMethod yX10_mirrors ∈ wsL_law := wm_6 (i := 158) (by decide +kernel) rfl
theorem ms_RX10_yX10_mirrors : Cond.selects RX10 yX10_mirrors yX10_mirrors ∈ wsL_law := wm_6 (i := 159) (by decide +kernel) rfl
theorem mc_yX10_mirrors : Cond.code yX10_mirrors cX10_mirrors 3 (some .int) ∈ wsL_law := wm_6 (i := 160) (by decide +kernel) rfl
theorem m_L_94 : Cond.methodLink RL 94 yX10_keep ∈ wsL_law := wm_6 (i := 161) (by decide +kernel) rfl
theorem mi_yX10_keep : Cond.instanceMethod yX10_keep ∈ wsL_law := wm_6 (i := 162) (by decide +kernel) rfl
theorem ms_RX10_yX10_keep : Cond.selects RX10 yX10_keep yX10_keep ∈ wsL_law := wm_6 (i := 163) (by decide +kernel) rfl
theorem mc_yX10_keep : Cond.code yX10_keep cX10_keep 1 (some .int) ∈ wsL_law := wm_6 (i := 164) (by decide +kernel) rfl
theorem m_L_98 : Cond.methodLink RL 98 yX10_stand ∈ wsL_law := wm_6 (i := 165) (by decide +kernel) rfl
theorem mi_yX10_stand : Cond.instanceMethod yX10_stand ∈ wsL_law := wm_6 (i := 166) (by decide +kernel) rfl
theorem ms_RX10_yX10_stand : Cond.selects RX10 yX10_stand yX10_stand ∈ wsL_law := wm_6 (i := 167) (by decide +kernel) rfl
theorem mc_yX10_stand : Cond.code yX10_stand cX10_stand 2 (some .int) ∈ wsL_law := wm_6 (i := 168) (by decide +kernel) rfl
theorem m_X10_327 : Cond.methodLink RX10 327 yX10_isPose ∈ wsL_law := wm_6 (i := 169) (by decide +kernel) rfl
theorem mi_yX10_isPose : Cond.instanceMethod yX10_isPose ∈ wsL_law := wm_6 (i := 171) (by decide +kernel) rfl
theorem mc_yX10_isPose : Cond.code yX10_isPose cX10_isPose 2 (some .boolean) ∈ wsL_law := wm_6 (i := 172) (by decide +kernel) rfl
theorem m_L_102 : Cond.methodLink RL 102 yX10_alike ∈ wsL_law := wm_6 (i := 173) (by decide +kernel) rfl
theorem mi_yX10_alike : Cond.instanceMethod yX10_alike ∈ wsL_law := wm_6 (i := 174) (by decide +kernel) rfl
theorem ms_RX10_yX10_alike : Cond.selects RX10 yX10_alike yX10_alike ∈ wsL_law := wm_6 (i := 175) (by decide +kernel) rfl
theorem mc_yX10_alike : Cond.code yX10_alike cX10_alike 3 (some .int) ∈ wsL_law := wm_6 (i := 176) (by decide +kernel) rfl
theorem m_X10_333 : Cond.methodLink RX10 333 yX10_isAlike ∈ wsL_law := wm_6 (i := 177) (by decide +kernel) rfl
theorem mi_yX10_isAlike : Cond.instanceMethod yX10_isAlike ∈ wsL_law := wm_6 (i := 179) (by decide +kernel) rfl
theorem mc_yX10_isAlike : Cond.code yX10_isAlike cX10_isAlike 2 (some .boolean) ∈ wsL_law := wm_6 (i := 180) (by decide +kernel) rfl
theorem m_X10_330 : Cond.methodLink RX10 330 yX10_turned ∈ wsL_law := wm_6 (i := 181) (by decide +kernel) rfl
theorem mi_yX10_turned : Cond.instanceMethod yX10_turned ∈ wsL_law := wm_6 (i := 183) (by decide +kernel) rfl
theorem mc_yX10_turned : Cond.code yX10_turned cX10_turned 4 (some .int) ∈ wsL_law := wm_6 (i := 184) (by decide +kernel) rfl
theorem m_L_106 : Cond.methodLink RL 106 yX10_way ∈ wsL_law := wm_6 (i := 185) (by decide +kernel) rfl
theorem mi_yX10_way : Cond.instanceMethod yX10_way ∈ wsL_law := wm_6 (i := 186) (by decide +kernel) rfl
theorem ms_RX10_yX10_way : Cond.selects RX10 yX10_way yX10_way ∈ wsL_law := wm_6 (i := 187) (by decide +kernel) rfl
theorem mc_yX10_way : Cond.code yX10_way cX10_way 2 (some .int) ∈ wsL_law := wm_6 (i := 188) (by decide +kernel) rfl
theorem m_X10_354 : Cond.methodLink RX10 354 yX10_seek ∈ wsL_law := wm_6 (i := 189) (by decide +kernel) rfl
theorem mi_yX10_seek : Cond.instanceMethod yX10_seek ∈ wsL_law := wm_6 (i := 191) (by decide +kernel) rfl
theorem mc_yX10_seek : Cond.code yX10_seek cX10_seek 2 none ∈ wsL_law := wm_6 (i := 192) (by decide +kernel) rfl
theorem m_X10_348 : Cond.methodLink RX10 348 yX10_search ∈ wsL_law := wm_6 (i := 193) (by decide +kernel) rfl
theorem mi_yX10_search : Cond.instanceMethod yX10_search ∈ wsL_law := wm_6 (i := 195) (by decide +kernel) rfl
theorem mc_yX10_search : Cond.code yX10_search cX10_search 5 (some .int) ∈ wsL_law := wm_6 (i := 196) (by decide +kernel) rfl
theorem m_X10_345 : Cond.methodLink RX10 345 yX10_meets ∈ wsL_law := wm_6 (i := 197) (by decide +kernel) rfl
theorem mi_yX10_meets : Cond.instanceMethod yX10_meets ∈ wsL_law := wm_6 (i := 199) (by decide +kernel) rfl
theorem mc_yX10_meets : Cond.code yX10_meets cX10_meets 8 (some .boolean) ∈ wsL_law := wm_6 (i := 200) (by decide +kernel) rfl
theorem m_X10_336 : Cond.constantLong RX10 336 (31) ∈ wsL_law := wm_6 (i := 201) (by decide +kernel) rfl
theorem m_X10_338 : Cond.constantLong RX10 338 (-7046029254386353131) ∈ wsL_law := wm_6 (i := 202) (by decide +kernel) rfl
theorem m_X10_340 : Cond.constantLong RX10 340 (2685821657736338717) ∈ wsL_law := wm_6 (i := 203) (by decide +kernel) rfl
theorem m_X10_357 : Cond.methodLink RX10 357 yX10_steps ∈ wsL_law := wm_6 (i := 204) (by decide +kernel) rfl
theorem mi_yX10_steps : Cond.instanceMethod yX10_steps ∈ wsL_law := wm_6 (i := 206) (by decide +kernel) rfl
theorem mc_yX10_steps : Cond.code yX10_steps cX10_steps 3 (some .int) ∈ wsL_law := wm_6 (i := 207) (by decide +kernel) rfl
theorem m_L_110 : Cond.methodLink RL 110 yX10_wayAt ∈ wsL_law := wm_6 (i := 208) (by decide +kernel) rfl
theorem mi_yX10_wayAt : Cond.instanceMethod yX10_wayAt ∈ wsL_law := wm_6 (i := 209) (by decide +kernel) rfl
theorem ms_RX10_yX10_wayAt : Cond.selects RX10 yX10_wayAt yX10_wayAt ∈ wsL_law := wm_6 (i := 210) (by decide +kernel) rfl
theorem mc_yX10_wayAt : Cond.code yX10_wayAt cX10_wayAt 5 (some .int) ∈ wsL_law := wm_6 (i := 211) (by decide +kernel) rfl
theorem m_L_114 : Cond.methodLink RL 114 yX10_met ∈ wsL_law := wm_6 (i := 212) (by decide +kernel) rfl
theorem mi_yX10_met : Cond.instanceMethod yX10_met ∈ wsL_law := wm_6 (i := 213) (by decide +kernel) rfl
theorem ms_RX10_yX10_met : Cond.selects RX10 yX10_met yX10_met ∈ wsL_law := wm_6 (i := 214) (by decide +kernel) rfl
theorem mc_yX10_met : Cond.code yX10_met cX10_met 2 (some .int) ∈ wsL_law := wm_6 (i := 215) (by decide +kernel) rfl
theorem m_L_118 : Cond.methodLink RL 118 yX10_village ∈ wsL_law := wm_6 (i := 216) (by decide +kernel) rfl
theorem mi_yX10_village : Cond.instanceMethod yX10_village ∈ wsL_law := wm_6 (i := 217) (by decide +kernel) rfl
theorem ms_RX10_yX10_village : Cond.selects RX10 yX10_village yX10_village ∈ wsL_law := wm_6 (i := 218) (by decide +kernel) rfl
theorem mc_yX10_village : Cond.code yX10_village cX10_village 1 (some .int) ∈ wsL_law := wm_6 (i := 219) (by decide +kernel) rfl
theorem m_L_122 : Cond.methodLink RL 122 yX10_add ∈ wsL_law := wm_6 (i := 220) (by decide +kernel) rfl
theorem mi_yX10_add : Cond.instanceMethod yX10_add ∈ wsL_law := wm_6 (i := 221) (by decide +kernel) rfl
theorem ms_RX10_yX10_add : Cond.selects RX10 yX10_add yX10_add ∈ wsL_law := wm_6 (i := 222) (by decide +kernel) rfl
theorem mc_yX10_add : Cond.code yX10_add cX10_add 3 (some .int) ∈ wsL_law := wm_6 (i := 223) (by decide +kernel) rfl
theorem m_X10_363 : Cond.methodLink RX10 363 yX10_isVillage ∈ wsL_law := wm_6 (i := 224) (by decide +kernel) rfl
theorem mi_yX10_isVillage : Cond.instanceMethod yX10_isVillage ∈ wsL_law := wm_6 (i := 226) (by decide +kernel) rfl
theorem mc_yX10_isVillage : Cond.code yX10_isVillage cX10_isVillage 2 (some .boolean) ∈ wsL_law := wm_6 (i := 227) (by decide +kernel) rfl
theorem m_L_126 : Cond.methodLink RL 126 yX10_danceOf ∈ wsL_law := wm_6 (i := 228) (by decide +kernel) rfl
theorem mi_yX10_danceOf : Cond.instanceMethod yX10_danceOf ∈ wsL_law := wm_6 (i := 229) (by decide +kernel) rfl
theorem ms_RX10_yX10_danceOf : Cond.selects RX10 yX10_danceOf yX10_danceOf ∈ wsL_law := wm_6 (i := 230) (by decide +kernel) rfl
theorem mc_yX10_danceOf : Cond.code yX10_danceOf cX10_danceOf 5 (some .int) ∈ wsL_law := wm_6 (i := 231) (by decide +kernel) rfl
theorem m_L_131 : Cond.methodLink RL 131 yX10_shared ∈ wsL_law := wm_6 (i := 232) (by decide +kernel) rfl
theorem mi_yX10_shared : Cond.instanceMethod yX10_shared ∈ wsL_law := wm_6 (i := 233) (by decide +kernel) rfl
theorem ms_RX10_yX10_shared : Cond.selects RX10 yX10_shared yX10_shared ∈ wsL_law := wm_6 (i := 234) (by decide +kernel) rfl
theorem mc_yX10_shared : Cond.code yX10_shared cX10_shared 12 (some .int) ∈ wsL_law := wm_6 (i := 235) (by decide +kernel) rfl
theorem m_X10_366 : Cond.methodLink RX10 366 yX10_layLongest ∈ wsL_law := wm_6 (i := 236) (by decide +kernel) rfl
theorem mi_yX10_layLongest : Cond.instanceMethod yX10_layLongest ∈ wsL_law := wm_6 (i := 238) (by decide +kernel) rfl
theorem mc_yX10_layLongest : Cond.code yX10_layLongest cX10_layLongest 8 none ∈ wsL_law := wm_6 (i := 239) (by decide +kernel) rfl
theorem m_X10_369 : Cond.methodLink RX10 369 yX10_firstOf ∈ wsL_law := wm_7 (i := 0) (by decide +kernel) rfl
theorem mi_yX10_firstOf : Cond.instanceMethod yX10_firstOf ∈ wsL_law := wm_7 (i := 2) (by decide +kernel) rfl
theorem mc_yX10_firstOf : Cond.code yX10_firstOf cX10_firstOf 5 (some .int) ∈ wsL_law := wm_7 (i := 3) (by decide +kernel) rfl
theorem m_L_135 : Cond.methodLink RL 135 yX10_perform ∈ wsL_law := wm_7 (i := 4) (by decide +kernel) rfl
theorem mi_yX10_perform : Cond.instanceMethod yX10_perform ∈ wsL_law := wm_7 (i := 5) (by decide +kernel) rfl
theorem ms_RX10_yX10_perform : Cond.selects RX10 yX10_perform yX10_perform ∈ wsL_law := wm_7 (i := 6) (by decide +kernel) rfl
theorem mc_yX10_perform : Cond.code yX10_perform cX10_perform 4 (some .int) ∈ wsL_law := wm_7 (i := 7) (by decide +kernel) rfl
theorem m_L_139 : Cond.methodLink RL 139 yX10_sheet ∈ wsL_law := wm_7 (i := 8) (by decide +kernel) rfl
theorem mi_yX10_sheet : Cond.instanceMethod yX10_sheet ∈ wsL_law := wm_7 (i := 9) (by decide +kernel) rfl
theorem ms_RX10_yX10_sheet : Cond.selects RX10 yX10_sheet yX10_sheet ∈ wsL_law := wm_7 (i := 10) (by decide +kernel) rfl
theorem mc_yX10_sheet : Cond.code yX10_sheet cX10_sheet 5 (some .int) ∈ wsL_law := wm_7 (i := 11) (by decide +kernel) rfl
theorem m_X10_373 : Cond.constantLong RX10 373 (3) ∈ wsL_law := wm_7 (i := 12) (by decide +kernel) rfl
theorem m_L_143 : Cond.methodLink RL 143 yX10_lay ∈ wsL_law := wm_7 (i := 13) (by decide +kernel) rfl
theorem mi_yX10_lay : Cond.instanceMethod yX10_lay ∈ wsL_law := wm_7 (i := 14) (by decide +kernel) rfl
theorem ms_RX10_yX10_lay : Cond.selects RX10 yX10_lay yX10_lay ∈ wsL_law := wm_7 (i := 15) (by decide +kernel) rfl
theorem mc_yX10_lay : Cond.code yX10_lay cX10_lay 4 (some .int) ∈ wsL_law := wm_7 (i := 16) (by decide +kernel) rfl
theorem m_L_148 : Cond.methodLink RL 148 yX10_scan ∈ wsL_law := wm_7 (i := 17) (by decide +kernel) rfl
theorem mi_yX10_scan : Cond.instanceMethod yX10_scan ∈ wsL_law := wm_7 (i := 18) (by decide +kernel) rfl
theorem ms_RX10_yX10_scan : Cond.selects RX10 yX10_scan yX10_scan ∈ wsL_law := wm_7 (i := 19) (by decide +kernel) rfl
theorem mc_yX10_scan : Cond.code yX10_scan cX10_scan 10 (some .int) ∈ wsL_law := wm_7 (i := 20) (by decide +kernel) rfl
theorem m_X10_375 : Cond.constantLong RX10 375 (30) ∈ wsL_law := wm_7 (i := 21) (by decide +kernel) rfl
theorem m_L_152 : Cond.methodLink RL 152 yX10_count ∈ wsL_law := wm_7 (i := 22) (by decide +kernel) rfl
theorem mi_yX10_count : Cond.instanceMethod yX10_count ∈ wsL_law := wm_7 (i := 23) (by decide +kernel) rfl
theorem ms_RX10_yX10_count : Cond.selects RX10 yX10_count yX10_count ∈ wsL_law := wm_7 (i := 24) (by decide +kernel) rfl
theorem mc_yX10_count : Cond.code yX10_count cX10_count 2 (some .int) ∈ wsL_law := wm_7 (i := 25) (by decide +kernel) rfl
theorem m_L_48 : Cond.constantLong RL 48 (4294967295) ∈ wsL_law := wm_7 (i := 26) (by decide +kernel) rfl
theorem m_J0_15 : Cond.fieldLink RJ0 15 "java/lang/String" "coder" "B" ∈ wsL_law := wm_7 (i := 27) (by decide +kernel) rfl
theorem m_J0_9 : Cond.fieldLink RJ0 9 "java/lang/String" "value" "[B" ∈ wsL_law := wm_7 (i := 28) (by decide +kernel) rfl
theorem inlX0 : ∀ w ∈ u_ws RX0 TX0 2, w ∈ wsL_law := show ∀ w ∈ [Cond.laysFinal RX0 "BladeRing$Figure" "beats" "[B", Cond.lays RX0 "BladeRing$Figure" "length" "I"], w ∈ wsL_law from List.forall_mem_cons.mpr ⟨ml_X0_beats, List.forall_mem_cons.mpr ⟨ml_X0_length, fun _ h => absurd h List.not_mem_nil⟩⟩
theorem inlX1 : ∀ w ∈ u_ws RX1 TX1 5, w ∈ wsL_law := show ∀ w ∈ [Cond.laysFinal RX1 "BladeRing$Floor" "now" "LBladeRing$Weave;", Cond.laysFinal RX1 "BladeRing$Floor" "past" "[LBladeRing$Weave;", Cond.lays RX1 "BladeRing$Floor" "next" "I", Cond.lays RX1 "BladeRing$Floor" "undoable" "I", Cond.lays RX1 "BladeRing$Floor" "refusal" "I"], w ∈ wsL_law from List.forall_mem_cons.mpr ⟨ml_X1_now, List.forall_mem_cons.mpr ⟨ml_X1_past, List.forall_mem_cons.mpr ⟨ml_X1_next, List.forall_mem_cons.mpr ⟨ml_X1_undoable, List.forall_mem_cons.mpr ⟨ml_X1_refusal, fun _ h => absurd h List.not_mem_nil⟩⟩⟩⟩⟩
theorem inlX2 : ∀ w ∈ u_ws RX2 TX2 14, w ∈ wsL_law := show ∀ w ∈ [Cond.laysFinal RX2 "BladeRing$Search" "seats" "[J", Cond.laysFinal RX2 "BladeRing$Search" "overs" "[J", Cond.laysFinal RX2 "BladeRing$Search" "keys" "[J", Cond.laysFinal RX2 "BladeRing$Search" "parents" "[I", Cond.laysFinal RX2 "BladeRing$Search" "acts" "[I", Cond.laysFinal RX2 "BladeRing$Search" "slots" "[I", Cond.laysFinal RX2 "BladeRing$Search" "from" "LBladeRing$Weave;", Cond.laysFinal RX2 "BladeRing$Search" "to" "LBladeRing$Weave;", Cond.laysFinal RX2 "BladeRing$Search" "step" "LBladeRing$Weave;", Cond.lays RX2 "BladeRing$Search" "goalKey" "J", Cond.lays RX2 "BladeRing$Search" "searched" "Z", Cond.lays RX2 "BladeRing$Search" "metCount" "I", Cond.lays RX2 "BladeRing$Search" "goal" "I", Cond.lays RX2 "BladeRing$Search" "answer" "I"], w ∈ wsL_law from List.forall_mem_cons.mpr ⟨ml_X2_seats, List.forall_mem_cons.mpr ⟨ml_X2_overs, List.forall_mem_cons.mpr ⟨ml_X2_keys, List.forall_mem_cons.mpr ⟨ml_X2_parents, List.forall_mem_cons.mpr ⟨ml_X2_acts, List.forall_mem_cons.mpr ⟨ml_X2_slots, List.forall_mem_cons.mpr ⟨ml_X2_from, List.forall_mem_cons.mpr ⟨ml_X2_to, List.forall_mem_cons.mpr ⟨ml_X2_step, List.forall_mem_cons.mpr ⟨ml_X2_goalKey, List.forall_mem_cons.mpr ⟨ml_X2_searched, List.forall_mem_cons.mpr ⟨ml_X2_metCount, List.forall_mem_cons.mpr ⟨ml_X2_goal, List.forall_mem_cons.mpr ⟨ml_X2_answer, fun _ h => absurd h List.not_mem_nil⟩⟩⟩⟩⟩⟩⟩⟩⟩⟩⟩⟩⟩⟩
theorem inlX3 : ∀ w ∈ u_ws RX3 TX3 2, w ∈ wsL_law := show ∀ w ∈ [Cond.laysFinal RX3 "BladeRing$Sharing" "lengths" "[[I", Cond.laysFinal RX3 "BladeRing$Sharing" "row" "LBladeRing$Village;"], w ∈ wsL_law from List.forall_mem_cons.mpr ⟨ml_X3_lengths, List.forall_mem_cons.mpr ⟨ml_X3_row, fun _ h => absurd h List.not_mem_nil⟩⟩
theorem inlX4 : ∀ w ∈ u_ws RX4 TX4 3, w ∈ wsL_law := show ∀ w ∈ [Cond.laysFinal RX4 "BladeRing$Sheet" "cells" "[I", Cond.lays RX4 "BladeRing$Sheet" "lane" "I", Cond.lays RX4 "BladeRing$Sheet" "size" "I"], w ∈ wsL_law from List.forall_mem_cons.mpr ⟨ml_X4_cells, List.forall_mem_cons.mpr ⟨ml_X4_lane, List.forall_mem_cons.mpr ⟨ml_X4_size, fun _ h => absurd h List.not_mem_nil⟩⟩⟩
theorem inlX5 : ∀ w ∈ u_ws RX5 TX5 6, w ∈ wsL_law := show ∀ w ∈ [Cond.laysFinal RX5 "BladeRing$Tape" "bytes" "[B", Cond.lays RX5 "BladeRing$Tape" "length" "I", Cond.lays RX5 "BladeRing$Tape" "reading" "I", Cond.lays RX5 "BladeRing$Tape" "kind" "I", Cond.lays RX5 "BladeRing$Tape" "place" "I", Cond.lays RX5 "BladeRing$Tape" "value" "I"], w ∈ wsL_law from List.forall_mem_cons.mpr ⟨ml_X5_bytes, List.forall_mem_cons.mpr ⟨ml_X5_length, List.forall_mem_cons.mpr ⟨ml_X5_reading, List.forall_mem_cons.mpr ⟨ml_X5_kind, List.forall_mem_cons.mpr ⟨ml_X5_place, List.forall_mem_cons.mpr ⟨ml_X5_value, fun _ h => absurd h List.not_mem_nil⟩⟩⟩⟩⟩⟩
theorem inlX6 : ∀ w ∈ u_ws RX6 TX6 11, w ∈ wsL_law := show ∀ w ∈ [Cond.laysFinal RX6 "BladeRing$Teller" "draft" "LBladeRing$Figure;", Cond.laysFinal RX6 "BladeRing$Teller" "starts" "[I", Cond.laysFinal RX6 "BladeRing$Teller" "times" "[I", Cond.lays RX6 "BladeRing$Teller" "open" "I", Cond.lays RX6 "BladeRing$Teller" "wanted" "I", Cond.lays RX6 "BladeRing$Teller" "letter" "I", Cond.lays RX6 "BladeRing$Teller" "rounds" "I", Cond.lays RX6 "BladeRing$Teller" "empty" "Z", Cond.lays RX6 "BladeRing$Teller" "overlong" "Z", Cond.lays RX6 "BladeRing$Teller" "fault" "I", Cond.lays RX6 "BladeRing$Teller" "faultPlace" "I"], w ∈ wsL_law from List.forall_mem_cons.mpr ⟨ml_X6_draft, List.forall_mem_cons.mpr ⟨ml_X6_starts, List.forall_mem_cons.mpr ⟨ml_X6_times, List.forall_mem_cons.mpr ⟨ml_X6_open, List.forall_mem_cons.mpr ⟨ml_X6_wanted, List.forall_mem_cons.mpr ⟨ml_X6_letter, List.forall_mem_cons.mpr ⟨ml_X6_rounds, List.forall_mem_cons.mpr ⟨ml_X6_empty, List.forall_mem_cons.mpr ⟨ml_X6_overlong, List.forall_mem_cons.mpr ⟨ml_X6_fault, List.forall_mem_cons.mpr ⟨ml_X6_faultPlace, fun _ h => absurd h List.not_mem_nil⟩⟩⟩⟩⟩⟩⟩⟩⟩⟩⟩
theorem inlX7 : ∀ w ∈ u_ws RX7 TX7 2, w ∈ wsL_law := show ∀ w ∈ [Cond.laysFinal RX7 "BladeRing$Village" "figures" "[I", Cond.lays RX7 "BladeRing$Village" "length" "I"], w ∈ wsL_law from List.forall_mem_cons.mpr ⟨ml_X7_figures, List.forall_mem_cons.mpr ⟨ml_X7_length, fun _ h => absurd h List.not_mem_nil⟩⟩
theorem inlX8 : ∀ w ∈ u_ws RX8 TX8 5, w ∈ wsL_law := show ∀ w ∈ [Cond.lays RX8 "BladeRing$Weave" "dancers" "I", Cond.lays RX8 "BladeRing$Weave" "seats" "J", Cond.lays RX8 "BladeRing$Weave" "inward" "I", Cond.lays RX8 "BladeRing$Weave" "held" "I", Cond.lays RX8 "BladeRing$Weave" "overs" "J"], w ∈ wsL_law from List.forall_mem_cons.mpr ⟨ml_X8_dancers, List.forall_mem_cons.mpr ⟨ml_X8_seats, List.forall_mem_cons.mpr ⟨ml_X8_inward, List.forall_mem_cons.mpr ⟨ml_X8_held, List.forall_mem_cons.mpr ⟨ml_X8_overs, fun _ h => absurd h List.not_mem_nil⟩⟩⟩⟩⟩
theorem inlX9 : ∀ w ∈ u_ws RX9 TX9 16, w ∈ wsL_law := show ∀ w ∈ [Cond.laysFinal RX9 "BladeRing" "floor" "LBladeRing$Floor;", Cond.laysFinal RX9 "BladeRing" "trial" "LBladeRing$Floor;", Cond.laysFinal RX9 "BladeRing" "probe" "LBladeRing$Weave;", Cond.laysFinal RX9 "BladeRing" "poses" "[LBladeRing$Weave;", Cond.lays RX9 "BladeRing" "poseCount" "I", Cond.laysFinal RX9 "BladeRing" "search" "LBladeRing$Search;", Cond.laysFinal RX9 "BladeRing" "tape" "LBladeRing$Tape;", Cond.laysFinal RX9 "BladeRing" "teller" "LBladeRing$Teller;", Cond.laysFinal RX9 "BladeRing" "figures" "[LBladeRing$Figure;", Cond.lays RX9 "BladeRing" "figureCount" "I", Cond.lays RX9 "BladeRing" "latestFault" "I", Cond.lays RX9 "BladeRing" "latestStop" "I", Cond.laysFinal RX9 "BladeRing" "villages" "[LBladeRing$Village;", Cond.lays RX9 "BladeRing" "villageCount" "I", Cond.laysFinal RX9 "BladeRing" "sharing" "LBladeRing$Sharing;", Cond.laysFinal RX9 "BladeRing" "sheets" "[LBladeRing$Sheet;"], w ∈ wsL_law from List.forall_mem_cons.mpr ⟨ml_X9_floor, List.forall_mem_cons.mpr ⟨ml_X9_trial, List.forall_mem_cons.mpr ⟨ml_X9_probe, List.forall_mem_cons.mpr ⟨ml_X9_poses, List.forall_mem_cons.mpr ⟨ml_X9_poseCount, List.forall_mem_cons.mpr ⟨ml_X9_search, List.forall_mem_cons.mpr ⟨ml_X9_tape, List.forall_mem_cons.mpr ⟨ml_X9_teller, List.forall_mem_cons.mpr ⟨ml_X9_figures, List.forall_mem_cons.mpr ⟨ml_X9_figureCount, List.forall_mem_cons.mpr ⟨ml_X9_latestFault, List.forall_mem_cons.mpr ⟨ml_X9_latestStop, List.forall_mem_cons.mpr ⟨ml_X9_villages, List.forall_mem_cons.mpr ⟨ml_X9_villageCount, List.forall_mem_cons.mpr ⟨ml_X9_sharing, List.forall_mem_cons.mpr ⟨ml_X9_sheets, fun _ h => absurd h List.not_mem_nil⟩⟩⟩⟩⟩⟩⟩⟩⟩⟩⟩⟩⟩⟩⟩⟩
theorem inlX10 : ∀ w ∈ u_ws RX10 TX10 58, w ∈ wsL_law := show ∀ w ∈ [Cond.lays RX10 "BladeRingModel" "n" "I", Cond.laysFinal RX10 "BladeRingModel" "placeOf" "[I", Cond.lays RX10 "BladeRingModel" "faces" "I", Cond.lays RX10 "BladeRingModel" "held" "I", Cond.lays RX10 "BladeRingModel" "over" "J", Cond.lays RX10 "BladeRingModel" "undos" "I", Cond.laysFinal RX10 "BladeRingModel" "oldPlaces" "[I", Cond.laysFinal RX10 "BladeRingModel" "oldFaces" "[I", Cond.laysFinal RX10 "BladeRingModel" "oldHeld" "[I", Cond.laysFinal RX10 "BladeRingModel" "oldOver" "[J", Cond.laysFinal RX10 "BladeRingModel" "layerOf" "[I", Cond.lays RX10 "BladeRingModel" "layers" "I", Cond.lays RX10 "BladeRingModel" "bound" "I", Cond.laysFinal RX10 "BladeRingModel" "tape" "[I", Cond.lays RX10 "BladeRingModel" "taped" "I", Cond.lays RX10 "BladeRingModel" "fault" "I", Cond.lays RX10 "BladeRingModel" "wrong" "I", Cond.lays RX10 "BladeRingModel" "wrongAt" "I", Cond.lays RX10 "BladeRingModel" "at" "I", Cond.lays RX10 "BladeRingModel" "spot" "I", Cond.lays RX10 "BladeRingModel" "token" "I", Cond.lays RX10 "BladeRingModel" "value" "I", Cond.lays RX10 "BladeRingModel" "figures" "I", Cond.laysFinal RX10 "BladeRingModel" "beatMany" "[I", Cond.laysFinal RX10 "BladeRingModel" "beatSort" "[I", Cond.laysFinal RX10 "BladeRingModel" "beatNumber" "[I", Cond.lays RX10 "BladeRingModel" "newMany" "I", Cond.laysFinal RX10 "BladeRingModel" "newSort" "[I", Cond.laysFinal RX10 "BladeRingModel" "newNumber" "[I", Cond.lays RX10 "BladeRingModel" "depth" "I", Cond.laysFinal RX10 "BladeRingModel" "begins" "[I", Cond.laysFinal RX10 "BladeRingModel" "rounds" "[I", Cond.laysFinal RX10 "BladeRingModel" "items" "[I", Cond.lays RX10 "BladeRingModel" "why" "I", Cond.lays RX10 "BladeRingModel" "stopped" "I", Cond.lays RX10 "BladeRingModel" "asidePlaces" "I", Cond.lays RX10 "BladeRingModel" "asideFaces" "I", Cond.lays RX10 "BladeRingModel" "asideHeld" "I", Cond.lays RX10 "BladeRingModel" "asideOver" "J", Cond.lays RX10 "BladeRingModel" "poses" "I", Cond.laysFinal RX10 "BladeRingModel" "posePlaces" "[I", Cond.laysFinal RX10 "BladeRingModel" "poseFaces" "[I", Cond.laysFinal RX10 "BladeRingModel" "poseHeld" "[I", Cond.laysFinal RX10 "BladeRingModel" "poseOver" "[J", Cond.lays RX10 "BladeRingModel" "many" "I", Cond.laysFinal RX10 "BladeRingModel" "metPlaces" "[I", Cond.laysFinal RX10 "BladeRingModel" "metOver" "[J", Cond.laysFinal RX10 "BladeRingModel" "metFrom" "[I", Cond.laysFinal RX10 "BladeRingModel" "metBy" "[I", Cond.laysFinal RX10 "BladeRingModel" "seats" "[I", Cond.lays RX10 "BladeRingModel" "goal" "I", Cond.lays RX10 "BladeRingModel" "villages" "I", Cond.laysFinal RX10 "BladeRingModel" "danceMany" "[I", Cond.laysFinal RX10 "BladeRingModel" "dances" "[I", Cond.laysFinal RX10 "BladeRingModel" "longest" "[I", Cond.laysFinal RX10 "BladeRingModel" "lanes" "[I", Cond.laysFinal RX10 "BladeRingModel" "lengths" "[I", Cond.laysFinal RX10 "BladeRingModel" "cells" "[I"], w ∈ wsL_law from List.forall_mem_cons.mpr ⟨ml_X10_n, List.forall_mem_cons.mpr ⟨ml_X10_placeOf, List.forall_mem_cons.mpr ⟨ml_X10_faces, List.forall_mem_cons.mpr ⟨ml_X10_held, List.forall_mem_cons.mpr ⟨ml_X10_over, List.forall_mem_cons.mpr ⟨ml_X10_undos, List.forall_mem_cons.mpr ⟨ml_X10_oldPlaces, List.forall_mem_cons.mpr ⟨ml_X10_oldFaces, List.forall_mem_cons.mpr ⟨ml_X10_oldHeld, List.forall_mem_cons.mpr ⟨ml_X10_oldOver, List.forall_mem_cons.mpr ⟨ml_X10_layerOf, List.forall_mem_cons.mpr ⟨ml_X10_layers, List.forall_mem_cons.mpr ⟨ml_X10_bound, List.forall_mem_cons.mpr ⟨ml_X10_tape, List.forall_mem_cons.mpr ⟨ml_X10_taped, List.forall_mem_cons.mpr ⟨ml_X10_fault, List.forall_mem_cons.mpr ⟨ml_X10_wrong, List.forall_mem_cons.mpr ⟨ml_X10_wrongAt, List.forall_mem_cons.mpr ⟨ml_X10_at, List.forall_mem_cons.mpr ⟨ml_X10_spot, List.forall_mem_cons.mpr ⟨ml_X10_token, List.forall_mem_cons.mpr ⟨ml_X10_value, List.forall_mem_cons.mpr ⟨ml_X10_figures, List.forall_mem_cons.mpr ⟨ml_X10_beatMany, List.forall_mem_cons.mpr ⟨ml_X10_beatSort, List.forall_mem_cons.mpr ⟨ml_X10_beatNumber, List.forall_mem_cons.mpr ⟨ml_X10_newMany, List.forall_mem_cons.mpr ⟨ml_X10_newSort, List.forall_mem_cons.mpr ⟨ml_X10_newNumber, List.forall_mem_cons.mpr ⟨ml_X10_depth, List.forall_mem_cons.mpr ⟨ml_X10_begins, List.forall_mem_cons.mpr ⟨ml_X10_rounds, List.forall_mem_cons.mpr ⟨ml_X10_items, List.forall_mem_cons.mpr ⟨ml_X10_why, List.forall_mem_cons.mpr ⟨ml_X10_stopped, List.forall_mem_cons.mpr ⟨ml_X10_asidePlaces, List.forall_mem_cons.mpr ⟨ml_X10_asideFaces, List.forall_mem_cons.mpr ⟨ml_X10_asideHeld, List.forall_mem_cons.mpr ⟨ml_X10_asideOver, List.forall_mem_cons.mpr ⟨ml_X10_poses, List.forall_mem_cons.mpr ⟨ml_X10_posePlaces, List.forall_mem_cons.mpr ⟨ml_X10_poseFaces, List.forall_mem_cons.mpr ⟨ml_X10_poseHeld, List.forall_mem_cons.mpr ⟨ml_X10_poseOver, List.forall_mem_cons.mpr ⟨ml_X10_many, List.forall_mem_cons.mpr ⟨ml_X10_metPlaces, List.forall_mem_cons.mpr ⟨ml_X10_metOver, List.forall_mem_cons.mpr ⟨ml_X10_metFrom, List.forall_mem_cons.mpr ⟨ml_X10_metBy, List.forall_mem_cons.mpr ⟨ml_X10_seats, List.forall_mem_cons.mpr ⟨ml_X10_goal, List.forall_mem_cons.mpr ⟨ml_X10_villages, List.forall_mem_cons.mpr ⟨ml_X10_danceMany, List.forall_mem_cons.mpr ⟨ml_X10_dances, List.forall_mem_cons.mpr ⟨ml_X10_longest, List.forall_mem_cons.mpr ⟨ml_X10_lanes, List.forall_mem_cons.mpr ⟨ml_X10_lengths, List.forall_mem_cons.mpr ⟨ml_X10_cells, fun _ h => absurd h List.not_mem_nil⟩⟩⟩⟩⟩⟩⟩⟩⟩⟩⟩⟩⟩⟩⟩⟩⟩⟩⟩⟩⟩⟩⟩⟩⟩⟩⟩⟩⟩⟩⟩⟩⟩⟩⟩⟩⟩⟩⟩⟩⟩⟩⟩⟩⟩⟩⟩⟩⟩⟩⟩⟩⟩⟩⟩⟩⟩⟩
