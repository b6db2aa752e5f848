theorem kk_b_10 : (Int8.ofInt (10)).toInt32 = (10 : Int32) := by decide
theorem kk_b_100 : (Int8.ofInt (100)).toInt32 = (100 : Int32) := by decide
theorem kk_b_11 : (Int8.ofInt (11)).toInt32 = (11 : Int32) := by decide
theorem kk_b_126 : (Int8.ofInt (126)).toInt32 = (126 : Int32) := by decide
theorem kk_b_16 : (Int8.ofInt (16)).toInt32 = (16 : Int32) := by decide
theorem kk_b_19 : (Int8.ofInt (19)).toInt32 = (19 : Int32) := by decide
theorem kk_b_20 : (Int8.ofInt (20)).toInt32 = (20 : Int32) := by decide
theorem kk_b_29 : (Int8.ofInt (29)).toInt32 = (29 : Int32) := by decide
theorem kk_b_30 : (Int8.ofInt (30)).toInt32 = (30 : Int32) := by decide
theorem kk_b_31 : (Int8.ofInt (31)).toInt32 = (31 : Int32) := by decide
theorem kk_b_33 : (Int8.ofInt (33)).toInt32 = (33 : Int32) := by decide
theorem kk_b_35 : (Int8.ofInt (35)).toInt32 = (35 : Int32) := by decide
theorem kk_b_38 : (Int8.ofInt (38)).toInt32 = (38 : Int32) := by decide
theorem kk_b_43 : (Int8.ofInt (43)).toInt32 = (43 : Int32) := by decide
theorem kk_b_45 : (Int8.ofInt (45)).toInt32 = (45 : Int32) := by decide
theorem kk_b_46 : (Int8.ofInt (46)).toInt32 = (46 : Int32) := by decide
theorem kk_b_48 : (Int8.ofInt (48)).toInt32 = (48 : Int32) := by decide
theorem kk_b_49 : (Int8.ofInt (49)).toInt32 = (49 : Int32) := by decide
theorem kk_b_57 : (Int8.ofInt (57)).toInt32 = (57 : Int32) := by decide
theorem kk_b_6 : (Int8.ofInt (6)).toInt32 = (6 : Int32) := by decide
theorem kk_b_60 : (Int8.ofInt (60)).toInt32 = (60 : Int32) := by decide
theorem kk_b_62 : (Int8.ofInt (62)).toInt32 = (62 : Int32) := by decide
theorem kk_b_63 : (Int8.ofInt (63)).toInt32 = (63 : Int32) := by decide
theorem kk_b_65 : (Int8.ofInt (65)).toInt32 = (65 : Int32) := by decide
theorem kk_b_74 : (Int8.ofInt (74)).toInt32 = (74 : Int32) := by decide
theorem kk_b_75 : (Int8.ofInt (75)).toInt32 = (75 : Int32) := by decide
theorem kk_b_8 : (Int8.ofInt (8)).toInt32 = (8 : Int32) := by decide
theorem kk_b_80 : (Int8.ofInt (80)).toInt32 = (80 : Int32) := by decide
theorem kk_b_9 : (Int8.ofInt (9)).toInt32 = (9 : Int32) := by decide
theorem kk_b_99 : (Int8.ofInt (99)).toInt32 = (99 : Int32) := by decide
theorem kk_b_m2 : (Int8.ofInt (-2)).toInt32 = (-2 : Int32) := by decide
theorem kk_b_m3 : (Int8.ofInt (-3)).toInt32 = (-3 : Int32) := by decide
theorem kk_b_m4 : (Int8.ofInt (-4)).toInt32 = (-4 : Int32) := by decide
theorem kk_b_m5 : (Int8.ofInt (-5)).toInt32 = (-5 : Int32) := by decide
theorem kk_b_m6 : (Int8.ofInt (-6)).toInt32 = (-6 : Int32) := by decide
theorem kk_i_0 : Int32.ofInt (0) = (0 : Int32) := by decide
theorem kk_i_1 : Int32.ofInt (1) = (1 : Int32) := by decide
theorem kk_i_2 : Int32.ofInt (2) = (2 : Int32) := by decide
theorem kk_i_3 : Int32.ofInt (3) = (3 : Int32) := by decide
theorem kk_i_4 : Int32.ofInt (4) = (4 : Int32) := by decide
theorem kk_i_5 : Int32.ofInt (5) = (5 : Int32) := by decide
theorem kk_i_m1 : Int32.ofInt (-1) = (-1 : Int32) := by decide
theorem kk_s_1000 : (Int16.ofInt (1000)).toInt32 = (1000 : Int32) := by decide
theorem kk_s_993 : (Int16.ofInt (993)).toInt32 = (993 : Int32) := by decide
theorem kk_s_999 : (Int16.ofInt (999)).toInt32 = (999 : Int32) := by decide
theorem kk_s_9999 : (Int16.ofInt (9999)).toInt32 = (9999 : Int32) := by decide
theorem ki_1 (x : Int32) : x + Int32.ofInt (1) = x + (1 : Int32) := rfl
theorem ki_m1 (x : Int32) : x + Int32.ofInt (-1) = x + (-1 : Int32) := rfl
theorem hd_X0_begin : yX0_begin.cls = RX0 ∧ yX0_begin.cls ≠ "java/lang/invoke/MethodHandle" ∧ yX0_begin.cls ≠ "java/lang/invoke/VarHandle" ∧ (parseMethodDescriptor yX0_begin.desc).map (fun d => d.parameters.length) = some 0 := by decide +kernel
theorem hd_X0_take : yX0_take.cls = RX0 ∧ yX0_take.cls ≠ "java/lang/invoke/MethodHandle" ∧ yX0_take.cls ≠ "java/lang/invoke/VarHandle" ∧ (parseMethodDescriptor yX0_take.desc).map (fun d => d.parameters.length) = some 4 := by decide +kernel
theorem hd_X1_chooseChild : yX1_chooseChild.cls = RX1 ∧ yX1_chooseChild.cls ≠ "java/lang/invoke/MethodHandle" ∧ yX1_chooseChild.cls ≠ "java/lang/invoke/VarHandle" ∧ (parseMethodDescriptor yX1_chooseChild.desc).map (fun d => d.parameters.length) = some 1 := by decide +kernel
theorem hd_X1_countFitting : yX1_countFitting.cls = RX1 ∧ yX1_countFitting.cls ≠ "java/lang/invoke/MethodHandle" ∧ yX1_countFitting.cls ≠ "java/lang/invoke/VarHandle" ∧ (parseMethodDescriptor yX1_countFitting.desc).map (fun d => d.parameters.length) = some 1 := by decide +kernel
theorem hd_X1_fitting : yX1_fitting.cls = RX1 ∧ yX1_fitting.cls ≠ "java/lang/invoke/MethodHandle" ∧ yX1_fitting.cls ≠ "java/lang/invoke/VarHandle" ∧ (parseMethodDescriptor yX1_fitting.desc).map (fun d => d.parameters.length) = some 2 := by decide +kernel
theorem hd_X1_mostAlike : yX1_mostAlike.cls = RX1 ∧ yX1_mostAlike.cls ≠ "java/lang/invoke/MethodHandle" ∧ yX1_mostAlike.cls ≠ "java/lang/invoke/VarHandle" ∧ (parseMethodDescriptor yX1_mostAlike.desc).map (fun d => d.parameters.length) = some 2 := by decide +kernel
theorem hd_X2_giveBack : yX2_giveBack.cls = RX2 ∧ yX2_giveBack.cls ≠ "java/lang/invoke/MethodHandle" ∧ yX2_giveBack.cls ≠ "java/lang/invoke/VarHandle" ∧ (parseMethodDescriptor yX2_giveBack.desc).map (fun d => d.parameters.length) = some 2 := by decide +kernel
theorem hd_X2_keep : yX2_keep.cls = RX2 ∧ yX2_keep.cls ≠ "java/lang/invoke/MethodHandle" ∧ yX2_keep.cls ≠ "java/lang/invoke/VarHandle" ∧ (parseMethodDescriptor yX2_keep.desc).map (fun d => d.parameters.length) = some 2 := by decide +kernel
theorem hd_X3_add : yX3_add.cls = RX3 ∧ yX3_add.cls ≠ "java/lang/invoke/MethodHandle" ∧ yX3_add.cls ≠ "java/lang/invoke/VarHandle" ∧ (parseMethodDescriptor yX3_add.desc).map (fun d => d.parameters.length) = some 1 := by decide +kernel
theorem hd_X3_beginActs : yX3_beginActs.cls = RX3 ∧ yX3_beginActs.cls ≠ "java/lang/invoke/MethodHandle" ∧ yX3_beginActs.cls ≠ "java/lang/invoke/VarHandle" ∧ (parseMethodDescriptor yX3_beginActs.desc).map (fun d => d.parameters.length) = some 0 := by decide +kernel
theorem hd_X3_clear : yX3_clear.cls = RX3 ∧ yX3_clear.cls ≠ "java/lang/invoke/MethodHandle" ∧ yX3_clear.cls ≠ "java/lang/invoke/VarHandle" ∧ (parseMethodDescriptor yX3_clear.desc).map (fun d => d.parameters.length) = some 0 := by decide +kernel
theorem hd_X3_endsAct : yX3_endsAct.cls = RX3 ∧ yX3_endsAct.cls ≠ "java/lang/invoke/MethodHandle" ∧ yX3_endsAct.cls ≠ "java/lang/invoke/VarHandle" ∧ (parseMethodDescriptor yX3_endsAct.desc).map (fun d => d.parameters.length) = some 1 := by decide +kernel
theorem hd_X3_faultPlace : yX3_faultPlace.cls = RX3 ∧ yX3_faultPlace.cls ≠ "java/lang/invoke/MethodHandle" ∧ yX3_faultPlace.cls ≠ "java/lang/invoke/VarHandle" ∧ (parseMethodDescriptor yX3_faultPlace.desc).map (fun d => d.parameters.length) = some 0 := by decide +kernel
theorem hd_X4_countReadings : yX4_countReadings.cls = RX4 ∧ yX4_countReadings.cls ≠ "java/lang/invoke/MethodHandle" ∧ yX4_countReadings.cls ≠ "java/lang/invoke/VarHandle" ∧ (parseMethodDescriptor yX4_countReadings.desc).map (fun d => d.parameters.length) = some 1 := by decide +kernel
theorem hd_X4_fewestWords : yX4_fewestWords.cls = RX4 ∧ yX4_fewestWords.cls ≠ "java/lang/invoke/MethodHandle" ∧ yX4_fewestWords.cls ≠ "java/lang/invoke/VarHandle" ∧ (parseMethodDescriptor yX4_fewestWords.desc).map (fun d => d.parameters.length) = some 1 := by decide +kernel
theorem hd_X4_standsBefore : yX4_standsBefore.cls = RX4 ∧ yX4_standsBefore.cls ≠ "java/lang/invoke/MethodHandle" ∧ yX4_standsBefore.cls ≠ "java/lang/invoke/VarHandle" ∧ (parseMethodDescriptor yX4_standsBefore.desc).map (fun d => d.parameters.length) = some 2 := by decide +kernel
theorem hd_X4_takeDigits : yX4_takeDigits.cls = RX4 ∧ yX4_takeDigits.cls ≠ "java/lang/invoke/MethodHandle" ∧ yX4_takeDigits.cls ≠ "java/lang/invoke/VarHandle" ∧ (parseMethodDescriptor yX4_takeDigits.desc).map (fun d => d.parameters.length) = some 2 := by decide +kernel
theorem hd_X4_takeWords : yX4_takeWords.cls = RX4 ∧ yX4_takeWords.cls ≠ "java/lang/invoke/MethodHandle" ∧ yX4_takeWords.cls ≠ "java/lang/invoke/VarHandle" ∧ (parseMethodDescriptor yX4_takeWords.desc).map (fun d => d.parameters.length) = some 4 := by decide +kernel
theorem hd_X4_timeOfParts : yX4_timeOfParts.cls = RX4 ∧ yX4_timeOfParts.cls ≠ "java/lang/invoke/MethodHandle" ∧ yX4_timeOfParts.cls ≠ "java/lang/invoke/VarHandle" ∧ (parseMethodDescriptor yX4_timeOfParts.desc).map (fun d => d.parameters.length) = some 3 := by decide +kernel
theorem hd_X4_windingTime : yX4_windingTime.cls = RX4 ∧ yX4_windingTime.cls ≠ "java/lang/invoke/MethodHandle" ∧ yX4_windingTime.cls ≠ "java/lang/invoke/VarHandle" ∧ (parseMethodDescriptor yX4_windingTime.desc).map (fun d => d.parameters.length) = some 3 := by decide +kernel
theorem hd_X4_winningPulls : yX4_winningPulls.cls = RX4 ∧ yX4_winningPulls.cls ≠ "java/lang/invoke/MethodHandle" ∧ yX4_winningPulls.cls ≠ "java/lang/invoke/VarHandle" ∧ (parseMethodDescriptor yX4_winningPulls.desc).map (fun d => d.parameters.length) = some 2 := by decide +kernel
theorem hd_X5_act : yX5_act.cls = RX5 ∧ yX5_act.cls ≠ "java/lang/invoke/MethodHandle" ∧ yX5_act.cls ≠ "java/lang/invoke/VarHandle" ∧ (parseMethodDescriptor yX5_act.desc).map (fun d => d.parameters.length) = some 3 := by decide +kernel
theorem hd_X5_allLengths : yX5_allLengths.cls = RX5 ∧ yX5_allLengths.cls ≠ "java/lang/invoke/MethodHandle" ∧ yX5_allLengths.cls ≠ "java/lang/invoke/VarHandle" ∧ (parseMethodDescriptor yX5_allLengths.desc).map (fun d => d.parameters.length) = some 0 := by decide +kernel
theorem hd_X5_apart : yX5_apart.cls = RX5 ∧ yX5_apart.cls ≠ "java/lang/invoke/MethodHandle" ∧ yX5_apart.cls ≠ "java/lang/invoke/VarHandle" ∧ (parseMethodDescriptor yX5_apart.desc).map (fun d => d.parameters.length) = some 1 := by decide +kernel
theorem hd_X5_copyFrom : yX5_copyFrom.cls = RX5 ∧ yX5_copyFrom.cls ≠ "java/lang/invoke/MethodHandle" ∧ yX5_copyFrom.cls ≠ "java/lang/invoke/VarHandle" ∧ (parseMethodDescriptor yX5_copyFrom.desc).map (fun d => d.parameters.length) = some 1 := by decide +kernel
theorem hd_X5_farthest : yX5_farthest.cls = RX5 ∧ yX5_farthest.cls ≠ "java/lang/invoke/MethodHandle" ∧ yX5_farthest.cls ≠ "java/lang/invoke/VarHandle" ∧ (parseMethodDescriptor yX5_farthest.desc).map (fun d => d.parameters.length) = some 2 := by decide +kernel
theorem hd_X5_feelMore : yX5_feelMore.cls = RX5 ∧ yX5_feelMore.cls ≠ "java/lang/invoke/MethodHandle" ∧ yX5_feelMore.cls ≠ "java/lang/invoke/VarHandle" ∧ (parseMethodDescriptor yX5_feelMore.desc).map (fun d => d.parameters.length) = some 2 := by decide +kernel
theorem hd_X5_hasStringFor : yX5_hasStringFor.cls = RX5 ∧ yX5_hasStringFor.cls ≠ "java/lang/invoke/MethodHandle" ∧ yX5_hasStringFor.cls ≠ "java/lang/invoke/VarHandle" ∧ (parseMethodDescriptor yX5_hasStringFor.desc).map (fun d => d.parameters.length) = some 2 := by decide +kernel
theorem hd_X5_holdsFast : yX5_holdsFast.cls = RX5 ∧ yX5_holdsFast.cls ≠ "java/lang/invoke/MethodHandle" ∧ yX5_holdsFast.cls ≠ "java/lang/invoke/VarHandle" ∧ (parseMethodDescriptor yX5_holdsFast.desc).map (fun d => d.parameters.length) = some 1 := by decide +kernel
theorem hd_X5_isTaut : yX5_isTaut.cls = RX5 ∧ yX5_isTaut.cls ≠ "java/lang/invoke/MethodHandle" ∧ yX5_isTaut.cls ≠ "java/lang/invoke/VarHandle" ∧ (parseMethodDescriptor yX5_isTaut.desc).map (fun d => d.parameters.length) = some 1 := by decide +kernel
theorem hd_X5_letOut : yX5_letOut.cls = RX5 ∧ yX5_letOut.cls ≠ "java/lang/invoke/MethodHandle" ∧ yX5_letOut.cls ≠ "java/lang/invoke/VarHandle" ∧ (parseMethodDescriptor yX5_letOut.desc).map (fun d => d.parameters.length) = some 1 := by decide +kernel
theorem hd_X5_lossBy : yX5_lossBy.cls = RX5 ∧ yX5_lossBy.cls ≠ "java/lang/invoke/MethodHandle" ∧ yX5_lossBy.cls ≠ "java/lang/invoke/VarHandle" ∧ (parseMethodDescriptor yX5_lossBy.desc).map (fun d => d.parameters.length) = some 1 := by decide +kernel
theorem hd_X5_nextDay : yX5_nextDay.cls = RX5 ∧ yX5_nextDay.cls ≠ "java/lang/invoke/MethodHandle" ∧ yX5_nextDay.cls ≠ "java/lang/invoke/VarHandle" ∧ (parseMethodDescriptor yX5_nextDay.desc).map (fun d => d.parameters.length) = some 0 := by decide +kernel
theorem hd_X5_planDraw : yX5_planDraw.cls = RX5 ∧ yX5_planDraw.cls ≠ "java/lang/invoke/MethodHandle" ∧ yX5_planDraw.cls ≠ "java/lang/invoke/VarHandle" ∧ (parseMethodDescriptor yX5_planDraw.desc).map (fun d => d.parameters.length) = some 3 := by decide +kernel
theorem hd_X5_planStep : yX5_planStep.cls = RX5 ∧ yX5_planStep.cls ≠ "java/lang/invoke/MethodHandle" ∧ yX5_planStep.cls ≠ "java/lang/invoke/VarHandle" ∧ (parseMethodDescriptor yX5_planStep.desc).map (fun d => d.parameters.length) = some 2 := by decide +kernel
theorem hd_X5_squeeze : yX5_squeeze.cls = RX5 ∧ yX5_squeeze.cls ≠ "java/lang/invoke/MethodHandle" ∧ yX5_squeeze.cls ≠ "java/lang/invoke/VarHandle" ∧ (parseMethodDescriptor yX5_squeeze.desc).map (fun d => d.parameters.length) = some 2 := by decide +kernel
theorem hd_X5_step : yX5_step.cls = RX5 ∧ yX5_step.cls ≠ "java/lang/invoke/MethodHandle" ∧ yX5_step.cls ≠ "java/lang/invoke/VarHandle" ∧ (parseMethodDescriptor yX5_step.desc).map (fun d => d.parameters.length) = some 2 := by decide +kernel
theorem hd_X5_tautBits : yX5_tautBits.cls = RX5 ∧ yX5_tautBits.cls ≠ "java/lang/invoke/MethodHandle" ∧ yX5_tautBits.cls ≠ "java/lang/invoke/VarHandle" ∧ (parseMethodDescriptor yX5_tautBits.desc).map (fun d => d.parameters.length) = some 0 := by decide +kernel
theorem hd_X5_turnHold : yX5_turnHold.cls = RX5 ∧ yX5_turnHold.cls ≠ "java/lang/invoke/MethodHandle" ∧ yX5_turnHold.cls ≠ "java/lang/invoke/VarHandle" ∧ (parseMethodDescriptor yX5_turnHold.desc).map (fun d => d.parameters.length) = some 1 := by decide +kernel
theorem hd_X5_whyNot : yX5_whyNot.cls = RX5 ∧ yX5_whyNot.cls ≠ "java/lang/invoke/MethodHandle" ∧ yX5_whyNot.cls ≠ "java/lang/invoke/VarHandle" ∧ (parseMethodDescriptor yX5_whyNot.desc).map (fun d => d.parameters.length) = some 3 := by decide +kernel
theorem hd_X5_whyNotLetOut : yX5_whyNotLetOut.cls = RX5 ∧ yX5_whyNotLetOut.cls ≠ "java/lang/invoke/MethodHandle" ∧ yX5_whyNotLetOut.cls ≠ "java/lang/invoke/VarHandle" ∧ (parseMethodDescriptor yX5_whyNotLetOut.desc).map (fun d => d.parameters.length) = some 1 := by decide +kernel
theorem hd_X5_whyNotStep : yX5_whyNotStep.cls = RX5 ∧ yX5_whyNotStep.cls ≠ "java/lang/invoke/MethodHandle" ∧ yX5_whyNotStep.cls ≠ "java/lang/invoke/VarHandle" ∧ (parseMethodDescriptor yX5_whyNotStep.desc).map (fun d => d.parameters.length) = some 2 := by decide +kernel
theorem hd_X5_whyNotWind : yX5_whyNotWind.cls = RX5 ∧ yX5_whyNotWind.cls ≠ "java/lang/invoke/MethodHandle" ∧ yX5_whyNotWind.cls ≠ "java/lang/invoke/VarHandle" ∧ (parseMethodDescriptor yX5_whyNotWind.desc).map (fun d => d.parameters.length) = some 1 := by decide +kernel
theorem hd_X5_windIn : yX5_windIn.cls = RX5 ∧ yX5_windIn.cls ≠ "java/lang/invoke/MethodHandle" ∧ yX5_windIn.cls ≠ "java/lang/invoke/VarHandle" ∧ (parseMethodDescriptor yX5_windIn.desc).map (fun d => d.parameters.length) = some 1 := by decide +kernel
theorem hd_X6_add : yX6_add.cls = RX6 ∧ yX6_add.cls ≠ "java/lang/invoke/MethodHandle" ∧ yX6_add.cls ≠ "java/lang/invoke/VarHandle" ∧ (parseMethodDescriptor yX6_add.desc).map (fun d => d.parameters.length) = some 2 := by decide +kernel
theorem hd_X6_clear : yX6_clear.cls = RX6 ∧ yX6_clear.cls ≠ "java/lang/invoke/MethodHandle" ∧ yX6_clear.cls ≠ "java/lang/invoke/VarHandle" ∧ (parseMethodDescriptor yX6_clear.desc).map (fun d => d.parameters.length) = some 0 := by decide +kernel
theorem hd_X6_copyFrom : yX6_copyFrom.cls = RX6 ∧ yX6_copyFrom.cls ≠ "java/lang/invoke/MethodHandle" ∧ yX6_copyFrom.cls ≠ "java/lang/invoke/VarHandle" ∧ (parseMethodDescriptor yX6_copyFrom.desc).map (fun d => d.parameters.length) = some 1 := by decide +kernel
theorem hd_X7_imageAt : yX7_imageAt.cls = RX7 ∧ yX7_imageAt.cls ≠ "java/lang/invoke/MethodHandle" ∧ yX7_imageAt.cls ≠ "java/lang/invoke/VarHandle" ∧ (parseMethodDescriptor yX7_imageAt.desc).map (fun d => d.parameters.length) = some 1 := by decide +kernel
theorem hd_X7_runText : yX7_runText.cls = RX7 ∧ yX7_runText.cls ≠ "java/lang/invoke/MethodHandle" ∧ yX7_runText.cls ≠ "java/lang/invoke/VarHandle" ∧ (parseMethodDescriptor yX7_runText.desc).map (fun d => d.parameters.length) = some 0 := by decide +kernel
theorem hd_X7_runYear : yX7_runYear.cls = RX7 ∧ yX7_runYear.cls ≠ "java/lang/invoke/MethodHandle" ∧ yX7_runYear.cls ≠ "java/lang/invoke/VarHandle" ∧ (parseMethodDescriptor yX7_runYear.desc).map (fun d => d.parameters.length) = some 2 := by decide +kernel
theorem hd_X7_toldOfOne : yX7_toldOfOne.cls = RX7 ∧ yX7_toldOfOne.cls ≠ "java/lang/invoke/MethodHandle" ∧ yX7_toldOfOne.cls ≠ "java/lang/invoke/VarHandle" ∧ (parseMethodDescriptor yX7_toldOfOne.desc).map (fun d => d.parameters.length) = some 1 := by decide +kernel
theorem hd_X8_allYards : yX8_allYards.cls = RX8 ∧ yX8_allYards.cls ≠ "java/lang/invoke/MethodHandle" ∧ yX8_allYards.cls ≠ "java/lang/invoke/VarHandle" ∧ (parseMethodDescriptor yX8_allYards.desc).map (fun d => d.parameters.length) = some 0 := by decide +kernel
theorem hd_X8_back : yX8_back.cls = RX8 ∧ yX8_back.cls ≠ "java/lang/invoke/MethodHandle" ∧ yX8_back.cls ≠ "java/lang/invoke/VarHandle" ∧ (parseMethodDescriptor yX8_back.desc).map (fun d => d.parameters.length) = some 1 := by decide +kernel
theorem hd_X8_begin : yX8_begin.cls = RX8 ∧ yX8_begin.cls ≠ "java/lang/invoke/MethodHandle" ∧ yX8_begin.cls ≠ "java/lang/invoke/VarHandle" ∧ (parseMethodDescriptor yX8_begin.desc).map (fun d => d.parameters.length) = some 1 := by decide +kernel
theorem hd_X8_close : yX8_close.cls = RX8 ∧ yX8_close.cls ≠ "java/lang/invoke/MethodHandle" ∧ yX8_close.cls ≠ "java/lang/invoke/VarHandle" ∧ (parseMethodDescriptor yX8_close.desc).map (fun d => d.parameters.length) = some 1 := by decide +kernel
theorem hd_X8_deed : yX8_deed.cls = RX8 ∧ yX8_deed.cls ≠ "java/lang/invoke/MethodHandle" ∧ yX8_deed.cls ≠ "java/lang/invoke/VarHandle" ∧ (parseMethodDescriptor yX8_deed.desc).map (fun d => d.parameters.length) = some 1 := by decide +kernel
theorem hd_X8_digit : yX8_digit.cls = RX8 ∧ yX8_digit.cls ≠ "java/lang/invoke/MethodHandle" ∧ yX8_digit.cls ≠ "java/lang/invoke/VarHandle" ∧ (parseMethodDescriptor yX8_digit.desc).map (fun d => d.parameters.length) = some 2 := by decide +kernel
theorem hd_X8_draws : yX8_draws.cls = RX8 ∧ yX8_draws.cls ≠ "java/lang/invoke/MethodHandle" ∧ yX8_draws.cls ≠ "java/lang/invoke/VarHandle" ∧ (parseMethodDescriptor yX8_draws.desc).map (fun d => d.parameters.length) = some 3 := by decide +kernel
theorem hd_X8_fault : yX8_fault.cls = RX8 ∧ yX8_fault.cls ≠ "java/lang/invoke/MethodHandle" ∧ yX8_fault.cls ≠ "java/lang/invoke/VarHandle" ∧ (parseMethodDescriptor yX8_fault.desc).map (fun d => d.parameters.length) = some 0 := by decide +kernel
theorem hd_X8_feel : yX8_feel.cls = RX8 ∧ yX8_feel.cls ≠ "java/lang/invoke/MethodHandle" ∧ yX8_feel.cls ≠ "java/lang/invoke/VarHandle" ∧ (parseMethodDescriptor yX8_feel.desc).map (fun d => d.parameters.length) = some 2 := by decide +kernel
theorem hd_X8_findThen : yX8_findThen.cls = RX8 ∧ yX8_findThen.cls ≠ "java/lang/invoke/MethodHandle" ∧ yX8_findThen.cls ≠ "java/lang/invoke/VarHandle" ∧ (parseMethodDescriptor yX8_findThen.desc).map (fun d => d.parameters.length) = some 2 := by decide +kernel
theorem hd_X8_go : yX8_go.cls = RX8 ∧ yX8_go.cls ≠ "java/lang/invoke/MethodHandle" ∧ yX8_go.cls ≠ "java/lang/invoke/VarHandle" ∧ (parseMethodDescriptor yX8_go.desc).map (fun d => d.parameters.length) = some 2 := by decide +kernel
theorem hd_X8_goDays : yX8_goDays.cls = RX8 ∧ yX8_goDays.cls ≠ "java/lang/invoke/MethodHandle" ∧ yX8_goDays.cls ≠ "java/lang/invoke/VarHandle" ∧ (parseMethodDescriptor yX8_goDays.desc).map (fun d => d.parameters.length) = some 0 := by decide +kernel
theorem hd_X8_goOne : yX8_goOne.cls = RX8 ∧ yX8_goOne.cls ≠ "java/lang/invoke/MethodHandle" ∧ yX8_goOne.cls ≠ "java/lang/invoke/VarHandle" ∧ (parseMethodDescriptor yX8_goOne.desc).map (fun d => d.parameters.length) = some 1 := by decide +kernel
theorem hd_X8_happen : yX8_happen.cls = RX8 ∧ yX8_happen.cls ≠ "java/lang/invoke/MethodHandle" ∧ yX8_happen.cls ≠ "java/lang/invoke/VarHandle" ∧ (parseMethodDescriptor yX8_happen.desc).map (fun d => d.parameters.length) = some 3 := by decide +kernel
theorem hd_X8_isAnew : yX8_isAnew.cls = RX8 ∧ yX8_isAnew.cls ≠ "java/lang/invoke/MethodHandle" ∧ yX8_isAnew.cls ≠ "java/lang/invoke/VarHandle" ∧ (parseMethodDescriptor yX8_isAnew.desc).map (fun d => d.parameters.length) = some 1 := by decide +kernel
theorem hd_X8_isFit : yX8_isFit.cls = RX8 ∧ yX8_isFit.cls ≠ "java/lang/invoke/MethodHandle" ∧ yX8_isFit.cls ≠ "java/lang/invoke/VarHandle" ∧ (parseMethodDescriptor yX8_isFit.desc).map (fun d => d.parameters.length) = some 1 := by decide +kernel
theorem hd_X8_isReached : yX8_isReached.cls = RX8 ∧ yX8_isReached.cls ≠ "java/lang/invoke/MethodHandle" ∧ yX8_isReached.cls ≠ "java/lang/invoke/VarHandle" ∧ (parseMethodDescriptor yX8_isReached.desc).map (fun d => d.parameters.length) = some 2 := by decide +kernel
theorem hd_X8_isTaut : yX8_isTaut.cls = RX8 ∧ yX8_isTaut.cls ≠ "java/lang/invoke/MethodHandle" ∧ yX8_isTaut.cls ≠ "java/lang/invoke/VarHandle" ∧ (parseMethodDescriptor yX8_isTaut.desc).map (fun d => d.parameters.length) = some 1 := by decide +kernel
theorem hd_X8_isWord : yX8_isWord.cls = RX8 ∧ yX8_isWord.cls ≠ "java/lang/invoke/MethodHandle" ∧ yX8_isWord.cls ≠ "java/lang/invoke/VarHandle" ∧ (parseMethodDescriptor yX8_isWord.desc).map (fun d => d.parameters.length) = some 3 := by decide +kernel
theorem hd_X8_keepNow : yX8_keepNow.cls = RX8 ∧ yX8_keepNow.cls ≠ "java/lang/invoke/MethodHandle" ∧ yX8_keepNow.cls ≠ "java/lang/invoke/VarHandle" ∧ (parseMethodDescriptor yX8_keepNow.desc).map (fun d => d.parameters.length) = some 0 := by decide +kernel
theorem hd_X8_leastPull : yX8_leastPull.cls = RX8 ∧ yX8_leastPull.cls ≠ "java/lang/invoke/MethodHandle" ∧ yX8_leastPull.cls ≠ "java/lang/invoke/VarHandle" ∧ (parseMethodDescriptor yX8_leastPull.desc).map (fun d => d.parameters.length) = some 3 := by decide +kernel
theorem hd_X8_mostLeft : yX8_mostLeft.cls = RX8 ∧ yX8_mostLeft.cls ≠ "java/lang/invoke/MethodHandle" ∧ yX8_mostLeft.cls ≠ "java/lang/invoke/VarHandle" ∧ (parseMethodDescriptor yX8_mostLeft.desc).map (fun d => d.parameters.length) = some 1 := by decide +kernel
theorem hd_X8_pass : yX8_pass.cls = RX8 ∧ yX8_pass.cls ≠ "java/lang/invoke/MethodHandle" ∧ yX8_pass.cls ≠ "java/lang/invoke/VarHandle" ∧ (parseMethodDescriptor yX8_pass.desc).map (fun d => d.parameters.length) = some 1 := by decide +kernel
theorem hd_X8_passAll : yX8_passAll.cls = RX8 ∧ yX8_passAll.cls ≠ "java/lang/invoke/MethodHandle" ∧ yX8_passAll.cls ≠ "java/lang/invoke/VarHandle" ∧ (parseMethodDescriptor yX8_passAll.desc).map (fun d => d.parameters.length) = some 0 := by decide +kernel
theorem hd_X8_passDay : yX8_passDay.cls = RX8 ∧ yX8_passDay.cls ≠ "java/lang/invoke/MethodHandle" ∧ yX8_passDay.cls ≠ "java/lang/invoke/VarHandle" ∧ (parseMethodDescriptor yX8_passDay.desc).map (fun d => d.parameters.length) = some 0 := by decide +kernel
theorem hd_X8_passRow : yX8_passRow.cls = RX8 ∧ yX8_passRow.cls ≠ "java/lang/invoke/MethodHandle" ∧ yX8_passRow.cls ≠ "java/lang/invoke/VarHandle" ∧ (parseMethodDescriptor yX8_passRow.desc).map (fun d => d.parameters.length) = some 2 := by decide +kernel
theorem hd_X8_readBalls : yX8_readBalls.cls = RX8 ∧ yX8_readBalls.cls ≠ "java/lang/invoke/MethodHandle" ∧ yX8_readBalls.cls ≠ "java/lang/invoke/VarHandle" ∧ (parseMethodDescriptor yX8_readBalls.desc).map (fun d => d.parameters.length) = some 2 := by decide +kernel
theorem hd_X8_readFrom : yX8_readFrom.cls = RX8 ∧ yX8_readFrom.cls ≠ "java/lang/invoke/MethodHandle" ∧ yX8_readFrom.cls ≠ "java/lang/invoke/VarHandle" ∧ (parseMethodDescriptor yX8_readFrom.desc).map (fun d => d.parameters.length) = some 2 := by decide +kernel
theorem hd_X8_readOn : yX8_readOn.cls = RX8 ∧ yX8_readOn.cls ≠ "java/lang/invoke/MethodHandle" ∧ yX8_readOn.cls ≠ "java/lang/invoke/VarHandle" ∧ (parseMethodDescriptor yX8_readOn.desc).map (fun d => d.parameters.length) = some 2 := by decide +kernel
theorem hd_X8_refusal : yX8_refusal.cls = RX8 ∧ yX8_refusal.cls ≠ "java/lang/invoke/MethodHandle" ∧ yX8_refusal.cls ≠ "java/lang/invoke/VarHandle" ∧ (parseMethodDescriptor yX8_refusal.desc).map (fun d => d.parameters.length) = some 0 := by decide +kernel
theorem hd_X8_sizeOf : yX8_sizeOf.cls = RX8 ∧ yX8_sizeOf.cls ≠ "java/lang/invoke/MethodHandle" ∧ yX8_sizeOf.cls ≠ "java/lang/invoke/VarHandle" ∧ (parseMethodDescriptor yX8_sizeOf.desc).map (fun d => d.parameters.length) = some 2 := by decide +kernel
theorem hd_X8_squeeze : yX8_squeeze.cls = RX8 ∧ yX8_squeeze.cls ≠ "java/lang/invoke/MethodHandle" ∧ yX8_squeeze.cls ≠ "java/lang/invoke/VarHandle" ∧ (parseMethodDescriptor yX8_squeeze.desc).map (fun d => d.parameters.length) = some 2 := by decide +kernel
theorem hd_X8_taut : yX8_taut.cls = RX8 ∧ yX8_taut.cls ≠ "java/lang/invoke/MethodHandle" ∧ yX8_taut.cls ≠ "java/lang/invoke/VarHandle" ∧ (parseMethodDescriptor yX8_taut.desc).map (fun d => d.parameters.length) = some 0 := by decide +kernel
theorem hd_X8_whyNot : yX8_whyNot.cls = RX8 ∧ yX8_whyNot.cls ≠ "java/lang/invoke/MethodHandle" ∧ yX8_whyNot.cls ≠ "java/lang/invoke/VarHandle" ∧ (parseMethodDescriptor yX8_whyNot.desc).map (fun d => d.parameters.length) = some 3 := by decide +kernel
theorem hd_X8_whyNotGo : yX8_whyNotGo.cls = RX8 ∧ yX8_whyNotGo.cls ≠ "java/lang/invoke/MethodHandle" ∧ yX8_whyNotGo.cls ≠ "java/lang/invoke/VarHandle" ∧ (parseMethodDescriptor yX8_whyNotGo.desc).map (fun d => d.parameters.length) = some 2 := by decide +kernel
theorem hd_X8_whyNotLet : yX8_whyNotLet.cls = RX8 ∧ yX8_whyNotLet.cls ≠ "java/lang/invoke/MethodHandle" ∧ yX8_whyNotLet.cls ≠ "java/lang/invoke/VarHandle" ∧ (parseMethodDescriptor yX8_whyNotLet.desc).map (fun d => d.parameters.length) = some 1 := by decide +kernel
theorem hd_X8_whyNotTake : yX8_whyNotTake.cls = RX8 ∧ yX8_whyNotTake.cls ≠ "java/lang/invoke/MethodHandle" ∧ yX8_whyNotTake.cls ≠ "java/lang/invoke/VarHandle" ∧ (parseMethodDescriptor yX8_whyNotTake.desc).map (fun d => d.parameters.length) = some 1 := by decide +kernel
theorem hd_X8_windOne : yX8_windOne.cls = RX8 ∧ yX8_windOne.cls ≠ "java/lang/invoke/MethodHandle" ∧ yX8_windOne.cls ≠ "java/lang/invoke/VarHandle" ∧ (parseMethodDescriptor yX8_windOne.desc).map (fun d => d.parameters.length) = some 2 := by decide +kernel
theorem hs_J6_bitCount_0f7a4 : yJ6_bitCount_0f7a4.cls ≠ "java/lang/invoke/MethodHandle" ∧ yJ6_bitCount_0f7a4.cls ≠ "java/lang/invoke/VarHandle" ∧ (parseMethodDescriptor yJ6_bitCount_0f7a4.desc).map (fun d => d.parameters.length) = some 1 := by decide +kernel
theorem hs_X1_feltBy : yX1_feltBy.cls ≠ "java/lang/invoke/MethodHandle" ∧ yX1_feltBy.cls ≠ "java/lang/invoke/VarHandle" ∧ (parseMethodDescriptor yX1_feltBy.desc).map (fun d => d.parameters.length) = some 2 := by decide +kernel
theorem hs_X1_isCode : yX1_isCode.cls ≠ "java/lang/invoke/MethodHandle" ∧ yX1_isCode.cls ≠ "java/lang/invoke/VarHandle" ∧ (parseMethodDescriptor yX1_isCode.desc).map (fun d => d.parameters.length) = some 1 := by decide +kernel
theorem hs_X1_isFitting : yX1_isFitting.cls ≠ "java/lang/invoke/MethodHandle" ∧ yX1_isFitting.cls ≠ "java/lang/invoke/VarHandle" ∧ (parseMethodDescriptor yX1_isFitting.desc).map (fun d => d.parameters.length) = some 2 := by decide +kernel
theorem hs_X3_awaitedAfter : yX3_awaitedAfter.cls ≠ "java/lang/invoke/MethodHandle" ∧ yX3_awaitedAfter.cls ≠ "java/lang/invoke/VarHandle" ∧ (parseMethodDescriptor yX3_awaitedAfter.desc).map (fun d => d.parameters.length) = some 2 := by decide +kernel
theorem hs_X7_commonDivisor : yX7_commonDivisor.cls ≠ "java/lang/invoke/MethodHandle" ∧ yX7_commonDivisor.cls ≠ "java/lang/invoke/VarHandle" ∧ (parseMethodDescriptor yX7_commonDivisor.desc).map (fun d => d.parameters.length) = some 2 := by decide +kernel
theorem hs_X7_digitCount : yX7_digitCount.cls ≠ "java/lang/invoke/MethodHandle" ∧ yX7_digitCount.cls ≠ "java/lang/invoke/VarHandle" ∧ (parseMethodDescriptor yX7_digitCount.desc).map (fun d => d.parameters.length) = some 1 := by decide +kernel
theorem hs_X7_isWithin : yX7_isWithin.cls ≠ "java/lang/invoke/MethodHandle" ∧ yX7_isWithin.cls ≠ "java/lang/invoke/VarHandle" ∧ (parseMethodDescriptor yX7_isWithin.desc).map (fun d => d.parameters.length) = some 3 := by decide +kernel
theorem hs_X7_kindByDraw : yX7_kindByDraw.cls ≠ "java/lang/invoke/MethodHandle" ∧ yX7_kindByDraw.cls ≠ "java/lang/invoke/VarHandle" ∧ (parseMethodDescriptor yX7_kindByDraw.desc).map (fun d => d.parameters.length) = some 1 := by decide +kernel
theorem hs_X7_leastBit : yX7_leastBit.cls ≠ "java/lang/invoke/MethodHandle" ∧ yX7_leastBit.cls ≠ "java/lang/invoke/VarHandle" ∧ (parseMethodDescriptor yX7_leastBit.desc).map (fun d => d.parameters.length) = some 1 := by decide +kernel
theorem hs_X7_lowestTerm : yX7_lowestTerm.cls ≠ "java/lang/invoke/MethodHandle" ∧ yX7_lowestTerm.cls ≠ "java/lang/invoke/VarHandle" ∧ (parseMethodDescriptor yX7_lowestTerm.desc).map (fun d => d.parameters.length) = some 3 := by decide +kernel
theorem hs_X7_power : yX7_power.cls ≠ "java/lang/invoke/MethodHandle" ∧ yX7_power.cls ≠ "java/lang/invoke/VarHandle" ∧ (parseMethodDescriptor yX7_power.desc).map (fun d => d.parameters.length) = some 2 := by decide +kernel
theorem hs_X8_actBy : yX8_actBy.cls ≠ "java/lang/invoke/MethodHandle" ∧ yX8_actBy.cls ≠ "java/lang/invoke/VarHandle" ∧ (parseMethodDescriptor yX8_actBy.desc).map (fun d => d.parameters.length) = some 1 := by decide +kernel
theorem hs_X8_digitsOf : yX8_digitsOf.cls ≠ "java/lang/invoke/MethodHandle" ∧ yX8_digitsOf.cls ≠ "java/lang/invoke/VarHandle" ∧ (parseMethodDescriptor yX8_digitsOf.desc).map (fun d => d.parameters.length) = some 1 := by decide +kernel
theorem hs_X8_feltBy : yX8_feltBy.cls ≠ "java/lang/invoke/MethodHandle" ∧ yX8_feltBy.cls ≠ "java/lang/invoke/VarHandle" ∧ (parseMethodDescriptor yX8_feltBy.desc).map (fun d => d.parameters.length) = some 2 := by decide +kernel
theorem hs_X8_has : yX8_has.cls ≠ "java/lang/invoke/MethodHandle" ∧ yX8_has.cls ≠ "java/lang/invoke/VarHandle" ∧ (parseMethodDescriptor yX8_has.desc).map (fun d => d.parameters.length) = some 2 := by decide +kernel
theorem hs_X8_in : yX8_in.cls ≠ "java/lang/invoke/MethodHandle" ∧ yX8_in.cls ≠ "java/lang/invoke/VarHandle" ∧ (parseMethodDescriptor yX8_in.desc).map (fun d => d.parameters.length) = some 3 := by decide +kernel
theorem hs_X8_isAWord : yX8_isAWord.cls ≠ "java/lang/invoke/MethodHandle" ∧ yX8_isAWord.cls ≠ "java/lang/invoke/VarHandle" ∧ (parseMethodDescriptor yX8_isAWord.desc).map (fun d => d.parameters.length) = some 1 := by decide +kernel
theorem hs_X8_isChild : yX8_isChild.cls ≠ "java/lang/invoke/MethodHandle" ∧ yX8_isChild.cls ≠ "java/lang/invoke/VarHandle" ∧ (parseMethodDescriptor yX8_isChild.desc).map (fun d => d.parameters.length) = some 1 := by decide +kernel
theorem hs_X8_leastOf : yX8_leastOf.cls ≠ "java/lang/invoke/MethodHandle" ∧ yX8_leastOf.cls ≠ "java/lang/invoke/VarHandle" ∧ (parseMethodDescriptor yX8_leastOf.desc).map (fun d => d.parameters.length) = some 1 := by decide +kernel
theorem hs_X8_less : yX8_less.cls ≠ "java/lang/invoke/MethodHandle" ∧ yX8_less.cls ≠ "java/lang/invoke/VarHandle" ∧ (parseMethodDescriptor yX8_less.desc).map (fun d => d.parameters.length) = some 2 := by decide +kernel
theorem hs_X8_lowest : yX8_lowest.cls ≠ "java/lang/invoke/MethodHandle" ∧ yX8_lowest.cls ≠ "java/lang/invoke/VarHandle" ∧ (parseMethodDescriptor yX8_lowest.desc).map (fun d => d.parameters.length) = some 3 := by decide +kernel
theorem hs_X8_off : yX8_off.cls ≠ "java/lang/invoke/MethodHandle" ∧ yX8_off.cls ≠ "java/lang/invoke/VarHandle" ∧ (parseMethodDescriptor yX8_off.desc).map (fun d => d.parameters.length) = some 2 := by decide +kernel
theorem hs_X8_ones : yX8_ones.cls ≠ "java/lang/invoke/MethodHandle" ∧ yX8_ones.cls ≠ "java/lang/invoke/VarHandle" ∧ (parseMethodDescriptor yX8_ones.desc).map (fun d => d.parameters.length) = some 1 := by decide +kernel
