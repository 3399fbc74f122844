theorem weX0_dropRights : Cond.selects RX0 yX0_dropRights yX0_dropRights ∈ gw := gw_of (i := 0) (by decide +kernel) (by decide +kernel)
theorem weX8_isDay : Cond.selects RX8 yX8_isDay yX8_isDay ∈ gw := gw_of (i := 1) (by decide +kernel) (by decide +kernel)
theorem weX8_replaceTerm : Cond.selects RX8 yX8_replaceTerm yX8_replaceTerm ∈ gw := gw_of (i := 2) (by decide +kernel) (by decide +kernel)
theorem weX8_replaceRight : Cond.selects RX8 yX8_replaceRight yX8_replaceRight ∈ gw := gw_of (i := 3) (by decide +kernel) (by decide +kernel)
theorem weX6_look : Cond.selects RX6 yX6_look yX6_look ∈ gw := gw_of (i := 4) (by decide +kernel) (by decide +kernel)
theorem weX6_byteAt : Cond.selects RX6 yX6_byteAt yX6_byteAt ∈ gw := gw_of (i := 5) (by decide +kernel) (by decide +kernel)
theorem weX6_takeClause : Cond.selects RX6 yX6_takeClause yX6_takeClause ∈ gw := gw_of (i := 6) (by decide +kernel) (by decide +kernel)
theorem weX6_takeNumber : Cond.selects RX6 yX6_takeNumber yX6_takeNumber ∈ gw := gw_of (i := 7) (by decide +kernel) (by decide +kernel)
theorem weX6_takeDigits : Cond.selects RX6 yX6_takeDigits yX6_takeDigits ∈ gw := gw_of (i := 8) (by decide +kernel) (by decide +kernel)
theorem weX6_wrong : Cond.selects RX6 yX6_wrong yX6_wrong ∈ gw := gw_of (i := 9) (by decide +kernel) (by decide +kernel)
theorem weX6_store : Cond.selects RX6 yX6_store yX6_store ∈ gw := gw_of (i := 10) (by decide +kernel) (by decide +kernel)
theorem weX6_takeCoupon : Cond.selects RX6 yX6_takeCoupon yX6_takeCoupon ∈ gw := gw_of (i := 11) (by decide +kernel) (by decide +kernel)
theorem weX6_fails : Cond.selects RX6 yX6_fails yX6_fails ∈ gw := gw_of (i := 12) (by decide +kernel) (by decide +kernel)
theorem weX6_takeRight : Cond.selects RX6 yX6_takeRight yX6_takeRight ∈ gw := gw_of (i := 13) (by decide +kernel) (by decide +kernel)
theorem weX6_takeDigit : Cond.selects RX6 yX6_takeDigit yX6_takeDigit ∈ gw := gw_of (i := 14) (by decide +kernel) (by decide +kernel)
theorem weX6_takeSign : Cond.selects RX6 yX6_takeSign yX6_takeSign ∈ gw := gw_of (i := 15) (by decide +kernel) (by decide +kernel)
theorem weX6_takeWindow : Cond.selects RX6 yX6_takeWindow yX6_takeWindow ∈ gw := gw_of (i := 16) (by decide +kernel) (by decide +kernel)
theorem weX6_takeSoft : Cond.selects RX6 yX6_takeSoft yX6_takeSoft ∈ gw := gw_of (i := 17) (by decide +kernel) (by decide +kernel)
theorem weX1_drawBelow : Cond.selects RX1 yX1_drawBelow yX1_drawBelow ∈ gw := gw_of (i := 18) (by decide +kernel) (by decide +kernel)
theorem weX8_workOut : Cond.selects RX8 yX8_workOut yX8_workOut ∈ gw := gw_of (i := 19) (by decide +kernel) (by decide +kernel)
theorem weX5_layOut : Cond.selects RX5 yX5_layOut yX5_layOut ∈ gw := gw_of (i := 20) (by decide +kernel) (by decide +kernel)
theorem weX5_layOutRow : Cond.selects RX5 yX5_layOutRow yX5_layOutRow ∈ gw := gw_of (i := 21) (by decide +kernel) (by decide +kernel)
theorem weX5_rowsAheadOfLastDay : Cond.selects RX5 yX5_rowsAheadOfLastDay yX5_rowsAheadOfLastDay ∈ gw := gw_of (i := 22) (by decide +kernel) (by decide +kernel)
theorem weX5_endOnLastDay : Cond.selects RX5 yX5_endOnLastDay yX5_endOnLastDay ∈ gw := gw_of (i := 23) (by decide +kernel) (by decide +kernel)
theorem weX5_setRow : Cond.selects RX5 yX5_setRow yX5_setRow ∈ gw := gw_of (i := 24) (by decide +kernel) (by decide +kernel)
theorem weX5_chooseBest : Cond.selects RX5 yX5_chooseBest yX5_chooseBest ∈ gw := gw_of (i := 25) (by decide +kernel) (by decide +kernel)
theorem weX5_lookBack : Cond.selects RX5 yX5_lookBack yX5_lookBack ∈ gw := gw_of (i := 26) (by decide +kernel) (by decide +kernel)
theorem weX5_actOfCall : Cond.selects RX5 yX5_actOfCall yX5_actOfCall ∈ gw := gw_of (i := 27) (by decide +kernel) (by decide +kernel)
theorem weX5_paidByAct : Cond.selects RX5 yX5_paidByAct yX5_paidByAct ∈ gw := gw_of (i := 28) (by decide +kernel) (by decide +kernel)
theorem weX8_valueWithout : Cond.selects RX8 yX8_valueWithout yX8_valueWithout ∈ gw := gw_of (i := 29) (by decide +kernel) (by decide +kernel)
theorem weX8_leastFair : Cond.selects RX8 yX8_leastFair yX8_leastFair ∈ gw := gw_of (i := 30) (by decide +kernel) (by decide +kernel)
theorem weX8_setTried : Cond.selects RX8 yX8_setTried yX8_setTried ∈ gw := gw_of (i := 31) (by decide +kernel) (by decide +kernel)
theorem weX8_bestDay : Cond.selects RX8 yX8_bestDay yX8_bestDay ∈ gw := gw_of (i := 32) (by decide +kernel) (by decide +kernel)
theorem weX8_workOutHand : Cond.selects RX8 yX8_workOutHand yX8_workOutHand ∈ gw := gw_of (i := 33) (by decide +kernel) (by decide +kernel)
theorem weX5_chooseByRule : Cond.selects RX5 yX5_chooseByRule yX5_chooseByRule ∈ gw := gw_of (i := 34) (by decide +kernel) (by decide +kernel)
theorem weX5_sharesWanted : Cond.selects RX5 yX5_sharesWanted yX5_sharesWanted ∈ gw := gw_of (i := 35) (by decide +kernel) (by decide +kernel)
theorem weX9_sets : Cond.selects RX9 yX9_sets yX9_sets ∈ gw := gw_of (i := 36) (by decide +kernel) (by decide +kernel)
theorem weX9_typed4 : Cond.selects RX9 yX9_typed4 yX9_typed4 ∈ gw := gw_of (i := 37) (by decide +kernel) (by decide +kernel)
theorem weX9_prices : Cond.selects RX9 yX9_prices yX9_prices ∈ gw := gw_of (i := 38) (by decide +kernel) (by decide +kernel)
theorem weX9_of : Cond.selects RX9 yX9_of yX9_of ∈ gw := gw_of (i := 39) (by decide +kernel) (by decide +kernel)
theorem weX9_tells : Cond.selects RX9 yX9_tells yX9_tells ∈ gw := gw_of (i := 40) (by decide +kernel) (by decide +kernel)
theorem weX9_told2 : Cond.selects RX9 yX9_told2 yX9_told2 ∈ gw := gw_of (i := 41) (by decide +kernel) (by decide +kernel)
theorem weX9_softens : Cond.selects RX9 yX9_softens yX9_softens ∈ gw := gw_of (i := 42) (by decide +kernel) (by decide +kernel)
theorem weX9_copies : Cond.selects RX9 yX9_copies yX9_copies ∈ gw := gw_of (i := 43) (by decide +kernel) (by decide +kernel)
theorem weX9_see : Cond.selects RX9 yX9_see yX9_see ∈ gw := gw_of (i := 44) (by decide +kernel) (by decide +kernel)
theorem weX9_readsClause : Cond.selects RX9 yX9_readsClause yX9_readsClause ∈ gw := gw_of (i := 45) (by decide +kernel) (by decide +kernel)
theorem weX9_reads : Cond.selects RX9 yX9_reads yX9_reads ∈ gw := gw_of (i := 46) (by decide +kernel) (by decide +kernel)
theorem weX9_counts : Cond.selects RX9 yX9_counts yX9_counts ∈ gw := gw_of (i := 47) (by decide +kernel) (by decide +kernel)
theorem weX9_wrong : Cond.selects RX9 yX9_wrong yX9_wrong ∈ gw := gw_of (i := 48) (by decide +kernel) (by decide +kernel)
theorem weX9_readsCoupon : Cond.selects RX9 yX9_readsCoupon yX9_readsCoupon ∈ gw := gw_of (i := 49) (by decide +kernel) (by decide +kernel)
theorem weX9_readsPrice : Cond.selects RX9 yX9_readsPrice yX9_readsPrice ∈ gw := gw_of (i := 50) (by decide +kernel) (by decide +kernel)
theorem weX9_passes : Cond.selects RX9 yX9_passes yX9_passes ∈ gw := gw_of (i := 51) (by decide +kernel) (by decide +kernel)
theorem weX9_readsWindow : Cond.selects RX9 yX9_readsWindow yX9_readsWindow ∈ gw := gw_of (i := 52) (by decide +kernel) (by decide +kernel)
theorem weX9_readsSoft : Cond.selects RX9 yX9_readsSoft yX9_readsSoft ∈ gw := gw_of (i := 53) (by decide +kernel) (by decide +kernel)
theorem weX9_writes : Cond.selects RX9 yX9_writes yX9_writes ∈ gw := gw_of (i := 54) (by decide +kernel) (by decide +kernel)
theorem weX9_writesNumber : Cond.selects RX9 yX9_writesNumber yX9_writesNumber ∈ gw := gw_of (i := 55) (by decide +kernel) (by decide +kernel)
theorem weX9_writesDays : Cond.selects RX9 yX9_writesDays yX9_writesDays ∈ gw := gw_of (i := 56) (by decide +kernel) (by decide +kernel)
theorem weX9_draw : Cond.selects RX9 yX9_draw yX9_draw ∈ gw := gw_of (i := 57) (by decide +kernel) (by decide +kernel)
theorem weX9_ups : Cond.selects RX9 yX9_ups yX9_ups ∈ gw := gw_of (i := 58) (by decide +kernel) (by decide +kernel)
theorem weX9_playsNow : Cond.selects RX9 yX9_playsNow yX9_playsNow ∈ gw := gw_of (i := 59) (by decide +kernel) (by decide +kernel)
theorem weX9_takesNow : Cond.selects RX9 yX9_takesNow yX9_takesNow ∈ gw := gw_of (i := 60) (by decide +kernel) (by decide +kernel)
theorem weX9_takesTree : Cond.selects RX9 yX9_takesTree yX9_takesTree ∈ gw := gw_of (i := 61) (by decide +kernel) (by decide +kernel)
theorem weX9_plays : Cond.selects RX9 yX9_plays yX9_plays ∈ gw := gw_of (i := 62) (by decide +kernel) (by decide +kernel)
theorem weX9_isHigh : Cond.selects RX9 yX9_isHigh yX9_isHigh ∈ gw := gw_of (i := 63) (by decide +kernel) (by decide +kernel)
theorem weX9_laysEnd : Cond.selects RX9 yX9_laysEnd yX9_laysEnd ∈ gw := gw_of (i := 64) (by decide +kernel) (by decide +kernel)
theorem weX9_turned : Cond.selects RX9 yX9_turned yX9_turned ∈ gw := gw_of (i := 65) (by decide +kernel) (by decide +kernel)
theorem weX9_inWindow : Cond.selects RX9 yX9_inWindow yX9_inWindow ∈ gw := gw_of (i := 66) (by decide +kernel) (by decide +kernel)
theorem weX9_couponOf : Cond.selects RX9 yX9_couponOf yX9_couponOf ∈ gw := gw_of (i := 67) (by decide +kernel) (by decide +kernel)
theorem weX9_laysState : Cond.selects RX9 yX9_laysState yX9_laysState ∈ gw := gw_of (i := 68) (by decide +kernel) (by decide +kernel)
theorem weX9_putOf : Cond.selects RX9 yX9_putOf yX9_putOf ∈ gw := gw_of (i := 69) (by decide +kernel) (by decide +kernel)
theorem weX9_holds : Cond.selects RX9 yX9_holds yX9_holds ∈ gw := gw_of (i := 70) (by decide +kernel) (by decide +kernel)
theorem weX9_then : Cond.selects RX9 yX9_then yX9_then ∈ gw := gw_of (i := 71) (by decide +kernel) (by decide +kernel)
theorem weX9_called : Cond.selects RX9 yX9_called yX9_called ∈ gw := gw_of (i := 72) (by decide +kernel) (by decide +kernel)
theorem weX9_callOf : Cond.selects RX9 yX9_callOf yX9_callOf ∈ gw := gw_of (i := 73) (by decide +kernel) (by decide +kernel)
theorem weX9_isFree : Cond.selects RX9 yX9_isFree yX9_isFree ∈ gw := gw_of (i := 74) (by decide +kernel) (by decide +kernel)
theorem weX9_marksNow : Cond.selects RX9 yX9_marksNow yX9_marksNow ∈ gw := gw_of (i := 75) (by decide +kernel) (by decide +kernel)
theorem weX9_follows : Cond.selects RX9 yX9_follows yX9_follows ∈ gw := gw_of (i := 76) (by decide +kernel) (by decide +kernel)
theorem weX9_starts : Cond.selects RX9 yX9_starts yX9_starts ∈ gw := gw_of (i := 77) (by decide +kernel) (by decide +kernel)
theorem weX9_goesOn : Cond.selects RX9 yX9_goesOn yX9_goesOn ∈ gw := gw_of (i := 78) (by decide +kernel) (by decide +kernel)
theorem weX9_hereNow : Cond.selects RX9 yX9_hereNow yX9_hereNow ∈ gw := gw_of (i := 79) (by decide +kernel) (by decide +kernel)
theorem weX9_endsAlong : Cond.selects RX9 yX9_endsAlong yX9_endsAlong ∈ gw := gw_of (i := 80) (by decide +kernel) (by decide +kernel)
theorem weX9_paysOf : Cond.selects RX9 yX9_paysOf yX9_paysOf ∈ gw := gw_of (i := 81) (by decide +kernel) (by decide +kernel)
theorem weX9_strips : Cond.selects RX9 yX9_strips yX9_strips ∈ gw := gw_of (i := 82) (by decide +kernel) (by decide +kernel)
theorem weX9_valueOf : Cond.selects RX9 yX9_valueOf yX9_valueOf ∈ gw := gw_of (i := 83) (by decide +kernel) (by decide +kernel)
theorem weX9_begin : Cond.selects RX9 yX9_begin yX9_begin ∈ gw := gw_of (i := 84) (by decide +kernel) (by decide +kernel)
theorem weX9_laysAll : Cond.selects RX9 yX9_laysAll yX9_laysAll ∈ gw := gw_of (i := 85) (by decide +kernel) (by decide +kernel)
theorem weX9_laysWays : Cond.selects RX9 yX9_laysWays yX9_laysWays ∈ gw := gw_of (i := 86) (by decide +kernel) (by decide +kernel)
theorem weX9_power : Cond.selects RX9 yX9_power yX9_power ∈ gw := gw_of (i := 87) (by decide +kernel) (by decide +kernel)
theorem weX9_part : Cond.selects RX9 yX9_part yX9_part ∈ gw := gw_of (i := 88) (by decide +kernel) (by decide +kernel)
theorem weX9_rise : Cond.selects RX9 yX9_rise yX9_rise ∈ gw := gw_of (i := 89) (by decide +kernel) (by decide +kernel)
theorem weX9_heldOf : Cond.selects RX9 yX9_heldOf yX9_heldOf ∈ gw := gw_of (i := 90) (by decide +kernel) (by decide +kernel)
theorem weX9_fair : Cond.selects RX9 yX9_fair yX9_fair ∈ gw := gw_of (i := 91) (by decide +kernel) (by decide +kernel)
theorem weX9_valueWith : Cond.selects RX9 yX9_valueWith yX9_valueWith ∈ gw := gw_of (i := 92) (by decide +kernel) (by decide +kernel)
theorem weX9_bestOne : Cond.selects RX9 yX9_bestOne yX9_bestOne ∈ gw := gw_of (i := 93) (by decide +kernel) (by decide +kernel)
theorem weX9_givesBy : Cond.selects RX9 yX9_givesBy yX9_givesBy ∈ gw := gw_of (i := 94) (by decide +kernel) (by decide +kernel)
theorem weX9_standsByHand : Cond.selects RX9 yX9_standsByHand yX9_standsByHand ∈ gw := gw_of (i := 95) (by decide +kernel) (by decide +kernel)
theorem weX9_regrets : Cond.selects RX9 yX9_regrets yX9_regrets ∈ gw := gw_of (i := 96) (by decide +kernel) (by decide +kernel)
theorem weX9_laysByRule : Cond.selects RX9 yX9_laysByRule yX9_laysByRule ∈ gw := gw_of (i := 97) (by decide +kernel) (by decide +kernel)
theorem weX9_swaps : Cond.selects RX9 yX9_swaps yX9_swaps ∈ gw := gw_of (i := 98) (by decide +kernel) (by decide +kernel)
theorem weX9_keepsAll : Cond.selects RX9 yX9_keepsAll yX9_keepsAll ∈ gw := gw_of (i := 99) (by decide +kernel) (by decide +kernel)
theorem weX9_keeps : Cond.selects RX9 yX9_keeps yX9_keeps ∈ gw := gw_of (i := 100) (by decide +kernel) (by decide +kernel)
theorem wnL : Cond.initialized RL ∈ gw := gw_k (tk1 (List.mem_of_getElem? (i := 0) rfl)) rfl
theorem wnX8 : Cond.initialized RX8 ∈ gw := gw_k (tk1 (List.mem_of_getElem? (i := 1) rfl)) rfl
theorem wnX6 : Cond.initialized RX6 ∈ gw := gw_k (tk1 (List.mem_of_getElem? (i := 2) rfl)) rfl
theorem wnX0 : Cond.initialized RX0 ∈ gw := gw_k (tk1 (List.mem_of_getElem? (i := 3) rfl)) rfl
theorem wnX4 : Cond.initialized RX4 ∈ gw := gw_k (tk1 (List.mem_of_getElem? (i := 4) rfl)) rfl
theorem wnX7 : Cond.initialized RX7 ∈ gw := gw_k (tk1 (List.mem_of_getElem? (i := 5) rfl)) rfl
theorem wnX3 : Cond.initialized RX3 ∈ gw := gw_k (tk1 (List.mem_of_getElem? (i := 6) rfl)) rfl
theorem wnX5 : Cond.initialized RX5 ∈ gw := gw_k (tk1 (List.mem_of_getElem? (i := 7) rfl)) rfl
theorem wnX1 : Cond.initialized RX1 ∈ gw := gw_k (tk1 (List.mem_of_getElem? (i := 8) rfl)) rfl
theorem wnJ5 : Cond.initialized RJ5 ∈ gw := gw_k (tk1 (List.mem_of_getElem? (i := 9) rfl)) rfl
theorem wnJ4 : Cond.initialized RJ4 ∈ gw := gw_k (tk1 (List.mem_of_getElem? (i := 10) rfl)) rfl
theorem wnJ0 : Cond.initialized RJ0 ∈ gw := gw_k (tk1 (List.mem_of_getElem? (i := 11) rfl)) rfl
theorem wnJ2 : Cond.initialized RJ2 ∈ gw := gw_k (tk1 (List.mem_of_getElem? (i := 12) rfl)) rfl
theorem wnX9 : Cond.initialized RX9 ∈ gw := gw_k (tk1 (List.mem_of_getElem? (i := 13) rfl)) rfl
theorem wnJ9 : Cond.initialized RJ9 ∈ gw := gw_k (tk1 (List.mem_of_getElem? (i := 14) rfl)) rfl
theorem wnJ10 : Cond.initialized RJ10 ∈ gw := gw_k (tk1 (List.mem_of_getElem? (i := 15) rfl)) rfl
theorem wnJ6 : Cond.initialized RJ6 ∈ gw := gw_k (tk1 (List.mem_of_getElem? (i := 16) rfl)) rfl
theorem wnJx29ce0 : Cond.initialized RJx29ce0 ∈ gw := gw_k (tk1 (List.mem_of_getElem? (i := 17) rfl)) rfl
theorem wnX2 : Cond.initialized RX2 ∈ gw := gw_k (tk1 (List.mem_of_getElem? (i := 18) rfl)) rfl
theorem wnJ8 : Cond.initialized RJ8 ∈ gw := gw_k (tk1 (List.mem_of_getElem? (i := 19) rfl)) rfl
theorem wnJ7 : Cond.initialized RJ7 ∈ gw := gw_k (tk1 (List.mem_of_getElem? (i := 20) rfl)) rfl
theorem wnJ1 : Cond.initialized RJ1 ∈ gw := gw_k (tk1 (List.mem_of_getElem? (i := 21) rfl)) rfl
theorem wnJ3 : Cond.initialized RJ3 ∈ gw := gw_k (tk1 (List.mem_of_getElem? (i := 22) rfl)) rfl
theorem wjL_7 : Cond.classLink RL 7 RX8 ∈ gw := gw_k (tk1 (List.mem_of_getElem? (i := 23) rfl)) rfl
theorem wbX8 : Cond.instantiable RX8 8 ∈ gw := gw_k (tk1 (List.mem_of_getElem? (i := 24) rfl)) rfl
theorem wmL_9 : Cond.methodLink RL 9 yX8_init ∈ gw := gw_k (tk1 (List.mem_of_getElem? (i := 25) rfl)) rfl
theorem wiX8_init : Cond.instanceMethod yX8_init ∈ gw := gw_k (tk1 (List.mem_of_getElem? (i := 26) rfl)) rfl
theorem wcX8_init : Cond.code yX8_init cX8_init 1 (Option.none : Option Jvm.ClassFile.FieldType) ∈ gw := gw_k (tk1 (List.mem_of_getElem? (i := 27) rfl)) rfl
theorem wmX8_3 : Cond.methodLink RX8 3 ⟨"java/lang/Object", "<init>", "()V"⟩ ∈ gw := gw_k (tk1 (List.mem_of_getElem? (i := 28) rfl)) rfl
theorem wi_objinit : Cond.instanceMethod Lib.objectInit ∈ gw := gw_k (tk1 (List.mem_of_getElem? (i := 29) rfl)) rfl
theorem wc_objinit : Cond.code Lib.objectInit ⟨#[0xb1]⟩ 1 none ∈ gw := gw_k (tk1 (List.mem_of_getElem? (i := 30) rfl)) rfl
theorem wjX8_9 : Cond.classLink RX8 9 RX6 ∈ gw := gw_k (tk1 (List.mem_of_getElem? (i := 31) rfl)) rfl
theorem wbX6 : Cond.instantiable RX6 8 ∈ gw := gw_k (tk1 (List.mem_of_getElem? (i := 32) rfl)) rfl
theorem wiX6_init : Cond.instanceMethod yX6_init ∈ gw := gw_k (tk1 (List.mem_of_getElem? (i := 34) rfl)) rfl
theorem wcX6_init : Cond.code yX6_init cX6_init 1 (Option.none : Option Jvm.ClassFile.FieldType) ∈ gw := gw_k (tk1 (List.mem_of_getElem? (i := 35) rfl)) rfl
theorem wmX6_3 : Cond.methodLink RX6 3 ⟨"java/lang/Object", "<init>", "()V"⟩ ∈ gw := gw_k (tk1 (List.mem_of_getElem? (i := 36) rfl)) rfl
theorem wjX6_19 : Cond.classLink RX6 19 RX0 ∈ gw := gw_k (tk1 (List.mem_of_getElem? (i := 37) rfl)) rfl
theorem wbX0 : Cond.instantiable RX0 1 ∈ gw := gw_k (tk1 (List.mem_of_getElem? (i := 38) rfl)) rfl
theorem wmX6_21 : Cond.methodLink RX6 21 yX0_init ∈ gw := gw_k (tk1 (List.mem_of_getElem? (i := 39) rfl)) rfl
theorem wiX0_init : Cond.instanceMethod yX0_init ∈ gw := gw_k (tk1 (List.mem_of_getElem? (i := 40) rfl)) rfl
theorem wcX0_init : Cond.code yX0_init cX0_init 1 (Option.none : Option Jvm.ClassFile.FieldType) ∈ gw := gw_k (tk1 (List.mem_of_getElem? (i := 41) rfl)) rfl
theorem wmX0_3 : Cond.methodLink RX0 3 ⟨"java/lang/Object", "<init>", "()V"⟩ ∈ gw := gw_k (tk1 (List.mem_of_getElem? (i := 42) rfl)) rfl
theorem wmX0_15 : Cond.methodLink RX0 15 yX0_dropRights ∈ gw := gw_k (tk1 (List.mem_of_getElem? (i := 43) rfl)) rfl
theorem wiX0_dropRights : Cond.instanceMethod yX0_dropRights ∈ gw := gw_k (tk1 (List.mem_of_getElem? (i := 45) rfl)) rfl
theorem wcX0_dropRights : Cond.code yX0_dropRights cX0_dropRights 3 (Option.none : Option Jvm.ClassFile.FieldType) ∈ gw := gw_k (tk1 (List.mem_of_getElem? (i := 46) rfl)) rfl
theorem wmX0_29 : Cond.methodLink RX0 29 yX0_set ∈ gw := gw_k (tk1 (List.mem_of_getElem? (i := 47) rfl)) rfl
theorem wiX0_set : Cond.instanceMethod yX0_set ∈ gw := gw_k (tk1 (List.mem_of_getElem? (i := 48) rfl)) rfl
theorem weX0_set : Cond.selects RX0 yX0_set yX0_set ∈ gw := gw_k (tk1 (List.mem_of_getElem? (i := 49) rfl)) rfl
theorem wcX0_set : Cond.code yX0_set cX0_set 3 (Option.none : Option Jvm.ClassFile.FieldType) ∈ gw := gw_k (tk1 (List.mem_of_getElem? (i := 50) rfl)) rfl
theorem wfX0_11 : Cond.fieldLink RX0 11 "TurnedBonds$Bond" "terms" "[I" ∈ gw := gw_k (tk1 (List.mem_of_getElem? (i := 51) rfl)) rfl
theorem wa_int : Cond.arrayClass .int ∈ gw := gw_k (tk1 (List.mem_of_getElem? (i := 55) rfl)) rfl
theorem wfX6_9 : Cond.fieldLink RX6 9 "TurnedBonds$Tape" "bytes" "[I" ∈ gw := gw_k (tk1 (List.mem_of_getElem? (i := 56) rfl)) rfl
theorem wfX6_15 : Cond.fieldLink RX6 15 "TurnedBonds$Tape" "size" "I" ∈ gw := gw_k (tk1 (List.mem_of_getElem? (i := 57) rfl)) rfl
theorem wfX6_22 : Cond.fieldLink RX6 22 "TurnedBonds$Tape" "draft" "LTurnedBonds$Bond;" ∈ gw := gw_k (tk1 (List.mem_of_getElem? (i := 58) rfl)) rfl
theorem wfX6_26 : Cond.fieldLink RX6 26 "TurnedBonds$Tape" "length" "I" ∈ gw := gw_k (tk1 (List.mem_of_getElem? (i := 59) rfl)) rfl
theorem wfX6_29 : Cond.fieldLink RX6 29 "TurnedBonds$Tape" "place" "I" ∈ gw := gw_k (tk1 (List.mem_of_getElem? (i := 60) rfl)) rfl
theorem wfX6_32 : Cond.fieldLink RX6 32 "TurnedBonds$Tape" "fault" "I" ∈ gw := gw_k (tk1 (List.mem_of_getElem? (i := 61) rfl)) rfl
theorem wfX6_35 : Cond.fieldLink RX6 35 "TurnedBonds$Tape" "faultPlace" "I" ∈ gw := gw_k (tk1 (List.mem_of_getElem? (i := 62) rfl)) rfl
theorem wfX6_38 : Cond.fieldLink RX6 38 "TurnedBonds$Tape" "begin" "I" ∈ gw := gw_k (tk1 (List.mem_of_getElem? (i := 63) rfl)) rfl
theorem wjX8_18 : Cond.classLink RX8 18 RX4 ∈ gw := gw_k (tk1 (List.mem_of_getElem? (i := 81) rfl)) rfl
theorem wbX4 : Cond.instantiable RX4 4 ∈ gw := gw_k (tk1 (List.mem_of_getElem? (i := 82) rfl)) rfl
theorem wiX4_init : Cond.instanceMethod yX4_init ∈ gw := gw_k (tk1 (List.mem_of_getElem? (i := 84) rfl)) rfl
theorem wcX4_init : Cond.code yX4_init cX4_init 1 (Option.none : Option Jvm.ClassFile.FieldType) ∈ gw := gw_k (tk1 (List.mem_of_getElem? (i := 85) rfl)) rfl
theorem wmX4_3 : Cond.methodLink RX4 3 ⟨"java/lang/Object", "<init>", "()V"⟩ ∈ gw := gw_k (tk1 (List.mem_of_getElem? (i := 86) rfl)) rfl
theorem wjX4_9 : Cond.classLink RX4 9 RX7 ∈ gw := gw_k (tk1 (List.mem_of_getElem? (i := 87) rfl)) rfl
theorem wbX7 : Cond.instantiable RX7 1 ∈ gw := gw_k (tk1 (List.mem_of_getElem? (i := 88) rfl)) rfl
theorem wiX7_init : Cond.instanceMethod yX7_init ∈ gw := gw_k (tk1 (List.mem_of_getElem? (i := 90) rfl)) rfl
theorem wcX7_init : Cond.code yX7_init cX7_init 1 (Option.none : Option Jvm.ClassFile.FieldType) ∈ gw := gw_k (tk1 (List.mem_of_getElem? (i := 91) rfl)) rfl
theorem wmX7_3 : Cond.methodLink RX7 3 ⟨"java/lang/Object", "<init>", "()V"⟩ ∈ gw := gw_k (tk1 (List.mem_of_getElem? (i := 92) rfl)) rfl
theorem wfX7_9 : Cond.fieldLink RX7 9 "TurnedBonds$Tree" "parts" "[I" ∈ gw := gw_k (tk1 (List.mem_of_getElem? (i := 93) rfl)) rfl
theorem wjX4_18 : Cond.classLink RX4 18 RX0 ∈ gw := gw_k (tk1 (List.mem_of_getElem? (i := 97) rfl)) rfl
theorem wmX4_20 : Cond.methodLink RX4 20 yX0_init ∈ gw := gw_k (tk1 (List.mem_of_getElem? (i := 99) rfl)) rfl
theorem wjX4_25 : Cond.classLink RX4 25 RX3 ∈ gw := gw_k (tk1 (List.mem_of_getElem? (i := 100) rfl)) rfl
theorem wbX3 : Cond.instantiable RX3 7 ∈ gw := gw_k (tk1 (List.mem_of_getElem? (i := 101) rfl)) rfl
theorem wiX3_init : Cond.instanceMethod yX3_init ∈ gw := gw_k (tk1 (List.mem_of_getElem? (i := 103) rfl)) rfl
theorem wcX3_init : Cond.code yX3_init cX3_init 1 (Option.none : Option Jvm.ClassFile.FieldType) ∈ gw := gw_k (tk1 (List.mem_of_getElem? (i := 104) rfl)) rfl
theorem wmX3_3 : Cond.methodLink RX3 3 ⟨"java/lang/Object", "<init>", "()V"⟩ ∈ gw := gw_k (tk1 (List.mem_of_getElem? (i := 105) rfl)) rfl
theorem wjX3_9 : Cond.classLink RX3 9 RX7 ∈ gw := gw_k (tk1 (List.mem_of_getElem? (i := 106) rfl)) rfl
theorem wjX3_18 : Cond.classLink RX3 18 RX0 ∈ gw := gw_k (tk1 (List.mem_of_getElem? (i := 108) rfl)) rfl
theorem wmX3_20 : Cond.methodLink RX3 20 yX0_init ∈ gw := gw_k (tk1 (List.mem_of_getElem? (i := 109) rfl)) rfl
theorem wfX3_12 : Cond.fieldLink RX3 12 "TurnedBonds$Hand" "tree" "LTurnedBonds$Tree;" ∈ gw := gw_k (tk1 (List.mem_of_getElem? (i := 110) rfl)) rfl
theorem wfX3_21 : Cond.fieldLink RX3 21 "TurnedBonds$Hand" "bond" "LTurnedBonds$Bond;" ∈ gw := gw_k (tk1 (List.mem_of_getElem? (i := 112) rfl)) rfl
theorem wfX3_25 : Cond.fieldLink RX3 25 "TurnedBonds$Hand" "opened" "Z" ∈ gw := gw_k (tk1 (List.mem_of_getElem? (i := 114) rfl)) rfl
theorem wfX3_29 : Cond.fieldLink RX3 29 "TurnedBonds$Hand" "over" "Z" ∈ gw := gw_k (tk1 (List.mem_of_getElem? (i := 116) rfl)) rfl
theorem wfX3_32 : Cond.fieldLink RX3 32 "TurnedBonds$Hand" "row" "I" ∈ gw := gw_k (tk1 (List.mem_of_getElem? (i := 118) rfl)) rfl
theorem wfX3_36 : Cond.fieldLink RX3 36 "TurnedBonds$Hand" "paid" "J" ∈ gw := gw_k (tk1 (List.mem_of_getElem? (i := 120) rfl)) rfl
theorem wfX3_40 : Cond.fieldLink RX3 40 "TurnedBonds$Hand" "regret" "J" ∈ gw := gw_k (tk1 (List.mem_of_getElem? (i := 122) rfl)) rfl
theorem wfX4_12 : Cond.fieldLink RX4 12 "TurnedBonds$Kept" "tree" "LTurnedBonds$Tree;" ∈ gw := gw_k (tk1 (List.mem_of_getElem? (i := 139) rfl)) rfl
theorem wfX4_21 : Cond.fieldLink RX4 21 "TurnedBonds$Kept" "bonds" "[LTurnedBonds$Bond;" ∈ gw := gw_k (tk1 (List.mem_of_getElem? (i := 141) rfl)) rfl
theorem wfX4_28 : Cond.fieldLink RX4 28 "TurnedBonds$Kept" "hand" "LTurnedBonds$Hand;" ∈ gw := gw_k (tk1 (List.mem_of_getElem? (i := 143) rfl)) rfl
theorem wfX4_32 : Cond.fieldLink RX4 32 "TurnedBonds$Kept" "row" "I" ∈ gw := gw_k (tk1 (List.mem_of_getElem? (i := 145) rfl)) rfl
theorem wjX8_33 : Cond.classLink RX8 33 RX5 ∈ gw := gw_k (tk1 (List.mem_of_getElem? (i := 157) rfl)) rfl
theorem wbX5 : Cond.instantiable RX5 11 ∈ gw := gw_k (tk1 (List.mem_of_getElem? (i := 158) rfl)) rfl
theorem wiX5_init : Cond.instanceMethod yX5_init ∈ gw := gw_k (tk1 (List.mem_of_getElem? (i := 160) rfl)) rfl
theorem wcX5_init : Cond.code yX5_init cX5_init 1 (Option.none : Option Jvm.ClassFile.FieldType) ∈ gw := gw_k (tk1 (List.mem_of_getElem? (i := 161) rfl)) rfl
theorem wmX5_3 : Cond.methodLink RX5 3 ⟨"java/lang/Object", "<init>", "()V"⟩ ∈ gw := gw_k (tk1 (List.mem_of_getElem? (i := 162) rfl)) rfl
theorem wjX5_9 : Cond.classLink RX5 9 RX7 ∈ gw := gw_k (tk1 (List.mem_of_getElem? (i := 163) rfl)) rfl
theorem wjX5_18 : Cond.classLink RX5 18 RX0 ∈ gw := gw_k (tk1 (List.mem_of_getElem? (i := 165) rfl)) rfl
theorem wmX5_20 : Cond.methodLink RX5 20 yX0_init ∈ gw := gw_k (tk1 (List.mem_of_getElem? (i := 166) rfl)) rfl
theorem wfX5_12 : Cond.fieldLink RX5 12 "TurnedBonds$Sheet" "tree" "LTurnedBonds$Tree;" ∈ gw := gw_k (tk1 (List.mem_of_getElem? (i := 167) rfl)) rfl
theorem wfX5_21 : Cond.fieldLink RX5 21 "TurnedBonds$Sheet" "bond" "LTurnedBonds$Bond;" ∈ gw := gw_k (tk1 (List.mem_of_getElem? (i := 169) rfl)) rfl
theorem wfX5_25 : Cond.fieldLink RX5 25 "TurnedBonds$Sheet" "penceByUps" "[J" ∈ gw := gw_k (tk1 (List.mem_of_getElem? (i := 171) rfl)) rfl
theorem wfX5_29 : Cond.fieldLink RX5 29 "TurnedBonds$Sheet" "pence" "[J" ∈ gw := gw_k (tk1 (List.mem_of_getElem? (i := 172) rfl)) rfl
theorem wfX5_32 : Cond.fieldLink RX5 32 "TurnedBonds$Sheet" "turned" "[J" ∈ gw := gw_k (tk1 (List.mem_of_getElem? (i := 173) rfl)) rfl
theorem wfX5_35 : Cond.fieldLink RX5 35 "TurnedBonds$Sheet" "called" "[J" ∈ gw := gw_k (tk1 (List.mem_of_getElem? (i := 174) rfl)) rfl
theorem wfX5_38 : Cond.fieldLink RX5 38 "TurnedBonds$Sheet" "hold" "[J" ∈ gw := gw_k (tk1 (List.mem_of_getElem? (i := 175) rfl)) rfl
theorem wfX5_41 : Cond.fieldLink RX5 41 "TurnedBonds$Sheet" "value" "[J" ∈ gw := gw_k (tk1 (List.mem_of_getElem? (i := 176) rfl)) rfl
theorem wfX5_44 : Cond.fieldLink RX5 44 "TurnedBonds$Sheet" "marks" "[I" ∈ gw := gw_k (tk1 (List.mem_of_getElem? (i := 177) rfl)) rfl
theorem wfX5_48 : Cond.fieldLink RX5 48 "TurnedBonds$Sheet" "act" "[I" ∈ gw := gw_k (tk1 (List.mem_of_getElem? (i := 178) rfl)) rfl
theorem wfX5_51 : Cond.fieldLink RX5 51 "TurnedBonds$Sheet" "rowOfKey" "[I" ∈ gw := gw_k (tk1 (List.mem_of_getElem? (i := 179) rfl)) rfl
theorem wa_long : Cond.arrayClass .long ∈ gw := gw_k (tk1 (List.mem_of_getElem? (i := 203) rfl)) rfl
theorem wjX8_43 : Cond.classLink RX8 43 RX1 ∈ gw := gw_k (tk1 (List.mem_of_getElem? (i := 204) rfl)) rfl
theorem wbX1 : Cond.instantiable RX1 1 ∈ gw := gw_k (tk1 (List.mem_of_getElem? (i := 205) rfl)) rfl
theorem wiX1_init : Cond.instanceMethod yX1_init ∈ gw := gw_k (tk1 (List.mem_of_getElem? (i := 207) rfl)) rfl
theorem wcX1_init : Cond.code yX1_init cX1_init 1 (Option.none : Option Jvm.ClassFile.FieldType) ∈ gw := gw_k (tk1 (List.mem_of_getElem? (i := 208) rfl)) rfl
theorem wmX1_3 : Cond.methodLink RX1 3 ⟨"java/lang/Object", "<init>", "()V"⟩ ∈ gw := gw_k (tk1 (List.mem_of_getElem? (i := 209) rfl)) rfl
theorem wfX1_9 : Cond.fieldLink RX1 9 "TurnedBonds$Draws" "x" "I" ∈ gw := gw_k (tk1 (List.mem_of_getElem? (i := 210) rfl)) rfl
theorem wjX8_50 : Cond.classLink RX8 50 RJ4 ∈ gw := gw_k (tk1 (List.mem_of_getElem? (i := 214) rfl)) rfl
theorem wbJ4 : Cond.instantiable RJ4 4 ∈ gw := gw_k (tk1 (List.mem_of_getElem? (i := 215) rfl)) rfl
theorem wmX8_52 : Cond.methodLink RX8 52 yJ4_init_da8c8 ∈ gw := gw_k (tk1 (List.mem_of_getElem? (i := 216) rfl)) rfl
theorem wiJ4_init_da8c8 : Cond.instanceMethod yJ4_init_da8c8 ∈ gw := gw_k (tk1 (List.mem_of_getElem? (i := 217) rfl)) rfl
theorem wcJ4_init_da8c8 : Cond.code yJ4_init_da8c8 cJ4_init_da8c8 1 (Option.none : Option Jvm.ClassFile.FieldType) ∈ gw := gw_k (tk1 (List.mem_of_getElem? (i := 218) rfl)) rfl
theorem wmJ4_1 : Cond.methodLink RJ4 1 yJ5_init_d00df ∈ gw := gw_k (tk1 (List.mem_of_getElem? (i := 219) rfl)) rfl
theorem wiJ5_init_d00df : Cond.instanceMethod yJ5_init_d00df ∈ gw := gw_k (tk1 (List.mem_of_getElem? (i := 220) rfl)) rfl
theorem wcJ5_init_d00df : Cond.code yJ5_init_d00df cJ5_init_d00df 2 (Option.none : Option Jvm.ClassFile.FieldType) ∈ gw := gw_k (tk1 (List.mem_of_getElem? (i := 221) rfl)) rfl
theorem wmJ5_3 : Cond.methodLink RJ5 3 ⟨"java/lang/Object", "<init>", "()V"⟩ ∈ gw := gw_k (tk1 (List.mem_of_getElem? (i := 222) rfl)) rfl
theorem wfJ5_18 : Cond.fieldLink RJ5 18 "java/lang/String" "COMPACT_STRINGS" "Z" ∈ gw := gw_k (tk1 (List.mem_of_getElem? (i := 223) rfl)) rfl
theorem wmJ5_26 : Cond.methodLink RJ5 26 yJ2_newBytesFor_77867 ∈ gw := gw_k (tk1 (List.mem_of_getElem? (i := 225) rfl)) rfl
theorem wtJ2_newBytesFor_77867 : Cond.static yJ2_newBytesFor_77867 ∈ gw := gw_k (tk1 (List.mem_of_getElem? (i := 226) rfl)) rfl
theorem wcJ2_newBytesFor_77867 : Cond.code yJ2_newBytesFor_77867 cJ2_newBytesFor_77867 1 (Option.some (Jvm.ClassFile.FieldType.array Jvm.ClassFile.FieldType.byte)) ∈ gw := gw_k (tk1 (List.mem_of_getElem? (i := 227) rfl)) rfl
theorem wmJ2_11 : Cond.methodLink RJ2 11 yJ2_newBytesLength_0f7a4 ∈ gw := gw_k (tk1 (List.mem_of_getElem? (i := 228) rfl)) rfl
theorem wtJ2_newBytesLength_0f7a4 : Cond.static yJ2_newBytesLength_0f7a4 ∈ gw := gw_k (tk1 (List.mem_of_getElem? (i := 229) rfl)) rfl
theorem wcJ2_newBytesLength_0f7a4 : Cond.code yJ2_newBytesLength_0f7a4 cJ2_newBytesLength_0f7a4 1 (Option.some Jvm.ClassFile.FieldType.int) ∈ gw := gw_k (tk1 (List.mem_of_getElem? (i := 230) rfl)) rfl
theorem wkJ2_20 : Cond.constant RJ2 20 (1073741823) ∈ gw := gw_k (tk1 (List.mem_of_getElem? (i := 231) rfl)) rfl
theorem wfJ5_15 : Cond.fieldLink RJ5 15 "java/lang/AbstractStringBuilder" "value" "[B" ∈ gw := gw_k (tk1 (List.mem_of_getElem? (i := 232) rfl)) rfl
theorem wfJ5_22 : Cond.fieldLink RJ5 22 "java/lang/AbstractStringBuilder" "coder" "B" ∈ gw := gw_k (tk1 (List.mem_of_getElem? (i := 233) rfl)) rfl
theorem wfJ5_73 : Cond.fieldLink RJ5 73 "java/lang/AbstractStringBuilder" "maybeLatin1" "Z" ∈ gw := gw_k (tk1 (List.mem_of_getElem? (i := 234) rfl)) rfl
theorem wfJ5_79 : Cond.fieldLink RJ5 79 "java/lang/AbstractStringBuilder" "count" "I" ∈ gw := gw_k (tk1 (List.mem_of_getElem? (i := 235) rfl)) rfl
theorem wa_byte : Cond.arrayClass .byte ∈ gw := gw_k (tk2 (List.mem_of_getElem? (i := 5) rfl)) rfl
theorem wfX8_12 : Cond.fieldLink RX8 12 "TurnedBonds" "tape" "LTurnedBonds$Tape;" ∈ gw := gw_k (tk2 (List.mem_of_getElem? (i := 6) rfl)) rfl
theorem wfX8_21 : Cond.fieldLink RX8 21 "TurnedBonds" "now" "LTurnedBonds$Kept;" ∈ gw := gw_k (tk2 (List.mem_of_getElem? (i := 7) rfl)) rfl
theorem wfX8_25 : Cond.fieldLink RX8 25 "TurnedBonds" "kept" "[LTurnedBonds$Kept;" ∈ gw := gw_k (tk2 (List.mem_of_getElem? (i := 8) rfl)) rfl
theorem wfX8_29 : Cond.fieldLink RX8 29 "TurnedBonds" "keptCount" "I" ∈ gw := gw_k (tk2 (List.mem_of_getElem? (i := 9) rfl)) rfl
theorem wfX8_36 : Cond.fieldLink RX8 36 "TurnedBonds" "sheet" "LTurnedBonds$Sheet;" ∈ gw := gw_k (tk2 (List.mem_of_getElem? (i := 10) rfl)) rfl
theorem wfX8_40 : Cond.fieldLink RX8 40 "TurnedBonds" "otherSheet" "LTurnedBonds$Sheet;" ∈ gw := gw_k (tk2 (List.mem_of_getElem? (i := 11) rfl)) rfl
theorem wfX8_46 : Cond.fieldLink RX8 46 "TurnedBonds" "draws" "LTurnedBonds$Draws;" ∈ gw := gw_k (tk2 (List.mem_of_getElem? (i := 12) rfl)) rfl
theorem wfX8_53 : Cond.fieldLink RX8 53 "TurnedBonds" "text" "Ljava/lang/StringBuilder;" ∈ gw := gw_k (tk2 (List.mem_of_getElem? (i := 13) rfl)) rfl
theorem wmL_13 : Cond.methodLink RL 13 yX8_feed ∈ gw := gw_k (tk2 (List.mem_of_getElem? (i := 31) rfl)) rfl
theorem wiX8_feed : Cond.instanceMethod yX8_feed ∈ gw := gw_k (tk2 (List.mem_of_getElem? (i := 32) rfl)) rfl
theorem weX8_feed : Cond.selects RX8 yX8_feed yX8_feed ∈ gw := gw_k (tk2 (List.mem_of_getElem? (i := 33) rfl)) rfl
theorem wcX8_feed : Cond.code yX8_feed cX8_feed 6 (Option.some Jvm.ClassFile.FieldType.int) ∈ gw := gw_k (tk2 (List.mem_of_getElem? (i := 34) rfl)) rfl
theorem wmX8_57 : Cond.methodLink RX8 57 yX6_size ∈ gw := gw_k (tk2 (List.mem_of_getElem? (i := 35) rfl)) rfl
theorem wiX6_size : Cond.instanceMethod yX6_size ∈ gw := gw_k (tk2 (List.mem_of_getElem? (i := 36) rfl)) rfl
theorem weX6_size : Cond.selects RX6 yX6_size yX6_size ∈ gw := gw_k (tk2 (List.mem_of_getElem? (i := 37) rfl)) rfl
theorem wcX6_size : Cond.code yX6_size cX6_size 1 (Option.some Jvm.ClassFile.FieldType.int) ∈ gw := gw_k (tk2 (List.mem_of_getElem? (i := 38) rfl)) rfl
theorem wmX8_61 : Cond.methodLink RX8 61 yX6_append ∈ gw := gw_k (tk2 (List.mem_of_getElem? (i := 39) rfl)) rfl
theorem wiX6_append : Cond.instanceMethod yX6_append ∈ gw := gw_k (tk2 (List.mem_of_getElem? (i := 40) rfl)) rfl
theorem weX6_append : Cond.selects RX6 yX6_append yX6_append ∈ gw := gw_k (tk2 (List.mem_of_getElem? (i := 41) rfl)) rfl
theorem wcX6_append : Cond.code yX6_append cX6_append 3 (Option.none : Option Jvm.ClassFile.FieldType) ∈ gw := gw_k (tk2 (List.mem_of_getElem? (i := 42) rfl)) rfl
theorem wmL_18 : Cond.methodLink RL 18 yX8_tree ∈ gw := gw_k (tk2 (List.mem_of_getElem? (i := 43) rfl)) rfl
theorem wiX8_tree : Cond.instanceMethod yX8_tree ∈ gw := gw_k (tk2 (List.mem_of_getElem? (i := 44) rfl)) rfl
theorem weX8_tree : Cond.selects RX8 yX8_tree yX8_tree ∈ gw := gw_k (tk2 (List.mem_of_getElem? (i := 45) rfl)) rfl
theorem wcX8_tree : Cond.code yX8_tree cX8_tree 3 (Option.some Jvm.ClassFile.FieldType.boolean) ∈ gw := gw_k (tk2 (List.mem_of_getElem? (i := 46) rfl)) rfl
theorem wmX8_65 : Cond.methodLink RX8 65 yX8_within ∈ gw := gw_k (tk2 (List.mem_of_getElem? (i := 47) rfl)) rfl
theorem wtX8_within : Cond.static yX8_within ∈ gw := gw_k (tk2 (List.mem_of_getElem? (i := 48) rfl)) rfl
theorem wcX8_within : Cond.code yX8_within cX8_within 3 (Option.some Jvm.ClassFile.FieldType.boolean) ∈ gw := gw_k (tk2 (List.mem_of_getElem? (i := 49) rfl)) rfl
theorem wmX8_69 : Cond.methodLink RX8 69 yX8_isStart ∈ gw := gw_k (tk2 (List.mem_of_getElem? (i := 50) rfl)) rfl
theorem wtX8_isStart : Cond.static yX8_isStart ∈ gw := gw_k (tk2 (List.mem_of_getElem? (i := 51) rfl)) rfl
theorem wcX8_isStart : Cond.code yX8_isStart cX8_isStart 1 (Option.some Jvm.ClassFile.FieldType.boolean) ∈ gw := gw_k (tk2 (List.mem_of_getElem? (i := 52) rfl)) rfl
theorem wmX8_79 : Cond.methodLink RX8 79 yX7_set ∈ gw := gw_k (tk2 (List.mem_of_getElem? (i := 53) rfl)) rfl
theorem wiX7_set : Cond.instanceMethod yX7_set ∈ gw := gw_k (tk2 (List.mem_of_getElem? (i := 54) rfl)) rfl
theorem weX7_set : Cond.selects RX7 yX7_set yX7_set ∈ gw := gw_k (tk2 (List.mem_of_getElem? (i := 55) rfl)) rfl
theorem wcX7_set : Cond.code yX7_set cX7_set 3 (Option.none : Option Jvm.ClassFile.FieldType) ∈ gw := gw_k (tk2 (List.mem_of_getElem? (i := 56) rfl)) rfl
theorem wmL_23 : Cond.methodLink RL 23 yX8_move ∈ gw := gw_k (tk2 (List.mem_of_getElem? (i := 58) rfl)) rfl
theorem wiX8_move : Cond.instanceMethod yX8_move ∈ gw := gw_k (tk2 (List.mem_of_getElem? (i := 59) rfl)) rfl
theorem weX8_move : Cond.selects RX8 yX8_move yX8_move ∈ gw := gw_k (tk2 (List.mem_of_getElem? (i := 60) rfl)) rfl
theorem wcX8_move : Cond.code yX8_move cX8_move 4 (Option.some Jvm.ClassFile.FieldType.boolean) ∈ gw := gw_k (tk2 (List.mem_of_getElem? (i := 61) rfl)) rfl
theorem wmL_28 : Cond.methodLink RL 28 yX8_chance ∈ gw := gw_k (tk2 (List.mem_of_getElem? (i := 62) rfl)) rfl
theorem wiX8_chance : Cond.instanceMethod yX8_chance ∈ gw := gw_k (tk2 (List.mem_of_getElem? (i := 63) rfl)) rfl
theorem weX8_chance : Cond.selects RX8 yX8_chance yX8_chance ∈ gw := gw_k (tk2 (List.mem_of_getElem? (i := 64) rfl)) rfl
theorem wcX8_chance : Cond.code yX8_chance cX8_chance 3 (Option.some Jvm.ClassFile.FieldType.boolean) ∈ gw := gw_k (tk2 (List.mem_of_getElem? (i := 65) rfl)) rfl
theorem wmX8_86 : Cond.methodLink RX8 86 yX8_isChance ∈ gw := gw_k (tk2 (List.mem_of_getElem? (i := 66) rfl)) rfl
theorem wtX8_isChance : Cond.static yX8_isChance ∈ gw := gw_k (tk2 (List.mem_of_getElem? (i := 67) rfl)) rfl
theorem wcX8_isChance : Cond.code yX8_isChance cX8_isChance 2 (Option.some Jvm.ClassFile.FieldType.boolean) ∈ gw := gw_k (tk2 (List.mem_of_getElem? (i := 68) rfl)) rfl
theorem wmL_32 : Cond.methodLink RL 32 yX8_rate ∈ gw := gw_k (tk2 (List.mem_of_getElem? (i := 69) rfl)) rfl
theorem wiX8_rate : Cond.instanceMethod yX8_rate ∈ gw := gw_k (tk2 (List.mem_of_getElem? (i := 70) rfl)) rfl
theorem weX8_rate : Cond.selects RX8 yX8_rate yX8_rate ∈ gw := gw_k (tk2 (List.mem_of_getElem? (i := 71) rfl)) rfl
theorem wcX8_rate : Cond.code yX8_rate cX8_rate 3 (Option.some Jvm.ClassFile.FieldType.int) ∈ gw := gw_k (tk2 (List.mem_of_getElem? (i := 72) rfl)) rfl
theorem wmX8_90 : Cond.methodLink RX8 90 yX7_get ∈ gw := gw_k (tk2 (List.mem_of_getElem? (i := 73) rfl)) rfl
theorem wiX7_get : Cond.instanceMethod yX7_get ∈ gw := gw_k (tk2 (List.mem_of_getElem? (i := 74) rfl)) rfl
theorem weX7_get : Cond.selects RX7 yX7_get yX7_get ∈ gw := gw_k (tk2 (List.mem_of_getElem? (i := 75) rfl)) rfl
theorem wcX7_get : Cond.code yX7_get cX7_get 2 (Option.some Jvm.ClassFile.FieldType.int) ∈ gw := gw_k (tk2 (List.mem_of_getElem? (i := 76) rfl)) rfl
theorem wmL_37 : Cond.methodLink RL 37 yX8_price ∈ gw := gw_k (tk2 (List.mem_of_getElem? (i := 77) rfl)) rfl
theorem wiX8_price : Cond.instanceMethod yX8_price ∈ gw := gw_k (tk2 (List.mem_of_getElem? (i := 78) rfl)) rfl
theorem weX8_price : Cond.selects RX8 yX8_price yX8_price ∈ gw := gw_k (tk2 (List.mem_of_getElem? (i := 79) rfl)) rfl
theorem wcX8_price : Cond.code yX8_price cX8_price 8 (Option.some Jvm.ClassFile.FieldType.long) ∈ gw := gw_k (tk2 (List.mem_of_getElem? (i := 80) rfl)) rfl
theorem wmX8_94 : Cond.methodLink RX8 94 yX8_isDay ∈ gw := gw_k (tk2 (List.mem_of_getElem? (i := 81) rfl)) rfl
theorem wiX8_isDay : Cond.instanceMethod yX8_isDay ∈ gw := gw_k (tk2 (List.mem_of_getElem? (i := 83) rfl)) rfl
theorem wcX8_isDay : Cond.code yX8_isDay cX8_isDay 2 (Option.some Jvm.ClassFile.FieldType.boolean) ∈ gw := gw_k (tk2 (List.mem_of_getElem? (i := 84) rfl)) rfl
theorem wmX8_318 : Cond.methodLink RX8 318 yX7_lastDay ∈ gw := gw_k (tk2 (List.mem_of_getElem? (i := 85) rfl)) rfl
theorem wiX7_lastDay : Cond.instanceMethod yX7_lastDay ∈ gw := gw_k (tk2 (List.mem_of_getElem? (i := 86) rfl)) rfl
theorem weX7_lastDay : Cond.selects RX7 yX7_lastDay yX7_lastDay ∈ gw := gw_k (tk2 (List.mem_of_getElem? (i := 87) rfl)) rfl
theorem wcX7_lastDay : Cond.code yX7_lastDay cX7_lastDay 1 (Option.some Jvm.ClassFile.FieldType.int) ∈ gw := gw_k (tk2 (List.mem_of_getElem? (i := 88) rfl)) rfl
theorem wmX7_25 : Cond.methodLink RX7 25 yJ9_min_7cf53 ∈ gw := gw_k (tk2 (List.mem_of_getElem? (i := 89) rfl)) rfl
theorem wtJ9_min_7cf53 : Cond.static yJ9_min_7cf53 ∈ gw := gw_k (tk2 (List.mem_of_getElem? (i := 90) rfl)) rfl
theorem wcJ9_min_7cf53 : Cond.code yJ9_min_7cf53 cJ9_min_7cf53 2 (Option.some Jvm.ClassFile.FieldType.int) ∈ gw := gw_k (tk2 (List.mem_of_getElem? (i := 91) rfl)) rfl
theorem wkX8_97 : Cond.constantLong RX8 97 (-1) ∈ gw := gw_k (tk2 (List.mem_of_getElem? (i := 92) rfl)) rfl
theorem wmX8_99 : Cond.methodLink RX8 99 yX7_pence ∈ gw := gw_k (tk2 (List.mem_of_getElem? (i := 93) rfl)) rfl
theorem wiX7_pence : Cond.instanceMethod yX7_pence ∈ gw := gw_k (tk2 (List.mem_of_getElem? (i := 94) rfl)) rfl
theorem weX7_pence : Cond.selects RX7 yX7_pence yX7_pence ∈ gw := gw_k (tk2 (List.mem_of_getElem? (i := 95) rfl)) rfl
theorem wcX7_pence : Cond.code yX7_pence cX7_pence 3 (Option.some Jvm.ClassFile.FieldType.long) ∈ gw := gw_k (tk2 (List.mem_of_getElem? (i := 96) rfl)) rfl
theorem wkX7_35 : Cond.constantLong RX7 35 (100) ∈ gw := gw_k (tk2 (List.mem_of_getElem? (i := 97) rfl)) rfl
theorem wmX7_37 : Cond.methodLink RX7 37 yX7_priceTop ∈ gw := gw_k (tk2 (List.mem_of_getElem? (i := 98) rfl)) rfl
theorem wiX7_priceTop : Cond.instanceMethod yX7_priceTop ∈ gw := gw_k (tk2 (List.mem_of_getElem? (i := 99) rfl)) rfl
theorem weX7_priceTop : Cond.selects RX7 yX7_priceTop yX7_priceTop ∈ gw := gw_k (tk2 (List.mem_of_getElem? (i := 100) rfl)) rfl
theorem wcX7_priceTop : Cond.code yX7_priceTop cX7_priceTop 3 (Option.some Jvm.ClassFile.FieldType.long) ∈ gw := gw_k (tk2 (List.mem_of_getElem? (i := 101) rfl)) rfl
theorem wtX8_power : Cond.static yX8_power ∈ gw := gw_k (tk2 (List.mem_of_getElem? (i := 103) rfl)) rfl
theorem wcX8_power : Cond.code yX8_power cX8_power 6 (Option.some Jvm.ClassFile.FieldType.long) ∈ gw := gw_k (tk2 (List.mem_of_getElem? (i := 104) rfl)) rfl
theorem wmX7_41 : Cond.methodLink RX7 41 yX7_priceBottom ∈ gw := gw_k (tk2 (List.mem_of_getElem? (i := 105) rfl)) rfl
theorem wiX7_priceBottom : Cond.instanceMethod yX7_priceBottom ∈ gw := gw_k (tk2 (List.mem_of_getElem? (i := 106) rfl)) rfl
theorem weX7_priceBottom : Cond.selects RX7 yX7_priceBottom yX7_priceBottom ∈ gw := gw_k (tk2 (List.mem_of_getElem? (i := 107) rfl)) rfl
theorem wcX7_priceBottom : Cond.code yX7_priceBottom cX7_priceBottom 3 (Option.some Jvm.ClassFile.FieldType.long) ∈ gw := gw_k (tk2 (List.mem_of_getElem? (i := 108) rfl)) rfl
theorem wtX8_through : Cond.static yX8_through ∈ gw := gw_k (tk2 (List.mem_of_getElem? (i := 110) rfl)) rfl
theorem wcX8_through : Cond.code yX8_through cX8_through 4 (Option.some Jvm.ClassFile.FieldType.long) ∈ gw := gw_k (tk2 (List.mem_of_getElem? (i := 111) rfl)) rfl
theorem wmX8_103 : Cond.methodLink RX8 103 yX7_priceTop ∈ gw := gw_k (tk2 (List.mem_of_getElem? (i := 112) rfl)) rfl
theorem wmX8_106 : Cond.methodLink RX8 106 yX7_priceBottom ∈ gw := gw_k (tk2 (List.mem_of_getElem? (i := 113) rfl)) rfl
theorem wmX8_109 : Cond.methodLink RX8 109 yX8_greatestDivisor ∈ gw := gw_k (tk2 (List.mem_of_getElem? (i := 114) rfl)) rfl
theorem wtX8_greatestDivisor : Cond.static yX8_greatestDivisor ∈ gw := gw_k (tk2 (List.mem_of_getElem? (i := 115) rfl)) rfl
theorem wcX8_greatestDivisor : Cond.code yX8_greatestDivisor cX8_greatestDivisor 11 (Option.some Jvm.ClassFile.FieldType.long) ∈ gw := gw_k (tk2 (List.mem_of_getElem? (i := 116) rfl)) rfl
theorem wmX8_113 : Cond.methodLink RX8 113 yX8_through ∈ gw := gw_k (tk2 (List.mem_of_getElem? (i := 117) rfl)) rfl
theorem wmL_42 : Cond.methodLink RL 42 yX8_bond ∈ gw := gw_k (tk2 (List.mem_of_getElem? (i := 118) rfl)) rfl
theorem wiX8_bond : Cond.instanceMethod yX8_bond ∈ gw := gw_k (tk2 (List.mem_of_getElem? (i := 119) rfl)) rfl
theorem weX8_bond : Cond.selects RX8 yX8_bond yX8_bond ∈ gw := gw_k (tk2 (List.mem_of_getElem? (i := 120) rfl)) rfl
theorem wcX8_bond : Cond.code yX8_bond cX8_bond 4 (Option.some Jvm.ClassFile.FieldType.boolean) ∈ gw := gw_k (tk2 (List.mem_of_getElem? (i := 121) rfl)) rfl
theorem wmX8_116 : Cond.methodLink RX8 116 yX8_isBond ∈ gw := gw_k (tk2 (List.mem_of_getElem? (i := 122) rfl)) rfl
theorem wtX8_isBond : Cond.static yX8_isBond ∈ gw := gw_k (tk2 (List.mem_of_getElem? (i := 123) rfl)) rfl
theorem wcX8_isBond : Cond.code yX8_isBond cX8_isBond 1 (Option.some Jvm.ClassFile.FieldType.boolean) ∈ gw := gw_k (tk2 (List.mem_of_getElem? (i := 124) rfl)) rfl
theorem wkX8_119 : Cond.constant RX8 119 (1000000) ∈ gw := gw_k (tk2 (List.mem_of_getElem? (i := 125) rfl)) rfl
theorem wmX8_126 : Cond.methodLink RX8 126 yX0_set ∈ gw := gw_k (tk2 (List.mem_of_getElem? (i := 126) rfl)) rfl
theorem wmL_47 : Cond.methodLink RL 47 yX8_coupon ∈ gw := gw_k (tk2 (List.mem_of_getElem? (i := 127) rfl)) rfl
theorem wiX8_coupon : Cond.instanceMethod yX8_coupon ∈ gw := gw_k (tk2 (List.mem_of_getElem? (i := 128) rfl)) rfl
theorem weX8_coupon : Cond.selects RX8 yX8_coupon yX8_coupon ∈ gw := gw_k (tk2 (List.mem_of_getElem? (i := 129) rfl)) rfl
theorem wcX8_coupon : Cond.code yX8_coupon cX8_coupon 4 (Option.some Jvm.ClassFile.FieldType.int) ∈ gw := gw_k (tk2 (List.mem_of_getElem? (i := 130) rfl)) rfl
theorem wmX8_127 : Cond.methodLink RX8 127 yX8_replaceTerm ∈ gw := gw_k (tk2 (List.mem_of_getElem? (i := 131) rfl)) rfl
theorem wiX8_replaceTerm : Cond.instanceMethod yX8_replaceTerm ∈ gw := gw_k (tk2 (List.mem_of_getElem? (i := 133) rfl)) rfl
theorem wcX8_replaceTerm : Cond.code yX8_replaceTerm cX8_replaceTerm 5 (Option.some Jvm.ClassFile.FieldType.int) ∈ gw := gw_k (tk2 (List.mem_of_getElem? (i := 134) rfl)) rfl
theorem wmX8_148 : Cond.methodLink RX8 148 yX0_get ∈ gw := gw_k (tk2 (List.mem_of_getElem? (i := 135) rfl)) rfl
theorem wiX0_get : Cond.instanceMethod yX0_get ∈ gw := gw_k (tk2 (List.mem_of_getElem? (i := 136) rfl)) rfl
theorem weX0_get : Cond.selects RX0 yX0_get yX0_get ∈ gw := gw_k (tk2 (List.mem_of_getElem? (i := 137) rfl)) rfl
theorem wcX0_get : Cond.code yX0_get cX0_get 2 (Option.some Jvm.ClassFile.FieldType.int) ∈ gw := gw_k (tk2 (List.mem_of_getElem? (i := 138) rfl)) rfl
theorem wmL_52 : Cond.methodLink RL 52 yX8_call ∈ gw := gw_k (tk2 (List.mem_of_getElem? (i := 139) rfl)) rfl
theorem wiX8_call : Cond.instanceMethod yX8_call ∈ gw := gw_k (tk2 (List.mem_of_getElem? (i := 140) rfl)) rfl
theorem weX8_call : Cond.selects RX8 yX8_call yX8_call ∈ gw := gw_k (tk2 (List.mem_of_getElem? (i := 141) rfl)) rfl
theorem wcX8_call : Cond.code yX8_call cX8_call 4 (Option.some Jvm.ClassFile.FieldType.int) ∈ gw := gw_k (tk2 (List.mem_of_getElem? (i := 142) rfl)) rfl
theorem wmX8_131 : Cond.methodLink RX8 131 yX8_replaceRight ∈ gw := gw_k (tk2 (List.mem_of_getElem? (i := 143) rfl)) rfl
theorem wiX8_replaceRight : Cond.instanceMethod yX8_replaceRight ∈ gw := gw_k (tk2 (List.mem_of_getElem? (i := 145) rfl)) rfl
theorem wcX8_replaceRight : Cond.code yX8_replaceRight cX8_replaceRight 5 (Option.some Jvm.ClassFile.FieldType.int) ∈ gw := gw_k (tk2 (List.mem_of_getElem? (i := 146) rfl)) rfl
theorem wmX8_135 : Cond.methodLink RX8 135 yX8_isPence ∈ gw := gw_k (tk2 (List.mem_of_getElem? (i := 147) rfl)) rfl
theorem wtX8_isPence : Cond.static yX8_isPence ∈ gw := gw_k (tk2 (List.mem_of_getElem? (i := 148) rfl)) rfl
theorem wcX8_isPence : Cond.code yX8_isPence cX8_isPence 1 (Option.some Jvm.ClassFile.FieldType.boolean) ∈ gw := gw_k (tk2 (List.mem_of_getElem? (i := 149) rfl)) rfl
theorem wmL_56 : Cond.methodLink RL 56 yX8_put ∈ gw := gw_k (tk2 (List.mem_of_getElem? (i := 150) rfl)) rfl
theorem wiX8_put : Cond.instanceMethod yX8_put ∈ gw := gw_k (tk2 (List.mem_of_getElem? (i := 151) rfl)) rfl
theorem weX8_put : Cond.selects RX8 yX8_put yX8_put ∈ gw := gw_k (tk2 (List.mem_of_getElem? (i := 152) rfl)) rfl
theorem wcX8_put : Cond.code yX8_put cX8_put 4 (Option.some Jvm.ClassFile.FieldType.int) ∈ gw := gw_k (tk2 (List.mem_of_getElem? (i := 153) rfl)) rfl
theorem wmL_60 : Cond.methodLink RL 60 yX8_window ∈ gw := gw_k (tk2 (List.mem_of_getElem? (i := 154) rfl)) rfl
theorem wiX8_window : Cond.instanceMethod yX8_window ∈ gw := gw_k (tk2 (List.mem_of_getElem? (i := 155) rfl)) rfl
theorem weX8_window : Cond.selects RX8 yX8_window yX8_window ∈ gw := gw_k (tk2 (List.mem_of_getElem? (i := 156) rfl)) rfl
theorem wcX8_window : Cond.code yX8_window cX8_window 4 (Option.some Jvm.ClassFile.FieldType.boolean) ∈ gw := gw_k (tk2 (List.mem_of_getElem? (i := 157) rfl)) rfl
theorem wmL_64 : Cond.methodLink RL 64 yX8_soft ∈ gw := gw_k (tk2 (List.mem_of_getElem? (i := 158) rfl)) rfl
theorem wiX8_soft : Cond.instanceMethod yX8_soft ∈ gw := gw_k (tk2 (List.mem_of_getElem? (i := 159) rfl)) rfl
theorem weX8_soft : Cond.selects RX8 yX8_soft yX8_soft ∈ gw := gw_k (tk2 (List.mem_of_getElem? (i := 160) rfl)) rfl
theorem wcX8_soft : Cond.code yX8_soft cX8_soft 5 (Option.some Jvm.ClassFile.FieldType.boolean) ∈ gw := gw_k (tk2 (List.mem_of_getElem? (i := 161) rfl)) rfl
theorem wmL_69 : Cond.methodLink RL 69 yX8_settle ∈ gw := gw_k (tk2 (List.mem_of_getElem? (i := 162) rfl)) rfl
theorem wiX8_settle : Cond.instanceMethod yX8_settle ∈ gw := gw_k (tk2 (List.mem_of_getElem? (i := 163) rfl)) rfl
theorem weX8_settle : Cond.selects RX8 yX8_settle yX8_settle ∈ gw := gw_k (tk2 (List.mem_of_getElem? (i := 164) rfl)) rfl
theorem wcX8_settle : Cond.code yX8_settle cX8_settle 3 (Option.some Jvm.ClassFile.FieldType.int) ∈ gw := gw_k (tk2 (List.mem_of_getElem? (i := 165) rfl)) rfl
theorem wmL_74 : Cond.methodLink RL 74 yX8_terms ∈ gw := gw_k (tk2 (List.mem_of_getElem? (i := 166) rfl)) rfl
theorem wiX8_terms : Cond.instanceMethod yX8_terms ∈ gw := gw_k (tk2 (List.mem_of_getElem? (i := 167) rfl)) rfl
theorem weX8_terms : Cond.selects RX8 yX8_terms yX8_terms ∈ gw := gw_k (tk2 (List.mem_of_getElem? (i := 168) rfl)) rfl
theorem wcX8_terms : Cond.code yX8_terms cX8_terms 4 (Option.some Jvm.ClassFile.FieldType.int) ∈ gw := gw_k (tk2 (List.mem_of_getElem? (i := 169) rfl)) rfl
theorem wmX8_138 : Cond.methodLink RX8 138 yX6_readTerms ∈ gw := gw_k (tk2 (List.mem_of_getElem? (i := 170) rfl)) rfl
theorem wiX6_readTerms : Cond.instanceMethod yX6_readTerms ∈ gw := gw_k (tk2 (List.mem_of_getElem? (i := 171) rfl)) rfl
theorem weX6_readTerms : Cond.selects RX6 yX6_readTerms yX6_readTerms ∈ gw := gw_k (tk2 (List.mem_of_getElem? (i := 172) rfl)) rfl
theorem wcX6_readTerms : Cond.code yX6_readTerms cX6_readTerms 4 (Option.some Jvm.ClassFile.FieldType.int) ∈ gw := gw_k (tk2 (List.mem_of_getElem? (i := 173) rfl)) rfl
theorem wmX6_45 : Cond.methodLink RX6 45 yX0_takeFrom ∈ gw := gw_k (tk2 (List.mem_of_getElem? (i := 174) rfl)) rfl
theorem wiX0_takeFrom : Cond.instanceMethod yX0_takeFrom ∈ gw := gw_k (tk2 (List.mem_of_getElem? (i := 175) rfl)) rfl
theorem weX0_takeFrom : Cond.selects RX0 yX0_takeFrom yX0_takeFrom ∈ gw := gw_k (tk2 (List.mem_of_getElem? (i := 176) rfl)) rfl
theorem wcX0_takeFrom : Cond.code yX0_takeFrom cX0_takeFrom 2 (Option.none : Option Jvm.ClassFile.FieldType) ∈ gw := gw_k (tk2 (List.mem_of_getElem? (i := 177) rfl)) rfl
theorem wmX0_23 : Cond.methodLink RX0 23 ⟨RJ10, "arraycopy", "(Ljava/lang/Object;ILjava/lang/Object;II)V"⟩ ∈ gw := gw_k (tk2 (List.mem_of_getElem? (i := 178) rfl)) rfl
theorem wt_javalangSystemarraycopy_520 : Cond.static ⟨RJ10, "arraycopy", "(Ljava/lang/Object;ILjava/lang/Object;II)V"⟩ ∈ gw := gw_k (tk2 (List.mem_of_getElem? (i := 179) rfl)) rfl
theorem wmX6_49 : Cond.methodLink RX6 49 yJ9_min_7cf53 ∈ gw := gw_k (tk2 (List.mem_of_getElem? (i := 181) rfl)) rfl
theorem wmX6_55 : Cond.methodLink RX6 55 yX6_look ∈ gw := gw_k (tk2 (List.mem_of_getElem? (i := 182) rfl)) rfl
theorem wiX6_look : Cond.instanceMethod yX6_look ∈ gw := gw_k (tk2 (List.mem_of_getElem? (i := 184) rfl)) rfl
theorem wcX6_look : Cond.code yX6_look cX6_look 1 (Option.some Jvm.ClassFile.FieldType.int) ∈ gw := gw_k (tk2 (List.mem_of_getElem? (i := 185) rfl)) rfl
theorem wmX6_112 : Cond.methodLink RX6 112 yX6_byteAt ∈ gw := gw_k (tk2 (List.mem_of_getElem? (i := 186) rfl)) rfl
theorem wiX6_byteAt : Cond.instanceMethod yX6_byteAt ∈ gw := gw_k (tk2 (List.mem_of_getElem? (i := 188) rfl)) rfl
theorem wcX6_byteAt : Cond.code yX6_byteAt cX6_byteAt 2 (Option.some Jvm.ClassFile.FieldType.int) ∈ gw := gw_k (tk2 (List.mem_of_getElem? (i := 189) rfl)) rfl
theorem wmX6_59 : Cond.methodLink RX6 59 yX6_takeClause ∈ gw := gw_k (tk2 (List.mem_of_getElem? (i := 190) rfl)) rfl
theorem wiX6_takeClause : Cond.instanceMethod yX6_takeClause ∈ gw := gw_k (tk2 (List.mem_of_getElem? (i := 192) rfl)) rfl
theorem wcX6_takeClause : Cond.code yX6_takeClause cX6_takeClause 2 (Option.some Jvm.ClassFile.FieldType.boolean) ∈ gw := gw_k (tk2 (List.mem_of_getElem? (i := 193) rfl)) rfl
theorem wkX6_63 : Cond.constant RX6 63 (1000000) ∈ gw := gw_k (tk2 (List.mem_of_getElem? (i := 194) rfl)) rfl
theorem wmX6_64 : Cond.methodLink RX6 64 yX6_takeNumber ∈ gw := gw_k (tk2 (List.mem_of_getElem? (i := 195) rfl)) rfl
theorem wiX6_takeNumber : Cond.instanceMethod yX6_takeNumber ∈ gw := gw_k (tk2 (List.mem_of_getElem? (i := 197) rfl)) rfl
theorem wcX6_takeNumber : Cond.code yX6_takeNumber cX6_takeNumber 4 (Option.some Jvm.ClassFile.FieldType.int) ∈ gw := gw_k (tk2 (List.mem_of_getElem? (i := 198) rfl)) rfl
theorem wmX6_90 : Cond.methodLink RX6 90 yX6_takeDigits ∈ gw := gw_k (tk2 (List.mem_of_getElem? (i := 199) rfl)) rfl
theorem wiX6_takeDigits : Cond.instanceMethod yX6_takeDigits ∈ gw := gw_k (tk2 (List.mem_of_getElem? (i := 201) rfl)) rfl
theorem wcX6_takeDigits : Cond.code yX6_takeDigits cX6_takeDigits 3 (Option.some Jvm.ClassFile.FieldType.int) ∈ gw := gw_k (tk2 (List.mem_of_getElem? (i := 202) rfl)) rfl
theorem wmX6_115 : Cond.methodLink RX6 115 yX6_isDigit ∈ gw := gw_k (tk2 (List.mem_of_getElem? (i := 203) rfl)) rfl
theorem wtX6_isDigit : Cond.static yX6_isDigit ∈ gw := gw_k (tk2 (List.mem_of_getElem? (i := 204) rfl)) rfl
theorem wcX6_isDigit : Cond.code yX6_isDigit cX6_isDigit 1 (Option.some Jvm.ClassFile.FieldType.boolean) ∈ gw := gw_k (tk2 (List.mem_of_getElem? (i := 205) rfl)) rfl
theorem wmX6_118 : Cond.methodLink RX6 118 yX6_wrong ∈ gw := gw_k (tk2 (List.mem_of_getElem? (i := 206) rfl)) rfl
theorem wiX6_wrong : Cond.instanceMethod yX6_wrong ∈ gw := gw_k (tk2 (List.mem_of_getElem? (i := 208) rfl)) rfl
theorem wcX6_wrong : Cond.code yX6_wrong cX6_wrong 3 (Option.some Jvm.ClassFile.FieldType.int) ∈ gw := gw_k (tk2 (List.mem_of_getElem? (i := 209) rfl)) rfl
theorem wmX6_67 : Cond.methodLink RX6 67 yX6_store ∈ gw := gw_k (tk2 (List.mem_of_getElem? (i := 211) rfl)) rfl
theorem wiX6_store : Cond.instanceMethod yX6_store ∈ gw := gw_k (tk2 (List.mem_of_getElem? (i := 213) rfl)) rfl
theorem wcX6_store : Cond.code yX6_store cX6_store 3 (Option.some Jvm.ClassFile.FieldType.boolean) ∈ gw := gw_k (tk2 (List.mem_of_getElem? (i := 214) rfl)) rfl
theorem wmX6_105 : Cond.methodLink RX6 105 yX0_set ∈ gw := gw_k (tk2 (List.mem_of_getElem? (i := 215) rfl)) rfl
theorem wmX6_71 : Cond.methodLink RX6 71 yX6_takeCoupon ∈ gw := gw_k (tk2 (List.mem_of_getElem? (i := 216) rfl)) rfl
theorem wiX6_takeCoupon : Cond.instanceMethod yX6_takeCoupon ∈ gw := gw_k (tk2 (List.mem_of_getElem? (i := 218) rfl)) rfl
theorem wcX6_takeCoupon : Cond.code yX6_takeCoupon cX6_takeCoupon 4 (Option.some Jvm.ClassFile.FieldType.boolean) ∈ gw := gw_k (tk2 (List.mem_of_getElem? (i := 219) rfl)) rfl
theorem wmX6_87 : Cond.methodLink RX6 87 yX6_fails ∈ gw := gw_k (tk2 (List.mem_of_getElem? (i := 220) rfl)) rfl
theorem wiX6_fails : Cond.instanceMethod yX6_fails ∈ gw := gw_k (tk2 (List.mem_of_getElem? (i := 222) rfl)) rfl
theorem wcX6_fails : Cond.code yX6_fails cX6_fails 3 (Option.some Jvm.ClassFile.FieldType.boolean) ∈ gw := gw_k (tk2 (List.mem_of_getElem? (i := 223) rfl)) rfl
theorem wmX6_98 : Cond.methodLink RX6 98 yX0_setAllCoupons ∈ gw := gw_k (tk2 (List.mem_of_getElem? (i := 224) rfl)) rfl
theorem wiX0_setAllCoupons : Cond.instanceMethod yX0_setAllCoupons ∈ gw := gw_k (tk2 (List.mem_of_getElem? (i := 225) rfl)) rfl
theorem weX0_setAllCoupons : Cond.selects RX0 yX0_setAllCoupons yX0_setAllCoupons ∈ gw := gw_k (tk2 (List.mem_of_getElem? (i := 226) rfl)) rfl
theorem wcX0_setAllCoupons : Cond.code yX0_setAllCoupons cX0_setAllCoupons 3 (Option.none : Option Jvm.ClassFile.FieldType) ∈ gw := gw_k (tk2 (List.mem_of_getElem? (i := 227) rfl)) rfl
theorem wmX6_74 : Cond.methodLink RX6 74 yX6_takeRight ∈ gw := gw_k (tk2 (List.mem_of_getElem? (i := 228) rfl)) rfl
theorem wiX6_takeRight : Cond.instanceMethod yX6_takeRight ∈ gw := gw_k (tk2 (List.mem_of_getElem? (i := 230) rfl)) rfl
theorem wcX6_takeRight : Cond.code yX6_takeRight cX6_takeRight 3 (Option.some Jvm.ClassFile.FieldType.boolean) ∈ gw := gw_k (tk2 (List.mem_of_getElem? (i := 231) rfl)) rfl
theorem wmX6_84 : Cond.methodLink RX6 84 yX6_takeDigit ∈ gw := gw_k (tk2 (List.mem_of_getElem? (i := 232) rfl)) rfl
theorem wiX6_takeDigit : Cond.instanceMethod yX6_takeDigit ∈ gw := gw_k (tk2 (List.mem_of_getElem? (i := 234) rfl)) rfl
theorem wcX6_takeDigit : Cond.code yX6_takeDigit cX6_takeDigit 4 (Option.some Jvm.ClassFile.FieldType.int) ∈ gw := gw_k (tk2 (List.mem_of_getElem? (i := 235) rfl)) rfl
theorem wmX6_102 : Cond.methodLink RX6 102 yX6_takeSign ∈ gw := gw_k (tk2 (List.mem_of_getElem? (i := 236) rfl)) rfl
theorem wiX6_takeSign : Cond.instanceMethod yX6_takeSign ∈ gw := gw_k (tk2 (List.mem_of_getElem? (i := 238) rfl)) rfl
theorem wcX6_takeSign : Cond.code yX6_takeSign cX6_takeSign 2 (Option.some Jvm.ClassFile.FieldType.boolean) ∈ gw := gw_k (tk2 (List.mem_of_getElem? (i := 239) rfl)) rfl
theorem wmX6_78 : Cond.methodLink RX6 78 yX6_takeWindow ∈ gw := gw_k (tk3 (List.mem_of_getElem? (i := 0) rfl)) rfl
theorem wiX6_takeWindow : Cond.instanceMethod yX6_takeWindow ∈ gw := gw_k (tk3 (List.mem_of_getElem? (i := 2) rfl)) rfl
theorem wcX6_takeWindow : Cond.code yX6_takeWindow cX6_takeWindow 2 (Option.some Jvm.ClassFile.FieldType.boolean) ∈ gw := gw_k (tk3 (List.mem_of_getElem? (i := 3) rfl)) rfl
theorem wmX6_81 : Cond.methodLink RX6 81 yX6_takeSoft ∈ gw := gw_k (tk3 (List.mem_of_getElem? (i := 4) rfl)) rfl
theorem wiX6_takeSoft : Cond.instanceMethod yX6_takeSoft ∈ gw := gw_k (tk3 (List.mem_of_getElem? (i := 6) rfl)) rfl
theorem wcX6_takeSoft : Cond.code yX6_takeSoft cX6_takeSoft 3 (Option.some Jvm.ClassFile.FieldType.boolean) ∈ gw := gw_k (tk3 (List.mem_of_getElem? (i := 7) rfl)) rfl
theorem wmX6_109 : Cond.methodLink RX6 109 yJ9_max_7cf53 ∈ gw := gw_k (tk3 (List.mem_of_getElem? (i := 8) rfl)) rfl
theorem wtJ9_max_7cf53 : Cond.static yJ9_max_7cf53 ∈ gw := gw_k (tk3 (List.mem_of_getElem? (i := 9) rfl)) rfl
theorem wcJ9_max_7cf53 : Cond.code yJ9_max_7cf53 cJ9_max_7cf53 2 (Option.some Jvm.ClassFile.FieldType.int) ∈ gw := gw_k (tk3 (List.mem_of_getElem? (i := 10) rfl)) rfl
theorem wmX8_142 : Cond.methodLink RX8 142 yX6_clear ∈ gw := gw_k (tk3 (List.mem_of_getElem? (i := 11) rfl)) rfl
theorem wiX6_clear : Cond.instanceMethod yX6_clear ∈ gw := gw_k (tk3 (List.mem_of_getElem? (i := 12) rfl)) rfl
theorem weX6_clear : Cond.selects RX6 yX6_clear yX6_clear ∈ gw := gw_k (tk3 (List.mem_of_getElem? (i := 13) rfl)) rfl
theorem wcX6_clear : Cond.code yX6_clear cX6_clear 1 (Option.none : Option Jvm.ClassFile.FieldType) ∈ gw := gw_k (tk3 (List.mem_of_getElem? (i := 14) rfl)) rfl
theorem wmL_78 : Cond.methodLink RL 78 yX8_told ∈ gw := gw_k (tk3 (List.mem_of_getElem? (i := 15) rfl)) rfl
theorem wiX8_told : Cond.instanceMethod yX8_told ∈ gw := gw_k (tk3 (List.mem_of_getElem? (i := 16) rfl)) rfl
theorem weX8_told : Cond.selects RX8 yX8_told yX8_told ∈ gw := gw_k (tk3 (List.mem_of_getElem? (i := 17) rfl)) rfl
theorem wcX8_told : Cond.code yX8_told cX8_told 3 (Option.some Jvm.ClassFile.FieldType.int) ∈ gw := gw_k (tk3 (List.mem_of_getElem? (i := 18) rfl)) rfl
theorem wmX8_145 : Cond.methodLink RX8 145 yX0_hasTerm ∈ gw := gw_k (tk3 (List.mem_of_getElem? (i := 19) rfl)) rfl
theorem wtX0_hasTerm : Cond.static yX0_hasTerm ∈ gw := gw_k (tk3 (List.mem_of_getElem? (i := 20) rfl)) rfl
theorem wcX0_hasTerm : Cond.code yX0_hasTerm cX0_hasTerm 1 (Option.some Jvm.ClassFile.FieldType.boolean) ∈ gw := gw_k (tk3 (List.mem_of_getElem? (i := 21) rfl)) rfl
theorem wmL_82 : Cond.methodLink RL 82 yX8_copy ∈ gw := gw_k (tk3 (List.mem_of_getElem? (i := 23) rfl)) rfl
theorem wiX8_copy : Cond.instanceMethod yX8_copy ∈ gw := gw_k (tk3 (List.mem_of_getElem? (i := 24) rfl)) rfl
theorem weX8_copy : Cond.selects RX8 yX8_copy yX8_copy ∈ gw := gw_k (tk3 (List.mem_of_getElem? (i := 25) rfl)) rfl
theorem wcX8_copy : Cond.code yX8_copy cX8_copy 3 (Option.some Jvm.ClassFile.FieldType.boolean) ∈ gw := gw_k (tk3 (List.mem_of_getElem? (i := 26) rfl)) rfl
theorem wmX8_149 : Cond.methodLink RX8 149 yX0_takeFrom ∈ gw := gw_k (tk3 (List.mem_of_getElem? (i := 27) rfl)) rfl
theorem wmL_86 : Cond.methodLink RL 86 yX8_path ∈ gw := gw_k (tk3 (List.mem_of_getElem? (i := 28) rfl)) rfl
theorem wiX8_path : Cond.instanceMethod yX8_path ∈ gw := gw_k (tk3 (List.mem_of_getElem? (i := 29) rfl)) rfl
theorem weX8_path : Cond.selects RX8 yX8_path yX8_path ∈ gw := gw_k (tk3 (List.mem_of_getElem? (i := 30) rfl)) rfl
theorem wcX8_path : Cond.code yX8_path cX8_path 3 (Option.some Jvm.ClassFile.FieldType.int) ∈ gw := gw_k (tk3 (List.mem_of_getElem? (i := 31) rfl)) rfl
theorem wmX8_153 : Cond.methodLink RX8 153 yX6_readMoves ∈ gw := gw_k (tk3 (List.mem_of_getElem? (i := 32) rfl)) rfl
theorem wiX6_readMoves : Cond.instanceMethod yX6_readMoves ∈ gw := gw_k (tk3 (List.mem_of_getElem? (i := 33) rfl)) rfl
theorem weX6_readMoves : Cond.selects RX6 yX6_readMoves yX6_readMoves ∈ gw := gw_k (tk3 (List.mem_of_getElem? (i := 34) rfl)) rfl
theorem wcX6_readMoves : Cond.code yX6_readMoves cX6_readMoves 4 (Option.some Jvm.ClassFile.FieldType.int) ∈ gw := gw_k (tk3 (List.mem_of_getElem? (i := 35) rfl)) rfl
theorem wtX8_longer : Cond.static yX8_longer ∈ gw := gw_k (tk3 (List.mem_of_getElem? (i := 37) rfl)) rfl
theorem wcX8_longer : Cond.code yX8_longer cX8_longer 2 (Option.some Jvm.ClassFile.FieldType.int) ∈ gw := gw_k (tk3 (List.mem_of_getElem? (i := 38) rfl)) rfl
theorem wmX8_156 : Cond.methodLink RX8 156 yX8_upsOf ∈ gw := gw_k (tk3 (List.mem_of_getElem? (i := 39) rfl)) rfl
theorem wtX8_upsOf : Cond.static yX8_upsOf ∈ gw := gw_k (tk3 (List.mem_of_getElem? (i := 40) rfl)) rfl
theorem wcX8_upsOf : Cond.code yX8_upsOf cX8_upsOf 1 (Option.some Jvm.ClassFile.FieldType.int) ∈ gw := gw_k (tk3 (List.mem_of_getElem? (i := 41) rfl)) rfl
theorem wmX8_367 : Cond.methodLink RX8 367 yJ6_bitCount_0f7a4 ∈ gw := gw_k (tk3 (List.mem_of_getElem? (i := 42) rfl)) rfl
theorem wtJ6_bitCount_0f7a4 : Cond.static yJ6_bitCount_0f7a4 ∈ gw := gw_k (tk3 (List.mem_of_getElem? (i := 43) rfl)) rfl
theorem wcJ6_bitCount_0f7a4 : Cond.code yJ6_bitCount_0f7a4 cJ6_bitCount_0f7a4 1 (Option.some Jvm.ClassFile.FieldType.int) ∈ gw := gw_k (tk3 (List.mem_of_getElem? (i := 44) rfl)) rfl
theorem wkJ6_265 : Cond.constant RJ6 265 (1431655765) ∈ gw := gw_k (tk3 (List.mem_of_getElem? (i := 45) rfl)) rfl
theorem wkJ6_266 : Cond.constant RJ6 266 (858993459) ∈ gw := gw_k (tk3 (List.mem_of_getElem? (i := 46) rfl)) rfl
theorem wkJ6_267 : Cond.constant RJ6 267 (252645135) ∈ gw := gw_k (tk3 (List.mem_of_getElem? (i := 47) rfl)) rfl
theorem wmL_90 : Cond.methodLink RL 90 yX8_drawn ∈ gw := gw_k (tk3 (List.mem_of_getElem? (i := 48) rfl)) rfl
theorem wiX8_drawn : Cond.instanceMethod yX8_drawn ∈ gw := gw_k (tk3 (List.mem_of_getElem? (i := 49) rfl)) rfl
theorem weX8_drawn : Cond.selects RX8 yX8_drawn yX8_drawn ∈ gw := gw_k (tk3 (List.mem_of_getElem? (i := 50) rfl)) rfl
theorem wcX8_drawn : Cond.code yX8_drawn cX8_drawn 3 (Option.some Jvm.ClassFile.FieldType.int) ∈ gw := gw_k (tk3 (List.mem_of_getElem? (i := 51) rfl)) rfl
theorem wmX8_159 : Cond.methodLink RX8 159 yX1_begin ∈ gw := gw_k (tk3 (List.mem_of_getElem? (i := 52) rfl)) rfl
theorem wiX1_begin : Cond.instanceMethod yX1_begin ∈ gw := gw_k (tk3 (List.mem_of_getElem? (i := 53) rfl)) rfl
theorem weX1_begin : Cond.selects RX1 yX1_begin yX1_begin ∈ gw := gw_k (tk3 (List.mem_of_getElem? (i := 54) rfl)) rfl
theorem wcX1_begin : Cond.code yX1_begin cX1_begin 2 (Option.none : Option Jvm.ClassFile.FieldType) ∈ gw := gw_k (tk3 (List.mem_of_getElem? (i := 55) rfl)) rfl
theorem wkX1_15 : Cond.constant RX1 15 (65535) ∈ gw := gw_k (tk3 (List.mem_of_getElem? (i := 56) rfl)) rfl
theorem wmX8_162 : Cond.methodLink RX8 162 yX1_drawRow ∈ gw := gw_k (tk3 (List.mem_of_getElem? (i := 57) rfl)) rfl
theorem wiX1_drawRow : Cond.instanceMethod yX1_drawRow ∈ gw := gw_k (tk3 (List.mem_of_getElem? (i := 58) rfl)) rfl
theorem weX1_drawRow : Cond.selects RX1 yX1_drawRow yX1_drawRow ∈ gw := gw_k (tk3 (List.mem_of_getElem? (i := 59) rfl)) rfl
theorem wcX1_drawRow : Cond.code yX1_drawRow cX1_drawRow 5 (Option.some Jvm.ClassFile.FieldType.int) ∈ gw := gw_k (tk3 (List.mem_of_getElem? (i := 60) rfl)) rfl
theorem wmX1_18 : Cond.methodLink RX1 18 yX7_get ∈ gw := gw_k (tk3 (List.mem_of_getElem? (i := 61) rfl)) rfl
theorem wmX1_22 : Cond.methodLink RX1 22 yX1_drawBelow ∈ gw := gw_k (tk3 (List.mem_of_getElem? (i := 62) rfl)) rfl
theorem wiX1_drawBelow : Cond.instanceMethod yX1_drawBelow ∈ gw := gw_k (tk3 (List.mem_of_getElem? (i := 64) rfl)) rfl
theorem wcX1_drawBelow : Cond.code yX1_drawBelow cX1_drawBelow 2 (Option.some Jvm.ClassFile.FieldType.int) ∈ gw := gw_k (tk3 (List.mem_of_getElem? (i := 65) rfl)) rfl
theorem wmL_94 : Cond.methodLink RL 94 yX8_went ∈ gw := gw_k (tk3 (List.mem_of_getElem? (i := 67) rfl)) rfl
theorem wiX8_went : Cond.instanceMethod yX8_went ∈ gw := gw_k (tk3 (List.mem_of_getElem? (i := 68) rfl)) rfl
theorem weX8_went : Cond.selects RX8 yX8_went yX8_went ∈ gw := gw_k (tk3 (List.mem_of_getElem? (i := 69) rfl)) rfl
theorem wcX8_went : Cond.code yX8_went cX8_went 3 (Option.some Jvm.ClassFile.FieldType.int) ∈ gw := gw_k (tk3 (List.mem_of_getElem? (i := 70) rfl)) rfl
theorem wmX8_166 : Cond.methodLink RX8 166 yX8_dayOf ∈ gw := gw_k (tk3 (List.mem_of_getElem? (i := 71) rfl)) rfl
theorem wtX8_dayOf : Cond.static yX8_dayOf ∈ gw := gw_k (tk3 (List.mem_of_getElem? (i := 72) rfl)) rfl
theorem wcX8_dayOf : Cond.code yX8_dayOf cX8_dayOf 2 (Option.some Jvm.ClassFile.FieldType.int) ∈ gw := gw_k (tk3 (List.mem_of_getElem? (i := 73) rfl)) rfl
theorem wmX8_169 : Cond.methodLink RX8 169 yX8_rowOnDay ∈ gw := gw_k (tk3 (List.mem_of_getElem? (i := 74) rfl)) rfl
theorem wtX8_rowOnDay : Cond.static yX8_rowOnDay ∈ gw := gw_k (tk3 (List.mem_of_getElem? (i := 75) rfl)) rfl
theorem wcX8_rowOnDay : Cond.code yX8_rowOnDay cX8_rowOnDay 3 (Option.some Jvm.ClassFile.FieldType.int) ∈ gw := gw_k (tk3 (List.mem_of_getElem? (i := 76) rfl)) rfl
theorem wmL_98 : Cond.methodLink RL 98 yX8_value ∈ gw := gw_k (tk3 (List.mem_of_getElem? (i := 77) rfl)) rfl
theorem wiX8_value : Cond.instanceMethod yX8_value ∈ gw := gw_k (tk3 (List.mem_of_getElem? (i := 78) rfl)) rfl
theorem weX8_value : Cond.selects RX8 yX8_value yX8_value ∈ gw := gw_k (tk3 (List.mem_of_getElem? (i := 79) rfl)) rfl
theorem wcX8_value : Cond.code yX8_value cX8_value 2 (Option.some Jvm.ClassFile.FieldType.long) ∈ gw := gw_k (tk3 (List.mem_of_getElem? (i := 80) rfl)) rfl
theorem wmX8_173 : Cond.methodLink RX8 173 yX8_workOut ∈ gw := gw_k (tk3 (List.mem_of_getElem? (i := 81) rfl)) rfl
theorem wiX8_workOut : Cond.instanceMethod yX8_workOut ∈ gw := gw_k (tk3 (List.mem_of_getElem? (i := 83) rfl)) rfl
theorem wcX8_workOut : Cond.code yX8_workOut cX8_workOut 2 (Option.none : Option Jvm.ClassFile.FieldType) ∈ gw := gw_k (tk3 (List.mem_of_getElem? (i := 84) rfl)) rfl
theorem wmX8_265 : Cond.methodLink RX8 265 yX5_take ∈ gw := gw_k (tk3 (List.mem_of_getElem? (i := 85) rfl)) rfl
theorem wiX5_take : Cond.instanceMethod yX5_take ∈ gw := gw_k (tk3 (List.mem_of_getElem? (i := 86) rfl)) rfl
theorem weX5_take : Cond.selects RX5 yX5_take yX5_take ∈ gw := gw_k (tk3 (List.mem_of_getElem? (i := 87) rfl)) rfl
theorem wcX5_take : Cond.code yX5_take cX5_take 3 (Option.none : Option Jvm.ClassFile.FieldType) ∈ gw := gw_k (tk3 (List.mem_of_getElem? (i := 88) rfl)) rfl
theorem wmX5_54 : Cond.methodLink RX5 54 yX7_takeFrom ∈ gw := gw_k (tk3 (List.mem_of_getElem? (i := 89) rfl)) rfl
theorem wiX7_takeFrom : Cond.instanceMethod yX7_takeFrom ∈ gw := gw_k (tk3 (List.mem_of_getElem? (i := 90) rfl)) rfl
theorem weX7_takeFrom : Cond.selects RX7 yX7_takeFrom yX7_takeFrom ∈ gw := gw_k (tk3 (List.mem_of_getElem? (i := 91) rfl)) rfl
theorem wcX7_takeFrom : Cond.code yX7_takeFrom cX7_takeFrom 2 (Option.none : Option Jvm.ClassFile.FieldType) ∈ gw := gw_k (tk3 (List.mem_of_getElem? (i := 92) rfl)) rfl
theorem wmX7_19 : Cond.methodLink RX7 19 ⟨RJ10, "arraycopy", "(Ljava/lang/Object;ILjava/lang/Object;II)V"⟩ ∈ gw := gw_k (tk3 (List.mem_of_getElem? (i := 93) rfl)) rfl
theorem wmX5_58 : Cond.methodLink RX5 58 yX0_takeFrom ∈ gw := gw_k (tk3 (List.mem_of_getElem? (i := 94) rfl)) rfl
theorem wmX8_269 : Cond.methodLink RX8 269 yX5_playBest ∈ gw := gw_k (tk3 (List.mem_of_getElem? (i := 95) rfl)) rfl
theorem wiX5_playBest : Cond.instanceMethod yX5_playBest ∈ gw := gw_k (tk3 (List.mem_of_getElem? (i := 96) rfl)) rfl
theorem weX5_playBest : Cond.selects RX5 yX5_playBest yX5_playBest ∈ gw := gw_k (tk3 (List.mem_of_getElem? (i := 97) rfl)) rfl
theorem wcX5_playBest : Cond.code yX5_playBest cX5_playBest 2 (Option.none : Option Jvm.ClassFile.FieldType) ∈ gw := gw_k (tk3 (List.mem_of_getElem? (i := 98) rfl)) rfl
theorem wmX5_77 : Cond.methodLink RX5 77 yX5_layOut ∈ gw := gw_k (tk3 (List.mem_of_getElem? (i := 99) rfl)) rfl
theorem wiX5_layOut : Cond.instanceMethod yX5_layOut ∈ gw := gw_k (tk3 (List.mem_of_getElem? (i := 101) rfl)) rfl
theorem wcX5_layOut : Cond.code yX5_layOut cX5_layOut 3 (Option.none : Option Jvm.ClassFile.FieldType) ∈ gw := gw_k (tk3 (List.mem_of_getElem? (i := 102) rfl)) rfl
theorem wmX5_61 : Cond.methodLink RX5 61 yX7_lastDay ∈ gw := gw_k (tk3 (List.mem_of_getElem? (i := 103) rfl)) rfl
theorem wmX5_95 : Cond.methodLink RX5 95 yX7_pence ∈ gw := gw_k (tk3 (List.mem_of_getElem? (i := 104) rfl)) rfl
theorem wmX5_98 : Cond.methodLink RX5 98 yX5_layOutRow ∈ gw := gw_k (tk3 (List.mem_of_getElem? (i := 105) rfl)) rfl
theorem wiX5_layOutRow : Cond.instanceMethod yX5_layOutRow ∈ gw := gw_k (tk3 (List.mem_of_getElem? (i := 107) rfl)) rfl
theorem wcX5_layOutRow : Cond.code yX5_layOutRow cX5_layOutRow 9 (Option.none : Option Jvm.ClassFile.FieldType) ∈ gw := gw_k (tk3 (List.mem_of_getElem? (i := 108) rfl)) rfl
theorem wtX8_isRow : Cond.static yX8_isRow ∈ gw := gw_k (tk3 (List.mem_of_getElem? (i := 111) rfl)) rfl
theorem wcX8_isRow : Cond.code yX8_isRow cX8_isRow 1 (Option.some Jvm.ClassFile.FieldType.boolean) ∈ gw := gw_k (tk3 (List.mem_of_getElem? (i := 112) rfl)) rfl
theorem wmX5_115 : Cond.methodLink RX5 115 yX0_softLevel ∈ gw := gw_k (tk3 (List.mem_of_getElem? (i := 114) rfl)) rfl
theorem wiX0_softLevel : Cond.instanceMethod yX0_softLevel ∈ gw := gw_k (tk3 (List.mem_of_getElem? (i := 115) rfl)) rfl
theorem weX0_softLevel : Cond.selects RX0 yX0_softLevel yX0_softLevel ∈ gw := gw_k (tk3 (List.mem_of_getElem? (i := 116) rfl)) rfl
theorem wcX0_softLevel : Cond.code yX0_softLevel cX0_softLevel 1 (Option.some Jvm.ClassFile.FieldType.int) ∈ gw := gw_k (tk3 (List.mem_of_getElem? (i := 117) rfl)) rfl
theorem wmX5_118 : Cond.methodLink RX5 118 yX0_mayTurnOn ∈ gw := gw_k (tk3 (List.mem_of_getElem? (i := 118) rfl)) rfl
theorem wiX0_mayTurnOn : Cond.instanceMethod yX0_mayTurnOn ∈ gw := gw_k (tk3 (List.mem_of_getElem? (i := 119) rfl)) rfl
theorem weX0_mayTurnOn : Cond.selects RX0 yX0_mayTurnOn yX0_mayTurnOn ∈ gw := gw_k (tk3 (List.mem_of_getElem? (i := 120) rfl)) rfl
theorem wcX0_mayTurnOn : Cond.code yX0_mayTurnOn cX0_mayTurnOn 2 (Option.some Jvm.ClassFile.FieldType.boolean) ∈ gw := gw_k (tk3 (List.mem_of_getElem? (i := 121) rfl)) rfl
theorem wmX5_121 : Cond.methodLink RX5 121 yX0_turnedWorth ∈ gw := gw_k (tk3 (List.mem_of_getElem? (i := 122) rfl)) rfl
theorem wiX0_turnedWorth : Cond.instanceMethod yX0_turnedWorth ∈ gw := gw_k (tk3 (List.mem_of_getElem? (i := 123) rfl)) rfl
theorem weX0_turnedWorth : Cond.selects RX0 yX0_turnedWorth yX0_turnedWorth ∈ gw := gw_k (tk3 (List.mem_of_getElem? (i := 124) rfl)) rfl
theorem wcX0_turnedWorth : Cond.code yX0_turnedWorth cX0_turnedWorth 9 (Option.some Jvm.ClassFile.FieldType.long) ∈ gw := gw_k (tk3 (List.mem_of_getElem? (i := 125) rfl)) rfl
theorem wkX0_39 : Cond.constantLong RX0 39 (100) ∈ gw := gw_k (tk3 (List.mem_of_getElem? (i := 126) rfl)) rfl
theorem wkX0_41 : Cond.constantLong RX0 41 (200) ∈ gw := gw_k (tk3 (List.mem_of_getElem? (i := 127) rfl)) rfl
theorem wmX0_43 : Cond.methodLink RX0 43 yJ9_min_f86c9 ∈ gw := gw_k (tk3 (List.mem_of_getElem? (i := 128) rfl)) rfl
theorem wtJ9_min_f86c9 : Cond.static yJ9_min_f86c9 ∈ gw := gw_k (tk3 (List.mem_of_getElem? (i := 129) rfl)) rfl
theorem wcJ9_min_f86c9 : Cond.code yJ9_min_f86c9 cJ9_min_f86c9 4 (Option.some Jvm.ClassFile.FieldType.long) ∈ gw := gw_k (tk3 (List.mem_of_getElem? (i := 130) rfl)) rfl
theorem wmX0_49 : Cond.methodLink RX0 49 yJ9_max_f86c9 ∈ gw := gw_k (tk3 (List.mem_of_getElem? (i := 131) rfl)) rfl
theorem wtJ9_max_f86c9 : Cond.static yJ9_max_f86c9 ∈ gw := gw_k (tk3 (List.mem_of_getElem? (i := 132) rfl)) rfl
theorem wcJ9_max_f86c9 : Cond.code yJ9_max_f86c9 cJ9_max_f86c9 4 (Option.some Jvm.ClassFile.FieldType.long) ∈ gw := gw_k (tk3 (List.mem_of_getElem? (i := 133) rfl)) rfl
theorem wkX5_75 : Cond.constantLong RX5 75 (-2) ∈ gw := gw_k (tk3 (List.mem_of_getElem? (i := 134) rfl)) rfl
theorem wmX5_125 : Cond.methodLink RX5 125 yX0_callOn ∈ gw := gw_k (tk3 (List.mem_of_getElem? (i := 135) rfl)) rfl
theorem wiX0_callOn : Cond.instanceMethod yX0_callOn ∈ gw := gw_k (tk3 (List.mem_of_getElem? (i := 136) rfl)) rfl
theorem weX0_callOn : Cond.selects RX0 yX0_callOn yX0_callOn ∈ gw := gw_k (tk3 (List.mem_of_getElem? (i := 137) rfl)) rfl
theorem wcX0_callOn : Cond.code yX0_callOn cX0_callOn 2 (Option.some Jvm.ClassFile.FieldType.int) ∈ gw := gw_k (tk3 (List.mem_of_getElem? (i := 138) rfl)) rfl
theorem wmX5_128 : Cond.methodLink RX5 128 yX0_highDays ∈ gw := gw_k (tk3 (List.mem_of_getElem? (i := 139) rfl)) rfl
theorem wiX0_highDays : Cond.instanceMethod yX0_highDays ∈ gw := gw_k (tk3 (List.mem_of_getElem? (i := 140) rfl)) rfl
theorem weX0_highDays : Cond.selects RX0 yX0_highDays yX0_highDays ∈ gw := gw_k (tk3 (List.mem_of_getElem? (i := 141) rfl)) rfl
theorem wcX0_highDays : Cond.code yX0_highDays cX0_highDays 2 (Option.some Jvm.ClassFile.FieldType.int) ∈ gw := gw_k (tk3 (List.mem_of_getElem? (i := 142) rfl)) rfl
theorem wmX0_33 : Cond.methodLink RX0 33 yJ6_bitCount_0f7a4 ∈ gw := gw_k (tk3 (List.mem_of_getElem? (i := 143) rfl)) rfl
theorem wmX5_131 : Cond.methodLink RX5 131 yX0_softLeast ∈ gw := gw_k (tk3 (List.mem_of_getElem? (i := 144) rfl)) rfl
theorem wiX0_softLeast : Cond.instanceMethod yX0_softLeast ∈ gw := gw_k (tk3 (List.mem_of_getElem? (i := 145) rfl)) rfl
theorem weX0_softLeast : Cond.selects RX0 yX0_softLeast yX0_softLeast ∈ gw := gw_k (tk3 (List.mem_of_getElem? (i := 146) rfl)) rfl
theorem wcX0_softLeast : Cond.code yX0_softLeast cX0_softLeast 1 (Option.some Jvm.ClassFile.FieldType.int) ∈ gw := gw_k (tk3 (List.mem_of_getElem? (i := 147) rfl)) rfl
theorem wmX5_134 : Cond.methodLink RX5 134 yJ9_max_f86c9 ∈ gw := gw_k (tk3 (List.mem_of_getElem? (i := 148) rfl)) rfl
theorem wmX5_80 : Cond.methodLink RX5 80 yX5_rowsAheadOfLastDay ∈ gw := gw_k (tk3 (List.mem_of_getElem? (i := 149) rfl)) rfl
theorem wiX5_rowsAheadOfLastDay : Cond.instanceMethod yX5_rowsAheadOfLastDay ∈ gw := gw_k (tk3 (List.mem_of_getElem? (i := 151) rfl)) rfl
theorem wcX5_rowsAheadOfLastDay : Cond.code yX5_rowsAheadOfLastDay cX5_rowsAheadOfLastDay 1 (Option.some Jvm.ClassFile.FieldType.int) ∈ gw := gw_k (tk3 (List.mem_of_getElem? (i := 152) rfl)) rfl
theorem wmX5_101 : Cond.methodLink RX5 101 yX5_lastRow ∈ gw := gw_k (tk3 (List.mem_of_getElem? (i := 153) rfl)) rfl
theorem wiX5_lastRow : Cond.instanceMethod yX5_lastRow ∈ gw := gw_k (tk3 (List.mem_of_getElem? (i := 154) rfl)) rfl
theorem weX5_lastRow : Cond.selects RX5 yX5_lastRow yX5_lastRow ∈ gw := gw_k (tk3 (List.mem_of_getElem? (i := 155) rfl)) rfl
theorem wcX5_lastRow : Cond.code yX5_lastRow cX5_lastRow 1 (Option.some Jvm.ClassFile.FieldType.int) ∈ gw := gw_k (tk3 (List.mem_of_getElem? (i := 156) rfl)) rfl
theorem wmX5_65 : Cond.methodLink RX5 65 yJ9_min_7cf53 ∈ gw := gw_k (tk3 (List.mem_of_getElem? (i := 157) rfl)) rfl
theorem wmX5_104 : Cond.methodLink RX5 104 yX5_endOnLastDay ∈ gw := gw_k (tk3 (List.mem_of_getElem? (i := 158) rfl)) rfl
theorem wiX5_endOnLastDay : Cond.instanceMethod yX5_endOnLastDay ∈ gw := gw_k (tk3 (List.mem_of_getElem? (i := 160) rfl)) rfl
theorem wcX5_endOnLastDay : Cond.code yX5_endOnLastDay cX5_endOnLastDay 5 (Option.none : Option Jvm.ClassFile.FieldType) ∈ gw := gw_k (tk3 (List.mem_of_getElem? (i := 161) rfl)) rfl
theorem wmX5_137 : Cond.methodLink RX5 137 yX0_couponOn ∈ gw := gw_k (tk3 (List.mem_of_getElem? (i := 162) rfl)) rfl
theorem wiX0_couponOn : Cond.instanceMethod yX0_couponOn ∈ gw := gw_k (tk3 (List.mem_of_getElem? (i := 163) rfl)) rfl
theorem weX0_couponOn : Cond.selects RX0 yX0_couponOn yX0_couponOn ∈ gw := gw_k (tk3 (List.mem_of_getElem? (i := 164) rfl)) rfl
theorem wcX0_couponOn : Cond.code yX0_couponOn cX0_couponOn 2 (Option.some Jvm.ClassFile.FieldType.int) ∈ gw := gw_k (tk3 (List.mem_of_getElem? (i := 165) rfl)) rfl
theorem wmX5_140 : Cond.methodLink RX5 140 yX5_turnedAt ∈ gw := gw_k (tk3 (List.mem_of_getElem? (i := 166) rfl)) rfl
theorem wiX5_turnedAt : Cond.instanceMethod yX5_turnedAt ∈ gw := gw_k (tk3 (List.mem_of_getElem? (i := 167) rfl)) rfl
theorem weX5_turnedAt : Cond.selects RX5 yX5_turnedAt yX5_turnedAt ∈ gw := gw_k (tk3 (List.mem_of_getElem? (i := 168) rfl)) rfl
theorem wcX5_turnedAt : Cond.code yX5_turnedAt cX5_turnedAt 2 (Option.some Jvm.ClassFile.FieldType.long) ∈ gw := gw_k (tk3 (List.mem_of_getElem? (i := 169) rfl)) rfl
theorem wmX5_144 : Cond.methodLink RX5 144 yX0_face ∈ gw := gw_k (tk3 (List.mem_of_getElem? (i := 170) rfl)) rfl
theorem wiX0_face : Cond.instanceMethod yX0_face ∈ gw := gw_k (tk3 (List.mem_of_getElem? (i := 171) rfl)) rfl
theorem weX0_face : Cond.selects RX0 yX0_face yX0_face ∈ gw := gw_k (tk3 (List.mem_of_getElem? (i := 172) rfl)) rfl
theorem wcX0_face : Cond.code yX0_face cX0_face 1 (Option.some Jvm.ClassFile.FieldType.int) ∈ gw := gw_k (tk3 (List.mem_of_getElem? (i := 173) rfl)) rfl
theorem wmX5_147 : Cond.methodLink RX5 147 yX5_setRow ∈ gw := gw_k (tk3 (List.mem_of_getElem? (i := 174) rfl)) rfl
theorem wiX5_setRow : Cond.instanceMethod yX5_setRow ∈ gw := gw_k (tk3 (List.mem_of_getElem? (i := 176) rfl)) rfl
theorem wcX5_setRow : Cond.code yX5_setRow cX5_setRow 7 (Option.none : Option Jvm.ClassFile.FieldType) ∈ gw := gw_k (tk3 (List.mem_of_getElem? (i := 177) rfl)) rfl
theorem wmX5_87 : Cond.methodLink RX5 87 yX5_chooseBest ∈ gw := gw_k (tk3 (List.mem_of_getElem? (i := 179) rfl)) rfl
theorem wiX5_chooseBest : Cond.instanceMethod yX5_chooseBest ∈ gw := gw_k (tk3 (List.mem_of_getElem? (i := 181) rfl)) rfl
theorem wcX5_chooseBest : Cond.code yX5_chooseBest cX5_chooseBest 15 (Option.none : Option Jvm.ClassFile.FieldType) ∈ gw := gw_k (tk3 (List.mem_of_getElem? (i := 182) rfl)) rfl
theorem wmX5_151 : Cond.methodLink RX5 151 yX5_lookBack ∈ gw := gw_k (tk3 (List.mem_of_getElem? (i := 183) rfl)) rfl
theorem wiX5_lookBack : Cond.instanceMethod yX5_lookBack ∈ gw := gw_k (tk3 (List.mem_of_getElem? (i := 185) rfl)) rfl
theorem wcX5_lookBack : Cond.code yX5_lookBack cX5_lookBack 2 (Option.some Jvm.ClassFile.FieldType.long) ∈ gw := gw_k (tk3 (List.mem_of_getElem? (i := 186) rfl)) rfl
theorem wmX5_174 : Cond.methodLink RX5 174 yX5_valueAt ∈ gw := gw_k (tk3 (List.mem_of_getElem? (i := 188) rfl)) rfl
theorem wiX5_valueAt : Cond.instanceMethod yX5_valueAt ∈ gw := gw_k (tk3 (List.mem_of_getElem? (i := 189) rfl)) rfl
theorem weX5_valueAt : Cond.selects RX5 yX5_valueAt yX5_valueAt ∈ gw := gw_k (tk3 (List.mem_of_getElem? (i := 190) rfl)) rfl
theorem wcX5_valueAt : Cond.code yX5_valueAt cX5_valueAt 2 (Option.some Jvm.ClassFile.FieldType.long) ∈ gw := gw_k (tk3 (List.mem_of_getElem? (i := 191) rfl)) rfl
theorem wmX5_177 : Cond.methodLink RX5 177 yX7_meanOf ∈ gw := gw_k (tk3 (List.mem_of_getElem? (i := 192) rfl)) rfl
theorem wiX7_meanOf : Cond.instanceMethod yX7_meanOf ∈ gw := gw_k (tk3 (List.mem_of_getElem? (i := 193) rfl)) rfl
theorem weX7_meanOf : Cond.selects RX7 yX7_meanOf yX7_meanOf ∈ gw := gw_k (tk3 (List.mem_of_getElem? (i := 194) rfl)) rfl
theorem wcX7_meanOf : Cond.code yX7_meanOf cX7_meanOf 9 (Option.some Jvm.ClassFile.FieldType.long) ∈ gw := gw_k (tk3 (List.mem_of_getElem? (i := 195) rfl)) rfl
theorem wkX7_52 : Cond.constantLong RX7 52 (1000) ∈ gw := gw_k (tk3 (List.mem_of_getElem? (i := 196) rfl)) rfl
theorem wmX5_154 : Cond.methodLink RX5 154 yX0_putOn ∈ gw := gw_k (tk3 (List.mem_of_getElem? (i := 197) rfl)) rfl
theorem wiX0_putOn : Cond.instanceMethod yX0_putOn ∈ gw := gw_k (tk3 (List.mem_of_getElem? (i := 198) rfl)) rfl
theorem weX0_putOn : Cond.selects RX0 yX0_putOn yX0_putOn ∈ gw := gw_k (tk3 (List.mem_of_getElem? (i := 199) rfl)) rfl
theorem wcX0_putOn : Cond.code yX0_putOn cX0_putOn 2 (Option.some Jvm.ClassFile.FieldType.int) ∈ gw := gw_k (tk3 (List.mem_of_getElem? (i := 200) rfl)) rfl
theorem wmX5_157 : Cond.methodLink RX5 157 yX5_calledAt ∈ gw := gw_k (tk3 (List.mem_of_getElem? (i := 201) rfl)) rfl
theorem wiX5_calledAt : Cond.instanceMethod yX5_calledAt ∈ gw := gw_k (tk3 (List.mem_of_getElem? (i := 202) rfl)) rfl
theorem weX5_calledAt : Cond.selects RX5 yX5_calledAt yX5_calledAt ∈ gw := gw_k (tk3 (List.mem_of_getElem? (i := 203) rfl)) rfl
theorem wcX5_calledAt : Cond.code yX5_calledAt cX5_calledAt 2 (Option.some Jvm.ClassFile.FieldType.long) ∈ gw := gw_k (tk3 (List.mem_of_getElem? (i := 204) rfl)) rfl
theorem wmX5_160 : Cond.methodLink RX5 160 yX5_actWhenNotCalled ∈ gw := gw_k (tk3 (List.mem_of_getElem? (i := 205) rfl)) rfl
theorem wtX5_actWhenNotCalled : Cond.static yX5_actWhenNotCalled ∈ gw := gw_k (tk3 (List.mem_of_getElem? (i := 206) rfl)) rfl
theorem wcX5_actWhenNotCalled : Cond.code yX5_actWhenNotCalled cX5_actWhenNotCalled 6 (Option.some Jvm.ClassFile.FieldType.int) ∈ gw := gw_k (tk3 (List.mem_of_getElem? (i := 207) rfl)) rfl
theorem wmX5_164 : Cond.methodLink RX5 164 yX5_actOfCall ∈ gw := gw_k (tk3 (List.mem_of_getElem? (i := 208) rfl)) rfl
theorem wiX5_actOfCall : Cond.instanceMethod yX5_actOfCall ∈ gw := gw_k (tk3 (List.mem_of_getElem? (i := 210) rfl)) rfl
theorem wcX5_actOfCall : Cond.code yX5_actOfCall cX5_actOfCall 3 (Option.some Jvm.ClassFile.FieldType.int) ∈ gw := gw_k (tk3 (List.mem_of_getElem? (i := 211) rfl)) rfl
theorem wmX8_176 : Cond.methodLink RX8 176 yX5_valueAt ∈ gw := gw_k (tk3 (List.mem_of_getElem? (i := 212) rfl)) rfl
theorem wmL_103 : Cond.methodLink RL 103 yX8_here ∈ gw := gw_k (tk3 (List.mem_of_getElem? (i := 213) rfl)) rfl
theorem wiX8_here : Cond.instanceMethod yX8_here ∈ gw := gw_k (tk3 (List.mem_of_getElem? (i := 214) rfl)) rfl
theorem weX8_here : Cond.selects RX8 yX8_here yX8_here ∈ gw := gw_k (tk3 (List.mem_of_getElem? (i := 215) rfl)) rfl
theorem wcX8_here : Cond.code yX8_here cX8_here 3 (Option.some Jvm.ClassFile.FieldType.long) ∈ gw := gw_k (tk3 (List.mem_of_getElem? (i := 216) rfl)) rfl
theorem wmX8_180 : Cond.methodLink RX8 180 yX5_holdAt ∈ gw := gw_k (tk3 (List.mem_of_getElem? (i := 217) rfl)) rfl
theorem wiX5_holdAt : Cond.instanceMethod yX5_holdAt ∈ gw := gw_k (tk3 (List.mem_of_getElem? (i := 218) rfl)) rfl
theorem weX5_holdAt : Cond.selects RX5 yX5_holdAt yX5_holdAt ∈ gw := gw_k (tk3 (List.mem_of_getElem? (i := 219) rfl)) rfl
theorem wcX5_holdAt : Cond.code yX5_holdAt cX5_holdAt 2 (Option.some Jvm.ClassFile.FieldType.long) ∈ gw := gw_k (tk3 (List.mem_of_getElem? (i := 220) rfl)) rfl
theorem wmX8_183 : Cond.methodLink RX8 183 yX5_turnedAt ∈ gw := gw_k (tk3 (List.mem_of_getElem? (i := 221) rfl)) rfl
theorem wmX8_186 : Cond.methodLink RX8 186 yX5_calledAt ∈ gw := gw_k (tk3 (List.mem_of_getElem? (i := 222) rfl)) rfl
theorem wmX8_193 : Cond.methodLink RX8 193 yX5_marksAt ∈ gw := gw_k (tk3 (List.mem_of_getElem? (i := 223) rfl)) rfl
theorem wiX5_marksAt : Cond.instanceMethod yX5_marksAt ∈ gw := gw_k (tk3 (List.mem_of_getElem? (i := 224) rfl)) rfl
theorem weX5_marksAt : Cond.selects RX5 yX5_marksAt yX5_marksAt ∈ gw := gw_k (tk3 (List.mem_of_getElem? (i := 225) rfl)) rfl
theorem wcX5_marksAt : Cond.code yX5_marksAt cX5_marksAt 2 (Option.some Jvm.ClassFile.FieldType.int) ∈ gw := gw_k (tk3 (List.mem_of_getElem? (i := 226) rfl)) rfl
theorem wmX8_196 : Cond.methodLink RX8 196 yX0_highDays ∈ gw := gw_k (tk3 (List.mem_of_getElem? (i := 227) rfl)) rfl
theorem wmX8_199 : Cond.methodLink RX8 199 yX0_couponOn ∈ gw := gw_k (tk3 (List.mem_of_getElem? (i := 228) rfl)) rfl
theorem wmL_108 : Cond.methodLink RL 108 yX8_act ∈ gw := gw_k (tk3 (List.mem_of_getElem? (i := 229) rfl)) rfl
theorem wiX8_act : Cond.instanceMethod yX8_act ∈ gw := gw_k (tk3 (List.mem_of_getElem? (i := 230) rfl)) rfl
theorem weX8_act : Cond.selects RX8 yX8_act yX8_act ∈ gw := gw_k (tk3 (List.mem_of_getElem? (i := 231) rfl)) rfl
theorem wcX8_act : Cond.code yX8_act cX8_act 2 (Option.some Jvm.ClassFile.FieldType.int) ∈ gw := gw_k (tk3 (List.mem_of_getElem? (i := 232) rfl)) rfl
theorem wmX8_202 : Cond.methodLink RX8 202 yX5_actAt ∈ gw := gw_k (tk3 (List.mem_of_getElem? (i := 233) rfl)) rfl
theorem wiX5_actAt : Cond.instanceMethod yX5_actAt ∈ gw := gw_k (tk3 (List.mem_of_getElem? (i := 234) rfl)) rfl
theorem weX5_actAt : Cond.selects RX5 yX5_actAt yX5_actAt ∈ gw := gw_k (tk3 (List.mem_of_getElem? (i := 235) rfl)) rfl
theorem wcX5_actAt : Cond.code yX5_actAt cX5_actAt 2 (Option.some Jvm.ClassFile.FieldType.int) ∈ gw := gw_k (tk3 (List.mem_of_getElem? (i := 236) rfl)) rfl
theorem wmL_112 : Cond.methodLink RL 112 yX8_along ∈ gw := gw_k (tk3 (List.mem_of_getElem? (i := 237) rfl)) rfl
theorem wiX8_along : Cond.instanceMethod yX8_along ∈ gw := gw_k (tk3 (List.mem_of_getElem? (i := 238) rfl)) rfl
theorem weX8_along : Cond.selects RX8 yX8_along yX8_along ∈ gw := gw_k (tk3 (List.mem_of_getElem? (i := 239) rfl)) rfl
theorem wcX8_along : Cond.code yX8_along cX8_along 4 (Option.some Jvm.ClassFile.FieldType.long) ∈ gw := gw_k (tk4 (List.mem_of_getElem? (i := 0) rfl)) rfl
theorem wmX8_205 : Cond.methodLink RX8 205 yX5_endAlong ∈ gw := gw_k (tk4 (List.mem_of_getElem? (i := 1) rfl)) rfl
theorem wiX5_endAlong : Cond.instanceMethod yX5_endAlong ∈ gw := gw_k (tk4 (List.mem_of_getElem? (i := 2) rfl)) rfl
theorem weX5_endAlong : Cond.selects RX5 yX5_endAlong yX5_endAlong ∈ gw := gw_k (tk4 (List.mem_of_getElem? (i := 3) rfl)) rfl
theorem wcX5_endAlong : Cond.code yX5_endAlong cX5_endAlong 4 (Option.some Jvm.ClassFile.FieldType.int) ∈ gw := gw_k (tk4 (List.mem_of_getElem? (i := 4) rfl)) rfl
theorem wmX5_183 : Cond.methodLink RX5 183 yX5_actAt ∈ gw := gw_k (tk4 (List.mem_of_getElem? (i := 6) rfl)) rfl
theorem wkX8_208 : Cond.constantLong RX8 208 (-2) ∈ gw := gw_k (tk4 (List.mem_of_getElem? (i := 7) rfl)) rfl
theorem wmX8_210 : Cond.methodLink RX8 210 yX5_paidUpTo ∈ gw := gw_k (tk4 (List.mem_of_getElem? (i := 8) rfl)) rfl
theorem wiX5_paidUpTo : Cond.instanceMethod yX5_paidUpTo ∈ gw := gw_k (tk4 (List.mem_of_getElem? (i := 9) rfl)) rfl
theorem weX5_paidUpTo : Cond.selects RX5 yX5_paidUpTo yX5_paidUpTo ∈ gw := gw_k (tk4 (List.mem_of_getElem? (i := 10) rfl)) rfl
theorem wcX5_paidUpTo : Cond.code yX5_paidUpTo cX5_paidUpTo 5 (Option.some Jvm.ClassFile.FieldType.long) ∈ gw := gw_k (tk4 (List.mem_of_getElem? (i := 11) rfl)) rfl
theorem wmX5_196 : Cond.methodLink RX5 196 yX5_paidByAct ∈ gw := gw_k (tk4 (List.mem_of_getElem? (i := 12) rfl)) rfl
theorem wiX5_paidByAct : Cond.instanceMethod yX5_paidByAct ∈ gw := gw_k (tk4 (List.mem_of_getElem? (i := 14) rfl)) rfl
theorem wcX5_paidByAct : Cond.code yX5_paidByAct cX5_paidByAct 2 (Option.some Jvm.ClassFile.FieldType.long) ∈ gw := gw_k (tk4 (List.mem_of_getElem? (i := 15) rfl)) rfl
theorem wmL_116 : Cond.methodLink RL 116 yX8_without ∈ gw := gw_k (tk4 (List.mem_of_getElem? (i := 16) rfl)) rfl
theorem wiX8_without : Cond.instanceMethod yX8_without ∈ gw := gw_k (tk4 (List.mem_of_getElem? (i := 17) rfl)) rfl
theorem weX8_without : Cond.selects RX8 yX8_without yX8_without ∈ gw := gw_k (tk4 (List.mem_of_getElem? (i := 18) rfl)) rfl
theorem wcX8_without : Cond.code yX8_without cX8_without 3 (Option.some Jvm.ClassFile.FieldType.long) ∈ gw := gw_k (tk4 (List.mem_of_getElem? (i := 19) rfl)) rfl
theorem wmX8_213 : Cond.methodLink RX8 213 yX8_valueWithout ∈ gw := gw_k (tk4 (List.mem_of_getElem? (i := 20) rfl)) rfl
theorem wiX8_valueWithout : Cond.instanceMethod yX8_valueWithout ∈ gw := gw_k (tk4 (List.mem_of_getElem? (i := 22) rfl)) rfl
theorem wcX8_valueWithout : Cond.code yX8_valueWithout cX8_valueWithout 3 (Option.some Jvm.ClassFile.FieldType.long) ∈ gw := gw_k (tk4 (List.mem_of_getElem? (i := 23) rfl)) rfl
theorem wmX8_354 : Cond.methodLink RX8 354 yX0_giveUp ∈ gw := gw_k (tk4 (List.mem_of_getElem? (i := 24) rfl)) rfl
theorem wiX0_giveUp : Cond.instanceMethod yX0_giveUp ∈ gw := gw_k (tk4 (List.mem_of_getElem? (i := 25) rfl)) rfl
theorem weX0_giveUp : Cond.selects RX0 yX0_giveUp yX0_giveUp ∈ gw := gw_k (tk4 (List.mem_of_getElem? (i := 26) rfl)) rfl
theorem wcX0_giveUp : Cond.code yX0_giveUp cX0_giveUp 2 (Option.none : Option Jvm.ClassFile.FieldType) ∈ gw := gw_k (tk4 (List.mem_of_getElem? (i := 27) rfl)) rfl
theorem wmL_120 : Cond.methodLink RL 120 yX8_right ∈ gw := gw_k (tk4 (List.mem_of_getElem? (i := 28) rfl)) rfl
theorem wiX8_right : Cond.instanceMethod yX8_right ∈ gw := gw_k (tk4 (List.mem_of_getElem? (i := 29) rfl)) rfl
theorem weX8_right : Cond.selects RX8 yX8_right yX8_right ∈ gw := gw_k (tk4 (List.mem_of_getElem? (i := 30) rfl)) rfl
theorem wcX8_right : Cond.code yX8_right cX8_right 3 (Option.some Jvm.ClassFile.FieldType.long) ∈ gw := gw_k (tk4 (List.mem_of_getElem? (i := 31) rfl)) rfl
theorem wkX8_216 : Cond.constantLong RX8 216 (-9223372036854775808) ∈ gw := gw_k (tk4 (List.mem_of_getElem? (i := 32) rfl)) rfl
theorem wmL_124 : Cond.methodLink RL 124 yX8_ends ∈ gw := gw_k (tk4 (List.mem_of_getElem? (i := 33) rfl)) rfl
theorem wiX8_ends : Cond.instanceMethod yX8_ends ∈ gw := gw_k (tk4 (List.mem_of_getElem? (i := 34) rfl)) rfl
theorem weX8_ends : Cond.selects RX8 yX8_ends yX8_ends ∈ gw := gw_k (tk4 (List.mem_of_getElem? (i := 35) rfl)) rfl
theorem wcX8_ends : Cond.code yX8_ends cX8_ends 4 (Option.some Jvm.ClassFile.FieldType.long) ∈ gw := gw_k (tk4 (List.mem_of_getElem? (i := 36) rfl)) rfl
theorem wmX8_218 : Cond.methodLink RX8 218 yX5_chanceOfEnd ∈ gw := gw_k (tk4 (List.mem_of_getElem? (i := 37) rfl)) rfl
theorem wiX5_chanceOfEnd : Cond.instanceMethod yX5_chanceOfEnd ∈ gw := gw_k (tk4 (List.mem_of_getElem? (i := 38) rfl)) rfl
theorem weX5_chanceOfEnd : Cond.selects RX5 yX5_chanceOfEnd yX5_chanceOfEnd ∈ gw := gw_k (tk4 (List.mem_of_getElem? (i := 39) rfl)) rfl
theorem wcX5_chanceOfEnd : Cond.code yX5_chanceOfEnd cX5_chanceOfEnd 5 (Option.some Jvm.ClassFile.FieldType.long) ∈ gw := gw_k (tk4 (List.mem_of_getElem? (i := 40) rfl)) rfl
theorem wmX5_214 : Cond.methodLink RX5 214 yX5_isComeTo ∈ gw := gw_k (tk4 (List.mem_of_getElem? (i := 41) rfl)) rfl
theorem wiX5_isComeTo : Cond.instanceMethod yX5_isComeTo ∈ gw := gw_k (tk4 (List.mem_of_getElem? (i := 42) rfl)) rfl
theorem weX5_isComeTo : Cond.selects RX5 yX5_isComeTo yX5_isComeTo ∈ gw := gw_k (tk4 (List.mem_of_getElem? (i := 43) rfl)) rfl
theorem wcX5_isComeTo : Cond.code yX5_isComeTo cX5_isComeTo 3 (Option.some Jvm.ClassFile.FieldType.boolean) ∈ gw := gw_k (tk4 (List.mem_of_getElem? (i := 44) rfl)) rfl
theorem wmX5_217 : Cond.methodLink RX5 217 yX7_chanceOf ∈ gw := gw_k (tk4 (List.mem_of_getElem? (i := 45) rfl)) rfl
theorem wiX7_chanceOf : Cond.instanceMethod yX7_chanceOf ∈ gw := gw_k (tk4 (List.mem_of_getElem? (i := 46) rfl)) rfl
theorem weX7_chanceOf : Cond.selects RX7 yX7_chanceOf yX7_chanceOf ∈ gw := gw_k (tk4 (List.mem_of_getElem? (i := 47) rfl)) rfl
theorem wcX7_chanceOf : Cond.code yX7_chanceOf cX7_chanceOf 5 (Option.some Jvm.ClassFile.FieldType.long) ∈ gw := gw_k (tk4 (List.mem_of_getElem? (i := 48) rfl)) rfl
theorem wmX7_48 : Cond.methodLink RX7 48 yX7_lastDay ∈ gw := gw_k (tk4 (List.mem_of_getElem? (i := 49) rfl)) rfl
theorem wmX8_222 : Cond.methodLink RX8 222 yX7_chanceWhole ∈ gw := gw_k (tk4 (List.mem_of_getElem? (i := 50) rfl)) rfl
theorem wiX7_chanceWhole : Cond.instanceMethod yX7_chanceWhole ∈ gw := gw_k (tk4 (List.mem_of_getElem? (i := 51) rfl)) rfl
theorem weX7_chanceWhole : Cond.selects RX7 yX7_chanceWhole yX7_chanceWhole ∈ gw := gw_k (tk4 (List.mem_of_getElem? (i := 52) rfl)) rfl
theorem wcX7_chanceWhole : Cond.code yX7_chanceWhole cX7_chanceWhole 1 (Option.some Jvm.ClassFile.FieldType.long) ∈ gw := gw_k (tk4 (List.mem_of_getElem? (i := 53) rfl)) rfl
theorem wmX8_226 : Cond.methodLink RX8 226 yX8_inLowestTerms ∈ gw := gw_k (tk4 (List.mem_of_getElem? (i := 54) rfl)) rfl
theorem wtX8_inLowestTerms : Cond.static yX8_inLowestTerms ∈ gw := gw_k (tk4 (List.mem_of_getElem? (i := 55) rfl)) rfl
theorem wcX8_inLowestTerms : Cond.code yX8_inLowestTerms cX8_inLowestTerms 5 (Option.some Jvm.ClassFile.FieldType.long) ∈ gw := gw_k (tk4 (List.mem_of_getElem? (i := 56) rfl)) rfl
theorem wmL_128 : Cond.methodLink RL 128 yX8_life ∈ gw := gw_k (tk4 (List.mem_of_getElem? (i := 57) rfl)) rfl
theorem wiX8_life : Cond.instanceMethod yX8_life ∈ gw := gw_k (tk4 (List.mem_of_getElem? (i := 58) rfl)) rfl
theorem weX8_life : Cond.selects RX8 yX8_life yX8_life ∈ gw := gw_k (tk4 (List.mem_of_getElem? (i := 59) rfl)) rfl
theorem wcX8_life : Cond.code yX8_life cX8_life 3 (Option.some Jvm.ClassFile.FieldType.long) ∈ gw := gw_k (tk4 (List.mem_of_getElem? (i := 60) rfl)) rfl
theorem wmX8_230 : Cond.methodLink RX8 230 yX5_chancesTimesDays ∈ gw := gw_k (tk4 (List.mem_of_getElem? (i := 61) rfl)) rfl
theorem wiX5_chancesTimesDays : Cond.instanceMethod yX5_chancesTimesDays ∈ gw := gw_k (tk4 (List.mem_of_getElem? (i := 62) rfl)) rfl
theorem weX5_chancesTimesDays : Cond.selects RX5 yX5_chancesTimesDays yX5_chancesTimesDays ∈ gw := gw_k (tk4 (List.mem_of_getElem? (i := 63) rfl)) rfl
theorem wcX5_chancesTimesDays : Cond.code yX5_chancesTimesDays cX5_chancesTimesDays 4 (Option.some Jvm.ClassFile.FieldType.long) ∈ gw := gw_k (tk4 (List.mem_of_getElem? (i := 64) rfl)) rfl
theorem wmL_132 : Cond.methodLink RL 132 yX8_states ∈ gw := gw_k (tk4 (List.mem_of_getElem? (i := 65) rfl)) rfl
theorem wiX8_states : Cond.instanceMethod yX8_states ∈ gw := gw_k (tk4 (List.mem_of_getElem? (i := 66) rfl)) rfl
theorem weX8_states : Cond.selects RX8 yX8_states yX8_states ∈ gw := gw_k (tk4 (List.mem_of_getElem? (i := 67) rfl)) rfl
theorem wcX8_states : Cond.code yX8_states cX8_states 3 (Option.some Jvm.ClassFile.FieldType.int) ∈ gw := gw_k (tk4 (List.mem_of_getElem? (i := 68) rfl)) rfl
theorem wmX8_233 : Cond.methodLink RX8 233 yX5_gatherStates ∈ gw := gw_k (tk4 (List.mem_of_getElem? (i := 69) rfl)) rfl
theorem wiX5_gatherStates : Cond.instanceMethod yX5_gatherStates ∈ gw := gw_k (tk4 (List.mem_of_getElem? (i := 70) rfl)) rfl
theorem weX5_gatherStates : Cond.selects RX5 yX5_gatherStates yX5_gatherStates ∈ gw := gw_k (tk4 (List.mem_of_getElem? (i := 71) rfl)) rfl
theorem wcX5_gatherStates : Cond.code yX5_gatherStates cX5_gatherStates 5 (Option.some Jvm.ClassFile.FieldType.int) ∈ gw := gw_k (tk4 (List.mem_of_getElem? (i := 72) rfl)) rfl
theorem wmX5_220 : Cond.methodLink RX5 220 yX5_marksAt ∈ gw := gw_k (tk4 (List.mem_of_getElem? (i := 73) rfl)) rfl
theorem wtX8_cameUp : Cond.static yX8_cameUp ∈ gw := gw_k (tk4 (List.mem_of_getElem? (i := 75) rfl)) rfl
theorem wcX8_cameUp : Cond.code yX8_cameUp cX8_cameUp 1 (Option.some Jvm.ClassFile.FieldType.boolean) ∈ gw := gw_k (tk4 (List.mem_of_getElem? (i := 76) rfl)) rfl
theorem wmL_136 : Cond.methodLink RL 136 yX8_first ∈ gw := gw_k (tk4 (List.mem_of_getElem? (i := 77) rfl)) rfl
theorem wiX8_first : Cond.instanceMethod yX8_first ∈ gw := gw_k (tk4 (List.mem_of_getElem? (i := 78) rfl)) rfl
theorem weX8_first : Cond.selects RX8 yX8_first yX8_first ∈ gw := gw_k (tk4 (List.mem_of_getElem? (i := 79) rfl)) rfl
theorem wcX8_first : Cond.code yX8_first cX8_first 10 (Option.some Jvm.ClassFile.FieldType.int) ∈ gw := gw_k (tk4 (List.mem_of_getElem? (i := 80) rfl)) rfl
theorem wmX8_236 : Cond.methodLink RX8 236 yX5_stateRow ∈ gw := gw_k (tk4 (List.mem_of_getElem? (i := 81) rfl)) rfl
theorem wiX5_stateRow : Cond.instanceMethod yX5_stateRow ∈ gw := gw_k (tk4 (List.mem_of_getElem? (i := 82) rfl)) rfl
theorem weX5_stateRow : Cond.selects RX5 yX5_stateRow yX5_stateRow ∈ gw := gw_k (tk4 (List.mem_of_getElem? (i := 83) rfl)) rfl
theorem wcX5_stateRow : Cond.code yX5_stateRow cX5_stateRow 4 (Option.some Jvm.ClassFile.FieldType.int) ∈ gw := gw_k (tk4 (List.mem_of_getElem? (i := 84) rfl)) rfl
theorem wmL_141 : Cond.methodLink RL 141 yX8_held ∈ gw := gw_k (tk4 (List.mem_of_getElem? (i := 85) rfl)) rfl
theorem wiX8_held : Cond.instanceMethod yX8_held ∈ gw := gw_k (tk4 (List.mem_of_getElem? (i := 86) rfl)) rfl
theorem weX8_held : Cond.selects RX8 yX8_held yX8_held ∈ gw := gw_k (tk4 (List.mem_of_getElem? (i := 87) rfl)) rfl
theorem wcX8_held : Cond.code yX8_held cX8_held 2 (Option.some Jvm.ClassFile.FieldType.long) ∈ gw := gw_k (tk4 (List.mem_of_getElem? (i := 88) rfl)) rfl
theorem wmX8_239 : Cond.methodLink RX8 239 yX5_sharesHeld ∈ gw := gw_k (tk4 (List.mem_of_getElem? (i := 89) rfl)) rfl
theorem wiX5_sharesHeld : Cond.instanceMethod yX5_sharesHeld ∈ gw := gw_k (tk4 (List.mem_of_getElem? (i := 90) rfl)) rfl
theorem weX5_sharesHeld : Cond.selects RX5 yX5_sharesHeld yX5_sharesHeld ∈ gw := gw_k (tk4 (List.mem_of_getElem? (i := 91) rfl)) rfl
theorem wcX5_sharesHeld : Cond.code yX5_sharesHeld cX5_sharesHeld 6 (Option.some Jvm.ClassFile.FieldType.long) ∈ gw := gw_k (tk4 (List.mem_of_getElem? (i := 92) rfl)) rfl
theorem wmX5_167 : Cond.methodLink RX5 167 yX5_penceAt ∈ gw := gw_k (tk4 (List.mem_of_getElem? (i := 93) rfl)) rfl
theorem wiX5_penceAt : Cond.instanceMethod yX5_penceAt ∈ gw := gw_k (tk4 (List.mem_of_getElem? (i := 94) rfl)) rfl
theorem weX5_penceAt : Cond.selects RX5 yX5_penceAt yX5_penceAt ∈ gw := gw_k (tk4 (List.mem_of_getElem? (i := 95) rfl)) rfl
theorem wcX5_penceAt : Cond.code yX5_penceAt cX5_penceAt 2 (Option.some Jvm.ClassFile.FieldType.long) ∈ gw := gw_k (tk4 (List.mem_of_getElem? (i := 96) rfl)) rfl
theorem wkX5_186 : Cond.constantLong RX5 186 (-3) ∈ gw := gw_k (tk4 (List.mem_of_getElem? (i := 97) rfl)) rfl
theorem wkX5_188 : Cond.constantLong RX5 188 (1000) ∈ gw := gw_k (tk4 (List.mem_of_getElem? (i := 98) rfl)) rfl
theorem wmL_147 : Cond.methodLink RL 147 yX8_fairCoupon ∈ gw := gw_k (tk4 (List.mem_of_getElem? (i := 100) rfl)) rfl
theorem wiX8_fairCoupon : Cond.instanceMethod yX8_fairCoupon ∈ gw := gw_k (tk4 (List.mem_of_getElem? (i := 101) rfl)) rfl
theorem weX8_fairCoupon : Cond.selects RX8 yX8_fairCoupon yX8_fairCoupon ∈ gw := gw_k (tk4 (List.mem_of_getElem? (i := 102) rfl)) rfl
theorem wcX8_fairCoupon : Cond.code yX8_fairCoupon cX8_fairCoupon 4 (Option.some Jvm.ClassFile.FieldType.int) ∈ gw := gw_k (tk4 (List.mem_of_getElem? (i := 103) rfl)) rfl
theorem wfX8_242 : Cond.fieldLink RX8 242 "TurnedBonds$FairKind" "COUPON" "LTurnedBonds$FairKind;" ∈ gw := gw_k (tk4 (List.mem_of_getElem? (i := 104) rfl)) rfl
theorem wmX8_248 : Cond.methodLink RX8 248 yX8_leastFair ∈ gw := gw_k (tk4 (List.mem_of_getElem? (i := 106) rfl)) rfl
theorem wiX8_leastFair : Cond.instanceMethod yX8_leastFair ∈ gw := gw_k (tk4 (List.mem_of_getElem? (i := 108) rfl)) rfl
theorem wcX8_leastFair : Cond.code yX8_leastFair cX8_leastFair 11 (Option.some Jvm.ClassFile.FieldType.int) ∈ gw := gw_k (tk4 (List.mem_of_getElem? (i := 109) rfl)) rfl
theorem wmX8_360 : Cond.methodLink RX8 360 yX8_setTried ∈ gw := gw_k (tk4 (List.mem_of_getElem? (i := 110) rfl)) rfl
theorem wiX8_setTried : Cond.instanceMethod yX8_setTried ∈ gw := gw_k (tk4 (List.mem_of_getElem? (i := 112) rfl)) rfl
theorem wcX8_setTried : Cond.code yX8_setTried cX8_setTried 3 (Option.none : Option Jvm.ClassFile.FieldType) ∈ gw := gw_k (tk4 (List.mem_of_getElem? (i := 113) rfl)) rfl
theorem wmX8_364 : Cond.methodLink RX8 364 yX0_setAllCoupons ∈ gw := gw_k (tk4 (List.mem_of_getElem? (i := 114) rfl)) rfl
theorem wfX8_252 : Cond.fieldLink RX8 252 "TurnedBonds$FairKind" "RATIO" "LTurnedBonds$FairKind;" ∈ gw := gw_k (tk4 (List.mem_of_getElem? (i := 115) rfl)) rfl
theorem wfX8_259 : Cond.fieldLink RX8 259 "TurnedBonds$FairKind" "RATE" "LTurnedBonds$FairKind;" ∈ gw := gw_k (tk4 (List.mem_of_getElem? (i := 117) rfl)) rfl
theorem wmL_152 : Cond.methodLink RL 152 yX8_fairRatio ∈ gw := gw_k (tk4 (List.mem_of_getElem? (i := 119) rfl)) rfl
theorem wiX8_fairRatio : Cond.instanceMethod yX8_fairRatio ∈ gw := gw_k (tk4 (List.mem_of_getElem? (i := 120) rfl)) rfl
theorem weX8_fairRatio : Cond.selects RX8 yX8_fairRatio yX8_fairRatio ∈ gw := gw_k (tk4 (List.mem_of_getElem? (i := 121) rfl)) rfl
theorem wcX8_fairRatio : Cond.code yX8_fairRatio cX8_fairRatio 4 (Option.some Jvm.ClassFile.FieldType.int) ∈ gw := gw_k (tk4 (List.mem_of_getElem? (i := 122) rfl)) rfl
theorem wmL_156 : Cond.methodLink RL 156 yX8_bestCall ∈ gw := gw_k (tk4 (List.mem_of_getElem? (i := 123) rfl)) rfl
theorem wiX8_bestCall : Cond.instanceMethod yX8_bestCall ∈ gw := gw_k (tk4 (List.mem_of_getElem? (i := 124) rfl)) rfl
theorem weX8_bestCall : Cond.selects RX8 yX8_bestCall yX8_bestCall ∈ gw := gw_k (tk4 (List.mem_of_getElem? (i := 125) rfl)) rfl
theorem wcX8_bestCall : Cond.code yX8_bestCall cX8_bestCall 4 (Option.some Jvm.ClassFile.FieldType.long) ∈ gw := gw_k (tk4 (List.mem_of_getElem? (i := 126) rfl)) rfl
theorem wmX8_255 : Cond.methodLink RX8 255 yX8_bestDay ∈ gw := gw_k (tk4 (List.mem_of_getElem? (i := 127) rfl)) rfl
theorem wiX8_bestDay : Cond.instanceMethod yX8_bestDay ∈ gw := gw_k (tk4 (List.mem_of_getElem? (i := 129) rfl)) rfl
theorem wcX8_bestDay : Cond.code yX8_bestDay cX8_bestDay 12 (Option.some Jvm.ClassFile.FieldType.long) ∈ gw := gw_k (tk4 (List.mem_of_getElem? (i := 130) rfl)) rfl
theorem wmL_160 : Cond.methodLink RL 160 yX8_bestPut ∈ gw := gw_k (tk4 (List.mem_of_getElem? (i := 131) rfl)) rfl
theorem wiX8_bestPut : Cond.instanceMethod yX8_bestPut ∈ gw := gw_k (tk4 (List.mem_of_getElem? (i := 132) rfl)) rfl
theorem weX8_bestPut : Cond.selects RX8 yX8_bestPut yX8_bestPut ∈ gw := gw_k (tk4 (List.mem_of_getElem? (i := 133) rfl)) rfl
theorem wcX8_bestPut : Cond.code yX8_bestPut cX8_bestPut 4 (Option.some Jvm.ClassFile.FieldType.long) ∈ gw := gw_k (tk4 (List.mem_of_getElem? (i := 134) rfl)) rfl
theorem wmL_164 : Cond.methodLink RL 164 yX8_fairRate ∈ gw := gw_k (tk4 (List.mem_of_getElem? (i := 135) rfl)) rfl
theorem wiX8_fairRate : Cond.instanceMethod yX8_fairRate ∈ gw := gw_k (tk4 (List.mem_of_getElem? (i := 136) rfl)) rfl
theorem weX8_fairRate : Cond.selects RX8 yX8_fairRate yX8_fairRate ∈ gw := gw_k (tk4 (List.mem_of_getElem? (i := 137) rfl)) rfl
theorem wcX8_fairRate : Cond.code yX8_fairRate cX8_fairRate 4 (Option.some Jvm.ClassFile.FieldType.int) ∈ gw := gw_k (tk4 (List.mem_of_getElem? (i := 138) rfl)) rfl
theorem wmL_168 : Cond.methodLink RL 168 yX8_instead ∈ gw := gw_k (tk4 (List.mem_of_getElem? (i := 139) rfl)) rfl
theorem wiX8_instead : Cond.instanceMethod yX8_instead ∈ gw := gw_k (tk4 (List.mem_of_getElem? (i := 140) rfl)) rfl
theorem weX8_instead : Cond.selects RX8 yX8_instead yX8_instead ∈ gw := gw_k (tk4 (List.mem_of_getElem? (i := 141) rfl)) rfl
theorem wcX8_instead : Cond.code yX8_instead cX8_instead 3 (Option.some Jvm.ClassFile.FieldType.long) ∈ gw := gw_k (tk4 (List.mem_of_getElem? (i := 142) rfl)) rfl
theorem wmX8_262 : Cond.methodLink RX8 262 yX5_givesInstead ∈ gw := gw_k (tk4 (List.mem_of_getElem? (i := 143) rfl)) rfl
theorem wiX5_givesInstead : Cond.instanceMethod yX5_givesInstead ∈ gw := gw_k (tk4 (List.mem_of_getElem? (i := 144) rfl)) rfl
theorem weX5_givesInstead : Cond.selects RX5 yX5_givesInstead yX5_givesInstead ∈ gw := gw_k (tk4 (List.mem_of_getElem? (i := 145) rfl)) rfl
theorem wcX5_givesInstead : Cond.code yX5_givesInstead cX5_givesInstead 7 (Option.some Jvm.ClassFile.FieldType.long) ∈ gw := gw_k (tk4 (List.mem_of_getElem? (i := 146) rfl)) rfl
theorem wmX5_180 : Cond.methodLink RX5 180 yX5_holdAt ∈ gw := gw_k (tk4 (List.mem_of_getElem? (i := 147) rfl)) rfl
theorem wmL_172 : Cond.methodLink RL 172 yX8_shifted ∈ gw := gw_k (tk4 (List.mem_of_getElem? (i := 148) rfl)) rfl
theorem wiX8_shifted : Cond.instanceMethod yX8_shifted ∈ gw := gw_k (tk4 (List.mem_of_getElem? (i := 149) rfl)) rfl
theorem weX8_shifted : Cond.selects RX8 yX8_shifted yX8_shifted ∈ gw := gw_k (tk4 (List.mem_of_getElem? (i := 150) rfl)) rfl
theorem wcX8_shifted : Cond.code yX8_shifted cX8_shifted 5 (Option.some Jvm.ClassFile.FieldType.long) ∈ gw := gw_k (tk4 (List.mem_of_getElem? (i := 151) rfl)) rfl
theorem wmL_177 : Cond.methodLink RL 177 yX8_open ∈ gw := gw_k (tk4 (List.mem_of_getElem? (i := 152) rfl)) rfl
theorem wiX8_open : Cond.instanceMethod yX8_open ∈ gw := gw_k (tk4 (List.mem_of_getElem? (i := 153) rfl)) rfl
theorem weX8_open : Cond.selects RX8 yX8_open yX8_open ∈ gw := gw_k (tk4 (List.mem_of_getElem? (i := 154) rfl)) rfl
theorem wcX8_open : Cond.code yX8_open cX8_open 2 (Option.some Jvm.ClassFile.FieldType.long) ∈ gw := gw_k (tk4 (List.mem_of_getElem? (i := 155) rfl)) rfl
theorem wmX8_276 : Cond.methodLink RX8 276 yX3_begin ∈ gw := gw_k (tk4 (List.mem_of_getElem? (i := 156) rfl)) rfl
theorem wiX3_begin : Cond.instanceMethod yX3_begin ∈ gw := gw_k (tk4 (List.mem_of_getElem? (i := 157) rfl)) rfl
theorem weX3_begin : Cond.selects RX3 yX3_begin yX3_begin ∈ gw := gw_k (tk4 (List.mem_of_getElem? (i := 158) rfl)) rfl
theorem wcX3_begin : Cond.code yX3_begin cX3_begin 3 (Option.none : Option Jvm.ClassFile.FieldType) ∈ gw := gw_k (tk4 (List.mem_of_getElem? (i := 159) rfl)) rfl
theorem wmX3_43 : Cond.methodLink RX3 43 yX7_takeFrom ∈ gw := gw_k (tk4 (List.mem_of_getElem? (i := 160) rfl)) rfl
theorem wmX3_47 : Cond.methodLink RX3 47 yX0_takeFrom ∈ gw := gw_k (tk4 (List.mem_of_getElem? (i := 161) rfl)) rfl
theorem wmL_181 : Cond.methodLink RL 181 yX8_go ∈ gw := gw_k (tk4 (List.mem_of_getElem? (i := 162) rfl)) rfl
theorem wiX8_go : Cond.instanceMethod yX8_go ∈ gw := gw_k (tk4 (List.mem_of_getElem? (i := 163) rfl)) rfl
theorem weX8_go : Cond.selects RX8 yX8_go yX8_go ∈ gw := gw_k (tk4 (List.mem_of_getElem? (i := 164) rfl)) rfl
theorem wcX8_go : Cond.code yX8_go cX8_go 4 (Option.some Jvm.ClassFile.FieldType.int) ∈ gw := gw_k (tk4 (List.mem_of_getElem? (i := 165) rfl)) rfl
theorem wmX8_287 : Cond.methodLink RX8 287 yX3_isOnLastDay ∈ gw := gw_k (tk4 (List.mem_of_getElem? (i := 166) rfl)) rfl
theorem wiX3_isOnLastDay : Cond.instanceMethod yX3_isOnLastDay ∈ gw := gw_k (tk4 (List.mem_of_getElem? (i := 167) rfl)) rfl
theorem weX3_isOnLastDay : Cond.selects RX3 yX3_isOnLastDay yX3_isOnLastDay ∈ gw := gw_k (tk4 (List.mem_of_getElem? (i := 168) rfl)) rfl
theorem wcX3_isOnLastDay : Cond.code yX3_isOnLastDay cX3_isOnLastDay 1 (Option.some Jvm.ClassFile.FieldType.boolean) ∈ gw := gw_k (tk4 (List.mem_of_getElem? (i := 169) rfl)) rfl
theorem wmX3_54 : Cond.methodLink RX3 54 yX7_lastDay ∈ gw := gw_k (tk4 (List.mem_of_getElem? (i := 171) rfl)) rfl
theorem wmX8_291 : Cond.methodLink RX8 291 yX8_workOutHand ∈ gw := gw_k (tk4 (List.mem_of_getElem? (i := 172) rfl)) rfl
theorem wiX8_workOutHand : Cond.instanceMethod yX8_workOutHand ∈ gw := gw_k (tk4 (List.mem_of_getElem? (i := 174) rfl)) rfl
theorem wcX8_workOutHand : Cond.code yX8_workOutHand cX8_workOutHand 1 (Option.none : Option Jvm.ClassFile.FieldType) ∈ gw := gw_k (tk4 (List.mem_of_getElem? (i := 175) rfl)) rfl
theorem wmX8_299 : Cond.methodLink RX8 299 yJ9_abs_067f4 ∈ gw := gw_k (tk4 (List.mem_of_getElem? (i := 176) rfl)) rfl
theorem wtJ9_abs_067f4 : Cond.static yJ9_abs_067f4 ∈ gw := gw_k (tk4 (List.mem_of_getElem? (i := 177) rfl)) rfl
theorem wcJ9_abs_067f4 : Cond.code yJ9_abs_067f4 cJ9_abs_067f4 2 (Option.some Jvm.ClassFile.FieldType.long) ∈ gw := gw_k (tk4 (List.mem_of_getElem? (i := 178) rfl)) rfl
theorem wmX8_305 : Cond.methodLink RX8 305 yX8_longer ∈ gw := gw_k (tk4 (List.mem_of_getElem? (i := 179) rfl)) rfl
theorem wmL_186 : Cond.methodLink RL 186 yX8_does ∈ gw := gw_k (tk4 (List.mem_of_getElem? (i := 180) rfl)) rfl
theorem wiX8_does : Cond.instanceMethod yX8_does ∈ gw := gw_k (tk4 (List.mem_of_getElem? (i := 181) rfl)) rfl
theorem weX8_does : Cond.selects RX8 yX8_does yX8_does ∈ gw := gw_k (tk4 (List.mem_of_getElem? (i := 182) rfl)) rfl
theorem wcX8_does : Cond.code yX8_does cX8_does 5 (Option.some Jvm.ClassFile.FieldType.long) ∈ gw := gw_k (tk4 (List.mem_of_getElem? (i := 183) rfl)) rfl
theorem wkX8_313 : Cond.constantLong RX8 313 (-3) ∈ gw := gw_k (tk4 (List.mem_of_getElem? (i := 184) rfl)) rfl
theorem wmL_190 : Cond.methodLink RL 190 yX8_byHand ∈ gw := gw_k (tk4 (List.mem_of_getElem? (i := 185) rfl)) rfl
theorem wiX8_byHand : Cond.instanceMethod yX8_byHand ∈ gw := gw_k (tk4 (List.mem_of_getElem? (i := 186) rfl)) rfl
theorem weX8_byHand : Cond.selects RX8 yX8_byHand yX8_byHand ∈ gw := gw_k (tk4 (List.mem_of_getElem? (i := 187) rfl)) rfl
theorem wcX8_byHand : Cond.code yX8_byHand cX8_byHand 3 (Option.some Jvm.ClassFile.FieldType.long) ∈ gw := gw_k (tk4 (List.mem_of_getElem? (i := 188) rfl)) rfl
theorem wmL_194 : Cond.methodLink RL 194 yX8_byRule ∈ gw := gw_k (tk4 (List.mem_of_getElem? (i := 189) rfl)) rfl
theorem wiX8_byRule : Cond.instanceMethod yX8_byRule ∈ gw := gw_k (tk4 (List.mem_of_getElem? (i := 190) rfl)) rfl
theorem weX8_byRule : Cond.selects RX8 yX8_byRule yX8_byRule ∈ gw := gw_k (tk4 (List.mem_of_getElem? (i := 191) rfl)) rfl
theorem wcX8_byRule : Cond.code yX8_byRule cX8_byRule 5 (Option.some Jvm.ClassFile.FieldType.long) ∈ gw := gw_k (tk4 (List.mem_of_getElem? (i := 192) rfl)) rfl
theorem wmX8_315 : Cond.methodLink RX8 315 yX5_playByRule ∈ gw := gw_k (tk4 (List.mem_of_getElem? (i := 193) rfl)) rfl
theorem wiX5_playByRule : Cond.instanceMethod yX5_playByRule ∈ gw := gw_k (tk4 (List.mem_of_getElem? (i := 194) rfl)) rfl
theorem weX5_playByRule : Cond.selects RX5 yX5_playByRule yX5_playByRule ∈ gw := gw_k (tk4 (List.mem_of_getElem? (i := 195) rfl)) rfl
theorem wcX5_playByRule : Cond.code yX5_playByRule cX5_playByRule 4 (Option.none : Option Jvm.ClassFile.FieldType) ∈ gw := gw_k (tk4 (List.mem_of_getElem? (i := 196) rfl)) rfl
theorem wmX5_91 : Cond.methodLink RX5 91 yX5_chooseByRule ∈ gw := gw_k (tk4 (List.mem_of_getElem? (i := 197) rfl)) rfl
theorem wiX5_chooseByRule : Cond.instanceMethod yX5_chooseByRule ∈ gw := gw_k (tk4 (List.mem_of_getElem? (i := 199) rfl)) rfl
theorem wcX5_chooseByRule : Cond.code yX5_chooseByRule cX5_chooseByRule 8 (Option.none : Option Jvm.ClassFile.FieldType) ∈ gw := gw_k (tk4 (List.mem_of_getElem? (i := 200) rfl)) rfl
theorem wmL_199 : Cond.methodLink RL 199 yX8_run ∈ gw := gw_k (tk4 (List.mem_of_getElem? (i := 201) rfl)) rfl
theorem wiX8_run : Cond.instanceMethod yX8_run ∈ gw := gw_k (tk4 (List.mem_of_getElem? (i := 202) rfl)) rfl
theorem weX8_run : Cond.selects RX8 yX8_run yX8_run ∈ gw := gw_k (tk4 (List.mem_of_getElem? (i := 203) rfl)) rfl
theorem wcX8_run : Cond.code yX8_run cX8_run 8 (Option.some Jvm.ClassFile.FieldType.long) ∈ gw := gw_k (tk4 (List.mem_of_getElem? (i := 204) rfl)) rfl
theorem wmL_203 : Cond.methodLink RL 203 yX8_extreme ∈ gw := gw_k (tk4 (List.mem_of_getElem? (i := 205) rfl)) rfl
theorem wiX8_extreme : Cond.instanceMethod yX8_extreme ∈ gw := gw_k (tk4 (List.mem_of_getElem? (i := 206) rfl)) rfl
theorem weX8_extreme : Cond.selects RX8 yX8_extreme yX8_extreme ∈ gw := gw_k (tk4 (List.mem_of_getElem? (i := 207) rfl)) rfl
theorem wcX8_extreme : Cond.code yX8_extreme cX8_extreme 11 (Option.some Jvm.ClassFile.FieldType.long) ∈ gw := gw_k (tk4 (List.mem_of_getElem? (i := 208) rfl)) rfl
theorem wmX8_321 : Cond.methodLink RX8 321 yX8_rowOfBits ∈ gw := gw_k (tk4 (List.mem_of_getElem? (i := 209) rfl)) rfl
theorem wtX8_rowOfBits : Cond.static yX8_rowOfBits ∈ gw := gw_k (tk4 (List.mem_of_getElem? (i := 210) rfl)) rfl
theorem wcX8_rowOfBits : Cond.code yX8_rowOfBits cX8_rowOfBits 4 (Option.some Jvm.ClassFile.FieldType.int) ∈ gw := gw_k (tk4 (List.mem_of_getElem? (i := 211) rfl)) rfl
theorem wmL_208 : Cond.methodLink RL 208 yX8_days ∈ gw := gw_k (tk4 (List.mem_of_getElem? (i := 212) rfl)) rfl
theorem wiX8_days : Cond.instanceMethod yX8_days ∈ gw := gw_k (tk4 (List.mem_of_getElem? (i := 213) rfl)) rfl
theorem weX8_days : Cond.selects RX8 yX8_days yX8_days ∈ gw := gw_k (tk4 (List.mem_of_getElem? (i := 214) rfl)) rfl
theorem wcX8_days : Cond.code yX8_days cX8_days 5 (Option.some Jvm.ClassFile.FieldType.int) ∈ gw := gw_k (tk4 (List.mem_of_getElem? (i := 215) rfl)) rfl
theorem wmX8_324 : Cond.methodLink RX8 324 yX5_lastRow ∈ gw := gw_k (tk4 (List.mem_of_getElem? (i := 216) rfl)) rfl
theorem wmX8_327 : Cond.methodLink RX8 327 yX5_isComeTo ∈ gw := gw_k (tk4 (List.mem_of_getElem? (i := 217) rfl)) rfl
theorem wmL_212 : Cond.methodLink RL 212 yX8_table ∈ gw := gw_k (tk4 (List.mem_of_getElem? (i := 218) rfl)) rfl
theorem wiX8_table : Cond.instanceMethod yX8_table ∈ gw := gw_k (tk4 (List.mem_of_getElem? (i := 219) rfl)) rfl
theorem weX8_table : Cond.selects RX8 yX8_table yX8_table ∈ gw := gw_k (tk4 (List.mem_of_getElem? (i := 220) rfl)) rfl
theorem wcX8_table : Cond.code yX8_table cX8_table 6 (Option.some Jvm.ClassFile.FieldType.long) ∈ gw := gw_k (tk4 (List.mem_of_getElem? (i := 221) rfl)) rfl
theorem wmX8_330 : Cond.methodLink RX8 330 yX8_cameUp ∈ gw := gw_k (tk4 (List.mem_of_getElem? (i := 222) rfl)) rfl
theorem wmL_216 : Cond.methodLink RL 216 yX8_hedged ∈ gw := gw_k (tk4 (List.mem_of_getElem? (i := 223) rfl)) rfl
theorem wiX8_hedged : Cond.instanceMethod yX8_hedged ∈ gw := gw_k (tk4 (List.mem_of_getElem? (i := 224) rfl)) rfl
theorem weX8_hedged : Cond.selects RX8 yX8_hedged yX8_hedged ∈ gw := gw_k (tk4 (List.mem_of_getElem? (i := 225) rfl)) rfl
theorem wcX8_hedged : Cond.code yX8_hedged cX8_hedged 2 (Option.some Jvm.ClassFile.FieldType.long) ∈ gw := gw_k (tk4 (List.mem_of_getElem? (i := 226) rfl)) rfl
theorem wmX8_333 : Cond.methodLink RX8 333 yX5_hedgedAlong ∈ gw := gw_k (tk4 (List.mem_of_getElem? (i := 227) rfl)) rfl
theorem wiX5_hedgedAlong : Cond.instanceMethod yX5_hedgedAlong ∈ gw := gw_k (tk4 (List.mem_of_getElem? (i := 228) rfl)) rfl
theorem weX5_hedgedAlong : Cond.selects RX5 yX5_hedgedAlong yX5_hedgedAlong ∈ gw := gw_k (tk4 (List.mem_of_getElem? (i := 229) rfl)) rfl
theorem wcX5_hedgedAlong : Cond.code yX5_hedgedAlong cX5_hedgedAlong 10 (Option.some Jvm.ClassFile.FieldType.long) ∈ gw := gw_k (tk4 (List.mem_of_getElem? (i := 230) rfl)) rfl
theorem wmX5_199 : Cond.methodLink RX5 199 yX5_sharesWanted ∈ gw := gw_k (tk4 (List.mem_of_getElem? (i := 231) rfl)) rfl
theorem wiX5_sharesWanted : Cond.instanceMethod yX5_sharesWanted ∈ gw := gw_k (tk4 (List.mem_of_getElem? (i := 233) rfl)) rfl
theorem wcX5_sharesWanted : Cond.code yX5_sharesWanted cX5_sharesWanted 3 (Option.some Jvm.ClassFile.FieldType.long) ∈ gw := gw_k (tk4 (List.mem_of_getElem? (i := 234) rfl)) rfl
theorem wkX5_205 : Cond.constantLong RX5 205 (-100000) ∈ gw := gw_k (tk4 (List.mem_of_getElem? (i := 235) rfl)) rfl
theorem wkX5_207 : Cond.constantLong RX5 207 (100000) ∈ gw := gw_k (tk4 (List.mem_of_getElem? (i := 236) rfl)) rfl
theorem wmX5_209 : Cond.methodLink RX5 209 yX5_sharesHeld ∈ gw := gw_k (tk4 (List.mem_of_getElem? (i := 237) rfl)) rfl
theorem wmX5_212 : Cond.methodLink RX5 212 yJ9_min_f86c9 ∈ gw := gw_k (tk4 (List.mem_of_getElem? (i := 238) rfl)) rfl
theorem wmX5_202 : Cond.methodLink RX5 202 yX7_get ∈ gw := gw_k (tk4 (List.mem_of_getElem? (i := 239) rfl)) rfl
theorem wmL_220 : Cond.methodLink RL 220 yX8_letter ∈ gw := gw_k (tk5 (List.mem_of_getElem? (i := 0) rfl)) rfl
theorem wiX8_letter : Cond.instanceMethod yX8_letter ∈ gw := gw_k (tk5 (List.mem_of_getElem? (i := 1) rfl)) rfl
theorem weX8_letter : Cond.selects RX8 yX8_letter yX8_letter ∈ gw := gw_k (tk5 (List.mem_of_getElem? (i := 2) rfl)) rfl
theorem wcX8_letter : Cond.code yX8_letter cX8_letter 3 (Option.some Jvm.ClassFile.FieldType.int) ∈ gw := gw_k (tk5 (List.mem_of_getElem? (i := 3) rfl)) rfl
theorem wmX8_336 : Cond.methodLink RX8 336 yJ4_setLength_d00df ∈ gw := gw_k (tk5 (List.mem_of_getElem? (i := 4) rfl)) rfl
theorem wiJ4_setLength_d00df : Cond.instanceMethod yJ4_setLength_d00df ∈ gw := gw_k (tk5 (List.mem_of_getElem? (i := 5) rfl)) rfl
theorem weJ4_setLength_d00df : Cond.selects RJ4 yJ4_setLength_d00df yJ4_setLength_d00df ∈ gw := gw_k (tk5 (List.mem_of_getElem? (i := 6) rfl)) rfl
theorem wcJ4_setLength_d00df : Cond.code yJ4_setLength_d00df cJ4_setLength_d00df 2 (Option.none : Option Jvm.ClassFile.FieldType) ∈ gw := gw_k (tk5 (List.mem_of_getElem? (i := 7) rfl)) rfl
theorem wmJ4_333 : Cond.methodLink RJ4 333 yJ5_setLength_d00df ∈ gw := gw_k (tk5 (List.mem_of_getElem? (i := 8) rfl)) rfl
theorem wiJ5_setLength_d00df : Cond.instanceMethod yJ5_setLength_d00df ∈ gw := gw_k (tk5 (List.mem_of_getElem? (i := 9) rfl)) rfl
theorem wcJ5_setLength_d00df : Cond.code yJ5_setLength_d00df cJ5_setLength_d00df 2 (Option.none : Option Jvm.ClassFile.FieldType) ∈ gw := gw_k (tk5 (List.mem_of_getElem? (i := 10) rfl)) rfl
theorem wmJ5_100 : Cond.methodLink RJ5 100 yJ5_ensureCapacityInternal_d00df ∈ gw := gw_k (tk5 (List.mem_of_getElem? (i := 11) rfl)) rfl
theorem wiJ5_ensureCapacityInternal_d00df : Cond.instanceMethod yJ5_ensureCapacityInternal_d00df ∈ gw := gw_k (tk5 (List.mem_of_getElem? (i := 13) rfl)) rfl
theorem wcJ5_ensureCapacityInternal_d00df : Cond.code yJ5_ensureCapacityInternal_d00df cJ5_ensureCapacityInternal_d00df 3 (Option.none : Option Jvm.ClassFile.FieldType) ∈ gw := gw_k (tk5 (List.mem_of_getElem? (i := 14) rfl)) rfl
theorem wmJ5_104 : Cond.methodLink RJ5 104 yJ5_newCapacity_0f7a4 ∈ gw := gw_k (tk5 (List.mem_of_getElem? (i := 15) rfl)) rfl
theorem wiJ5_newCapacity_0f7a4 : Cond.instanceMethod yJ5_newCapacity_0f7a4 ∈ gw := gw_k (tk5 (List.mem_of_getElem? (i := 17) rfl)) rfl
theorem wcJ5_newCapacity_0f7a4 : Cond.code yJ5_newCapacity_0f7a4 cJ5_newCapacity_0f7a4 6 (Option.some Jvm.ClassFile.FieldType.int) ∈ gw := gw_k (tk5 (List.mem_of_getElem? (i := 18) rfl)) rfl
theorem wmJ5_114 : Cond.methodLink RJ5 114 yJ8_newLength_cabcc ∈ gw := gw_k (tk5 (List.mem_of_getElem? (i := 19) rfl)) rfl
theorem wtJ8_newLength_cabcc : Cond.static yJ8_newLength_cabcc ∈ gw := gw_k (tk5 (List.mem_of_getElem? (i := 20) rfl)) rfl
theorem wcJ8_newLength_cabcc : Cond.code yJ8_newLength_cabcc cJ8_newLength_cabcc 4 (Option.some Jvm.ClassFile.FieldType.int) ∈ gw := gw_k (tk5 (List.mem_of_getElem? (i := 21) rfl)) rfl
theorem wmJ8_194 : Cond.methodLink RJ8 194 yJ9_max_7cf53 ∈ gw := gw_k (tk5 (List.mem_of_getElem? (i := 22) rfl)) rfl
theorem wkJ8_200 : Cond.constant RJ8 200 (2147483639) ∈ gw := gw_k (tk5 (List.mem_of_getElem? (i := 23) rfl)) rfl
theorem wmJ8_201 : Cond.methodLink RJ8 201 yJ8_hugeLength_7cf53 ∈ gw := gw_k (tk5 (List.mem_of_getElem? (i := 24) rfl)) rfl
theorem wtJ8_hugeLength_7cf53 : Cond.static yJ8_hugeLength_7cf53 ∈ gw := gw_k (tk5 (List.mem_of_getElem? (i := 25) rfl)) rfl
theorem wcJ8_hugeLength_7cf53 : Cond.code yJ8_hugeLength_7cf53 cJ8_hugeLength_7cf53 3 (Option.some Jvm.ClassFile.FieldType.int) ∈ gw := gw_k (tk5 (List.mem_of_getElem? (i := 26) rfl)) rfl
theorem wkJ5_39 : Cond.constant RJ5 39 (2147483647) ∈ gw := gw_k (tk5 (List.mem_of_getElem? (i := 27) rfl)) rfl
theorem wmJ5_108 : Cond.methodLink RJ5 108 yJ7_copyOf_9075b ∈ gw := gw_k (tk5 (List.mem_of_getElem? (i := 28) rfl)) rfl
theorem wtJ7_copyOf_9075b : Cond.static yJ7_copyOf_9075b ∈ gw := gw_k (tk5 (List.mem_of_getElem? (i := 29) rfl)) rfl
theorem wcJ7_copyOf_9075b : Cond.code yJ7_copyOf_9075b cJ7_copyOf_9075b 3 (Option.some (Jvm.ClassFile.FieldType.array Jvm.ClassFile.FieldType.byte)) ∈ gw := gw_k (tk5 (List.mem_of_getElem? (i := 30) rfl)) rfl
theorem wmJ7_310 : Cond.methodLink RJ7 310 ⟨"[B", "clone", "()Ljava/lang/Object;"⟩ ∈ gw := gw_k (tk5 (List.mem_of_getElem? (i := 31) rfl)) rfl
theorem wi_javalangObjectclone_1095 : Cond.instanceMethod ⟨"java/lang/Object", "clone", "()Ljava/lang/Object;"⟩ ∈ gw := gw_k (tk5 (List.mem_of_getElem? (i := 34) rfl)) rfl
theorem we_1096 : Cond.selects "[B" ⟨"[B", "clone", "()Ljava/lang/Object;"⟩ ⟨"java/lang/Object", "clone", "()Ljava/lang/Object;"⟩ ∈ gw := gw_k (tk5 (List.mem_of_getElem? (i := 35) rfl)) rfl
theorem wjJ7_311 : Cond.classLink RJ7 311 "[B" ∈ gw := gw_k (tk5 (List.mem_of_getElem? (i := 37) rfl)) rfl
theorem wmJ7_304 : Cond.methodLink RJ7 304 yJ9_min_7cf53 ∈ gw := gw_k (tk5 (List.mem_of_getElem? (i := 38) rfl)) rfl
theorem wmJ7_150 : Cond.methodLink RJ7 150 ⟨RJ10, "arraycopy", "(Ljava/lang/Object;ILjava/lang/Object;II)V"⟩ ∈ gw := gw_k (tk5 (List.mem_of_getElem? (i := 39) rfl)) rfl
theorem wmJ5_83 : Cond.methodLink RJ5 83 yJ5_isLatin1_aae02 ∈ gw := gw_k (tk5 (List.mem_of_getElem? (i := 40) rfl)) rfl
theorem wiJ5_isLatin1_aae02 : Cond.instanceMethod yJ5_isLatin1_aae02 ∈ gw := gw_k (tk5 (List.mem_of_getElem? (i := 41) rfl)) rfl
theorem we_1104 : Cond.selects "java/lang/StringBuilder" yJ5_isLatin1_aae02 yJ5_isLatin1_aae02 ∈ gw := gw_k (tk5 (List.mem_of_getElem? (i := 43) rfl)) rfl
theorem wcJ5_isLatin1_aae02 : Cond.code yJ5_isLatin1_aae02 cJ5_isLatin1_aae02 1 (Option.some Jvm.ClassFile.FieldType.boolean) ∈ gw := gw_k (tk5 (List.mem_of_getElem? (i := 44) rfl)) rfl
theorem wmJ5_133 : Cond.methodLink RJ5 133 yJ1_fillNull_b72d1 ∈ gw := gw_k (tk5 (List.mem_of_getElem? (i := 45) rfl)) rfl
theorem wtJ1_fillNull_b72d1 : Cond.static yJ1_fillNull_b72d1 ∈ gw := gw_k (tk5 (List.mem_of_getElem? (i := 46) rfl)) rfl
theorem wcJ1_fillNull_b72d1 : Cond.code yJ1_fillNull_b72d1 cJ1_fillNull_b72d1 3 (Option.none : Option Jvm.ClassFile.FieldType) ∈ gw := gw_k (tk5 (List.mem_of_getElem? (i := 47) rfl)) rfl
theorem wmJ1_236 : Cond.methodLink RJ1 236 yJ7_fill_eb02e ∈ gw := gw_k (tk5 (List.mem_of_getElem? (i := 48) rfl)) rfl
theorem wtJ7_fill_eb02e : Cond.static yJ7_fill_eb02e ∈ gw := gw_k (tk5 (List.mem_of_getElem? (i := 49) rfl)) rfl
theorem wcJ7_fill_eb02e : Cond.code yJ7_fill_eb02e cJ7_fill_eb02e 5 (Option.none : Option Jvm.ClassFile.FieldType) ∈ gw := gw_k (tk5 (List.mem_of_getElem? (i := 50) rfl)) rfl
theorem wmJ7_13 : Cond.methodLink RJ7 13 yJ7_rangeCheck_23922 ∈ gw := gw_k (tk5 (List.mem_of_getElem? (i := 51) rfl)) rfl
theorem wtJ7_rangeCheck_23922 : Cond.static yJ7_rangeCheck_23922 ∈ gw := gw_k (tk5 (List.mem_of_getElem? (i := 52) rfl)) rfl
theorem wcJ7_rangeCheck_23922 : Cond.code yJ7_rangeCheck_23922 cJ7_rangeCheck_23922 3 (Option.none : Option Jvm.ClassFile.FieldType) ∈ gw := gw_k (tk5 (List.mem_of_getElem? (i := 53) rfl)) rfl
theorem wmJ5_137 : Cond.methodLink RJ5 137 yJ2_fillNull_b72d1 ∈ gw := gw_k (tk5 (List.mem_of_getElem? (i := 54) rfl)) rfl
theorem wtJ2_fillNull_b72d1 : Cond.static yJ2_fillNull_b72d1 ∈ gw := gw_k (tk5 (List.mem_of_getElem? (i := 55) rfl)) rfl
theorem wcJ2_fillNull_b72d1 : Cond.code yJ2_fillNull_b72d1 cJ2_fillNull_b72d1 3 (Option.none : Option Jvm.ClassFile.FieldType) ∈ gw := gw_k (tk5 (List.mem_of_getElem? (i := 56) rfl)) rfl
theorem wmJ2_380 : Cond.methodLink RJ2 380 yJ7_fill_eb02e ∈ gw := gw_k (tk5 (List.mem_of_getElem? (i := 57) rfl)) rfl
theorem wmX8_339 : Cond.methodLink RX8 339 yX0_write ∈ gw := gw_k (tk5 (List.mem_of_getElem? (i := 58) rfl)) rfl
theorem wiX0_write : Cond.instanceMethod yX0_write ∈ gw := gw_k (tk5 (List.mem_of_getElem? (i := 59) rfl)) rfl
theorem weX0_write : Cond.selects RX0 yX0_write yX0_write ∈ gw := gw_k (tk5 (List.mem_of_getElem? (i := 60) rfl)) rfl
theorem wcX0_write : Cond.code yX0_write cX0_write 3 (Option.none : Option Jvm.ClassFile.FieldType) ∈ gw := gw_k (tk5 (List.mem_of_getElem? (i := 61) rfl)) rfl
theorem wmX0_52 : Cond.methodLink RX0 52 yJ4_append_cf468 ∈ gw := gw_k (tk5 (List.mem_of_getElem? (i := 62) rfl)) rfl
theorem wiJ4_append_cf468 : Cond.instanceMethod yJ4_append_cf468 ∈ gw := gw_k (tk5 (List.mem_of_getElem? (i := 63) rfl)) rfl
theorem weJ4_append_cf468 : Cond.selects RJ4 yJ4_append_cf468 yJ4_append_cf468 ∈ gw := gw_k (tk5 (List.mem_of_getElem? (i := 64) rfl)) rfl
theorem wcJ4_append_cf468 : Cond.code yJ4_append_cf468 cJ4_append_cf468 2 (Option.some (Jvm.ClassFile.FieldType.object "java/lang/StringBuilder")) ∈ gw := gw_k (tk5 (List.mem_of_getElem? (i := 65) rfl)) rfl
theorem wmJ4_50 : Cond.methodLink RJ4 50 yJ5_append_3fe6f ∈ gw := gw_k (tk5 (List.mem_of_getElem? (i := 66) rfl)) rfl
theorem wiJ5_append_3fe6f : Cond.instanceMethod yJ5_append_3fe6f ∈ gw := gw_k (tk5 (List.mem_of_getElem? (i := 67) rfl)) rfl
theorem wcJ5_append_3fe6f : Cond.code yJ5_append_3fe6f cJ5_append_3fe6f 2 (Option.some (Jvm.ClassFile.FieldType.object "java/lang/AbstractStringBuilder")) ∈ gw := gw_k (tk5 (List.mem_of_getElem? (i := 68) rfl)) rfl
theorem wmJ5_191 : Cond.methodLink RJ5 191 yJ1_canEncode_fc78d ∈ gw := gw_k (tk5 (List.mem_of_getElem? (i := 69) rfl)) rfl
theorem wtJ1_canEncode_fc78d : Cond.static yJ1_canEncode_fc78d ∈ gw := gw_k (tk5 (List.mem_of_getElem? (i := 70) rfl)) rfl
theorem wcJ1_canEncode_fc78d : Cond.code yJ1_canEncode_fc78d cJ1_canEncode_fc78d 1 (Option.some Jvm.ClassFile.FieldType.boolean) ∈ gw := gw_k (tk5 (List.mem_of_getElem? (i := 71) rfl)) rfl
theorem wmJ5_195 : Cond.methodLink RJ5 195 yJ5_inflate_da8c8 ∈ gw := gw_k (tk5 (List.mem_of_getElem? (i := 72) rfl)) rfl
theorem wiJ5_inflate_da8c8 : Cond.instanceMethod yJ5_inflate_da8c8 ∈ gw := gw_k (tk5 (List.mem_of_getElem? (i := 74) rfl)) rfl
theorem wcJ5_inflate_da8c8 : Cond.code yJ5_inflate_da8c8 cJ5_inflate_da8c8 2 (Option.none : Option Jvm.ClassFile.FieldType) ∈ gw := gw_k (tk5 (List.mem_of_getElem? (i := 75) rfl)) rfl
theorem wmJ5_125 : Cond.methodLink RJ5 125 yJ1_inflate_0e8fd ∈ gw := gw_k (tk5 (List.mem_of_getElem? (i := 76) rfl)) rfl
theorem wtJ1_inflate_0e8fd : Cond.static yJ1_inflate_0e8fd ∈ gw := gw_k (tk5 (List.mem_of_getElem? (i := 77) rfl)) rfl
theorem wcJ1_inflate_0e8fd : Cond.code yJ1_inflate_0e8fd cJ1_inflate_0e8fd 5 (Option.none : Option Jvm.ClassFile.FieldType) ∈ gw := gw_k (tk5 (List.mem_of_getElem? (i := 78) rfl)) rfl
theorem wmJ1_240 : Cond.methodLink RJ1 240 yJ2_inflate_0e8fd ∈ gw := gw_k (tk5 (List.mem_of_getElem? (i := 79) rfl)) rfl
theorem wtJ2_inflate_0e8fd : Cond.static yJ2_inflate_0e8fd ∈ gw := gw_k (tk5 (List.mem_of_getElem? (i := 80) rfl)) rfl
theorem wcJ2_inflate_0e8fd : Cond.code yJ2_inflate_0e8fd cJ2_inflate_0e8fd 6 (Option.none : Option Jvm.ClassFile.FieldType) ∈ gw := gw_k (tk5 (List.mem_of_getElem? (i := 81) rfl)) rfl
theorem wmJ2_173 : Cond.methodLink RJ2 173 yJ2_checkBoundsOffCount_d044e ∈ gw := gw_k (tk5 (List.mem_of_getElem? (i := 82) rfl)) rfl
theorem wtJ2_checkBoundsOffCount_d044e : Cond.static yJ2_checkBoundsOffCount_d044e ∈ gw := gw_k (tk5 (List.mem_of_getElem? (i := 83) rfl)) rfl
theorem wcJ2_checkBoundsOffCount_d044e : Cond.code yJ2_checkBoundsOffCount_d044e cJ2_checkBoundsOffCount_d044e 3 (Option.none : Option Jvm.ClassFile.FieldType) ∈ gw := gw_k (tk5 (List.mem_of_getElem? (i := 84) rfl)) rfl
theorem wmJ2_48 : Cond.methodLink RJ2 48 yJ2_length_9d52b ∈ gw := gw_k (tk5 (List.mem_of_getElem? (i := 85) rfl)) rfl
theorem wtJ2_length_9d52b : Cond.static yJ2_length_9d52b ∈ gw := gw_k (tk5 (List.mem_of_getElem? (i := 86) rfl)) rfl
theorem wcJ2_length_9d52b : Cond.code yJ2_length_9d52b cJ2_length_9d52b 1 (Option.some Jvm.ClassFile.FieldType.int) ∈ gw := gw_k (tk5 (List.mem_of_getElem? (i := 87) rfl)) rfl
theorem wmJ2_419 : Cond.methodLink RJ2 419 yJ0_checkBoundsOffCount_cabcc ∈ gw := gw_k (tk5 (List.mem_of_getElem? (i := 88) rfl)) rfl
theorem wtJ0_checkBoundsOffCount_cabcc : Cond.static yJ0_checkBoundsOffCount_cabcc ∈ gw := gw_k (tk5 (List.mem_of_getElem? (i := 89) rfl)) rfl
theorem wcJ0_checkBoundsOffCount_cabcc : Cond.code yJ0_checkBoundsOffCount_cabcc cJ0_checkBoundsOffCount_cabcc 3 (Option.some Jvm.ClassFile.FieldType.int) ∈ gw := gw_k (tk5 (List.mem_of_getElem? (i := 90) rfl)) rfl
theorem wfJ0_1053 : Cond.fieldLink RJ0 1053 "jdk/internal/util/Preconditions" "SIOOBE_FORMATTER" "Ljava/util/function/BiFunction;" ∈ gw := gw_k (tk5 (List.mem_of_getElem? (i := 91) rfl)) rfl
theorem wmJ0_1065 : Cond.methodLink RJ0 1065 yJ3_checkFromIndexSize_8c36e ∈ gw := gw_k (tk5 (List.mem_of_getElem? (i := 93) rfl)) rfl
theorem wtJ3_checkFromIndexSize_8c36e : Cond.static yJ3_checkFromIndexSize_8c36e ∈ gw := gw_k (tk5 (List.mem_of_getElem? (i := 94) rfl)) rfl
theorem wcJ3_checkFromIndexSize_8c36e : Cond.code yJ3_checkFromIndexSize_8c36e cJ3_checkFromIndexSize_8c36e 4 (Option.some Jvm.ClassFile.FieldType.int) ∈ gw := gw_k (tk5 (List.mem_of_getElem? (i := 95) rfl)) rfl
theorem wmJ2_111 : Cond.methodLink RJ2 111 yJ2_putChar_b72d1 ∈ gw := gw_k (tk5 (List.mem_of_getElem? (i := 96) rfl)) rfl
theorem wtJ2_putChar_b72d1 : Cond.static yJ2_putChar_b72d1 ∈ gw := gw_k (tk5 (List.mem_of_getElem? (i := 97) rfl)) rfl
theorem wcJ2_putChar_b72d1 : Cond.code yJ2_putChar_b72d1 cJ2_putChar_b72d1 3 (Option.none : Option Jvm.ClassFile.FieldType) ∈ gw := gw_k (tk5 (List.mem_of_getElem? (i := 98) rfl)) rfl
theorem wfJ2_44 : Cond.fieldLink RJ2 44 "java/lang/StringUTF16" "$assertionsDisabled" "Z" ∈ gw := gw_k (tk5 (List.mem_of_getElem? (i := 99) rfl)) rfl
theorem wfJ2_59 : Cond.fieldLink RJ2 59 "java/lang/StringUTF16" "HI_BYTE_SHIFT" "I" ∈ gw := gw_k (tk5 (List.mem_of_getElem? (i := 101) rfl)) rfl
theorem wfJ2_63 : Cond.fieldLink RJ2 63 "java/lang/StringUTF16" "LO_BYTE_SHIFT" "I" ∈ gw := gw_k (tk5 (List.mem_of_getElem? (i := 103) rfl)) rfl
theorem wmJ5_197 : Cond.methodLink RJ5 197 yJ2_putCharSB_b72d1 ∈ gw := gw_k (tk5 (List.mem_of_getElem? (i := 105) rfl)) rfl
theorem wtJ2_putCharSB_b72d1 : Cond.static yJ2_putCharSB_b72d1 ∈ gw := gw_k (tk5 (List.mem_of_getElem? (i := 106) rfl)) rfl
theorem wcJ2_putCharSB_b72d1 : Cond.code yJ2_putCharSB_b72d1 cJ2_putCharSB_b72d1 3 (Option.none : Option Jvm.ClassFile.FieldType) ∈ gw := gw_k (tk5 (List.mem_of_getElem? (i := 107) rfl)) rfl
theorem wmJ2_67 : Cond.methodLink RJ2 67 yJ2_checkIndex_2214a ∈ gw := gw_k (tk5 (List.mem_of_getElem? (i := 108) rfl)) rfl
theorem wtJ2_checkIndex_2214a : Cond.static yJ2_checkIndex_2214a ∈ gw := gw_k (tk5 (List.mem_of_getElem? (i := 109) rfl)) rfl
theorem wcJ2_checkIndex_2214a : Cond.code yJ2_checkIndex_2214a cJ2_checkIndex_2214a 2 (Option.none : Option Jvm.ClassFile.FieldType) ∈ gw := gw_k (tk5 (List.mem_of_getElem? (i := 110) rfl)) rfl
theorem wmJ2_414 : Cond.methodLink RJ2 414 yJ0_checkIndex_df160 ∈ gw := gw_k (tk5 (List.mem_of_getElem? (i := 111) rfl)) rfl
theorem wtJ0_checkIndex_df160 : Cond.static yJ0_checkIndex_df160 ∈ gw := gw_k (tk5 (List.mem_of_getElem? (i := 112) rfl)) rfl
theorem wcJ0_checkIndex_df160 : Cond.code yJ0_checkIndex_df160 cJ0_checkIndex_df160 2 (Option.none : Option Jvm.ClassFile.FieldType) ∈ gw := gw_k (tk5 (List.mem_of_getElem? (i := 113) rfl)) rfl
theorem wmJ0_1059 : Cond.methodLink RJ0 1059 yJ3_checkIndex_8e157 ∈ gw := gw_k (tk5 (List.mem_of_getElem? (i := 114) rfl)) rfl
theorem wtJ3_checkIndex_8e157 : Cond.static yJ3_checkIndex_8e157 ∈ gw := gw_k (tk5 (List.mem_of_getElem? (i := 115) rfl)) rfl
theorem wcJ3_checkIndex_8e157 : Cond.code yJ3_checkIndex_8e157 cJ3_checkIndex_8e157 3 (Option.some Jvm.ClassFile.FieldType.int) ∈ gw := gw_k (tk5 (List.mem_of_getElem? (i := 116) rfl)) rfl
theorem wmX0_58 : Cond.methodLink RX0 58 yJ4_append_bf812 ∈ gw := gw_k (tk5 (List.mem_of_getElem? (i := 117) rfl)) rfl
theorem wiJ4_append_bf812 : Cond.instanceMethod yJ4_append_bf812 ∈ gw := gw_k (tk5 (List.mem_of_getElem? (i := 118) rfl)) rfl
theorem weJ4_append_bf812 : Cond.selects RJ4 yJ4_append_bf812 yJ4_append_bf812 ∈ gw := gw_k (tk5 (List.mem_of_getElem? (i := 119) rfl)) rfl
theorem wcJ4_append_bf812 : Cond.code yJ4_append_bf812 cJ4_append_bf812 2 (Option.some (Jvm.ClassFile.FieldType.object "java/lang/StringBuilder")) ∈ gw := gw_k (tk5 (List.mem_of_getElem? (i := 120) rfl)) rfl
theorem wmJ4_53 : Cond.methodLink RJ4 53 yJ5_append_c97b9 ∈ gw := gw_k (tk5 (List.mem_of_getElem? (i := 121) rfl)) rfl
theorem wiJ5_append_c97b9 : Cond.instanceMethod yJ5_append_c97b9 ∈ gw := gw_k (tk5 (List.mem_of_getElem? (i := 122) rfl)) rfl
theorem wcJ5_append_c97b9 : Cond.code yJ5_append_c97b9 cJ5_append_c97b9 4 (Option.some (Jvm.ClassFile.FieldType.object "java/lang/AbstractStringBuilder")) ∈ gw := gw_k (tk5 (List.mem_of_getElem? (i := 123) rfl)) rfl
theorem wmJ5_245 : Cond.methodLink RJ5 245 yJ6_stringSize_0f7a4 ∈ gw := gw_k (tk5 (List.mem_of_getElem? (i := 124) rfl)) rfl
theorem wtJ6_stringSize_0f7a4 : Cond.static yJ6_stringSize_0f7a4 ∈ gw := gw_k (tk5 (List.mem_of_getElem? (i := 125) rfl)) rfl
theorem wcJ6_stringSize_0f7a4 : Cond.code yJ6_stringSize_0f7a4 cJ6_stringSize_0f7a4 4 (Option.some Jvm.ClassFile.FieldType.int) ∈ gw := gw_k (tk5 (List.mem_of_getElem? (i := 126) rfl)) rfl
theorem wmJ5_248 : Cond.methodLink RJ5 248 yJ6_getChars_ba4f3 ∈ gw := gw_k (tk5 (List.mem_of_getElem? (i := 127) rfl)) rfl
theorem wtJ6_getChars_ba4f3 : Cond.static yJ6_getChars_ba4f3 ∈ gw := gw_k (tk5 (List.mem_of_getElem? (i := 128) rfl)) rfl
theorem wcJ6_getChars_ba4f3 : Cond.code yJ6_getChars_ba4f3 cJ6_getChars_ba4f3 7 (Option.some Jvm.ClassFile.FieldType.int) ∈ gw := gw_k (tk5 (List.mem_of_getElem? (i := 129) rfl)) rfl
theorem wfJ6_83 : Cond.fieldLink RJ6 83 "java/lang/Integer" "DigitOnes" "[B" ∈ gw := gw_k (tk5 (List.mem_of_getElem? (i := 130) rfl)) rfl
theorem wfJ6_87 : Cond.fieldLink RJ6 87 "java/lang/Integer" "DigitTens" "[B" ∈ gw := gw_k (tk5 (List.mem_of_getElem? (i := 132) rfl)) rfl
theorem wmJ5_251 : Cond.methodLink RJ5 251 yJ2_getChars_46870 ∈ gw := gw_k (tk5 (List.mem_of_getElem? (i := 134) rfl)) rfl
theorem wtJ2_getChars_46870 : Cond.static yJ2_getChars_46870 ∈ gw := gw_k (tk5 (List.mem_of_getElem? (i := 135) rfl)) rfl
theorem wcJ2_getChars_46870 : Cond.code yJ2_getChars_46870 cJ2_getChars_46870 5 (Option.some Jvm.ClassFile.FieldType.int) ∈ gw := gw_k (tk5 (List.mem_of_getElem? (i := 136) rfl)) rfl
theorem wmJ2_96 : Cond.methodLink RJ2 96 yJ2_checkBoundsBeginEnd_d044e ∈ gw := gw_k (tk5 (List.mem_of_getElem? (i := 137) rfl)) rfl
theorem wtJ2_checkBoundsBeginEnd_d044e : Cond.static yJ2_checkBoundsBeginEnd_d044e ∈ gw := gw_k (tk5 (List.mem_of_getElem? (i := 138) rfl)) rfl
theorem wcJ2_checkBoundsBeginEnd_d044e : Cond.code yJ2_checkBoundsBeginEnd_d044e cJ2_checkBoundsBeginEnd_d044e 3 (Option.none : Option Jvm.ClassFile.FieldType) ∈ gw := gw_k (tk5 (List.mem_of_getElem? (i := 139) rfl)) rfl
theorem wmJ2_241 : Cond.methodLink RJ2 241 yJ0_checkBoundsBeginEnd_23922 ∈ gw := gw_k (tk5 (List.mem_of_getElem? (i := 140) rfl)) rfl
theorem wtJ0_checkBoundsBeginEnd_23922 : Cond.static yJ0_checkBoundsBeginEnd_23922 ∈ gw := gw_k (tk5 (List.mem_of_getElem? (i := 141) rfl)) rfl
theorem wcJ0_checkBoundsBeginEnd_23922 : Cond.code yJ0_checkBoundsBeginEnd_23922 cJ0_checkBoundsBeginEnd_23922 3 (Option.none : Option Jvm.ClassFile.FieldType) ∈ gw := gw_k (tk5 (List.mem_of_getElem? (i := 142) rfl)) rfl
theorem wmJ0_1062 : Cond.methodLink RJ0 1062 yJ3_checkFromToIndex_8c36e ∈ gw := gw_k (tk5 (List.mem_of_getElem? (i := 143) rfl)) rfl
theorem wtJ3_checkFromToIndex_8c36e : Cond.static yJ3_checkFromToIndex_8c36e ∈ gw := gw_k (tk5 (List.mem_of_getElem? (i := 144) rfl)) rfl
theorem wcJ3_checkFromToIndex_8c36e : Cond.code yJ3_checkFromToIndex_8c36e cJ3_checkFromToIndex_8c36e 4 (Option.some Jvm.ClassFile.FieldType.int) ∈ gw := gw_k (tk5 (List.mem_of_getElem? (i := 145) rfl)) rfl
theorem wmJ2_393 : Cond.methodLink RJ2 393 yJ2_getChars_ba4f3 ∈ gw := gw_k (tk5 (List.mem_of_getElem? (i := 146) rfl)) rfl
theorem wtJ2_getChars_ba4f3 : Cond.static yJ2_getChars_ba4f3 ∈ gw := gw_k (tk5 (List.mem_of_getElem? (i := 147) rfl)) rfl
theorem wcJ2_getChars_ba4f3 : Cond.code yJ2_getChars_ba4f3 cJ2_getChars_ba4f3 7 (Option.some Jvm.ClassFile.FieldType.int) ∈ gw := gw_k (tk5 (List.mem_of_getElem? (i := 148) rfl)) rfl
theorem wfJ2_403 : Cond.fieldLink RJ2 403 "java/lang/Integer" "DigitOnes" "[B" ∈ gw := gw_k (tk5 (List.mem_of_getElem? (i := 149) rfl)) rfl
theorem wfJ2_407 : Cond.fieldLink RJ2 407 "java/lang/Integer" "DigitTens" "[B" ∈ gw := gw_k (tk5 (List.mem_of_getElem? (i := 150) rfl)) rfl
theorem wmX0_61 : Cond.methodLink RX0 61 yX0_writeOfDay ∈ gw := gw_k (tk5 (List.mem_of_getElem? (i := 151) rfl)) rfl
theorem wtX0_writeOfDay : Cond.static yX0_writeOfDay ∈ gw := gw_k (tk5 (List.mem_of_getElem? (i := 152) rfl)) rfl
theorem wcX0_writeOfDay : Cond.code yX0_writeOfDay cX0_writeOfDay 4 (Option.none : Option Jvm.ClassFile.FieldType) ∈ gw := gw_k (tk5 (List.mem_of_getElem? (i := 153) rfl)) rfl
theorem wmX8_343 : Cond.methodLink RX8 343 yJ4_length_8abf5 ∈ gw := gw_k (tk5 (List.mem_of_getElem? (i := 154) rfl)) rfl
theorem wiJ4_length_8abf5 : Cond.instanceMethod yJ4_length_8abf5 ∈ gw := gw_k (tk5 (List.mem_of_getElem? (i := 155) rfl)) rfl
theorem weJ4_length_8abf5 : Cond.selects RJ4 yJ4_length_8abf5 yJ4_length_8abf5 ∈ gw := gw_k (tk5 (List.mem_of_getElem? (i := 156) rfl)) rfl
theorem wcJ4_length_8abf5 : Cond.code yJ4_length_8abf5 cJ4_length_8abf5 1 (Option.some Jvm.ClassFile.FieldType.int) ∈ gw := gw_k (tk5 (List.mem_of_getElem? (i := 157) rfl)) rfl
theorem wmJ4_343 : Cond.methodLink RJ4 343 yJ5_length_8abf5 ∈ gw := gw_k (tk5 (List.mem_of_getElem? (i := 158) rfl)) rfl
theorem wiJ5_length_8abf5 : Cond.instanceMethod yJ5_length_8abf5 ∈ gw := gw_k (tk5 (List.mem_of_getElem? (i := 159) rfl)) rfl
theorem wcJ5_length_8abf5 : Cond.code yJ5_length_8abf5 cJ5_length_8abf5 1 (Option.some Jvm.ClassFile.FieldType.int) ∈ gw := gw_k (tk5 (List.mem_of_getElem? (i := 160) rfl)) rfl
theorem wmX8_346 : Cond.methodLink RX8 346 yJ4_charAt_5068e ∈ gw := gw_k (tk5 (List.mem_of_getElem? (i := 161) rfl)) rfl
theorem wiJ4_charAt_5068e : Cond.instanceMethod yJ4_charAt_5068e ∈ gw := gw_k (tk5 (List.mem_of_getElem? (i := 162) rfl)) rfl
theorem weJ4_charAt_5068e : Cond.selects RJ4 yJ4_charAt_5068e yJ4_charAt_5068e ∈ gw := gw_k (tk5 (List.mem_of_getElem? (i := 163) rfl)) rfl
theorem wcJ4_charAt_5068e : Cond.code yJ4_charAt_5068e cJ4_charAt_5068e 2 (Option.some Jvm.ClassFile.FieldType.char) ∈ gw := gw_k (tk5 (List.mem_of_getElem? (i := 164) rfl)) rfl
theorem wmJ4_329 : Cond.methodLink RJ4 329 yJ5_charAt_5068e ∈ gw := gw_k (tk5 (List.mem_of_getElem? (i := 165) rfl)) rfl
theorem wiJ5_charAt_5068e : Cond.instanceMethod yJ5_charAt_5068e ∈ gw := gw_k (tk5 (List.mem_of_getElem? (i := 166) rfl)) rfl
theorem wcJ5_charAt_5068e : Cond.code yJ5_charAt_5068e cJ5_charAt_5068e 5 (Option.some Jvm.ClassFile.FieldType.char) ∈ gw := gw_k (tk5 (List.mem_of_getElem? (i := 167) rfl)) rfl
theorem wmJ5_138 : Cond.methodLink RJ5 138 yJ9_min_7cf53 ∈ gw := gw_k (tk5 (List.mem_of_getElem? (i := 168) rfl)) rfl
theorem wmJ5_144 : Cond.methodLink RJ5 144 yJ0_checkIndex_df160 ∈ gw := gw_k (tk5 (List.mem_of_getElem? (i := 169) rfl)) rfl
theorem wmJ5_148 : Cond.methodLink RJ5 148 yJ2_getChar_3b067 ∈ gw := gw_k (tk5 (List.mem_of_getElem? (i := 170) rfl)) rfl
theorem wtJ2_getChar_3b067 : Cond.static yJ2_getChar_3b067 ∈ gw := gw_k (tk5 (List.mem_of_getElem? (i := 171) rfl)) rfl
theorem wcJ2_getChar_3b067 : Cond.code yJ2_getChar_3b067 cJ2_getChar_3b067 2 (Option.some Jvm.ClassFile.FieldType.char) ∈ gw := gw_k (tk5 (List.mem_of_getElem? (i := 172) rfl)) rfl
theorem wmL_224 : Cond.methodLink RL 224 yX8_alike ∈ gw := gw_k (tk5 (List.mem_of_getElem? (i := 173) rfl)) rfl
theorem wiX8_alike : Cond.instanceMethod yX8_alike ∈ gw := gw_k (tk5 (List.mem_of_getElem? (i := 174) rfl)) rfl
theorem weX8_alike : Cond.selects RX8 yX8_alike yX8_alike ∈ gw := gw_k (tk5 (List.mem_of_getElem? (i := 175) rfl)) rfl
theorem wcX8_alike : Cond.code yX8_alike cX8_alike 5 (Option.some Jvm.ClassFile.FieldType.int) ∈ gw := gw_k (tk5 (List.mem_of_getElem? (i := 176) rfl)) rfl
theorem wmL_228 : Cond.methodLink RL 228 yX8_best ∈ gw := gw_k (tk5 (List.mem_of_getElem? (i := 177) rfl)) rfl
theorem wiX8_best : Cond.instanceMethod yX8_best ∈ gw := gw_k (tk5 (List.mem_of_getElem? (i := 178) rfl)) rfl
theorem weX8_best : Cond.selects RX8 yX8_best yX8_best ∈ gw := gw_k (tk5 (List.mem_of_getElem? (i := 179) rfl)) rfl
theorem wcX8_best : Cond.code yX8_best cX8_best 8 (Option.some Jvm.ClassFile.FieldType.int) ∈ gw := gw_k (tk5 (List.mem_of_getElem? (i := 180) rfl)) rfl
theorem wmL_232 : Cond.methodLink RL 232 yX8_book ∈ gw := gw_k (tk5 (List.mem_of_getElem? (i := 181) rfl)) rfl
theorem wiX8_book : Cond.instanceMethod yX8_book ∈ gw := gw_k (tk5 (List.mem_of_getElem? (i := 182) rfl)) rfl
theorem weX8_book : Cond.selects RX8 yX8_book yX8_book ∈ gw := gw_k (tk5 (List.mem_of_getElem? (i := 183) rfl)) rfl
theorem wcX8_book : Cond.code yX8_book cX8_book 4 (Option.some Jvm.ClassFile.FieldType.long) ∈ gw := gw_k (tk5 (List.mem_of_getElem? (i := 184) rfl)) rfl
theorem wmL_236 : Cond.methodLink RL 236 yX8_count ∈ gw := gw_k (tk5 (List.mem_of_getElem? (i := 185) rfl)) rfl
theorem wiX8_count : Cond.instanceMethod yX8_count ∈ gw := gw_k (tk5 (List.mem_of_getElem? (i := 186) rfl)) rfl
theorem weX8_count : Cond.selects RX8 yX8_count yX8_count ∈ gw := gw_k (tk5 (List.mem_of_getElem? (i := 187) rfl)) rfl
theorem wcX8_count : Cond.code yX8_count cX8_count 2 (Option.some Jvm.ClassFile.FieldType.int) ∈ gw := gw_k (tk5 (List.mem_of_getElem? (i := 188) rfl)) rfl
theorem wmL_240 : Cond.methodLink RL 240 yX8_keep ∈ gw := gw_k (tk5 (List.mem_of_getElem? (i := 189) rfl)) rfl
theorem wiX8_keep : Cond.instanceMethod yX8_keep ∈ gw := gw_k (tk5 (List.mem_of_getElem? (i := 190) rfl)) rfl
theorem weX8_keep : Cond.selects RX8 yX8_keep yX8_keep ∈ gw := gw_k (tk5 (List.mem_of_getElem? (i := 191) rfl)) rfl
theorem wcX8_keep : Cond.code yX8_keep cX8_keep 1 (Option.some Jvm.ClassFile.FieldType.int) ∈ gw := gw_k (tk5 (List.mem_of_getElem? (i := 192) rfl)) rfl
theorem wmX8_350 : Cond.methodLink RX8 350 yX4_takeFrom ∈ gw := gw_k (tk5 (List.mem_of_getElem? (i := 193) rfl)) rfl
theorem wiX4_takeFrom : Cond.instanceMethod yX4_takeFrom ∈ gw := gw_k (tk5 (List.mem_of_getElem? (i := 194) rfl)) rfl
theorem weX4_takeFrom : Cond.selects RX4 yX4_takeFrom yX4_takeFrom ∈ gw := gw_k (tk5 (List.mem_of_getElem? (i := 195) rfl)) rfl
theorem wcX4_takeFrom : Cond.code yX4_takeFrom cX4_takeFrom 3 (Option.none : Option Jvm.ClassFile.FieldType) ∈ gw := gw_k (tk5 (List.mem_of_getElem? (i := 196) rfl)) rfl
theorem wmX4_36 : Cond.methodLink RX4 36 yX7_takeFrom ∈ gw := gw_k (tk5 (List.mem_of_getElem? (i := 197) rfl)) rfl
theorem wmX4_40 : Cond.methodLink RX4 40 yX0_takeFrom ∈ gw := gw_k (tk5 (List.mem_of_getElem? (i := 198) rfl)) rfl
theorem wmX4_43 : Cond.methodLink RX4 43 yX3_takeFrom ∈ gw := gw_k (tk5 (List.mem_of_getElem? (i := 199) rfl)) rfl
theorem wiX3_takeFrom : Cond.instanceMethod yX3_takeFrom ∈ gw := gw_k (tk5 (List.mem_of_getElem? (i := 200) rfl)) rfl
theorem weX3_takeFrom : Cond.selects RX3 yX3_takeFrom yX3_takeFrom ∈ gw := gw_k (tk5 (List.mem_of_getElem? (i := 201) rfl)) rfl
theorem wcX3_takeFrom : Cond.code yX3_takeFrom cX3_takeFrom 2 (Option.none : Option Jvm.ClassFile.FieldType) ∈ gw := gw_k (tk5 (List.mem_of_getElem? (i := 202) rfl)) rfl
theorem wmL_245 : Cond.methodLink RL 245 yX8_undo ∈ gw := gw_k (tk5 (List.mem_of_getElem? (i := 203) rfl)) rfl
theorem wiX8_undo : Cond.instanceMethod yX8_undo ∈ gw := gw_k (tk5 (List.mem_of_getElem? (i := 204) rfl)) rfl
theorem weX8_undo : Cond.selects RX8 yX8_undo yX8_undo ∈ gw := gw_k (tk5 (List.mem_of_getElem? (i := 205) rfl)) rfl
theorem wcX8_undo : Cond.code yX8_undo cX8_undo 1 (Option.some Jvm.ClassFile.FieldType.int) ∈ gw := gw_k (tk5 (List.mem_of_getElem? (i := 206) rfl)) rfl
theorem wjL_10 : Cond.classLink RL 10 RX9 ∈ gw := gw_k (tk5 (List.mem_of_getElem? (i := 207) rfl)) rfl
theorem wbX9 : Cond.instantiable RX9 45 ∈ gw := gw_k (tk5 (List.mem_of_getElem? (i := 208) rfl)) rfl
theorem wmL_12 : Cond.methodLink RL 12 yX9_init ∈ gw := gw_k (tk5 (List.mem_of_getElem? (i := 209) rfl)) rfl
theorem wiX9_init : Cond.instanceMethod yX9_init ∈ gw := gw_k (tk5 (List.mem_of_getElem? (i := 210) rfl)) rfl
theorem wcX9_init : Cond.code yX9_init cX9_init 3 (Option.none : Option Jvm.ClassFile.FieldType) ∈ gw := gw_k (tk5 (List.mem_of_getElem? (i := 211) rfl)) rfl
theorem wmX9_1 : Cond.methodLink RX9 1 ⟨"java/lang/Object", "<init>", "()V"⟩ ∈ gw := gw_k (tk5 (List.mem_of_getElem? (i := 212) rfl)) rfl
theorem wmX9_54 : Cond.methodLink RX9 54 yX9_sets ∈ gw := gw_k (tk5 (List.mem_of_getElem? (i := 213) rfl)) rfl
theorem wiX9_sets : Cond.instanceMethod yX9_sets ∈ gw := gw_k (tk5 (List.mem_of_getElem? (i := 215) rfl)) rfl
theorem wcX9_sets : Cond.code yX9_sets cX9_sets 4 (Option.none : Option Jvm.ClassFile.FieldType) ∈ gw := gw_k (tk5 (List.mem_of_getElem? (i := 216) rfl)) rfl
theorem wfX9_7 : Cond.fieldLink RX9 7 "TurnedBondsModel" "tape" "[B" ∈ gw := gw_k (tk5 (List.mem_of_getElem? (i := 217) rfl)) rfl
theorem wfX9_64 : Cond.fieldLink RX9 64 "TurnedBondsModel" "taped" "I" ∈ gw := gw_k (tk5 (List.mem_of_getElem? (i := 218) rfl)) rfl
theorem wfX9_13 : Cond.fieldLink RX9 13 "TurnedBondsModel" "tree" "[I" ∈ gw := gw_k (tk5 (List.mem_of_getElem? (i := 219) rfl)) rfl
theorem wfX9_17 : Cond.fieldLink RX9 17 "TurnedBondsModel" "bonds" "[I" ∈ gw := gw_k (tk5 (List.mem_of_getElem? (i := 220) rfl)) rfl
theorem wfX9_20 : Cond.fieldLink RX9 20 "TurnedBondsModel" "moves" "[I" ∈ gw := gw_k (tk5 (List.mem_of_getElem? (i := 221) rfl)) rfl
theorem wfX9_23 : Cond.fieldLink RX9 23 "TurnedBondsModel" "handMoves" "[I" ∈ gw := gw_k (tk5 (List.mem_of_getElem? (i := 222) rfl)) rfl
theorem wfX9_76 : Cond.fieldLink RX9 76 "TurnedBondsModel" "moved" "I" ∈ gw := gw_k (tk5 (List.mem_of_getElem? (i := 223) rfl)) rfl
theorem wfX9_94 : Cond.fieldLink RX9 94 "TurnedBondsModel" "days" "I" ∈ gw := gw_k (tk5 (List.mem_of_getElem? (i := 224) rfl)) rfl
theorem wfX9_97 : Cond.fieldLink RX9 97 "TurnedBondsModel" "likely" "I" ∈ gw := gw_k (tk5 (List.mem_of_getElem? (i := 225) rfl)) rfl
theorem wfX9_100 : Cond.fieldLink RX9 100 "TurnedBondsModel" "outOf" "I" ∈ gw := gw_k (tk5 (List.mem_of_getElem? (i := 226) rfl)) rfl
theorem wfX9_103 : Cond.fieldLink RX9 103 "TurnedBondsModel" "rateNow" "I" ∈ gw := gw_k (tk5 (List.mem_of_getElem? (i := 227) rfl)) rfl
theorem wfX9_26 : Cond.fieldLink RX9 26 "TurnedBondsModel" "pence" "[J" ∈ gw := gw_k (tk5 (List.mem_of_getElem? (i := 228) rfl)) rfl
theorem wfX9_87 : Cond.fieldLink RX9 87 "TurnedBondsModel" "top" "J" ∈ gw := gw_k (tk5 (List.mem_of_getElem? (i := 229) rfl)) rfl
theorem wfX9_91 : Cond.fieldLink RX9 91 "TurnedBondsModel" "bottom" "J" ∈ gw := gw_k (tk5 (List.mem_of_getElem? (i := 230) rfl)) rfl
theorem wfX9_164 : Cond.fieldLink RX9 164 "TurnedBondsModel" "spot" "I" ∈ gw := gw_k (tk5 (List.mem_of_getElem? (i := 231) rfl)) rfl
theorem wfX9_167 : Cond.fieldLink RX9 167 "TurnedBondsModel" "textLong" "I" ∈ gw := gw_k (tk5 (List.mem_of_getElem? (i := 232) rfl)) rfl
theorem wfX9_170 : Cond.fieldLink RX9 170 "TurnedBondsModel" "fault" "I" ∈ gw := gw_k (tk5 (List.mem_of_getElem? (i := 233) rfl)) rfl
theorem wfX9_184 : Cond.fieldLink RX9 184 "TurnedBondsModel" "number" "I" ∈ gw := gw_k (tk5 (List.mem_of_getElem? (i := 234) rfl)) rfl
theorem wfX9_181 : Cond.fieldLink RX9 181 "TurnedBondsModel" "numberAt" "I" ∈ gw := gw_k (tk5 (List.mem_of_getElem? (i := 235) rfl)) rfl
theorem wfX9_187 : Cond.fieldLink RX9 187 "TurnedBondsModel" "figures" "I" ∈ gw := gw_k (tk5 (List.mem_of_getElem? (i := 236) rfl)) rfl
theorem wfX9_222 : Cond.fieldLink RX9 222 "TurnedBondsModel" "written" "I" ∈ gw := gw_k (tk5 (List.mem_of_getElem? (i := 237) rfl)) rfl
theorem wfX9_225 : Cond.fieldLink RX9 225 "TurnedBondsModel" "wanted" "I" ∈ gw := gw_k (tk5 (List.mem_of_getElem? (i := 238) rfl)) rfl
theorem wfX9_228 : Cond.fieldLink RX9 228 "TurnedBondsModel" "found" "I" ∈ gw := gw_k (tk5 (List.mem_of_getElem? (i := 239) rfl)) rfl
theorem wfX9_241 : Cond.fieldLink RX9 241 "TurnedBondsModel" "drawnNow" "I" ∈ gw := gw_k (tk6 (List.mem_of_getElem? (i := 0) rfl)) rfl
theorem wfX9_30 : Cond.fieldLink RX9 30 "TurnedBondsModel" "worth" "[J" ∈ gw := gw_k (tk6 (List.mem_of_getElem? (i := 1) rfl)) rfl
theorem wfX9_33 : Cond.fieldLink RX9 33 "TurnedBondsModel" "hold" "[J" ∈ gw := gw_k (tk6 (List.mem_of_getElem? (i := 2) rfl)) rfl
theorem wfX9_36 : Cond.fieldLink RX9 36 "TurnedBondsModel" "way" "[J" ∈ gw := gw_k (tk6 (List.mem_of_getElem? (i := 3) rfl)) rfl
theorem wfX9_39 : Cond.fieldLink RX9 39 "TurnedBondsModel" "acts" "[I" ∈ gw := gw_k (tk6 (List.mem_of_getElem? (i := 4) rfl)) rfl
theorem wfX9_316 : Cond.fieldLink RX9 316 "TurnedBondsModel" "sDay" "I" ∈ gw := gw_k (tk6 (List.mem_of_getElem? (i := 5) rfl)) rfl
theorem wfX9_319 : Cond.fieldLink RX9 319 "TurnedBondsModel" "sUps" "I" ∈ gw := gw_k (tk6 (List.mem_of_getElem? (i := 6) rfl)) rfl
theorem wfX9_322 : Cond.fieldLink RX9 322 "TurnedBondsModel" "sUp" "I" ∈ gw := gw_k (tk6 (List.mem_of_getElem? (i := 7) rfl)) rfl
theorem wfX9_325 : Cond.fieldLink RX9 325 "TurnedBondsModel" "sMarks" "I" ∈ gw := gw_k (tk6 (List.mem_of_getElem? (i := 8) rfl)) rfl
theorem wfX9_345 : Cond.fieldLink RX9 345 "TurnedBondsModel" "paidAll" "J" ∈ gw := gw_k (tk6 (List.mem_of_getElem? (i := 9) rfl)) rfl
theorem wfX9_412 : Cond.fieldLink RX9 412 "TurnedBondsModel" "isPlayed" "Z" ∈ gw := gw_k (tk6 (List.mem_of_getElem? (i := 10) rfl)) rfl
theorem wfX9_416 : Cond.fieldLink RX9 416 "TurnedBondsModel" "isOn" "Z" ∈ gw := gw_k (tk6 (List.mem_of_getElem? (i := 11) rfl)) rfl
theorem wfX9_409 : Cond.fieldLink RX9 409 "TurnedBondsModel" "handMoved" "I" ∈ gw := gw_k (tk6 (List.mem_of_getElem? (i := 12) rfl)) rfl
theorem wfX9_419 : Cond.fieldLink RX9 419 "TurnedBondsModel" "handPaid" "J" ∈ gw := gw_k (tk6 (List.mem_of_getElem? (i := 13) rfl)) rfl
theorem wfX9_422 : Cond.fieldLink RX9 422 "TurnedBondsModel" "regret" "J" ∈ gw := gw_k (tk6 (List.mem_of_getElem? (i := 14) rfl)) rfl
theorem wfX9_42 : Cond.fieldLink RX9 42 "TurnedBondsModel" "aside" "[I" ∈ gw := gw_k (tk6 (List.mem_of_getElem? (i := 15) rfl)) rfl
theorem wfX9_45 : Cond.fieldLink RX9 45 "TurnedBondsModel" "other" "[J" ∈ gw := gw_k (tk6 (List.mem_of_getElem? (i := 16) rfl)) rfl
theorem wfX9_446 : Cond.fieldLink RX9 446 "TurnedBondsModel" "states" "I" ∈ gw := gw_k (tk6 (List.mem_of_getElem? (i := 17) rfl)) rfl
theorem wfX9_48 : Cond.fieldLink RX9 48 "TurnedBondsModel" "kept" "[I" ∈ gw := gw_k (tk6 (List.mem_of_getElem? (i := 18) rfl)) rfl
theorem wfX9_51 : Cond.fieldLink RX9 51 "TurnedBondsModel" "keptLong" "[J" ∈ gw := gw_k (tk6 (List.mem_of_getElem? (i := 19) rfl)) rfl
theorem wfX9_443 : Cond.fieldLink RX9 443 "TurnedBondsModel" "keptAt" "I" ∈ gw := gw_k (tk6 (List.mem_of_getElem? (i := 20) rfl)) rfl
theorem wfX9_440 : Cond.fieldLink RX9 440 "TurnedBondsModel" "isTaking" "Z" ∈ gw := gw_k (tk6 (List.mem_of_getElem? (i := 21) rfl)) rfl
theorem wmL_17 : Cond.methodLink RL 17 yX9_feed ∈ gw := gw_k (tk6 (List.mem_of_getElem? (i := 113) rfl)) rfl
theorem wiX9_feed : Cond.instanceMethod yX9_feed ∈ gw := gw_k (tk6 (List.mem_of_getElem? (i := 114) rfl)) rfl
theorem weX9_feed : Cond.selects RX9 yX9_feed yX9_feed ∈ gw := gw_k (tk6 (List.mem_of_getElem? (i := 115) rfl)) rfl
theorem wcX9_feed : Cond.code yX9_feed cX9_feed 6 (Option.some Jvm.ClassFile.FieldType.int) ∈ gw := gw_k (tk6 (List.mem_of_getElem? (i := 116) rfl)) rfl
theorem wmX9_68 : Cond.methodLink RX9 68 yX9_typed4 ∈ gw := gw_k (tk6 (List.mem_of_getElem? (i := 117) rfl)) rfl
theorem wiX9_typed4 : Cond.instanceMethod yX9_typed4 ∈ gw := gw_k (tk6 (List.mem_of_getElem? (i := 119) rfl)) rfl
theorem wcX9_typed4 : Cond.code yX9_typed4 cX9_typed4 3 (Option.none : Option Jvm.ClassFile.FieldType) ∈ gw := gw_k (tk6 (List.mem_of_getElem? (i := 120) rfl)) rfl
theorem wmL_22 : Cond.methodLink RL 22 yX9_tree ∈ gw := gw_k (tk6 (List.mem_of_getElem? (i := 121) rfl)) rfl
theorem wiX9_tree : Cond.instanceMethod yX9_tree ∈ gw := gw_k (tk6 (List.mem_of_getElem? (i := 122) rfl)) rfl
theorem weX9_tree : Cond.selects RX9 yX9_tree yX9_tree ∈ gw := gw_k (tk6 (List.mem_of_getElem? (i := 123) rfl)) rfl
theorem wcX9_tree : Cond.code yX9_tree cX9_tree 3 (Option.some Jvm.ClassFile.FieldType.boolean) ∈ gw := gw_k (tk6 (List.mem_of_getElem? (i := 124) rfl)) rfl
theorem wkX9_72 : Cond.constantLong RX9 72 (6) ∈ gw := gw_k (tk6 (List.mem_of_getElem? (i := 125) rfl)) rfl
theorem wmX9_60 : Cond.methodLink RX9 60 yX9_in ∈ gw := gw_k (tk6 (List.mem_of_getElem? (i := 126) rfl)) rfl
theorem wtX9_in : Cond.static yX9_in ∈ gw := gw_k (tk6 (List.mem_of_getElem? (i := 127) rfl)) rfl
theorem wcX9_in : Cond.code yX9_in cX9_in 6 (Option.some Jvm.ClassFile.FieldType.boolean) ∈ gw := gw_k (tk6 (List.mem_of_getElem? (i := 128) rfl)) rfl
theorem wkX9_74 : Cond.constantLong RX9 74 (1000) ∈ gw := gw_k (tk6 (List.mem_of_getElem? (i := 129) rfl)) rfl
theorem wmL_27 : Cond.methodLink RL 27 yX9_move ∈ gw := gw_k (tk6 (List.mem_of_getElem? (i := 130) rfl)) rfl
theorem wiX9_move : Cond.instanceMethod yX9_move ∈ gw := gw_k (tk6 (List.mem_of_getElem? (i := 131) rfl)) rfl
theorem weX9_move : Cond.selects RX9 yX9_move yX9_move ∈ gw := gw_k (tk6 (List.mem_of_getElem? (i := 132) rfl)) rfl
theorem wcX9_move : Cond.code yX9_move cX9_move 5 (Option.some Jvm.ClassFile.FieldType.boolean) ∈ gw := gw_k (tk6 (List.mem_of_getElem? (i := 133) rfl)) rfl
theorem wkX9_79 : Cond.constantLong RX9 79 (20) ∈ gw := gw_k (tk6 (List.mem_of_getElem? (i := 134) rfl)) rfl
theorem wmL_31 : Cond.methodLink RL 31 yX9_chance ∈ gw := gw_k (tk6 (List.mem_of_getElem? (i := 135) rfl)) rfl
theorem wiX9_chance : Cond.instanceMethod yX9_chance ∈ gw := gw_k (tk6 (List.mem_of_getElem? (i := 136) rfl)) rfl
theorem weX9_chance : Cond.selects RX9 yX9_chance yX9_chance ∈ gw := gw_k (tk6 (List.mem_of_getElem? (i := 137) rfl)) rfl
theorem wcX9_chance : Cond.code yX9_chance cX9_chance 3 (Option.some Jvm.ClassFile.FieldType.boolean) ∈ gw := gw_k (tk6 (List.mem_of_getElem? (i := 138) rfl)) rfl
theorem wmX9_81 : Cond.methodLink RX9 81 yX9_isChance ∈ gw := gw_k (tk6 (List.mem_of_getElem? (i := 139) rfl)) rfl
theorem wtX9_isChance : Cond.static yX9_isChance ∈ gw := gw_k (tk6 (List.mem_of_getElem? (i := 140) rfl)) rfl
theorem wcX9_isChance : Cond.code yX9_isChance cX9_isChance 2 (Option.some Jvm.ClassFile.FieldType.boolean) ∈ gw := gw_k (tk6 (List.mem_of_getElem? (i := 141) rfl)) rfl
theorem wkX9_58 : Cond.constantLong RX9 58 (2) ∈ gw := gw_k (tk6 (List.mem_of_getElem? (i := 142) rfl)) rfl
theorem wmL_36 : Cond.methodLink RL 36 yX9_rate ∈ gw := gw_k (tk6 (List.mem_of_getElem? (i := 143) rfl)) rfl
theorem wiX9_rate : Cond.instanceMethod yX9_rate ∈ gw := gw_k (tk6 (List.mem_of_getElem? (i := 144) rfl)) rfl
theorem weX9_rate : Cond.selects RX9 yX9_rate yX9_rate ∈ gw := gw_k (tk6 (List.mem_of_getElem? (i := 145) rfl)) rfl
theorem wcX9_rate : Cond.code yX9_rate cX9_rate 3 (Option.some Jvm.ClassFile.FieldType.int) ∈ gw := gw_k (tk6 (List.mem_of_getElem? (i := 146) rfl)) rfl
theorem wkX9_85 : Cond.constantLong RX9 85 (200) ∈ gw := gw_k (tk6 (List.mem_of_getElem? (i := 147) rfl)) rfl
theorem wmL_41 : Cond.methodLink RL 41 yX9_price ∈ gw := gw_k (tk6 (List.mem_of_getElem? (i := 148) rfl)) rfl
theorem wiX9_price : Cond.instanceMethod yX9_price ∈ gw := gw_k (tk6 (List.mem_of_getElem? (i := 149) rfl)) rfl
theorem weX9_price : Cond.selects RX9 yX9_price yX9_price ∈ gw := gw_k (tk6 (List.mem_of_getElem? (i := 150) rfl)) rfl
theorem wcX9_price : Cond.code yX9_price cX9_price 6 (Option.some Jvm.ClassFile.FieldType.long) ∈ gw := gw_k (tk6 (List.mem_of_getElem? (i := 151) rfl)) rfl
theorem wkX9_116 : Cond.constantLong RX9 116 (-1) ∈ gw := gw_k (tk6 (List.mem_of_getElem? (i := 152) rfl)) rfl
theorem wmX9_106 : Cond.methodLink RX9 106 yX9_prices ∈ gw := gw_k (tk6 (List.mem_of_getElem? (i := 153) rfl)) rfl
theorem wiX9_prices : Cond.instanceMethod yX9_prices ∈ gw := gw_k (tk6 (List.mem_of_getElem? (i := 155) rfl)) rfl
theorem wcX9_prices : Cond.code yX9_prices cX9_prices 7 (Option.none : Option Jvm.ClassFile.FieldType) ∈ gw := gw_k (tk6 (List.mem_of_getElem? (i := 156) rfl)) rfl
theorem wmX9_118 : Cond.methodLink RX9 118 yX9_common ∈ gw := gw_k (tk6 (List.mem_of_getElem? (i := 157) rfl)) rfl
theorem wtX9_common : Cond.static yX9_common ∈ gw := gw_k (tk6 (List.mem_of_getElem? (i := 158) rfl)) rfl
theorem wcX9_common : Cond.code yX9_common cX9_common 10 (Option.some Jvm.ClassFile.FieldType.long) ∈ gw := gw_k (tk6 (List.mem_of_getElem? (i := 159) rfl)) rfl
theorem wkX9_110 : Cond.constantLong RX9 110 (100) ∈ gw := gw_k (tk6 (List.mem_of_getElem? (i := 160) rfl)) rfl
theorem wmL_46 : Cond.methodLink RL 46 yX9_bond ∈ gw := gw_k (tk6 (List.mem_of_getElem? (i := 161) rfl)) rfl
theorem wiX9_bond : Cond.instanceMethod yX9_bond ∈ gw := gw_k (tk6 (List.mem_of_getElem? (i := 162) rfl)) rfl
theorem weX9_bond : Cond.selects RX9 yX9_bond yX9_bond ∈ gw := gw_k (tk6 (List.mem_of_getElem? (i := 163) rfl)) rfl
theorem wcX9_bond : Cond.code yX9_bond cX9_bond 4 (Option.some Jvm.ClassFile.FieldType.boolean) ∈ gw := gw_k (tk6 (List.mem_of_getElem? (i := 164) rfl)) rfl
theorem wmX9_126 : Cond.methodLink RX9 126 yX9_isBond ∈ gw := gw_k (tk6 (List.mem_of_getElem? (i := 165) rfl)) rfl
theorem wtX9_isBond : Cond.static yX9_isBond ∈ gw := gw_k (tk6 (List.mem_of_getElem? (i := 166) rfl)) rfl
theorem wcX9_isBond : Cond.code yX9_isBond cX9_isBond 1 (Option.some Jvm.ClassFile.FieldType.boolean) ∈ gw := gw_k (tk6 (List.mem_of_getElem? (i := 167) rfl)) rfl
theorem wkX9_130 : Cond.constantLong RX9 130 (1000000) ∈ gw := gw_k (tk6 (List.mem_of_getElem? (i := 168) rfl)) rfl
theorem wmL_51 : Cond.methodLink RL 51 yX9_coupon ∈ gw := gw_k (tk6 (List.mem_of_getElem? (i := 169) rfl)) rfl
theorem wiX9_coupon : Cond.instanceMethod yX9_coupon ∈ gw := gw_k (tk6 (List.mem_of_getElem? (i := 170) rfl)) rfl
theorem weX9_coupon : Cond.selects RX9 yX9_coupon yX9_coupon ∈ gw := gw_k (tk6 (List.mem_of_getElem? (i := 171) rfl)) rfl
theorem wcX9_coupon : Cond.code yX9_coupon cX9_coupon 5 (Option.some Jvm.ClassFile.FieldType.int) ∈ gw := gw_k (tk6 (List.mem_of_getElem? (i := 172) rfl)) rfl
theorem wmX9_122 : Cond.methodLink RX9 122 yX9_of ∈ gw := gw_k (tk6 (List.mem_of_getElem? (i := 173) rfl)) rfl
theorem wiX9_of : Cond.instanceMethod yX9_of ∈ gw := gw_k (tk6 (List.mem_of_getElem? (i := 175) rfl)) rfl
theorem wcX9_of : Cond.code yX9_of cX9_of 3 (Option.some Jvm.ClassFile.FieldType.int) ∈ gw := gw_k (tk6 (List.mem_of_getElem? (i := 176) rfl)) rfl
theorem wmL_55 : Cond.methodLink RL 55 yX9_call ∈ gw := gw_k (tk6 (List.mem_of_getElem? (i := 177) rfl)) rfl
theorem wiX9_call : Cond.instanceMethod yX9_call ∈ gw := gw_k (tk6 (List.mem_of_getElem? (i := 178) rfl)) rfl
theorem weX9_call : Cond.selects RX9 yX9_call yX9_call ∈ gw := gw_k (tk6 (List.mem_of_getElem? (i := 179) rfl)) rfl
theorem wcX9_call : Cond.code yX9_call cX9_call 4 (Option.some Jvm.ClassFile.FieldType.int) ∈ gw := gw_k (tk6 (List.mem_of_getElem? (i := 180) rfl)) rfl
theorem wmX9_138 : Cond.methodLink RX9 138 yX9_tells ∈ gw := gw_k (tk6 (List.mem_of_getElem? (i := 181) rfl)) rfl
theorem wiX9_tells : Cond.instanceMethod yX9_tells ∈ gw := gw_k (tk6 (List.mem_of_getElem? (i := 183) rfl)) rfl
theorem wcX9_tells : Cond.code yX9_tells cX9_tells 6 (Option.some Jvm.ClassFile.FieldType.int) ∈ gw := gw_k (tk6 (List.mem_of_getElem? (i := 184) rfl)) rfl
theorem wkX9_132 : Cond.constantLong RX9 132 (5) ∈ gw := gw_k (tk6 (List.mem_of_getElem? (i := 185) rfl)) rfl
theorem wmX9_134 : Cond.methodLink RX9 134 yX9_told2 ∈ gw := gw_k (tk6 (List.mem_of_getElem? (i := 186) rfl)) rfl
theorem wiX9_told2 : Cond.instanceMethod yX9_told2 ∈ gw := gw_k (tk6 (List.mem_of_getElem? (i := 188) rfl)) rfl
theorem wcX9_told2 : Cond.code yX9_told2 cX9_told2 2 (Option.some Jvm.ClassFile.FieldType.int) ∈ gw := gw_k (tk6 (List.mem_of_getElem? (i := 189) rfl)) rfl
theorem wmL_59 : Cond.methodLink RL 59 yX9_put ∈ gw := gw_k (tk6 (List.mem_of_getElem? (i := 190) rfl)) rfl
theorem wiX9_put : Cond.instanceMethod yX9_put ∈ gw := gw_k (tk6 (List.mem_of_getElem? (i := 191) rfl)) rfl
theorem weX9_put : Cond.selects RX9 yX9_put yX9_put ∈ gw := gw_k (tk6 (List.mem_of_getElem? (i := 192) rfl)) rfl
theorem wcX9_put : Cond.code yX9_put cX9_put 4 (Option.some Jvm.ClassFile.FieldType.int) ∈ gw := gw_k (tk6 (List.mem_of_getElem? (i := 193) rfl)) rfl
theorem wmL_63 : Cond.methodLink RL 63 yX9_window ∈ gw := gw_k (tk6 (List.mem_of_getElem? (i := 194) rfl)) rfl
theorem wiX9_window : Cond.instanceMethod yX9_window ∈ gw := gw_k (tk6 (List.mem_of_getElem? (i := 195) rfl)) rfl
theorem weX9_window : Cond.selects RX9 yX9_window yX9_window ∈ gw := gw_k (tk6 (List.mem_of_getElem? (i := 196) rfl)) rfl
theorem wcX9_window : Cond.code yX9_window cX9_window 4 (Option.some Jvm.ClassFile.FieldType.boolean) ∈ gw := gw_k (tk6 (List.mem_of_getElem? (i := 197) rfl)) rfl
theorem wmL_68 : Cond.methodLink RL 68 yX9_soft ∈ gw := gw_k (tk6 (List.mem_of_getElem? (i := 198) rfl)) rfl
theorem wiX9_soft : Cond.instanceMethod yX9_soft ∈ gw := gw_k (tk6 (List.mem_of_getElem? (i := 199) rfl)) rfl
theorem weX9_soft : Cond.selects RX9 yX9_soft yX9_soft ∈ gw := gw_k (tk6 (List.mem_of_getElem? (i := 200) rfl)) rfl
theorem wcX9_soft : Cond.code yX9_soft cX9_soft 5 (Option.some Jvm.ClassFile.FieldType.boolean) ∈ gw := gw_k (tk6 (List.mem_of_getElem? (i := 201) rfl)) rfl
theorem wkX9_142 : Cond.constantLong RX9 142 (3) ∈ gw := gw_k (tk6 (List.mem_of_getElem? (i := 202) rfl)) rfl
theorem wmX9_144 : Cond.methodLink RX9 144 yX9_softens ∈ gw := gw_k (tk6 (List.mem_of_getElem? (i := 203) rfl)) rfl
theorem wiX9_softens : Cond.instanceMethod yX9_softens ∈ gw := gw_k (tk6 (List.mem_of_getElem? (i := 205) rfl)) rfl
theorem wcX9_softens : Cond.code yX9_softens cX9_softens 5 (Option.none : Option Jvm.ClassFile.FieldType) ∈ gw := gw_k (tk6 (List.mem_of_getElem? (i := 206) rfl)) rfl
theorem wmL_73 : Cond.methodLink RL 73 yX9_settle ∈ gw := gw_k (tk6 (List.mem_of_getElem? (i := 207) rfl)) rfl
theorem wiX9_settle : Cond.instanceMethod yX9_settle ∈ gw := gw_k (tk6 (List.mem_of_getElem? (i := 208) rfl)) rfl
theorem weX9_settle : Cond.selects RX9 yX9_settle yX9_settle ∈ gw := gw_k (tk6 (List.mem_of_getElem? (i := 209) rfl)) rfl
theorem wcX9_settle : Cond.code yX9_settle cX9_settle 4 (Option.some Jvm.ClassFile.FieldType.int) ∈ gw := gw_k (tk6 (List.mem_of_getElem? (i := 210) rfl)) rfl
theorem wmL_81 : Cond.methodLink RL 81 yX9_told ∈ gw := gw_k (tk6 (List.mem_of_getElem? (i := 211) rfl)) rfl
theorem wiX9_told : Cond.instanceMethod yX9_told ∈ gw := gw_k (tk6 (List.mem_of_getElem? (i := 212) rfl)) rfl
theorem weX9_told : Cond.selects RX9 yX9_told yX9_told ∈ gw := gw_k (tk6 (List.mem_of_getElem? (i := 213) rfl)) rfl
theorem wcX9_told : Cond.code yX9_told cX9_told 3 (Option.some Jvm.ClassFile.FieldType.int) ∈ gw := gw_k (tk6 (List.mem_of_getElem? (i := 214) rfl)) rfl
theorem wkX9_147 : Cond.constantLong RX9 147 (4) ∈ gw := gw_k (tk6 (List.mem_of_getElem? (i := 215) rfl)) rfl
theorem wkX9_149 : Cond.constantLong RX9 149 (7) ∈ gw := gw_k (tk6 (List.mem_of_getElem? (i := 216) rfl)) rfl
theorem wkX9_151 : Cond.constantLong RX9 151 (11) ∈ gw := gw_k (tk6 (List.mem_of_getElem? (i := 217) rfl)) rfl
theorem wkX9_153 : Cond.constantLong RX9 153 (16) ∈ gw := gw_k (tk6 (List.mem_of_getElem? (i := 218) rfl)) rfl
theorem wkX9_155 : Cond.constantLong RX9 155 (25) ∈ gw := gw_k (tk6 (List.mem_of_getElem? (i := 219) rfl)) rfl
theorem wkX9_157 : Cond.constantLong RX9 157 (30) ∈ gw := gw_k (tk6 (List.mem_of_getElem? (i := 220) rfl)) rfl
theorem wkX9_159 : Cond.constantLong RX9 159 (35) ∈ gw := gw_k (tk6 (List.mem_of_getElem? (i := 221) rfl)) rfl
theorem wmL_85 : Cond.methodLink RL 85 yX9_copy ∈ gw := gw_k (tk6 (List.mem_of_getElem? (i := 222) rfl)) rfl
theorem wiX9_copy : Cond.instanceMethod yX9_copy ∈ gw := gw_k (tk6 (List.mem_of_getElem? (i := 223) rfl)) rfl
theorem weX9_copy : Cond.selects RX9 yX9_copy yX9_copy ∈ gw := gw_k (tk6 (List.mem_of_getElem? (i := 224) rfl)) rfl
theorem wcX9_copy : Cond.code yX9_copy cX9_copy 3 (Option.some Jvm.ClassFile.FieldType.boolean) ∈ gw := gw_k (tk6 (List.mem_of_getElem? (i := 225) rfl)) rfl
theorem wmX9_161 : Cond.methodLink RX9 161 yX9_copies ∈ gw := gw_k (tk6 (List.mem_of_getElem? (i := 226) rfl)) rfl
theorem wiX9_copies : Cond.instanceMethod yX9_copies ∈ gw := gw_k (tk6 (List.mem_of_getElem? (i := 228) rfl)) rfl
theorem wcX9_copies : Cond.code yX9_copies cX9_copies 4 (Option.none : Option Jvm.ClassFile.FieldType) ∈ gw := gw_k (tk6 (List.mem_of_getElem? (i := 229) rfl)) rfl
theorem wmL_77 : Cond.methodLink RL 77 yX9_terms ∈ gw := gw_k (tk6 (List.mem_of_getElem? (i := 230) rfl)) rfl
theorem wiX9_terms : Cond.instanceMethod yX9_terms ∈ gw := gw_k (tk6 (List.mem_of_getElem? (i := 231) rfl)) rfl
theorem weX9_terms : Cond.selects RX9 yX9_terms yX9_terms ∈ gw := gw_k (tk6 (List.mem_of_getElem? (i := 232) rfl)) rfl
theorem wcX9_terms : Cond.code yX9_terms cX9_terms 4 (Option.some Jvm.ClassFile.FieldType.int) ∈ gw := gw_k (tk6 (List.mem_of_getElem? (i := 233) rfl)) rfl
theorem wmX9_177 : Cond.methodLink RX9 177 yX9_see ∈ gw := gw_k (tk6 (List.mem_of_getElem? (i := 234) rfl)) rfl
theorem wiX9_see : Cond.instanceMethod yX9_see ∈ gw := gw_k (tk6 (List.mem_of_getElem? (i := 236) rfl)) rfl
theorem wcX9_see : Cond.code yX9_see cX9_see 1 (Option.some Jvm.ClassFile.FieldType.int) ∈ gw := gw_k (tk6 (List.mem_of_getElem? (i := 237) rfl)) rfl
theorem wmX9_219 : Cond.methodLink RX9 219 yX9_readsClause ∈ gw := gw_k (tk6 (List.mem_of_getElem? (i := 238) rfl)) rfl
theorem wiX9_readsClause : Cond.instanceMethod yX9_readsClause ∈ gw := gw_k (tk7 (List.mem_of_getElem? (i := 0) rfl)) rfl
theorem wcX9_readsClause : Cond.code yX9_readsClause cX9_readsClause 2 (Option.none : Option Jvm.ClassFile.FieldType) ∈ gw := gw_k (tk7 (List.mem_of_getElem? (i := 1) rfl)) rfl
theorem wkX9_206 : Cond.constant RX9 206 (1000000) ∈ gw := gw_k (tk7 (List.mem_of_getElem? (i := 2) rfl)) rfl
theorem wmX9_199 : Cond.methodLink RX9 199 yX9_reads ∈ gw := gw_k (tk7 (List.mem_of_getElem? (i := 3) rfl)) rfl
theorem wiX9_reads : Cond.instanceMethod yX9_reads ∈ gw := gw_k (tk7 (List.mem_of_getElem? (i := 5) rfl)) rfl
theorem wcX9_reads : Cond.code yX9_reads cX9_reads 4 (Option.some Jvm.ClassFile.FieldType.boolean) ∈ gw := gw_k (tk7 (List.mem_of_getElem? (i := 6) rfl)) rfl
theorem wmX9_196 : Cond.methodLink RX9 196 yX9_counts ∈ gw := gw_k (tk7 (List.mem_of_getElem? (i := 7) rfl)) rfl
theorem wiX9_counts : Cond.instanceMethod yX9_counts ∈ gw := gw_k (tk7 (List.mem_of_getElem? (i := 9) rfl)) rfl
theorem wcX9_counts : Cond.code yX9_counts cX9_counts 3 (Option.some Jvm.ClassFile.FieldType.boolean) ∈ gw := gw_k (tk7 (List.mem_of_getElem? (i := 10) rfl)) rfl
theorem wmX9_190 : Cond.methodLink RX9 190 yX9_isFigure ∈ gw := gw_k (tk7 (List.mem_of_getElem? (i := 11) rfl)) rfl
theorem wtX9_isFigure : Cond.static yX9_isFigure ∈ gw := gw_k (tk7 (List.mem_of_getElem? (i := 12) rfl)) rfl
theorem wcX9_isFigure : Cond.code yX9_isFigure cX9_isFigure 1 (Option.some Jvm.ClassFile.FieldType.boolean) ∈ gw := gw_k (tk7 (List.mem_of_getElem? (i := 13) rfl)) rfl
theorem wkX9_173 : Cond.constantLong RX9 173 (48) ∈ gw := gw_k (tk7 (List.mem_of_getElem? (i := 14) rfl)) rfl
theorem wkX9_175 : Cond.constantLong RX9 175 (57) ∈ gw := gw_k (tk7 (List.mem_of_getElem? (i := 15) rfl)) rfl
theorem wmX9_193 : Cond.methodLink RX9 193 yX9_wrong ∈ gw := gw_k (tk7 (List.mem_of_getElem? (i := 16) rfl)) rfl
theorem wiX9_wrong : Cond.instanceMethod yX9_wrong ∈ gw := gw_k (tk7 (List.mem_of_getElem? (i := 18) rfl)) rfl
theorem wcX9_wrong : Cond.code yX9_wrong cX9_wrong 3 (Option.some Jvm.ClassFile.FieldType.boolean) ∈ gw := gw_k (tk7 (List.mem_of_getElem? (i := 19) rfl)) rfl
theorem wmX9_207 : Cond.methodLink RX9 207 yX9_readsCoupon ∈ gw := gw_k (tk7 (List.mem_of_getElem? (i := 20) rfl)) rfl
theorem wiX9_readsCoupon : Cond.instanceMethod yX9_readsCoupon ∈ gw := gw_k (tk7 (List.mem_of_getElem? (i := 22) rfl)) rfl
theorem wcX9_readsCoupon : Cond.code yX9_readsCoupon cX9_readsCoupon 4 (Option.none : Option Jvm.ClassFile.FieldType) ∈ gw := gw_k (tk7 (List.mem_of_getElem? (i := 23) rfl)) rfl
theorem wmX9_210 : Cond.methodLink RX9 210 yX9_readsPrice ∈ gw := gw_k (tk7 (List.mem_of_getElem? (i := 24) rfl)) rfl
theorem wiX9_readsPrice : Cond.instanceMethod yX9_readsPrice ∈ gw := gw_k (tk7 (List.mem_of_getElem? (i := 26) rfl)) rfl
theorem wcX9_readsPrice : Cond.code yX9_readsPrice cX9_readsPrice 3 (Option.none : Option Jvm.ClassFile.FieldType) ∈ gw := gw_k (tk7 (List.mem_of_getElem? (i := 27) rfl)) rfl
theorem wmX9_203 : Cond.methodLink RX9 203 yX9_passes ∈ gw := gw_k (tk7 (List.mem_of_getElem? (i := 28) rfl)) rfl
theorem wiX9_passes : Cond.instanceMethod yX9_passes ∈ gw := gw_k (tk7 (List.mem_of_getElem? (i := 30) rfl)) rfl
theorem wcX9_passes : Cond.code yX9_passes cX9_passes 2 (Option.some Jvm.ClassFile.FieldType.boolean) ∈ gw := gw_k (tk7 (List.mem_of_getElem? (i := 31) rfl)) rfl
theorem wmX9_213 : Cond.methodLink RX9 213 yX9_readsWindow ∈ gw := gw_k (tk7 (List.mem_of_getElem? (i := 32) rfl)) rfl
theorem wiX9_readsWindow : Cond.instanceMethod yX9_readsWindow ∈ gw := gw_k (tk7 (List.mem_of_getElem? (i := 34) rfl)) rfl
theorem wcX9_readsWindow : Cond.code yX9_readsWindow cX9_readsWindow 2 (Option.none : Option Jvm.ClassFile.FieldType) ∈ gw := gw_k (tk7 (List.mem_of_getElem? (i := 35) rfl)) rfl
theorem wmX9_216 : Cond.methodLink RX9 216 yX9_readsSoft ∈ gw := gw_k (tk7 (List.mem_of_getElem? (i := 36) rfl)) rfl
theorem wiX9_readsSoft : Cond.instanceMethod yX9_readsSoft ∈ gw := gw_k (tk7 (List.mem_of_getElem? (i := 38) rfl)) rfl
theorem wcX9_readsSoft : Cond.code yX9_readsSoft cX9_readsSoft 3 (Option.none : Option Jvm.ClassFile.FieldType) ∈ gw := gw_k (tk7 (List.mem_of_getElem? (i := 39) rfl)) rfl
theorem wmL_223 : Cond.methodLink RL 223 yX9_letter ∈ gw := gw_k (tk7 (List.mem_of_getElem? (i := 40) rfl)) rfl
theorem wiX9_letter : Cond.instanceMethod yX9_letter ∈ gw := gw_k (tk7 (List.mem_of_getElem? (i := 41) rfl)) rfl
theorem weX9_letter : Cond.selects RX9 yX9_letter yX9_letter ∈ gw := gw_k (tk7 (List.mem_of_getElem? (i := 42) rfl)) rfl
theorem wcX9_letter : Cond.code yX9_letter cX9_letter 3 (Option.some Jvm.ClassFile.FieldType.int) ∈ gw := gw_k (tk7 (List.mem_of_getElem? (i := 43) rfl)) rfl
theorem wmX9_231 : Cond.methodLink RX9 231 yX9_writes ∈ gw := gw_k (tk7 (List.mem_of_getElem? (i := 44) rfl)) rfl
theorem wiX9_writes : Cond.instanceMethod yX9_writes ∈ gw := gw_k (tk7 (List.mem_of_getElem? (i := 46) rfl)) rfl
theorem wcX9_writes : Cond.code yX9_writes cX9_writes 2 (Option.none : Option Jvm.ClassFile.FieldType) ∈ gw := gw_k (tk7 (List.mem_of_getElem? (i := 47) rfl)) rfl
theorem wmX9_234 : Cond.methodLink RX9 234 yX9_writesNumber ∈ gw := gw_k (tk7 (List.mem_of_getElem? (i := 48) rfl)) rfl
theorem wiX9_writesNumber : Cond.instanceMethod yX9_writesNumber ∈ gw := gw_k (tk7 (List.mem_of_getElem? (i := 50) rfl)) rfl
theorem wcX9_writesNumber : Cond.code yX9_writesNumber cX9_writesNumber 3 (Option.none : Option Jvm.ClassFile.FieldType) ∈ gw := gw_k (tk7 (List.mem_of_getElem? (i := 51) rfl)) rfl
theorem wmX9_237 : Cond.methodLink RX9 237 yX9_writesDays ∈ gw := gw_k (tk7 (List.mem_of_getElem? (i := 52) rfl)) rfl
theorem wiX9_writesDays : Cond.instanceMethod yX9_writesDays ∈ gw := gw_k (tk7 (List.mem_of_getElem? (i := 54) rfl)) rfl
theorem wcX9_writesDays : Cond.code yX9_writesDays cX9_writesDays 8 (Option.none : Option Jvm.ClassFile.FieldType) ∈ gw := gw_k (tk7 (List.mem_of_getElem? (i := 55) rfl)) rfl
theorem wmL_89 : Cond.methodLink RL 89 yX9_path ∈ gw := gw_k (tk7 (List.mem_of_getElem? (i := 56) rfl)) rfl
theorem wiX9_path : Cond.instanceMethod yX9_path ∈ gw := gw_k (tk7 (List.mem_of_getElem? (i := 57) rfl)) rfl
theorem weX9_path : Cond.selects RX9 yX9_path yX9_path ∈ gw := gw_k (tk7 (List.mem_of_getElem? (i := 58) rfl)) rfl
theorem wcX9_path : Cond.code yX9_path cX9_path 4 (Option.some Jvm.ClassFile.FieldType.int) ∈ gw := gw_k (tk7 (List.mem_of_getElem? (i := 59) rfl)) rfl
theorem wmL_93 : Cond.methodLink RL 93 yX9_drawn ∈ gw := gw_k (tk7 (List.mem_of_getElem? (i := 60) rfl)) rfl
theorem wiX9_drawn : Cond.instanceMethod yX9_drawn ∈ gw := gw_k (tk7 (List.mem_of_getElem? (i := 61) rfl)) rfl
theorem weX9_drawn : Cond.selects RX9 yX9_drawn yX9_drawn ∈ gw := gw_k (tk7 (List.mem_of_getElem? (i := 62) rfl)) rfl
theorem wcX9_drawn : Cond.code yX9_drawn cX9_drawn 5 (Option.some Jvm.ClassFile.FieldType.int) ∈ gw := gw_k (tk7 (List.mem_of_getElem? (i := 63) rfl)) rfl
theorem wkX9_245 : Cond.constant RX9 245 (65535) ∈ gw := gw_k (tk7 (List.mem_of_getElem? (i := 64) rfl)) rfl
theorem wmX9_246 : Cond.methodLink RX9 246 yX9_draw ∈ gw := gw_k (tk7 (List.mem_of_getElem? (i := 65) rfl)) rfl
theorem wiX9_draw : Cond.instanceMethod yX9_draw ∈ gw := gw_k (tk7 (List.mem_of_getElem? (i := 67) rfl)) rfl
theorem wcX9_draw : Cond.code yX9_draw cX9_draw 2 (Option.some Jvm.ClassFile.FieldType.int) ∈ gw := gw_k (tk7 (List.mem_of_getElem? (i := 68) rfl)) rfl
theorem wkX9_244 : Cond.constant RX9 244 (65536) ∈ gw := gw_k (tk7 (List.mem_of_getElem? (i := 69) rfl)) rfl
theorem wmL_97 : Cond.methodLink RL 97 yX9_went ∈ gw := gw_k (tk7 (List.mem_of_getElem? (i := 70) rfl)) rfl
theorem wiX9_went : Cond.instanceMethod yX9_went ∈ gw := gw_k (tk7 (List.mem_of_getElem? (i := 71) rfl)) rfl
theorem weX9_went : Cond.selects RX9 yX9_went yX9_went ∈ gw := gw_k (tk7 (List.mem_of_getElem? (i := 72) rfl)) rfl
theorem wcX9_went : Cond.code yX9_went cX9_went 2 (Option.some Jvm.ClassFile.FieldType.int) ∈ gw := gw_k (tk7 (List.mem_of_getElem? (i := 73) rfl)) rfl
theorem wmX9_249 : Cond.methodLink RX9 249 yX9_ups ∈ gw := gw_k (tk7 (List.mem_of_getElem? (i := 74) rfl)) rfl
theorem wiX9_ups : Cond.instanceMethod yX9_ups ∈ gw := gw_k (tk7 (List.mem_of_getElem? (i := 76) rfl)) rfl
theorem wcX9_ups : Cond.code yX9_ups cX9_ups 3 (Option.some Jvm.ClassFile.FieldType.int) ∈ gw := gw_k (tk7 (List.mem_of_getElem? (i := 77) rfl)) rfl
theorem wkX9_252 : Cond.constantLong RX9 252 (10) ∈ gw := gw_k (tk7 (List.mem_of_getElem? (i := 78) rfl)) rfl
theorem wmL_102 : Cond.methodLink RL 102 yX9_value ∈ gw := gw_k (tk7 (List.mem_of_getElem? (i := 79) rfl)) rfl
theorem wiX9_value : Cond.instanceMethod yX9_value ∈ gw := gw_k (tk7 (List.mem_of_getElem? (i := 80) rfl)) rfl
theorem weX9_value : Cond.selects RX9 yX9_value yX9_value ∈ gw := gw_k (tk7 (List.mem_of_getElem? (i := 81) rfl)) rfl
theorem wcX9_value : Cond.code yX9_value cX9_value 2 (Option.some Jvm.ClassFile.FieldType.long) ∈ gw := gw_k (tk7 (List.mem_of_getElem? (i := 82) rfl)) rfl
theorem wmX9_334 : Cond.methodLink RX9 334 yX9_playsNow ∈ gw := gw_k (tk7 (List.mem_of_getElem? (i := 83) rfl)) rfl
theorem wiX9_playsNow : Cond.instanceMethod yX9_playsNow ∈ gw := gw_k (tk7 (List.mem_of_getElem? (i := 85) rfl)) rfl
theorem wcX9_playsNow : Cond.code yX9_playsNow cX9_playsNow 2 (Option.none : Option Jvm.ClassFile.FieldType) ∈ gw := gw_k (tk7 (List.mem_of_getElem? (i := 86) rfl)) rfl
theorem wmX9_307 : Cond.methodLink RX9 307 yX9_takesNow ∈ gw := gw_k (tk7 (List.mem_of_getElem? (i := 87) rfl)) rfl
theorem wiX9_takesNow : Cond.instanceMethod yX9_takesNow ∈ gw := gw_k (tk7 (List.mem_of_getElem? (i := 89) rfl)) rfl
theorem wcX9_takesNow : Cond.code yX9_takesNow cX9_takesNow 1 (Option.none : Option Jvm.ClassFile.FieldType) ∈ gw := gw_k (tk7 (List.mem_of_getElem? (i := 90) rfl)) rfl
theorem wmX9_112 : Cond.methodLink RX9 112 yX9_takesTree ∈ gw := gw_k (tk7 (List.mem_of_getElem? (i := 91) rfl)) rfl
theorem wiX9_takesTree : Cond.instanceMethod yX9_takesTree ∈ gw := gw_k (tk7 (List.mem_of_getElem? (i := 93) rfl)) rfl
theorem wcX9_takesTree : Cond.code yX9_takesTree cX9_takesTree 5 (Option.none : Option Jvm.ClassFile.FieldType) ∈ gw := gw_k (tk7 (List.mem_of_getElem? (i := 94) rfl)) rfl
theorem wmX9_310 : Cond.methodLink RX9 310 yX9_plays ∈ gw := gw_k (tk7 (List.mem_of_getElem? (i := 95) rfl)) rfl
theorem wiX9_plays : Cond.instanceMethod yX9_plays ∈ gw := gw_k (tk7 (List.mem_of_getElem? (i := 97) rfl)) rfl
theorem wcX9_plays : Cond.code yX9_plays cX9_plays 6 (Option.none : Option Jvm.ClassFile.FieldType) ∈ gw := gw_k (tk7 (List.mem_of_getElem? (i := 98) rfl)) rfl
theorem wmX9_263 : Cond.methodLink RX9 263 yX9_isHigh ∈ gw := gw_k (tk7 (List.mem_of_getElem? (i := 99) rfl)) rfl
theorem wiX9_isHigh : Cond.instanceMethod yX9_isHigh ∈ gw := gw_k (tk7 (List.mem_of_getElem? (i := 101) rfl)) rfl
theorem wcX9_isHigh : Cond.code yX9_isHigh cX9_isHigh 4 (Option.some Jvm.ClassFile.FieldType.int) ∈ gw := gw_k (tk7 (List.mem_of_getElem? (i := 102) rfl)) rfl
theorem wmX9_297 : Cond.methodLink RX9 297 yX9_isState ∈ gw := gw_k (tk7 (List.mem_of_getElem? (i := 103) rfl)) rfl
theorem wtX9_isState : Cond.static yX9_isState ∈ gw := gw_k (tk7 (List.mem_of_getElem? (i := 104) rfl)) rfl
theorem wcX9_isState : Cond.code yX9_isState cX9_isState 3 (Option.some Jvm.ClassFile.FieldType.boolean) ∈ gw := gw_k (tk7 (List.mem_of_getElem? (i := 105) rfl)) rfl
theorem wmX9_300 : Cond.methodLink RX9 300 yX9_laysEnd ∈ gw := gw_k (tk7 (List.mem_of_getElem? (i := 106) rfl)) rfl
theorem wiX9_laysEnd : Cond.instanceMethod yX9_laysEnd ∈ gw := gw_k (tk7 (List.mem_of_getElem? (i := 108) rfl)) rfl
theorem wcX9_laysEnd : Cond.code yX9_laysEnd cX9_laysEnd 8 (Option.none : Option Jvm.ClassFile.FieldType) ∈ gw := gw_k (tk7 (List.mem_of_getElem? (i := 109) rfl)) rfl
theorem wmX9_270 : Cond.methodLink RX9 270 yX9_turned ∈ gw := gw_k (tk7 (List.mem_of_getElem? (i := 110) rfl)) rfl
theorem wiX9_turned : Cond.instanceMethod yX9_turned ∈ gw := gw_k (tk7 (List.mem_of_getElem? (i := 112) rfl)) rfl
theorem wcX9_turned : Cond.code yX9_turned cX9_turned 13 (Option.some Jvm.ClassFile.FieldType.long) ∈ gw := gw_k (tk7 (List.mem_of_getElem? (i := 113) rfl)) rfl
theorem wmX9_254 : Cond.methodLink RX9 254 yX9_inWindow ∈ gw := gw_k (tk7 (List.mem_of_getElem? (i := 114) rfl)) rfl
theorem wiX9_inWindow : Cond.instanceMethod yX9_inWindow ∈ gw := gw_k (tk7 (List.mem_of_getElem? (i := 116) rfl)) rfl
theorem wcX9_inWindow : Cond.code yX9_inWindow cX9_inWindow 3 (Option.some Jvm.ClassFile.FieldType.boolean) ∈ gw := gw_k (tk7 (List.mem_of_getElem? (i := 117) rfl)) rfl
theorem wmX9_267 : Cond.methodLink RX9 267 yX9_at ∈ gw := gw_k (tk7 (List.mem_of_getElem? (i := 118) rfl)) rfl
theorem wtX9_at : Cond.static yX9_at ∈ gw := gw_k (tk7 (List.mem_of_getElem? (i := 119) rfl)) rfl
theorem wcX9_at : Cond.code yX9_at cX9_at 4 (Option.some Jvm.ClassFile.FieldType.int) ∈ gw := gw_k (tk7 (List.mem_of_getElem? (i := 120) rfl)) rfl
theorem wmX9_281 : Cond.methodLink RX9 281 yX9_couponOf ∈ gw := gw_k (tk7 (List.mem_of_getElem? (i := 121) rfl)) rfl
theorem wiX9_couponOf : Cond.instanceMethod yX9_couponOf ∈ gw := gw_k (tk7 (List.mem_of_getElem? (i := 123) rfl)) rfl
theorem wcX9_couponOf : Cond.code yX9_couponOf cX9_couponOf 3 (Option.some Jvm.ClassFile.FieldType.int) ∈ gw := gw_k (tk7 (List.mem_of_getElem? (i := 124) rfl)) rfl
theorem wmX9_274 : Cond.methodLink RX9 274 yX9_more ∈ gw := gw_k (tk7 (List.mem_of_getElem? (i := 125) rfl)) rfl
theorem wtX9_more : Cond.static yX9_more ∈ gw := gw_k (tk7 (List.mem_of_getElem? (i := 126) rfl)) rfl
theorem wcX9_more : Cond.code yX9_more cX9_more 4 (Option.some Jvm.ClassFile.FieldType.long) ∈ gw := gw_k (tk7 (List.mem_of_getElem? (i := 127) rfl)) rfl
theorem wmX9_303 : Cond.methodLink RX9 303 yX9_laysState ∈ gw := gw_k (tk7 (List.mem_of_getElem? (i := 128) rfl)) rfl
theorem wiX9_laysState : Cond.instanceMethod yX9_laysState ∈ gw := gw_k (tk7 (List.mem_of_getElem? (i := 130) rfl)) rfl
theorem wcX9_laysState : Cond.code yX9_laysState cX9_laysState 16 (Option.none : Option Jvm.ClassFile.FieldType) ∈ gw := gw_k (tk7 (List.mem_of_getElem? (i := 131) rfl)) rfl
theorem wmX9_284 : Cond.methodLink RX9 284 yX9_putOf ∈ gw := gw_k (tk7 (List.mem_of_getElem? (i := 132) rfl)) rfl
theorem wiX9_putOf : Cond.instanceMethod yX9_putOf ∈ gw := gw_k (tk7 (List.mem_of_getElem? (i := 134) rfl)) rfl
theorem wcX9_putOf : Cond.code yX9_putOf cX9_putOf 3 (Option.some Jvm.ClassFile.FieldType.int) ∈ gw := gw_k (tk7 (List.mem_of_getElem? (i := 135) rfl)) rfl
theorem wmX9_287 : Cond.methodLink RX9 287 yX9_holds ∈ gw := gw_k (tk7 (List.mem_of_getElem? (i := 136) rfl)) rfl
theorem wiX9_holds : Cond.instanceMethod yX9_holds ∈ gw := gw_k (tk7 (List.mem_of_getElem? (i := 138) rfl)) rfl
theorem wcX9_holds : Cond.code yX9_holds cX9_holds 10 (Option.some Jvm.ClassFile.FieldType.long) ∈ gw := gw_k (tk7 (List.mem_of_getElem? (i := 139) rfl)) rfl
theorem wmX9_277 : Cond.methodLink RX9 277 yX9_then ∈ gw := gw_k (tk7 (List.mem_of_getElem? (i := 140) rfl)) rfl
theorem wiX9_then : Cond.instanceMethod yX9_then ∈ gw := gw_k (tk7 (List.mem_of_getElem? (i := 142) rfl)) rfl
theorem wcX9_then : Cond.code yX9_then cX9_then 7 (Option.some Jvm.ClassFile.FieldType.int) ∈ gw := gw_k (tk7 (List.mem_of_getElem? (i := 143) rfl)) rfl
theorem wmX9_291 : Cond.methodLink RX9 291 yX9_called ∈ gw := gw_k (tk7 (List.mem_of_getElem? (i := 144) rfl)) rfl
theorem wiX9_called : Cond.instanceMethod yX9_called ∈ gw := gw_k (tk7 (List.mem_of_getElem? (i := 146) rfl)) rfl
theorem wcX9_called : Cond.code yX9_called cX9_called 5 (Option.some Jvm.ClassFile.FieldType.long) ∈ gw := gw_k (tk7 (List.mem_of_getElem? (i := 147) rfl)) rfl
theorem wmX9_257 : Cond.methodLink RX9 257 yX9_callOf ∈ gw := gw_k (tk7 (List.mem_of_getElem? (i := 148) rfl)) rfl
theorem wiX9_callOf : Cond.instanceMethod yX9_callOf ∈ gw := gw_k (tk7 (List.mem_of_getElem? (i := 150) rfl)) rfl
theorem wcX9_callOf : Cond.code yX9_callOf cX9_callOf 3 (Option.some Jvm.ClassFile.FieldType.int) ∈ gw := gw_k (tk7 (List.mem_of_getElem? (i := 151) rfl)) rfl
theorem wmX9_294 : Cond.methodLink RX9 294 yX9_isFree ∈ gw := gw_k (tk7 (List.mem_of_getElem? (i := 152) rfl)) rfl
theorem wiX9_isFree : Cond.instanceMethod yX9_isFree ∈ gw := gw_k (tk7 (List.mem_of_getElem? (i := 154) rfl)) rfl
theorem wcX9_isFree : Cond.code yX9_isFree cX9_isFree 4 (Option.some Jvm.ClassFile.FieldType.boolean) ∈ gw := gw_k (tk7 (List.mem_of_getElem? (i := 155) rfl)) rfl
theorem wmX9_260 : Cond.methodLink RX9 260 yX9_marksNow ∈ gw := gw_k (tk7 (List.mem_of_getElem? (i := 156) rfl)) rfl
theorem wiX9_marksNow : Cond.instanceMethod yX9_marksNow ∈ gw := gw_k (tk7 (List.mem_of_getElem? (i := 158) rfl)) rfl
theorem wcX9_marksNow : Cond.code yX9_marksNow cX9_marksNow 5 (Option.some Jvm.ClassFile.FieldType.int) ∈ gw := gw_k (tk7 (List.mem_of_getElem? (i := 159) rfl)) rfl
theorem wmX9_337 : Cond.methodLink RX9 337 yX9_follows ∈ gw := gw_k (tk7 (List.mem_of_getElem? (i := 160) rfl)) rfl
theorem wiX9_follows : Cond.instanceMethod yX9_follows ∈ gw := gw_k (tk7 (List.mem_of_getElem? (i := 162) rfl)) rfl
theorem wcX9_follows : Cond.code yX9_follows cX9_follows 4 (Option.none : Option Jvm.ClassFile.FieldType) ∈ gw := gw_k (tk7 (List.mem_of_getElem? (i := 163) rfl)) rfl
theorem wmX9_328 : Cond.methodLink RX9 328 yX9_starts ∈ gw := gw_k (tk7 (List.mem_of_getElem? (i := 164) rfl)) rfl
theorem wiX9_starts : Cond.instanceMethod yX9_starts ∈ gw := gw_k (tk7 (List.mem_of_getElem? (i := 166) rfl)) rfl
theorem wcX9_starts : Cond.code yX9_starts cX9_starts 2 (Option.none : Option Jvm.ClassFile.FieldType) ∈ gw := gw_k (tk7 (List.mem_of_getElem? (i := 167) rfl)) rfl
theorem wmX9_331 : Cond.methodLink RX9 331 yX9_goesOn ∈ gw := gw_k (tk7 (List.mem_of_getElem? (i := 168) rfl)) rfl
theorem wiX9_goesOn : Cond.instanceMethod yX9_goesOn ∈ gw := gw_k (tk7 (List.mem_of_getElem? (i := 170) rfl)) rfl
theorem wcX9_goesOn : Cond.code yX9_goesOn cX9_goesOn 3 (Option.none : Option Jvm.ClassFile.FieldType) ∈ gw := gw_k (tk7 (List.mem_of_getElem? (i := 171) rfl)) rfl
theorem wmX9_340 : Cond.methodLink RX9 340 yX9_hereNow ∈ gw := gw_k (tk7 (List.mem_of_getElem? (i := 172) rfl)) rfl
theorem wiX9_hereNow : Cond.instanceMethod yX9_hereNow ∈ gw := gw_k (tk7 (List.mem_of_getElem? (i := 174) rfl)) rfl
theorem wcX9_hereNow : Cond.code yX9_hereNow cX9_hereNow 1 (Option.some Jvm.ClassFile.FieldType.int) ∈ gw := gw_k (tk7 (List.mem_of_getElem? (i := 175) rfl)) rfl
theorem wmL_111 : Cond.methodLink RL 111 yX9_act ∈ gw := gw_k (tk7 (List.mem_of_getElem? (i := 176) rfl)) rfl
theorem wiX9_act : Cond.instanceMethod yX9_act ∈ gw := gw_k (tk7 (List.mem_of_getElem? (i := 177) rfl)) rfl
theorem weX9_act : Cond.selects RX9 yX9_act yX9_act ∈ gw := gw_k (tk7 (List.mem_of_getElem? (i := 178) rfl)) rfl
theorem wcX9_act : Cond.code yX9_act cX9_act 2 (Option.some Jvm.ClassFile.FieldType.int) ∈ gw := gw_k (tk7 (List.mem_of_getElem? (i := 179) rfl)) rfl
theorem wmL_107 : Cond.methodLink RL 107 yX9_here ∈ gw := gw_k (tk7 (List.mem_of_getElem? (i := 180) rfl)) rfl
theorem wiX9_here : Cond.instanceMethod yX9_here ∈ gw := gw_k (tk7 (List.mem_of_getElem? (i := 181) rfl)) rfl
theorem weX9_here : Cond.selects RX9 yX9_here yX9_here ∈ gw := gw_k (tk7 (List.mem_of_getElem? (i := 182) rfl)) rfl
theorem wcX9_here : Cond.code yX9_here cX9_here 3 (Option.some Jvm.ClassFile.FieldType.long) ∈ gw := gw_k (tk7 (List.mem_of_getElem? (i := 183) rfl)) rfl
theorem wkX9_343 : Cond.constantLong RX9 343 (-2) ∈ gw := gw_k (tk7 (List.mem_of_getElem? (i := 184) rfl)) rfl
theorem wmL_115 : Cond.methodLink RL 115 yX9_along ∈ gw := gw_k (tk7 (List.mem_of_getElem? (i := 185) rfl)) rfl
theorem wiX9_along : Cond.instanceMethod yX9_along ∈ gw := gw_k (tk7 (List.mem_of_getElem? (i := 186) rfl)) rfl
theorem weX9_along : Cond.selects RX9 yX9_along yX9_along ∈ gw := gw_k (tk7 (List.mem_of_getElem? (i := 187) rfl)) rfl
theorem wcX9_along : Cond.code yX9_along cX9_along 3 (Option.some Jvm.ClassFile.FieldType.long) ∈ gw := gw_k (tk7 (List.mem_of_getElem? (i := 188) rfl)) rfl
theorem wmX9_352 : Cond.methodLink RX9 352 yX9_endsAlong ∈ gw := gw_k (tk7 (List.mem_of_getElem? (i := 189) rfl)) rfl
theorem wiX9_endsAlong : Cond.instanceMethod yX9_endsAlong ∈ gw := gw_k (tk7 (List.mem_of_getElem? (i := 191) rfl)) rfl
theorem wcX9_endsAlong : Cond.code yX9_endsAlong cX9_endsAlong 4 (Option.some Jvm.ClassFile.FieldType.boolean) ∈ gw := gw_k (tk7 (List.mem_of_getElem? (i := 192) rfl)) rfl
theorem wmX9_348 : Cond.methodLink RX9 348 yX9_paysOf ∈ gw := gw_k (tk7 (List.mem_of_getElem? (i := 193) rfl)) rfl
theorem wiX9_paysOf : Cond.instanceMethod yX9_paysOf ∈ gw := gw_k (tk7 (List.mem_of_getElem? (i := 195) rfl)) rfl
theorem wcX9_paysOf : Cond.code yX9_paysOf cX9_paysOf 3 (Option.some Jvm.ClassFile.FieldType.long) ∈ gw := gw_k (tk7 (List.mem_of_getElem? (i := 196) rfl)) rfl
theorem wmL_119 : Cond.methodLink RL 119 yX9_without ∈ gw := gw_k (tk7 (List.mem_of_getElem? (i := 197) rfl)) rfl
theorem wiX9_without : Cond.instanceMethod yX9_without ∈ gw := gw_k (tk7 (List.mem_of_getElem? (i := 198) rfl)) rfl
theorem weX9_without : Cond.selects RX9 yX9_without yX9_without ∈ gw := gw_k (tk7 (List.mem_of_getElem? (i := 199) rfl)) rfl
theorem wcX9_without : Cond.code yX9_without cX9_without 3 (Option.some Jvm.ClassFile.FieldType.long) ∈ gw := gw_k (tk7 (List.mem_of_getElem? (i := 200) rfl)) rfl
theorem wkX9_355 : Cond.constantLong RX9 355 (15) ∈ gw := gw_k (tk7 (List.mem_of_getElem? (i := 201) rfl)) rfl
theorem wmX9_357 : Cond.methodLink RX9 357 yX9_strips ∈ gw := gw_k (tk7 (List.mem_of_getElem? (i := 202) rfl)) rfl
theorem wiX9_strips : Cond.instanceMethod yX9_strips ∈ gw := gw_k (tk7 (List.mem_of_getElem? (i := 204) rfl)) rfl
theorem wcX9_strips : Cond.code yX9_strips cX9_strips 4 (Option.none : Option Jvm.ClassFile.FieldType) ∈ gw := gw_k (tk7 (List.mem_of_getElem? (i := 205) rfl)) rfl
theorem wmX9_360 : Cond.methodLink RX9 360 yX9_valueOf ∈ gw := gw_k (tk7 (List.mem_of_getElem? (i := 206) rfl)) rfl
theorem wiX9_valueOf : Cond.instanceMethod yX9_valueOf ∈ gw := gw_k (tk7 (List.mem_of_getElem? (i := 208) rfl)) rfl
theorem wcX9_valueOf : Cond.code yX9_valueOf cX9_valueOf 2 (Option.some Jvm.ClassFile.FieldType.long) ∈ gw := gw_k (tk7 (List.mem_of_getElem? (i := 209) rfl)) rfl
theorem wmX9_313 : Cond.methodLink RX9 313 yX9_begin ∈ gw := gw_k (tk7 (List.mem_of_getElem? (i := 210) rfl)) rfl
theorem wiX9_begin : Cond.instanceMethod yX9_begin ∈ gw := gw_k (tk7 (List.mem_of_getElem? (i := 212) rfl)) rfl
theorem wcX9_begin : Cond.code yX9_begin cX9_begin 2 (Option.some Jvm.ClassFile.FieldType.int) ∈ gw := gw_k (tk7 (List.mem_of_getElem? (i := 213) rfl)) rfl
theorem wmL_123 : Cond.methodLink RL 123 yX9_right ∈ gw := gw_k (tk7 (List.mem_of_getElem? (i := 214) rfl)) rfl
theorem wiX9_right : Cond.instanceMethod yX9_right ∈ gw := gw_k (tk7 (List.mem_of_getElem? (i := 215) rfl)) rfl
theorem weX9_right : Cond.selects RX9 yX9_right yX9_right ∈ gw := gw_k (tk7 (List.mem_of_getElem? (i := 216) rfl)) rfl
theorem wcX9_right : Cond.code yX9_right cX9_right 5 (Option.some Jvm.ClassFile.FieldType.long) ∈ gw := gw_k (tk7 (List.mem_of_getElem? (i := 217) rfl)) rfl
theorem wkX9_364 : Cond.constantLong RX9 364 (-9223372036854775808) ∈ gw := gw_k (tk7 (List.mem_of_getElem? (i := 218) rfl)) rfl
theorem wmL_127 : Cond.methodLink RL 127 yX9_ends ∈ gw := gw_k (tk7 (List.mem_of_getElem? (i := 219) rfl)) rfl
theorem wiX9_ends : Cond.instanceMethod yX9_ends ∈ gw := gw_k (tk7 (List.mem_of_getElem? (i := 220) rfl)) rfl
theorem weX9_ends : Cond.selects RX9 yX9_ends yX9_ends ∈ gw := gw_k (tk7 (List.mem_of_getElem? (i := 221) rfl)) rfl
theorem wcX9_ends : Cond.code yX9_ends cX9_ends 7 (Option.some Jvm.ClassFile.FieldType.long) ∈ gw := gw_k (tk7 (List.mem_of_getElem? (i := 222) rfl)) rfl
theorem wmX9_369 : Cond.methodLink RX9 369 yX9_laysAll ∈ gw := gw_k (tk7 (List.mem_of_getElem? (i := 223) rfl)) rfl
theorem wiX9_laysAll : Cond.instanceMethod yX9_laysAll ∈ gw := gw_k (tk7 (List.mem_of_getElem? (i := 225) rfl)) rfl
theorem wcX9_laysAll : Cond.code yX9_laysAll cX9_laysAll 2 (Option.none : Option Jvm.ClassFile.FieldType) ∈ gw := gw_k (tk7 (List.mem_of_getElem? (i := 226) rfl)) rfl
theorem wmX9_366 : Cond.methodLink RX9 366 yX9_laysWays ∈ gw := gw_k (tk7 (List.mem_of_getElem? (i := 227) rfl)) rfl
theorem wiX9_laysWays : Cond.instanceMethod yX9_laysWays ∈ gw := gw_k (tk7 (List.mem_of_getElem? (i := 229) rfl)) rfl
theorem wcX9_laysWays : Cond.code yX9_laysWays cX9_laysWays 9 (Option.none : Option Jvm.ClassFile.FieldType) ∈ gw := gw_k (tk7 (List.mem_of_getElem? (i := 230) rfl)) rfl
theorem wmX9_372 : Cond.methodLink RX9 372 yX9_dayOf ∈ gw := gw_k (tk7 (List.mem_of_getElem? (i := 231) rfl)) rfl
theorem wtX9_dayOf : Cond.static yX9_dayOf ∈ gw := gw_k (tk7 (List.mem_of_getElem? (i := 232) rfl)) rfl
theorem wcX9_dayOf : Cond.code yX9_dayOf cX9_dayOf 1 (Option.some Jvm.ClassFile.FieldType.int) ∈ gw := gw_k (tk7 (List.mem_of_getElem? (i := 233) rfl)) rfl
theorem wmX9_375 : Cond.methodLink RX9 375 yX9_power ∈ gw := gw_k (tk7 (List.mem_of_getElem? (i := 234) rfl)) rfl
theorem wiX9_power : Cond.instanceMethod yX9_power ∈ gw := gw_k (tk7 (List.mem_of_getElem? (i := 236) rfl)) rfl
theorem wcX9_power : Cond.code yX9_power cX9_power 5 (Option.some Jvm.ClassFile.FieldType.long) ∈ gw := gw_k (tk7 (List.mem_of_getElem? (i := 237) rfl)) rfl
theorem wmX9_378 : Cond.methodLink RX9 378 yX9_part ∈ gw := gw_k (tk7 (List.mem_of_getElem? (i := 238) rfl)) rfl
theorem wiX9_part : Cond.instanceMethod yX9_part ∈ gw := gw_k (tk8 (List.mem_of_getElem? (i := 0) rfl)) rfl
theorem wcX9_part : Cond.code yX9_part cX9_part 8 (Option.some Jvm.ClassFile.FieldType.long) ∈ gw := gw_k (tk8 (List.mem_of_getElem? (i := 1) rfl)) rfl
theorem wmL_131 : Cond.methodLink RL 131 yX9_life ∈ gw := gw_k (tk8 (List.mem_of_getElem? (i := 2) rfl)) rfl
theorem wiX9_life : Cond.instanceMethod yX9_life ∈ gw := gw_k (tk8 (List.mem_of_getElem? (i := 3) rfl)) rfl
theorem weX9_life : Cond.selects RX9 yX9_life yX9_life ∈ gw := gw_k (tk8 (List.mem_of_getElem? (i := 4) rfl)) rfl
theorem wcX9_life : Cond.code yX9_life cX9_life 6 (Option.some Jvm.ClassFile.FieldType.long) ∈ gw := gw_k (tk8 (List.mem_of_getElem? (i := 5) rfl)) rfl
theorem wmL_135 : Cond.methodLink RL 135 yX9_states ∈ gw := gw_k (tk8 (List.mem_of_getElem? (i := 6) rfl)) rfl
theorem wiX9_states : Cond.instanceMethod yX9_states ∈ gw := gw_k (tk8 (List.mem_of_getElem? (i := 7) rfl)) rfl
theorem weX9_states : Cond.selects RX9 yX9_states yX9_states ∈ gw := gw_k (tk8 (List.mem_of_getElem? (i := 8) rfl)) rfl
theorem wcX9_states : Cond.code yX9_states cX9_states 5 (Option.some Jvm.ClassFile.FieldType.int) ∈ gw := gw_k (tk8 (List.mem_of_getElem? (i := 9) rfl)) rfl
theorem wmL_140 : Cond.methodLink RL 140 yX9_first ∈ gw := gw_k (tk8 (List.mem_of_getElem? (i := 10) rfl)) rfl
theorem wiX9_first : Cond.instanceMethod yX9_first ∈ gw := gw_k (tk8 (List.mem_of_getElem? (i := 11) rfl)) rfl
theorem weX9_first : Cond.selects RX9 yX9_first yX9_first ∈ gw := gw_k (tk8 (List.mem_of_getElem? (i := 12) rfl)) rfl
theorem wcX9_first : Cond.code yX9_first cX9_first 6 (Option.some Jvm.ClassFile.FieldType.int) ∈ gw := gw_k (tk8 (List.mem_of_getElem? (i := 13) rfl)) rfl
theorem wmL_211 : Cond.methodLink RL 211 yX9_days ∈ gw := gw_k (tk8 (List.mem_of_getElem? (i := 14) rfl)) rfl
theorem wiX9_days : Cond.instanceMethod yX9_days ∈ gw := gw_k (tk8 (List.mem_of_getElem? (i := 15) rfl)) rfl
theorem weX9_days : Cond.selects RX9 yX9_days yX9_days ∈ gw := gw_k (tk8 (List.mem_of_getElem? (i := 16) rfl)) rfl
theorem wcX9_days : Cond.code yX9_days cX9_days 5 (Option.some Jvm.ClassFile.FieldType.int) ∈ gw := gw_k (tk8 (List.mem_of_getElem? (i := 17) rfl)) rfl
theorem wmL_215 : Cond.methodLink RL 215 yX9_table ∈ gw := gw_k (tk8 (List.mem_of_getElem? (i := 18) rfl)) rfl
theorem wiX9_table : Cond.instanceMethod yX9_table ∈ gw := gw_k (tk8 (List.mem_of_getElem? (i := 19) rfl)) rfl
theorem weX9_table : Cond.selects RX9 yX9_table yX9_table ∈ gw := gw_k (tk8 (List.mem_of_getElem? (i := 20) rfl)) rfl
theorem wcX9_table : Cond.code yX9_table cX9_table 10 (Option.some Jvm.ClassFile.FieldType.long) ∈ gw := gw_k (tk8 (List.mem_of_getElem? (i := 21) rfl)) rfl
theorem wmL_144 : Cond.methodLink RL 144 yX9_held ∈ gw := gw_k (tk8 (List.mem_of_getElem? (i := 22) rfl)) rfl
theorem wiX9_held : Cond.instanceMethod yX9_held ∈ gw := gw_k (tk8 (List.mem_of_getElem? (i := 23) rfl)) rfl
theorem weX9_held : Cond.selects RX9 yX9_held yX9_held ∈ gw := gw_k (tk8 (List.mem_of_getElem? (i := 24) rfl)) rfl
theorem wcX9_held : Cond.code yX9_held cX9_held 2 (Option.some Jvm.ClassFile.FieldType.long) ∈ gw := gw_k (tk8 (List.mem_of_getElem? (i := 25) rfl)) rfl
theorem wmX9_382 : Cond.methodLink RX9 382 yX9_rise ∈ gw := gw_k (tk8 (List.mem_of_getElem? (i := 26) rfl)) rfl
theorem wiX9_rise : Cond.instanceMethod yX9_rise ∈ gw := gw_k (tk8 (List.mem_of_getElem? (i := 28) rfl)) rfl
theorem wcX9_rise : Cond.code yX9_rise cX9_rise 1 (Option.some Jvm.ClassFile.FieldType.long) ∈ gw := gw_k (tk8 (List.mem_of_getElem? (i := 29) rfl)) rfl
theorem wkX9_386 : Cond.constantLong RX9 386 (-3) ∈ gw := gw_k (tk8 (List.mem_of_getElem? (i := 30) rfl)) rfl
theorem wmX9_388 : Cond.methodLink RX9 388 yX9_heldOf ∈ gw := gw_k (tk8 (List.mem_of_getElem? (i := 31) rfl)) rfl
theorem wiX9_heldOf : Cond.instanceMethod yX9_heldOf ∈ gw := gw_k (tk8 (List.mem_of_getElem? (i := 33) rfl)) rfl
theorem wcX9_heldOf : Cond.code yX9_heldOf cX9_heldOf 6 (Option.some Jvm.ClassFile.FieldType.long) ∈ gw := gw_k (tk8 (List.mem_of_getElem? (i := 34) rfl)) rfl
theorem wmL_219 : Cond.methodLink RL 219 yX9_hedged ∈ gw := gw_k (tk8 (List.mem_of_getElem? (i := 35) rfl)) rfl
theorem wiX9_hedged : Cond.instanceMethod yX9_hedged ∈ gw := gw_k (tk8 (List.mem_of_getElem? (i := 36) rfl)) rfl
theorem weX9_hedged : Cond.selects RX9 yX9_hedged yX9_hedged ∈ gw := gw_k (tk8 (List.mem_of_getElem? (i := 37) rfl)) rfl
theorem wcX9_hedged : Cond.code yX9_hedged cX9_hedged 9 (Option.some Jvm.ClassFile.FieldType.long) ∈ gw := gw_k (tk8 (List.mem_of_getElem? (i := 38) rfl)) rfl
theorem wkX9_391 : Cond.constantLong RX9 391 (100000) ∈ gw := gw_k (tk8 (List.mem_of_getElem? (i := 39) rfl)) rfl
theorem wkX9_393 : Cond.constantLong RX9 393 (-100000) ∈ gw := gw_k (tk8 (List.mem_of_getElem? (i := 40) rfl)) rfl
theorem wmL_151 : Cond.methodLink RL 151 yX9_fairCoupon ∈ gw := gw_k (tk8 (List.mem_of_getElem? (i := 41) rfl)) rfl
theorem wiX9_fairCoupon : Cond.instanceMethod yX9_fairCoupon ∈ gw := gw_k (tk8 (List.mem_of_getElem? (i := 42) rfl)) rfl
theorem weX9_fairCoupon : Cond.selects RX9 yX9_fairCoupon yX9_fairCoupon ∈ gw := gw_k (tk8 (List.mem_of_getElem? (i := 43) rfl)) rfl
theorem wcX9_fairCoupon : Cond.code yX9_fairCoupon cX9_fairCoupon 4 (Option.some Jvm.ClassFile.FieldType.int) ∈ gw := gw_k (tk8 (List.mem_of_getElem? (i := 44) rfl)) rfl
theorem wmX9_399 : Cond.methodLink RX9 399 yX9_fair ∈ gw := gw_k (tk8 (List.mem_of_getElem? (i := 45) rfl)) rfl
theorem wiX9_fair : Cond.instanceMethod yX9_fair ∈ gw := gw_k (tk8 (List.mem_of_getElem? (i := 47) rfl)) rfl
theorem wcX9_fair : Cond.code yX9_fair cX9_fair 8 (Option.some Jvm.ClassFile.FieldType.int) ∈ gw := gw_k (tk8 (List.mem_of_getElem? (i := 48) rfl)) rfl
theorem wmX9_395 : Cond.methodLink RX9 395 yX9_valueWith ∈ gw := gw_k (tk8 (List.mem_of_getElem? (i := 49) rfl)) rfl
theorem wiX9_valueWith : Cond.instanceMethod yX9_valueWith ∈ gw := gw_k (tk8 (List.mem_of_getElem? (i := 51) rfl)) rfl
theorem wcX9_valueWith : Cond.code yX9_valueWith cX9_valueWith 4 (Option.some Jvm.ClassFile.FieldType.long) ∈ gw := gw_k (tk8 (List.mem_of_getElem? (i := 52) rfl)) rfl
theorem wmL_155 : Cond.methodLink RL 155 yX9_fairRatio ∈ gw := gw_k (tk8 (List.mem_of_getElem? (i := 53) rfl)) rfl
theorem wiX9_fairRatio : Cond.instanceMethod yX9_fairRatio ∈ gw := gw_k (tk8 (List.mem_of_getElem? (i := 54) rfl)) rfl
theorem weX9_fairRatio : Cond.selects RX9 yX9_fairRatio yX9_fairRatio ∈ gw := gw_k (tk8 (List.mem_of_getElem? (i := 55) rfl)) rfl
theorem wcX9_fairRatio : Cond.code yX9_fairRatio cX9_fairRatio 4 (Option.some Jvm.ClassFile.FieldType.int) ∈ gw := gw_k (tk8 (List.mem_of_getElem? (i := 56) rfl)) rfl
theorem wmL_167 : Cond.methodLink RL 167 yX9_fairRate ∈ gw := gw_k (tk8 (List.mem_of_getElem? (i := 57) rfl)) rfl
theorem wiX9_fairRate : Cond.instanceMethod yX9_fairRate ∈ gw := gw_k (tk8 (List.mem_of_getElem? (i := 58) rfl)) rfl
theorem weX9_fairRate : Cond.selects RX9 yX9_fairRate yX9_fairRate ∈ gw := gw_k (tk8 (List.mem_of_getElem? (i := 59) rfl)) rfl
theorem wcX9_fairRate : Cond.code yX9_fairRate cX9_fairRate 5 (Option.some Jvm.ClassFile.FieldType.int) ∈ gw := gw_k (tk8 (List.mem_of_getElem? (i := 60) rfl)) rfl
theorem wmL_159 : Cond.methodLink RL 159 yX9_bestCall ∈ gw := gw_k (tk8 (List.mem_of_getElem? (i := 61) rfl)) rfl
theorem wiX9_bestCall : Cond.instanceMethod yX9_bestCall ∈ gw := gw_k (tk8 (List.mem_of_getElem? (i := 62) rfl)) rfl
theorem weX9_bestCall : Cond.selects RX9 yX9_bestCall yX9_bestCall ∈ gw := gw_k (tk8 (List.mem_of_getElem? (i := 63) rfl)) rfl
theorem wcX9_bestCall : Cond.code yX9_bestCall cX9_bestCall 4 (Option.some Jvm.ClassFile.FieldType.long) ∈ gw := gw_k (tk8 (List.mem_of_getElem? (i := 64) rfl)) rfl
theorem wmX9_403 : Cond.methodLink RX9 403 yX9_bestOne ∈ gw := gw_k (tk8 (List.mem_of_getElem? (i := 65) rfl)) rfl
theorem wiX9_bestOne : Cond.instanceMethod yX9_bestOne ∈ gw := gw_k (tk8 (List.mem_of_getElem? (i := 67) rfl)) rfl
theorem wcX9_bestOne : Cond.code yX9_bestOne cX9_bestOne 11 (Option.some Jvm.ClassFile.FieldType.long) ∈ gw := gw_k (tk8 (List.mem_of_getElem? (i := 68) rfl)) rfl
theorem wmL_163 : Cond.methodLink RL 163 yX9_bestPut ∈ gw := gw_k (tk8 (List.mem_of_getElem? (i := 69) rfl)) rfl
theorem wiX9_bestPut : Cond.instanceMethod yX9_bestPut ∈ gw := gw_k (tk8 (List.mem_of_getElem? (i := 70) rfl)) rfl
theorem weX9_bestPut : Cond.selects RX9 yX9_bestPut yX9_bestPut ∈ gw := gw_k (tk8 (List.mem_of_getElem? (i := 71) rfl)) rfl
theorem wcX9_bestPut : Cond.code yX9_bestPut cX9_bestPut 4 (Option.some Jvm.ClassFile.FieldType.long) ∈ gw := gw_k (tk8 (List.mem_of_getElem? (i := 72) rfl)) rfl
theorem wmL_171 : Cond.methodLink RL 171 yX9_instead ∈ gw := gw_k (tk8 (List.mem_of_getElem? (i := 73) rfl)) rfl
theorem wiX9_instead : Cond.instanceMethod yX9_instead ∈ gw := gw_k (tk8 (List.mem_of_getElem? (i := 74) rfl)) rfl
theorem weX9_instead : Cond.selects RX9 yX9_instead yX9_instead ∈ gw := gw_k (tk8 (List.mem_of_getElem? (i := 75) rfl)) rfl
theorem wcX9_instead : Cond.code yX9_instead cX9_instead 3 (Option.some Jvm.ClassFile.FieldType.long) ∈ gw := gw_k (tk8 (List.mem_of_getElem? (i := 76) rfl)) rfl
theorem wmX9_406 : Cond.methodLink RX9 406 yX9_givesBy ∈ gw := gw_k (tk8 (List.mem_of_getElem? (i := 77) rfl)) rfl
theorem wiX9_givesBy : Cond.instanceMethod yX9_givesBy ∈ gw := gw_k (tk8 (List.mem_of_getElem? (i := 79) rfl)) rfl
theorem wcX9_givesBy : Cond.code yX9_givesBy cX9_givesBy 5 (Option.some Jvm.ClassFile.FieldType.long) ∈ gw := gw_k (tk8 (List.mem_of_getElem? (i := 80) rfl)) rfl
theorem wmL_176 : Cond.methodLink RL 176 yX9_shifted ∈ gw := gw_k (tk8 (List.mem_of_getElem? (i := 81) rfl)) rfl
theorem wiX9_shifted : Cond.instanceMethod yX9_shifted ∈ gw := gw_k (tk8 (List.mem_of_getElem? (i := 82) rfl)) rfl
theorem weX9_shifted : Cond.selects RX9 yX9_shifted yX9_shifted ∈ gw := gw_k (tk8 (List.mem_of_getElem? (i := 83) rfl)) rfl
theorem wcX9_shifted : Cond.code yX9_shifted cX9_shifted 5 (Option.some Jvm.ClassFile.FieldType.long) ∈ gw := gw_k (tk8 (List.mem_of_getElem? (i := 84) rfl)) rfl
theorem wmL_180 : Cond.methodLink RL 180 yX9_open ∈ gw := gw_k (tk8 (List.mem_of_getElem? (i := 85) rfl)) rfl
theorem wiX9_open : Cond.instanceMethod yX9_open ∈ gw := gw_k (tk8 (List.mem_of_getElem? (i := 86) rfl)) rfl
theorem weX9_open : Cond.selects RX9 yX9_open yX9_open ∈ gw := gw_k (tk8 (List.mem_of_getElem? (i := 87) rfl)) rfl
theorem wcX9_open : Cond.code yX9_open cX9_open 3 (Option.some Jvm.ClassFile.FieldType.long) ∈ gw := gw_k (tk8 (List.mem_of_getElem? (i := 88) rfl)) rfl
theorem wmX9_425 : Cond.methodLink RX9 425 yX9_standsByHand ∈ gw := gw_k (tk8 (List.mem_of_getElem? (i := 89) rfl)) rfl
theorem wiX9_standsByHand : Cond.instanceMethod yX9_standsByHand ∈ gw := gw_k (tk8 (List.mem_of_getElem? (i := 91) rfl)) rfl
theorem wcX9_standsByHand : Cond.code yX9_standsByHand cX9_standsByHand 2 (Option.none : Option Jvm.ClassFile.FieldType) ∈ gw := gw_k (tk8 (List.mem_of_getElem? (i := 92) rfl)) rfl
theorem wmL_185 : Cond.methodLink RL 185 yX9_go ∈ gw := gw_k (tk8 (List.mem_of_getElem? (i := 93) rfl)) rfl
theorem wiX9_go : Cond.instanceMethod yX9_go ∈ gw := gw_k (tk8 (List.mem_of_getElem? (i := 94) rfl)) rfl
theorem weX9_go : Cond.selects RX9 yX9_go yX9_go ∈ gw := gw_k (tk8 (List.mem_of_getElem? (i := 95) rfl)) rfl
theorem wcX9_go : Cond.code yX9_go cX9_go 2 (Option.some Jvm.ClassFile.FieldType.int) ∈ gw := gw_k (tk8 (List.mem_of_getElem? (i := 96) rfl)) rfl
theorem wmX9_428 : Cond.methodLink RX9 428 yX9_regrets ∈ gw := gw_k (tk8 (List.mem_of_getElem? (i := 97) rfl)) rfl
theorem wiX9_regrets : Cond.instanceMethod yX9_regrets ∈ gw := gw_k (tk8 (List.mem_of_getElem? (i := 99) rfl)) rfl
theorem wcX9_regrets : Cond.code yX9_regrets cX9_regrets 4 (Option.none : Option Jvm.ClassFile.FieldType) ∈ gw := gw_k (tk8 (List.mem_of_getElem? (i := 100) rfl)) rfl
theorem wmL_189 : Cond.methodLink RL 189 yX9_does ∈ gw := gw_k (tk8 (List.mem_of_getElem? (i := 101) rfl)) rfl
theorem wiX9_does : Cond.instanceMethod yX9_does ∈ gw := gw_k (tk8 (List.mem_of_getElem? (i := 102) rfl)) rfl
theorem weX9_does : Cond.selects RX9 yX9_does yX9_does ∈ gw := gw_k (tk8 (List.mem_of_getElem? (i := 103) rfl)) rfl
theorem wcX9_does : Cond.code yX9_does cX9_does 4 (Option.some Jvm.ClassFile.FieldType.long) ∈ gw := gw_k (tk8 (List.mem_of_getElem? (i := 104) rfl)) rfl
theorem wmL_193 : Cond.methodLink RL 193 yX9_byHand ∈ gw := gw_k (tk8 (List.mem_of_getElem? (i := 105) rfl)) rfl
theorem wiX9_byHand : Cond.instanceMethod yX9_byHand ∈ gw := gw_k (tk8 (List.mem_of_getElem? (i := 106) rfl)) rfl
theorem weX9_byHand : Cond.selects RX9 yX9_byHand yX9_byHand ∈ gw := gw_k (tk8 (List.mem_of_getElem? (i := 107) rfl)) rfl
theorem wcX9_byHand : Cond.code yX9_byHand cX9_byHand 2 (Option.some Jvm.ClassFile.FieldType.long) ∈ gw := gw_k (tk8 (List.mem_of_getElem? (i := 108) rfl)) rfl
theorem wmL_198 : Cond.methodLink RL 198 yX9_byRule ∈ gw := gw_k (tk8 (List.mem_of_getElem? (i := 109) rfl)) rfl
theorem wiX9_byRule : Cond.instanceMethod yX9_byRule ∈ gw := gw_k (tk8 (List.mem_of_getElem? (i := 110) rfl)) rfl
theorem weX9_byRule : Cond.selects RX9 yX9_byRule yX9_byRule ∈ gw := gw_k (tk8 (List.mem_of_getElem? (i := 111) rfl)) rfl
theorem wcX9_byRule : Cond.code yX9_byRule cX9_byRule 9 (Option.some Jvm.ClassFile.FieldType.long) ∈ gw := gw_k (tk8 (List.mem_of_getElem? (i := 112) rfl)) rfl
theorem wmX9_431 : Cond.methodLink RX9 431 yX9_laysByRule ∈ gw := gw_k (tk8 (List.mem_of_getElem? (i := 113) rfl)) rfl
theorem wiX9_laysByRule : Cond.instanceMethod yX9_laysByRule ∈ gw := gw_k (tk8 (List.mem_of_getElem? (i := 115) rfl)) rfl
theorem wcX9_laysByRule : Cond.code yX9_laysByRule cX9_laysByRule 11 (Option.none : Option Jvm.ClassFile.FieldType) ∈ gw := gw_k (tk8 (List.mem_of_getElem? (i := 116) rfl)) rfl
theorem wmL_202 : Cond.methodLink RL 202 yX9_run ∈ gw := gw_k (tk8 (List.mem_of_getElem? (i := 117) rfl)) rfl
theorem wiX9_run : Cond.instanceMethod yX9_run ∈ gw := gw_k (tk8 (List.mem_of_getElem? (i := 118) rfl)) rfl
theorem weX9_run : Cond.selects RX9 yX9_run yX9_run ∈ gw := gw_k (tk8 (List.mem_of_getElem? (i := 119) rfl)) rfl
theorem wcX9_run : Cond.code yX9_run cX9_run 8 (Option.some Jvm.ClassFile.FieldType.long) ∈ gw := gw_k (tk8 (List.mem_of_getElem? (i := 120) rfl)) rfl
theorem wmX9_435 : Cond.methodLink RX9 435 yX9_swaps ∈ gw := gw_k (tk8 (List.mem_of_getElem? (i := 121) rfl)) rfl
theorem wiX9_swaps : Cond.instanceMethod yX9_swaps ∈ gw := gw_k (tk8 (List.mem_of_getElem? (i := 123) rfl)) rfl
theorem wcX9_swaps : Cond.code yX9_swaps cX9_swaps 3 (Option.none : Option Jvm.ClassFile.FieldType) ∈ gw := gw_k (tk8 (List.mem_of_getElem? (i := 124) rfl)) rfl
theorem wmL_207 : Cond.methodLink RL 207 yX9_extreme ∈ gw := gw_k (tk8 (List.mem_of_getElem? (i := 125) rfl)) rfl
theorem wiX9_extreme : Cond.instanceMethod yX9_extreme ∈ gw := gw_k (tk8 (List.mem_of_getElem? (i := 126) rfl)) rfl
theorem weX9_extreme : Cond.selects RX9 yX9_extreme yX9_extreme ∈ gw := gw_k (tk8 (List.mem_of_getElem? (i := 127) rfl)) rfl
theorem wcX9_extreme : Cond.code yX9_extreme cX9_extreme 9 (Option.some Jvm.ClassFile.FieldType.long) ∈ gw := gw_k (tk8 (List.mem_of_getElem? (i := 128) rfl)) rfl
theorem wmL_227 : Cond.methodLink RL 227 yX9_alike ∈ gw := gw_k (tk8 (List.mem_of_getElem? (i := 129) rfl)) rfl
theorem wiX9_alike : Cond.instanceMethod yX9_alike ∈ gw := gw_k (tk8 (List.mem_of_getElem? (i := 130) rfl)) rfl
theorem weX9_alike : Cond.selects RX9 yX9_alike yX9_alike ∈ gw := gw_k (tk8 (List.mem_of_getElem? (i := 131) rfl)) rfl
theorem wcX9_alike : Cond.code yX9_alike cX9_alike 10 (Option.some Jvm.ClassFile.FieldType.int) ∈ gw := gw_k (tk8 (List.mem_of_getElem? (i := 132) rfl)) rfl
theorem wmL_231 : Cond.methodLink RL 231 yX9_best ∈ gw := gw_k (tk8 (List.mem_of_getElem? (i := 133) rfl)) rfl
theorem wiX9_best : Cond.instanceMethod yX9_best ∈ gw := gw_k (tk8 (List.mem_of_getElem? (i := 134) rfl)) rfl
theorem weX9_best : Cond.selects RX9 yX9_best yX9_best ∈ gw := gw_k (tk8 (List.mem_of_getElem? (i := 135) rfl)) rfl
theorem wcX9_best : Cond.code yX9_best cX9_best 8 (Option.some Jvm.ClassFile.FieldType.int) ∈ gw := gw_k (tk8 (List.mem_of_getElem? (i := 136) rfl)) rfl
theorem wmL_235 : Cond.methodLink RL 235 yX9_book ∈ gw := gw_k (tk8 (List.mem_of_getElem? (i := 137) rfl)) rfl
theorem wiX9_book : Cond.instanceMethod yX9_book ∈ gw := gw_k (tk8 (List.mem_of_getElem? (i := 138) rfl)) rfl
theorem weX9_book : Cond.selects RX9 yX9_book yX9_book ∈ gw := gw_k (tk8 (List.mem_of_getElem? (i := 139) rfl)) rfl
theorem wcX9_book : Cond.code yX9_book cX9_book 6 (Option.some Jvm.ClassFile.FieldType.long) ∈ gw := gw_k (tk8 (List.mem_of_getElem? (i := 140) rfl)) rfl
theorem wkX9_438 : Cond.constantLong RX9 438 (-100) ∈ gw := gw_k (tk8 (List.mem_of_getElem? (i := 141) rfl)) rfl
theorem wmL_239 : Cond.methodLink RL 239 yX9_count ∈ gw := gw_k (tk8 (List.mem_of_getElem? (i := 142) rfl)) rfl
theorem wiX9_count : Cond.instanceMethod yX9_count ∈ gw := gw_k (tk8 (List.mem_of_getElem? (i := 143) rfl)) rfl
theorem weX9_count : Cond.selects RX9 yX9_count yX9_count ∈ gw := gw_k (tk8 (List.mem_of_getElem? (i := 144) rfl)) rfl
theorem wcX9_count : Cond.code yX9_count cX9_count 2 (Option.some Jvm.ClassFile.FieldType.int) ∈ gw := gw_k (tk8 (List.mem_of_getElem? (i := 145) rfl)) rfl
theorem wkX9_452 : Cond.constantLong RX9 452 (8) ∈ gw := gw_k (tk8 (List.mem_of_getElem? (i := 146) rfl)) rfl
theorem wmL_244 : Cond.methodLink RL 244 yX9_keep ∈ gw := gw_k (tk8 (List.mem_of_getElem? (i := 147) rfl)) rfl
theorem wiX9_keep : Cond.instanceMethod yX9_keep ∈ gw := gw_k (tk8 (List.mem_of_getElem? (i := 148) rfl)) rfl
theorem weX9_keep : Cond.selects RX9 yX9_keep yX9_keep ∈ gw := gw_k (tk8 (List.mem_of_getElem? (i := 149) rfl)) rfl
theorem wcX9_keep : Cond.code yX9_keep cX9_keep 1 (Option.some Jvm.ClassFile.FieldType.int) ∈ gw := gw_k (tk8 (List.mem_of_getElem? (i := 150) rfl)) rfl
theorem wmX9_454 : Cond.methodLink RX9 454 yX9_keepsAll ∈ gw := gw_k (tk8 (List.mem_of_getElem? (i := 151) rfl)) rfl
theorem wiX9_keepsAll : Cond.instanceMethod yX9_keepsAll ∈ gw := gw_k (tk8 (List.mem_of_getElem? (i := 153) rfl)) rfl
theorem wcX9_keepsAll : Cond.code yX9_keepsAll cX9_keepsAll 3 (Option.none : Option Jvm.ClassFile.FieldType) ∈ gw := gw_k (tk8 (List.mem_of_getElem? (i := 154) rfl)) rfl
theorem wmX9_449 : Cond.methodLink RX9 449 yX9_keeps ∈ gw := gw_k (tk8 (List.mem_of_getElem? (i := 155) rfl)) rfl
theorem wiX9_keeps : Cond.instanceMethod yX9_keeps ∈ gw := gw_k (tk8 (List.mem_of_getElem? (i := 157) rfl)) rfl
theorem wcX9_keeps : Cond.code yX9_keeps cX9_keeps 2 (Option.some Jvm.ClassFile.FieldType.int) ∈ gw := gw_k (tk8 (List.mem_of_getElem? (i := 158) rfl)) rfl
theorem wmL_248 : Cond.methodLink RL 248 yX9_undo ∈ gw := gw_k (tk8 (List.mem_of_getElem? (i := 159) rfl)) rfl
theorem wiX9_undo : Cond.instanceMethod yX9_undo ∈ gw := gw_k (tk8 (List.mem_of_getElem? (i := 160) rfl)) rfl
theorem weX9_undo : Cond.selects RX9 yX9_undo yX9_undo ∈ gw := gw_k (tk8 (List.mem_of_getElem? (i := 161) rfl)) rfl
theorem wcX9_undo : Cond.code yX9_undo cX9_undo 1 (Option.some Jvm.ClassFile.FieldType.int) ∈ gw := gw_k (tk8 (List.mem_of_getElem? (i := 162) rfl)) rfl
theorem wkL_145 : Cond.constantLong RL 145 (4294967295) ∈ gw := gw_k (tk8 (List.mem_of_getElem? (i := 163) rfl)) rfl
theorem inX0 : ∀ w ∈ wsX00, w ∈ gw := by decide +kernel
theorem inX1 : ∀ w ∈ wsX10, w ∈ gw := by decide +kernel
theorem inX2 : ∀ w ∈ wsX20, w ∈ gw := by decide +kernel
theorem inX3 : ∀ w ∈ wsX30, w ∈ gw := by decide +kernel
theorem inX4 : ∀ w ∈ wsX40, w ∈ gw := by decide +kernel
theorem inX5 : ∀ w ∈ wsX50, w ∈ gw := by decide +kernel
theorem inX6 : ∀ w ∈ wsX60, w ∈ gw := by decide +kernel
theorem inX7 : ∀ w ∈ wsX70, w ∈ gw := by decide +kernel
theorem inX8 : ∀ w ∈ wsX80, w ∈ gw := by decide +kernel
theorem inX9a : ∀ w ∈ wsX90, w ∈ tables_1_6 := by decide +kernel
theorem inX9b : ∀ w ∈ wsX90, goodWord w = true := by decide +kernel
theorem inX9 : ∀ w ∈ wsX90, w ∈ gw := fun w hw => gw_k (tk6 (inX9a w hw)) (inX9b w hw)
