section A4b
theorem i_0 : Cond.selects RX4 yX4_isNext yX4_isNext ∈ GW := gw_in (List.mem_of_getElem? (i := 0) (by decide +kernel)) rfl
theorem i_1 : Cond.selects RX4 yX4_readCode yX4_readCode ∈ GW := gw_in (List.mem_of_getElem? (i := 1) (by decide +kernel)) rfl
theorem i_2 : Cond.selects RX4 yX4_readNumber yX4_readNumber ∈ GW := gw_in (List.mem_of_getElem? (i := 2) (by decide +kernel)) rfl
theorem i_3 : Cond.selects RX4 yX4_readKey yX4_readKey ∈ GW := gw_in (List.mem_of_getElem? (i := 3) (by decide +kernel)) rfl
theorem i_4 : Cond.selects RX6 yX6_soundCodes yX6_soundCodes ∈ GW := gw_in (List.mem_of_getElem? (i := 4) (by decide +kernel)) rfl
theorem i_5 : Cond.selects RX6 yX6_isSound yX6_isSound ∈ GW := gw_in (List.mem_of_getElem? (i := 5) (by decide +kernel)) rfl
theorem i_6 : Cond.selects RX6 yX6_freeCodes yX6_freeCodes ∈ GW := gw_in (List.mem_of_getElem? (i := 6) (by decide +kernel)) rfl
theorem i_7 : Cond.selects RX6 yX6_isFree yX6_isFree ∈ GW := gw_in (List.mem_of_getElem? (i := 7) (by decide +kernel)) rfl
theorem i_8 : Cond.selects RX6 yX6_reasonByKeys yX6_reasonByKeys ∈ GW := gw_in (List.mem_of_getElem? (i := 8) (by decide +kernel)) rfl
theorem i_9 : Cond.selects RX6 yX6_mixCounts yX6_mixCounts ∈ GW := gw_in (List.mem_of_getElem? (i := 9) (by decide +kernel)) rfl
theorem i_10 : Cond.selects RX6 yX6_lostKeys yX6_lostKeys ∈ GW := gw_in (List.mem_of_getElem? (i := 10) (by decide +kernel)) rfl
theorem i_11 : Cond.selects RX6 yX6_lockCount yX6_lockCount ∈ GW := gw_in (List.mem_of_getElem? (i := 11) (by decide +kernel)) rfl
theorem i_12 : Cond.selects RX6 yX6_isLock yX6_isLock ∈ GW := gw_in (List.mem_of_getElem? (i := 12) (by decide +kernel)) rfl
theorem i_13 : Cond.selects RX6 yX6_crossedPairs yX6_crossedPairs ∈ GW := gw_in (List.mem_of_getElem? (i := 13) (by decide +kernel)) rfl
theorem i_15 : Cond.selects RX6 yX6_mixKeys yX6_mixKeys ∈ GW := gw_in (List.mem_of_getElem? (i := 15) (by decide +kernel)) rfl
theorem i_16 : Cond.selects RX6 yX6_isKey yX6_isKey ∈ GW := gw_in (List.mem_of_getElem? (i := 16) (by decide +kernel)) rfl
theorem i_17 : Cond.selects RX6 yX6_locksOpenedBy yX6_locksOpenedBy ∈ GW := gw_in (List.mem_of_getElem? (i := 17) (by decide +kernel)) rfl
theorem i_18 : Cond.selects RX6 yX6_opens yX6_opens ∈ GW := gw_in (List.mem_of_getElem? (i := 18) (by decide +kernel)) rfl
theorem i_19 : Cond.selects RX6 yX6_keysOver yX6_keysOver ∈ GW := gw_in (List.mem_of_getElem? (i := 19) (by decide +kernel)) rfl
theorem i_20 : Cond.selects RX6 yX6_keysUnder yX6_keysUnder ∈ GW := gw_in (List.mem_of_getElem? (i := 20) (by decide +kernel)) rfl
theorem i_21 : Cond.selects RX6 yX6_reasonAgainstDeeper yX6_reasonAgainstDeeper ∈ GW := gw_in (List.mem_of_getElem? (i := 21) (by decide +kernel)) rfl
theorem i_22 : Cond.selects RX6 yX6_crossesAnother yX6_crossesAnother ∈ GW := gw_in (List.mem_of_getElem? (i := 22) (by decide +kernel)) rfl
theorem i_23 : Cond.selects RX6 yX6_codeBehindUse yX6_codeBehindUse ∈ GW := gw_in (List.mem_of_getElem? (i := 23) (by decide +kernel)) rfl
theorem i_24 : Cond.selects RX6 yX6_mixLocksAndPersons yX6_mixLocksAndPersons ∈ GW := gw_in (List.mem_of_getElem? (i := 24) (by decide +kernel)) rfl
theorem i_25 : Cond.selects RX6 yX6_keysOpening yX6_keysOpening ∈ GW := gw_in (List.mem_of_getElem? (i := 25) (by decide +kernel)) rfl
theorem i_26 : Cond.selects RX6 yX6_whoCouldOpen yX6_whoCouldOpen ∈ GW := gw_in (List.mem_of_getElem? (i := 26) (by decide +kernel)) rfl
theorem i_27 : Cond.selects RX6 yX6_keysOf yX6_keysOf ∈ GW := gw_in (List.mem_of_getElem? (i := 27) (by decide +kernel)) rfl
theorem i_28 : Cond.selects RX6 yX6_locksFor yX6_locksFor ∈ GW := gw_in (List.mem_of_getElem? (i := 28) (by decide +kernel)) rfl
theorem i_29 : Cond.selects RX6 yX6_mixCodesAndLevels yX6_mixCodesAndLevels ∈ GW := gw_in (List.mem_of_getElem? (i := 29) (by decide +kernel)) rfl
theorem i_30 : Cond.selects RX6 yX6_reasonAgainstCut yX6_reasonAgainstCut ∈ GW := gw_in (List.mem_of_getElem? (i := 30) (by decide +kernel)) rfl
theorem i_31 : Cond.selects RX6 yX6_soundCodesOver yX6_soundCodesOver ∈ GW := gw_in (List.mem_of_getElem? (i := 31) (by decide +kernel)) rfl
theorem i_32 : Cond.selects RX6 yX6_soundCodesUnder yX6_soundCodesUnder ∈ GW := gw_in (List.mem_of_getElem? (i := 32) (by decide +kernel)) rfl
theorem i_33 : Cond.selects RX6 yX6_soundCodesOf yX6_soundCodesOf ∈ GW := gw_in (List.mem_of_getElem? (i := 33) (by decide +kernel)) rfl
theorem i_34 : Cond.selects RX6 yX6_freeCodesOf yX6_freeCodesOf ∈ GW := gw_in (List.mem_of_getElem? (i := 34) (by decide +kernel)) rfl
theorem i_35 : Cond.selects RX6 yX6_keysOfLevel yX6_keysOfLevel ∈ GW := gw_in (List.mem_of_getElem? (i := 35) (by decide +kernel)) rfl
theorem i_36 : Cond.selects RX6 yX6_leastFreeCodeOf yX6_leastFreeCodeOf ∈ GW := gw_in (List.mem_of_getElem? (i := 36) (by decide +kernel)) rfl
theorem i_37 : Cond.selects RX6 yX6_findMost yX6_findMost ∈ GW := gw_in (List.mem_of_getElem? (i := 37) (by decide +kernel)) rfl
theorem i_38 : Cond.selects RX0 yX0_findNext yX0_findNext ∈ GW := gw_in (List.mem_of_getElem? (i := 38) (by decide +kernel)) rfl
theorem i_39 : Cond.selects RX0 yX0_swapBack yX0_swapBack ∈ GW := gw_in (List.mem_of_getElem? (i := 39) (by decide +kernel)) rfl
theorem i_40 : Cond.selects RX0 yX0_leavesFullSet yX0_leavesFullSet ∈ GW := gw_in (List.mem_of_getElem? (i := 40) (by decide +kernel)) rfl
theorem i_41 : Cond.selects RX0 yX0_leftFrom yX0_leftFrom ∈ GW := gw_in (List.mem_of_getElem? (i := 41) (by decide +kernel)) rfl
theorem i_42 : Cond.selects RX0 yX0_canBeApart yX0_canBeApart ∈ GW := gw_in (List.mem_of_getElem? (i := 42) (by decide +kernel)) rfl
theorem i_43 : Cond.selects RX0 yX0_add yX0_add ∈ GW := gw_in (List.mem_of_getElem? (i := 43) (by decide +kernel)) rfl
theorem i_44 : Cond.selects RX6 yX6_save yX6_save ∈ GW := gw_in (List.mem_of_getElem? (i := 44) (by decide +kernel)) rfl
theorem i_45 : Cond.selects RX6 yX6_addKey yX6_addKey ∈ GW := gw_in (List.mem_of_getElem? (i := 45) (by decide +kernel)) rfl
theorem i_46 : Cond.selects RX6 yX6_cutDeeper yX6_cutDeeper ∈ GW := gw_in (List.mem_of_getElem? (i := 46) (by decide +kernel)) rfl
theorem i_47 : Cond.selects RX6 yX6_tryKey yX6_tryKey ∈ GW := gw_in (List.mem_of_getElem? (i := 47) (by decide +kernel)) rfl
theorem i_48 : Cond.selects RX6 yX6_doOrders yX6_doOrders ∈ GW := gw_in (List.mem_of_getElem? (i := 48) (by decide +kernel)) rfl
theorem i_49 : Cond.selects RX6 yX6_doOrder yX6_doOrder ∈ GW := gw_in (List.mem_of_getElem? (i := 49) (by decide +kernel)) rfl
theorem i_50 : Cond.selects RX6 yX6_doCut yX6_doCut ∈ GW := gw_in (List.mem_of_getElem? (i := 50) (by decide +kernel)) rfl
theorem i_51 : Cond.selects RX6 yX6_doDeepen yX6_doDeepen ∈ GW := gw_in (List.mem_of_getElem? (i := 51) (by decide +kernel)) rfl
theorem i_52 : Cond.selects RX6 yX6_doTry yX6_doTry ∈ GW := gw_in (List.mem_of_getElem? (i := 52) (by decide +kernel)) rfl
theorem i_53 : Cond.selects RX6 yX6_doMark yX6_doMark ∈ GW := gw_in (List.mem_of_getElem? (i := 53) (by decide +kernel)) rfl
theorem i_54 : Cond.selects RX6 yX6_hasAllLocks yX6_hasAllLocks ∈ GW := gw_in (List.mem_of_getElem? (i := 54) (by decide +kernel)) rfl
theorem i_55 : Cond.selects RX6 yX6_opensAll yX6_opensAll ∈ GW := gw_in (List.mem_of_getElem? (i := 55) (by decide +kernel)) rfl
theorem i_56 : Cond.selects RX7 yX7_fails yX7_fails ∈ GW := gw_in (List.mem_of_getElem? (i := 56) (by decide +kernel)) rfl
theorem i_57 : Cond.selects RX7 yX7_save yX7_save ∈ GW := gw_in (List.mem_of_getElem? (i := 57) (by decide +kernel)) rfl
theorem i_58 : Cond.selects RX7 yX7_whyNotCut yX7_whyNotCut ∈ GW := gw_in (List.mem_of_getElem? (i := 58) (by decide +kernel)) rfl
theorem i_59 : Cond.selects RX7 yX7_isSound yX7_isSound ∈ GW := gw_in (List.mem_of_getElem? (i := 59) (by decide +kernel)) rfl
theorem i_60 : Cond.selects RX7 yX7_clash yX7_clash ∈ GW := gw_in (List.mem_of_getElem? (i := 60) (by decide +kernel)) rfl
theorem i_61 : Cond.selects RX7 yX7_ofKey yX7_ofKey ∈ GW := gw_in (List.mem_of_getElem? (i := 61) (by decide +kernel)) rfl
theorem i_62 : Cond.selects RX7 yX7_doesCut yX7_doesCut ∈ GW := gw_in (List.mem_of_getElem? (i := 62) (by decide +kernel)) rfl
theorem i_63 : Cond.selects RX7 yX7_isKey yX7_isKey ∈ GW := gw_in (List.mem_of_getElem? (i := 63) (by decide +kernel)) rfl
theorem i_64 : Cond.selects RX7 yX7_whyNotDeeper yX7_whyNotDeeper ∈ GW := gw_in (List.mem_of_getElem? (i := 64) (by decide +kernel)) rfl
theorem i_65 : Cond.selects RX7 yX7_doesDeepen yX7_doesDeepen ∈ GW := gw_in (List.mem_of_getElem? (i := 65) (by decide +kernel)) rfl
theorem i_66 : Cond.selects RX7 yX7_setsLost yX7_setsLost ∈ GW := gw_in (List.mem_of_getElem? (i := 66) (by decide +kernel)) rfl
theorem i_67 : Cond.selects RX7 yX7_locksOf yX7_locksOf ∈ GW := gw_in (List.mem_of_getElem? (i := 67) (by decide +kernel)) rfl
theorem i_68 : Cond.selects RX7 yX7_opens yX7_opens ∈ GW := gw_in (List.mem_of_getElem? (i := 68) (by decide +kernel)) rfl
theorem i_69 : Cond.selects RX7 yX7_isLock yX7_isLock ∈ GW := gw_in (List.mem_of_getElem? (i := 69) (by decide +kernel)) rfl
theorem i_70 : Cond.selects RX7 yX7_ofLock yX7_ofLock ∈ GW := gw_in (List.mem_of_getElem? (i := 70) (by decide +kernel)) rfl
theorem i_71 : Cond.selects RX7 yX7_keysOf yX7_keysOf ∈ GW := gw_in (List.mem_of_getElem? (i := 71) (by decide +kernel)) rfl
theorem i_72 : Cond.selects RX7 yX7_doesTurn yX7_doesTurn ∈ GW := gw_in (List.mem_of_getElem? (i := 72) (by decide +kernel)) rfl
theorem i_73 : Cond.selects RX7 yX7_wears yX7_wears ∈ GW := gw_in (List.mem_of_getElem? (i := 73) (by decide +kernel)) rfl
theorem i_74 : Cond.selects RX7 yX7_findError yX7_findError ∈ GW := gw_in (List.mem_of_getElem? (i := 74) (by decide +kernel)) rfl
theorem i_75 : Cond.selects RX7 yX7_readsOrder yX7_readsOrder ∈ GW := gw_in (List.mem_of_getElem? (i := 75) (by decide +kernel)) rfl
theorem i_76 : Cond.selects RX7 yX7_next yX7_next ∈ GW := gw_in (List.mem_of_getElem? (i := 76) (by decide +kernel)) rfl
theorem i_77 : Cond.selects RX7 yX7_readsCode yX7_readsCode ∈ GW := gw_in (List.mem_of_getElem? (i := 77) (by decide +kernel)) rfl
theorem i_78 : Cond.selects RX7 yX7_readsDigit yX7_readsDigit ∈ GW := gw_in (List.mem_of_getElem? (i := 78) (by decide +kernel)) rfl
theorem i_79 : Cond.selects RX7 yX7_takes yX7_takes ∈ GW := gw_in (List.mem_of_getElem? (i := 79) (by decide +kernel)) rfl
theorem i_80 : Cond.selects RX7 yX7_readsKey yX7_readsKey ∈ GW := gw_in (List.mem_of_getElem? (i := 80) (by decide +kernel)) rfl
theorem i_81 : Cond.selects RX7 yX7_whyStopped yX7_whyStopped ∈ GW := gw_in (List.mem_of_getElem? (i := 81) (by decide +kernel)) rfl
theorem i_82 : Cond.selects RX7 yX7_doesOrder yX7_doesOrder ∈ GW := gw_in (List.mem_of_getElem? (i := 82) (by decide +kernel)) rfl
theorem i_83 : Cond.selects RX7 yX7_tellsKey yX7_tellsKey ∈ GW := gw_in (List.mem_of_getElem? (i := 83) (by decide +kernel)) rfl
theorem i_84 : Cond.selects RX7 yX7_codesBeside yX7_codesBeside ∈ GW := gw_in (List.mem_of_getElem? (i := 84) (by decide +kernel)) rfl
theorem i_85 : Cond.selects RX7 yX7_tellsLock yX7_tellsLock ∈ GW := gw_in (List.mem_of_getElem? (i := 85) (by decide +kernel)) rfl
theorem i_86 : Cond.selects RX7 yX7_whoOpens yX7_whoOpens ∈ GW := gw_in (List.mem_of_getElem? (i := 86) (by decide +kernel)) rfl
theorem i_87 : Cond.selects RX7 yX7_tellsPerson yX7_tellsPerson ∈ GW := gw_in (List.mem_of_getElem? (i := 87) (by decide +kernel)) rfl
theorem i_88 : Cond.selects RX7 yX7_tellsCode yX7_tellsCode ∈ GW := gw_in (List.mem_of_getElem? (i := 88) (by decide +kernel)) rfl
theorem i_89 : Cond.selects RX7 yX7_soundBeside yX7_soundBeside ∈ GW := gw_in (List.mem_of_getElem? (i := 89) (by decide +kernel)) rfl
theorem i_90 : Cond.selects RX7 yX7_isFreeCode yX7_isFreeCode ∈ GW := gw_in (List.mem_of_getElem? (i := 90) (by decide +kernel)) rfl
theorem i_91 : Cond.selects RX7 yX7_tellsLevel yX7_tellsLevel ∈ GW := gw_in (List.mem_of_getElem? (i := 91) (by decide +kernel)) rfl
theorem i_92 : Cond.selects RX7 yX7_tellsCount yX7_tellsCount ∈ GW := gw_in (List.mem_of_getElem? (i := 92) (by decide +kernel)) rfl
theorem i_93 : Cond.selects RX7 yX7_lostKeys yX7_lostKeys ∈ GW := gw_in (List.mem_of_getElem? (i := 93) (by decide +kernel)) rfl
theorem i_94 : Cond.selects RX7 yX7_locks yX7_locks ∈ GW := gw_in (List.mem_of_getElem? (i := 94) (by decide +kernel)) rfl
theorem i_95 : Cond.selects RX7 yX7_crossedPairs yX7_crossedPairs ∈ GW := gw_in (List.mem_of_getElem? (i := 95) (by decide +kernel)) rfl
theorem i_96 : Cond.selects RX7 yX7_codes yX7_codes ∈ GW := gw_in (List.mem_of_getElem? (i := 96) (by decide +kernel)) rfl
theorem i_97 : Cond.selects RX7 yX7_tellsMost yX7_tellsMost ∈ GW := gw_in (List.mem_of_getElem? (i := 97) (by decide +kernel)) rfl
theorem i_98 : Cond.selects RX7 yX7_mostByChains yX7_mostByChains ∈ GW := gw_in (List.mem_of_getElem? (i := 98) (by decide +kernel)) rfl
theorem i_99 : Cond.selects RX7 yX7_layFree yX7_layFree ∈ GW := gw_in (List.mem_of_getElem? (i := 99) (by decide +kernel)) rfl
theorem i_100 : Cond.selects RX7 yX7_fewestChains yX7_fewestChains ∈ GW := gw_in (List.mem_of_getElem? (i := 100) (by decide +kernel)) rfl
theorem i_101 : Cond.selects RX7 yX7_matches yX7_matches ∈ GW := gw_in (List.mem_of_getElem? (i := 101) (by decide +kernel)) rfl
theorem i_102 : Cond.selects RX7 yX7_matchBack yX7_matchBack ∈ GW := gw_in (List.mem_of_getElem? (i := 102) (by decide +kernel)) rfl
theorem i_103 : Cond.selects RX7 yX7_choose yX7_choose ∈ GW := gw_in (List.mem_of_getElem? (i := 103) (by decide +kernel)) rfl
theorem i_104 : Cond.selects RX7 yX7_isApart yX7_isApart ∈ GW := gw_in (List.mem_of_getElem? (i := 104) (by decide +kernel)) rfl
theorem i_105 : Cond.selects RX7 yX7_tellsPick yX7_tellsPick ∈ GW := gw_in (List.mem_of_getElem? (i := 105) (by decide +kernel)) rfl
theorem i_106 : Cond.selects RX7 yX7_areLocks yX7_areLocks ∈ GW := gw_in (List.mem_of_getElem? (i := 106) (by decide +kernel)) rfl
theorem i_107 : Cond.selects RX7 yX7_behind yX7_behind ∈ GW := gw_in (List.mem_of_getElem? (i := 107) (by decide +kernel)) rfl
theorem i_108 : Cond.selects RX7 yX7_firstCrossed yX7_firstCrossed ∈ GW := gw_in (List.mem_of_getElem? (i := 108) (by decide +kernel)) rfl
theorem i_109 : Cond.selects RX7 yX7_isCrossedWith yX7_isCrossedWith ∈ GW := gw_in (List.mem_of_getElem? (i := 109) (by decide +kernel)) rfl
theorem i_110 : Cond.selects RX7 yX7_shareOfFree yX7_shareOfFree ∈ GW := gw_in (List.mem_of_getElem? (i := 110) (by decide +kernel)) rfl
theorem i_111 : Cond.selects RX7 yX7_mean yX7_mean ∈ GW := gw_in (List.mem_of_getElem? (i := 111) (by decide +kernel)) rfl
theorem i_112 : Cond.selects RX7 yX7_mix yX7_mix ∈ GW := gw_in (List.mem_of_getElem? (i := 112) (by decide +kernel)) rfl
theorem i_113 : Cond.selects RX7 yX7_mixKeys yX7_mixKeys ∈ GW := gw_in (List.mem_of_getElem? (i := 113) (by decide +kernel)) rfl
theorem i_114 : Cond.selects RX7 yX7_mixPlaces yX7_mixPlaces ∈ GW := gw_in (List.mem_of_getElem? (i := 114) (by decide +kernel)) rfl
theorem i_115 : Cond.selects RX7 yX7_mixCodes yX7_mixCodes ∈ GW := gw_in (List.mem_of_getElem? (i := 115) (by decide +kernel)) rfl
theorem i_117 : Cond.initialized RX6 ∈ GW := gw_in (List.mem_of_getElem? (i := 117) (by decide +kernel)) rfl
theorem i_118 : Cond.initialized RX4 ∈ GW := gw_in (List.mem_of_getElem? (i := 118) (by decide +kernel)) rfl
theorem i_119 : Cond.initialized RX5 ∈ GW := gw_in (List.mem_of_getElem? (i := 119) (by decide +kernel)) rfl
theorem i_120 : Cond.initialized RX2 ∈ GW := gw_in (List.mem_of_getElem? (i := 120) (by decide +kernel)) rfl
theorem i_121 : Cond.initialized RX3 ∈ GW := gw_in (List.mem_of_getElem? (i := 121) (by decide +kernel)) rfl
theorem i_122 : Cond.initialized RX1 ∈ GW := gw_in (List.mem_of_getElem? (i := 122) (by decide +kernel)) rfl
theorem i_123 : Cond.initialized RJ9 ∈ GW := gw_in (List.mem_of_getElem? (i := 123) (by decide +kernel)) rfl
theorem i_124 : Cond.initialized RX0 ∈ GW := gw_in (List.mem_of_getElem? (i := 124) (by decide +kernel)) rfl
theorem i_125 : Cond.initialized RX7 ∈ GW := gw_in (List.mem_of_getElem? (i := 125) (by decide +kernel)) rfl
theorem i_134 : Cond.initialized RJ6 ∈ GW := gw_in (List.mem_of_getElem? (i := 134) (by decide +kernel)) rfl
theorem i_135 : Cond.initialized RJ7 ∈ GW := gw_in (List.mem_of_getElem? (i := 135) (by decide +kernel)) rfl
theorem i_136 : Cond.initialized RJxe99ae ∈ GW := gw_in (List.mem_of_getElem? (i := 136) (by decide +kernel)) rfl
theorem i_137 : Cond.initialized RJxf58ca ∈ GW := gw_in (List.mem_of_getElem? (i := 137) (by decide +kernel)) rfl
theorem i_138 : Cond.classLink RL 8 "NotchedKeys" ∈ GW := gw_in (List.mem_of_getElem? (i := 138) (by decide +kernel)) rfl
theorem i_139 : Cond.instantiable RX6 9 ∈ GW := gw_in (List.mem_of_getElem? (i := 139) (by decide +kernel)) rfl
theorem i_140 : Cond.methodLink RL 105 yX6_init ∈ GW := gw_in (List.mem_of_getElem? (i := 140) (by decide +kernel)) rfl
theorem i_141 : Cond.instanceMethod yX6_init ∈ GW := gw_in (List.mem_of_getElem? (i := 141) (by decide +kernel)) rfl
theorem i_142 : Cond.code yX6_init cX6_init 2 none ∈ GW := gw_in (List.mem_of_getElem? (i := 142) (by decide +kernel)) rfl
theorem i_146 : Cond.classLink RX6 7 "NotchedKeys$OrderText" ∈ GW := gw_in (List.mem_of_getElem? (i := 146) (by decide +kernel)) rfl
theorem i_147 : Cond.instantiable RX4 7 ∈ GW := gw_in (List.mem_of_getElem? (i := 147) (by decide +kernel)) rfl
theorem i_149 : Cond.instanceMethod yX4_init ∈ GW := gw_in (List.mem_of_getElem? (i := 149) (by decide +kernel)) rfl
theorem i_150 : Cond.code yX4_init cX4_init 1 none ∈ GW := gw_in (List.mem_of_getElem? (i := 150) (by decide +kernel)) rfl
theorem i_152 : Cond.fieldLink RX4 9 "NotchedKeys$OrderText" "signs" "[C" ∈ GW := gw_in (List.mem_of_getElem? (i := 152) (by decide +kernel)) rfl
theorem i_153 : Cond.fieldLink RX6 204 "NotchedKeys$OrderText" "signs" "[C" ∈ GW := gw_in (List.mem_of_getElem? (i := 153) (by decide +kernel)) rfl
theorem i_154 : Cond.fieldLink RX4 23 "NotchedKeys$OrderText" "length" "I" ∈ GW := gw_in (List.mem_of_getElem? (i := 154) (by decide +kernel)) rfl
theorem i_155 : Cond.fieldLink RX6 199 "NotchedKeys$OrderText" "length" "I" ∈ GW := gw_in (List.mem_of_getElem? (i := 155) (by decide +kernel)) rfl
theorem i_156 : Cond.fieldLink RX4 15 "NotchedKeys$OrderText" "place" "I" ∈ GW := gw_in (List.mem_of_getElem? (i := 156) (by decide +kernel)) rfl
theorem i_157 : Cond.fieldLink RX6 212 "NotchedKeys$OrderText" "place" "I" ∈ GW := gw_in (List.mem_of_getElem? (i := 157) (by decide +kernel)) rfl
theorem i_158 : Cond.fieldLink RX4 30 "NotchedKeys$OrderText" "kind" "C" ∈ GW := gw_in (List.mem_of_getElem? (i := 158) (by decide +kernel)) rfl
theorem i_159 : Cond.fieldLink RX6 431 "NotchedKeys$OrderText" "kind" "C" ∈ GW := gw_in (List.mem_of_getElem? (i := 159) (by decide +kernel)) rfl
theorem i_160 : Cond.fieldLink RX4 51 "NotchedKeys$OrderText" "code" "I" ∈ GW := gw_in (List.mem_of_getElem? (i := 160) (by decide +kernel)) rfl
theorem i_161 : Cond.fieldLink RX6 435 "NotchedKeys$OrderText" "code" "I" ∈ GW := gw_in (List.mem_of_getElem? (i := 161) (by decide +kernel)) rfl
theorem i_162 : Cond.fieldLink RX4 54 "NotchedKeys$OrderText" "key" "I" ∈ GW := gw_in (List.mem_of_getElem? (i := 162) (by decide +kernel)) rfl
theorem i_163 : Cond.fieldLink RX6 442 "NotchedKeys$OrderText" "key" "I" ∈ GW := gw_in (List.mem_of_getElem? (i := 163) (by decide +kernel)) rfl
theorem i_164 : Cond.fieldLink RX4 48 "NotchedKeys$OrderText" "number" "I" ∈ GW := gw_in (List.mem_of_getElem? (i := 164) (by decide +kernel)) rfl
theorem i_165 : Cond.fieldLink RX6 436 "NotchedKeys$OrderText" "number" "I" ∈ GW := gw_in (List.mem_of_getElem? (i := 165) (by decide +kernel)) rfl
theorem i_182 : Cond.classLink RX6 16 "NotchedKeys$State" ∈ GW := gw_in (List.mem_of_getElem? (i := 182) (by decide +kernel)) rfl
theorem i_183 : Cond.instantiable RX5 12 ∈ GW := gw_in (List.mem_of_getElem? (i := 183) (by decide +kernel)) rfl
theorem i_184 : Cond.methodLink RX6 18 yX5_init ∈ GW := gw_in (List.mem_of_getElem? (i := 184) (by decide +kernel)) rfl
theorem i_185 : Cond.instanceMethod yX5_init ∈ GW := gw_in (List.mem_of_getElem? (i := 185) (by decide +kernel)) rfl
theorem i_186 : Cond.code yX5_init cX5_init 2 none ∈ GW := gw_in (List.mem_of_getElem? (i := 186) (by decide +kernel)) rfl
theorem i_188 : Cond.classLink RX5 9 "NotchedKeys$Key" ∈ GW := gw_in (List.mem_of_getElem? (i := 188) (by decide +kernel)) rfl
theorem i_190 : Cond.classLink RX5 17 "NotchedKeys$Lock" ∈ GW := gw_in (List.mem_of_getElem? (i := 190) (by decide +kernel)) rfl
theorem i_192 : Cond.instantiable RX2 6 ∈ GW := gw_in (List.mem_of_getElem? (i := 192) (by decide +kernel)) rfl
theorem i_194 : Cond.instanceMethod yX2_init ∈ GW := gw_in (List.mem_of_getElem? (i := 194) (by decide +kernel)) rfl
theorem i_195 : Cond.code yX2_init cX2_init 1 none ∈ GW := gw_in (List.mem_of_getElem? (i := 195) (by decide +kernel)) rfl
theorem i_197 : Cond.fieldLink RX2 7 "NotchedKeys$Key" "code" "I" ∈ GW := gw_in (List.mem_of_getElem? (i := 197) (by decide +kernel)) rfl
theorem i_198 : Cond.fieldLink RX6 107 "NotchedKeys$Key" "code" "I" ∈ GW := gw_in (List.mem_of_getElem? (i := 198) (by decide +kernel)) rfl
theorem i_199 : Cond.fieldLink RX2 13 "NotchedKeys$Key" "firstCode" "I" ∈ GW := gw_in (List.mem_of_getElem? (i := 199) (by decide +kernel)) rfl
theorem i_200 : Cond.fieldLink RX6 243 "NotchedKeys$Key" "firstCode" "I" ∈ GW := gw_in (List.mem_of_getElem? (i := 200) (by decide +kernel)) rfl
theorem i_201 : Cond.fieldLink RX2 16 "NotchedKeys$Key" "uses" "I" ∈ GW := gw_in (List.mem_of_getElem? (i := 201) (by decide +kernel)) rfl
theorem i_202 : Cond.fieldLink RX6 246 "NotchedKeys$Key" "uses" "I" ∈ GW := gw_in (List.mem_of_getElem? (i := 202) (by decide +kernel)) rfl
theorem i_203 : Cond.fieldLink RX2 19 "NotchedKeys$Key" "owner" "I" ∈ GW := gw_in (List.mem_of_getElem? (i := 203) (by decide +kernel)) rfl
theorem i_204 : Cond.fieldLink RX6 123 "NotchedKeys$Key" "owner" "I" ∈ GW := gw_in (List.mem_of_getElem? (i := 204) (by decide +kernel)) rfl
theorem i_205 : Cond.fieldLink RX2 22 "NotchedKeys$Key" "timesWorn" "I" ∈ GW := gw_in (List.mem_of_getElem? (i := 205) (by decide +kernel)) rfl
theorem i_206 : Cond.fieldLink RX6 255 "NotchedKeys$Key" "timesWorn" "I" ∈ GW := gw_in (List.mem_of_getElem? (i := 206) (by decide +kernel)) rfl
theorem i_207 : Cond.fieldLink RX2 25 "NotchedKeys$Key" "lost" "Z" ∈ GW := gw_in (List.mem_of_getElem? (i := 207) (by decide +kernel)) rfl
theorem i_208 : Cond.fieldLink RX6 126 "NotchedKeys$Key" "lost" "Z" ∈ GW := gw_in (List.mem_of_getElem? (i := 208) (by decide +kernel)) rfl
theorem i_223 : Cond.instantiable RX3 4 ∈ GW := gw_in (List.mem_of_getElem? (i := 223) (by decide +kernel)) rfl
theorem i_225 : Cond.instanceMethod yX3_init ∈ GW := gw_in (List.mem_of_getElem? (i := 225) (by decide +kernel)) rfl
theorem i_226 : Cond.code yX3_init cX3_init 1 none ∈ GW := gw_in (List.mem_of_getElem? (i := 226) (by decide +kernel)) rfl
theorem i_228 : Cond.fieldLink RX3 9 "NotchedKeys$Lock" "ward" "I" ∈ GW := gw_in (List.mem_of_getElem? (i := 228) (by decide +kernel)) rfl
theorem i_229 : Cond.fieldLink RX6 153 "NotchedKeys$Lock" "ward" "I" ∈ GW := gw_in (List.mem_of_getElem? (i := 229) (by decide +kernel)) rfl
theorem i_230 : Cond.fieldLink RX3 15 "NotchedKeys$Lock" "guest" "I" ∈ GW := gw_in (List.mem_of_getElem? (i := 230) (by decide +kernel)) rfl
theorem i_231 : Cond.fieldLink RX6 163 "NotchedKeys$Lock" "guest" "I" ∈ GW := gw_in (List.mem_of_getElem? (i := 231) (by decide +kernel)) rfl
theorem i_232 : Cond.fieldLink RX3 18 "NotchedKeys$Lock" "uses" "I" ∈ GW := gw_in (List.mem_of_getElem? (i := 232) (by decide +kernel)) rfl
theorem i_233 : Cond.fieldLink RX6 262 "NotchedKeys$Lock" "uses" "I" ∈ GW := gw_in (List.mem_of_getElem? (i := 233) (by decide +kernel)) rfl
theorem i_234 : Cond.fieldLink RX3 21 "NotchedKeys$Lock" "failedTries" "I" ∈ GW := gw_in (List.mem_of_getElem? (i := 234) (by decide +kernel)) rfl
theorem i_235 : Cond.fieldLink RX6 263 "NotchedKeys$Lock" "failedTries" "I" ∈ GW := gw_in (List.mem_of_getElem? (i := 235) (by decide +kernel)) rfl
theorem i_245 : Cond.fieldLink RX5 11 "NotchedKeys$State" "keys" "[LNotchedKeys$Key;" ∈ GW := gw_in (List.mem_of_getElem? (i := 245) (by decide +kernel)) rfl
theorem i_246 : Cond.fieldLink RX6 103 "NotchedKeys$State" "keys" "[LNotchedKeys$Key;" ∈ GW := gw_in (List.mem_of_getElem? (i := 246) (by decide +kernel)) rfl
theorem i_247 : Cond.fieldLink RX5 39 "NotchedKeys$State" "keyCount" "I" ∈ GW := gw_in (List.mem_of_getElem? (i := 247) (by decide +kernel)) rfl
theorem i_248 : Cond.fieldLink RX6 80 "NotchedKeys$State" "keyCount" "I" ∈ GW := gw_in (List.mem_of_getElem? (i := 248) (by decide +kernel)) rfl
theorem i_249 : Cond.fieldLink RX5 19 "NotchedKeys$State" "locks" "[LNotchedKeys$Lock;" ∈ GW := gw_in (List.mem_of_getElem? (i := 249) (by decide +kernel)) rfl
theorem i_250 : Cond.fieldLink RX6 149 "NotchedKeys$State" "locks" "[LNotchedKeys$Lock;" ∈ GW := gw_in (List.mem_of_getElem? (i := 250) (by decide +kernel)) rfl
theorem i_251 : Cond.fieldLink RX5 23 "NotchedKeys$State" "personUses" "[I" ∈ GW := gw_in (List.mem_of_getElem? (i := 251) (by decide +kernel)) rfl
theorem i_252 : Cond.fieldLink RX6 277 "NotchedKeys$State" "personUses" "[I" ∈ GW := gw_in (List.mem_of_getElem? (i := 252) (by decide +kernel)) rfl
theorem i_253 : Cond.fieldLink RX5 27 "NotchedKeys$State" "settings" "[I" ∈ GW := gw_in (List.mem_of_getElem? (i := 253) (by decide +kernel)) rfl
theorem i_254 : Cond.fieldLink RX6 194 "NotchedKeys$State" "settings" "[I" ∈ GW := gw_in (List.mem_of_getElem? (i := 254) (by decide +kernel)) rfl
theorem i_255 : Cond.fieldLink RX5 55 "NotchedKeys$State" "pence" "I" ∈ GW := gw_in (List.mem_of_getElem? (i := 255) (by decide +kernel)) rfl
theorem i_256 : Cond.fieldLink RX6 319 "NotchedKeys$State" "pence" "I" ∈ GW := gw_in (List.mem_of_getElem? (i := 256) (by decide +kernel)) rfl
theorem i_257 : Cond.fieldLink RX5 58 "NotchedKeys$State" "uses" "I" ∈ GW := gw_in (List.mem_of_getElem? (i := 257) (by decide +kernel)) rfl
theorem i_258 : Cond.fieldLink RX6 322 "NotchedKeys$State" "uses" "I" ∈ GW := gw_in (List.mem_of_getElem? (i := 258) (by decide +kernel)) rfl
theorem i_259 : Cond.fieldLink RX5 61 "NotchedKeys$State" "failedTries" "I" ∈ GW := gw_in (List.mem_of_getElem? (i := 259) (by decide +kernel)) rfl
theorem i_260 : Cond.fieldLink RX6 323 "NotchedKeys$State" "failedTries" "I" ∈ GW := gw_in (List.mem_of_getElem? (i := 260) (by decide +kernel)) rfl
theorem i_261 : Cond.fieldLink RX5 64 "NotchedKeys$State" "timesWorn" "I" ∈ GW := gw_in (List.mem_of_getElem? (i := 261) (by decide +kernel)) rfl
theorem i_262 : Cond.fieldLink RX6 324 "NotchedKeys$State" "timesWorn" "I" ∈ GW := gw_in (List.mem_of_getElem? (i := 262) (by decide +kernel)) rfl
theorem i_263 : Cond.fieldLink RX5 67 "NotchedKeys$State" "thrownAway" "I" ∈ GW := gw_in (List.mem_of_getElem? (i := 263) (by decide +kernel)) rfl
theorem i_264 : Cond.fieldLink RX6 118 "NotchedKeys$State" "thrownAway" "I" ∈ GW := gw_in (List.mem_of_getElem? (i := 264) (by decide +kernel)) rfl
theorem i_265 : Cond.fieldLink RX5 30 "NotchedKeys$State" "stopOrder" "I" ∈ GW := gw_in (List.mem_of_getElem? (i := 265) (by decide +kernel)) rfl
theorem i_266 : Cond.fieldLink RX6 217 "NotchedKeys$State" "stopOrder" "I" ∈ GW := gw_in (List.mem_of_getElem? (i := 266) (by decide +kernel)) rfl
theorem i_267 : Cond.fieldLink RX5 34 "NotchedKeys$State" "stopReason" "I" ∈ GW := gw_in (List.mem_of_getElem? (i := 267) (by decide +kernel)) rfl
theorem i_268 : Cond.fieldLink RX6 220 "NotchedKeys$State" "stopReason" "I" ∈ GW := gw_in (List.mem_of_getElem? (i := 268) (by decide +kernel)) rfl
theorem i_295 : Cond.classLink RX6 34 "NotchedKeys$Codes" ∈ GW := gw_in (List.mem_of_getElem? (i := 295) (by decide +kernel)) rfl
theorem i_296 : Cond.instantiable RX1 4 ∈ GW := gw_in (List.mem_of_getElem? (i := 296) (by decide +kernel)) rfl
theorem i_297 : Cond.methodLink RX6 36 yX1_init ∈ GW := gw_in (List.mem_of_getElem? (i := 297) (by decide +kernel)) rfl
theorem i_298 : Cond.instanceMethod yX1_init ∈ GW := gw_in (List.mem_of_getElem? (i := 298) (by decide +kernel)) rfl
theorem i_299 : Cond.code yX1_init cX1_init 5 none ∈ GW := gw_in (List.mem_of_getElem? (i := 299) (by decide +kernel)) rfl
theorem i_301 : Cond.methodLink RX1 24 yX1_depthOf ∈ GW := gw_in (List.mem_of_getElem? (i := 301) (by decide +kernel)) rfl
theorem i_302 : Cond.static yX1_depthOf ∈ GW := gw_in (List.mem_of_getElem? (i := 302) (by decide +kernel)) rfl
theorem i_303 : Cond.code yX1_depthOf cX1_depthOf 2 (some .int) ∈ GW := gw_in (List.mem_of_getElem? (i := 303) (by decide +kernel)) rfl
theorem i_306 : Cond.methodLink RX1 28 yJ9_abs_0f7a4 ∈ GW := gw_in (List.mem_of_getElem? (i := 306) (by decide +kernel)) rfl
theorem i_307 : Cond.static yJ9_abs_0f7a4 ∈ GW := gw_in (List.mem_of_getElem? (i := 307) (by decide +kernel)) rfl
theorem i_308 : Cond.code yJ9_abs_0f7a4 cJ9_abs_0f7a4 1 (some .int) ∈ GW := gw_in (List.mem_of_getElem? (i := 308) (by decide +kernel)) rfl
theorem i_309 : Cond.methodLink RX1 34 yJ9_max_7cf53 ∈ GW := gw_in (List.mem_of_getElem? (i := 309) (by decide +kernel)) rfl
theorem i_310 : Cond.static yJ9_max_7cf53 ∈ GW := gw_in (List.mem_of_getElem? (i := 310) (by decide +kernel)) rfl
theorem i_311 : Cond.code yJ9_max_7cf53 cJ9_max_7cf53 2 (some .int) ∈ GW := gw_in (List.mem_of_getElem? (i := 311) (by decide +kernel)) rfl
theorem i_312 : Cond.methodLink RX1 37 yX1_wornOnce ∈ GW := gw_in (List.mem_of_getElem? (i := 312) (by decide +kernel)) rfl
theorem i_313 : Cond.static yX1_wornOnce ∈ GW := gw_in (List.mem_of_getElem? (i := 313) (by decide +kernel)) rfl
theorem i_314 : Cond.code yX1_wornOnce cX1_wornOnce 3 (some .int) ∈ GW := gw_in (List.mem_of_getElem? (i := 314) (by decide +kernel)) rfl
theorem i_315 : Cond.fieldLink RX1 9 "NotchedKeys$Codes" "marks" "[I" ∈ GW := gw_in (List.mem_of_getElem? (i := 315) (by decide +kernel)) rfl
theorem i_316 : Cond.fieldLink RX1 15 "NotchedKeys$Codes" "levels" "[I" ∈ GW := gw_in (List.mem_of_getElem? (i := 316) (by decide +kernel)) rfl
theorem i_317 : Cond.fieldLink RX6 240 "NotchedKeys$Codes" "levels" "[I" ∈ GW := gw_in (List.mem_of_getElem? (i := 317) (by decide +kernel)) rfl
theorem i_318 : Cond.fieldLink RX1 18 "NotchedKeys$Codes" "steps" "[I" ∈ GW := gw_in (List.mem_of_getElem? (i := 318) (by decide +kernel)) rfl
theorem i_319 : Cond.fieldLink RX6 455 "NotchedKeys$Codes" "steps" "[I" ∈ GW := gw_in (List.mem_of_getElem? (i := 319) (by decide +kernel)) rfl
theorem i_320 : Cond.fieldLink RX1 21 "NotchedKeys$Codes" "wornTo" "[I" ∈ GW := gw_in (List.mem_of_getElem? (i := 320) (by decide +kernel)) rfl
theorem i_321 : Cond.fieldLink RX6 418 "NotchedKeys$Codes" "wornTo" "[I" ∈ GW := gw_in (List.mem_of_getElem? (i := 321) (by decide +kernel)) rfl
theorem i_331 : Cond.classLink RX6 41 "NotchedKeys$ApartCodes" ∈ GW := gw_in (List.mem_of_getElem? (i := 331) (by decide +kernel)) rfl
theorem i_332 : Cond.instantiable RX0 13 ∈ GW := gw_in (List.mem_of_getElem? (i := 332) (by decide +kernel)) rfl
theorem i_333 : Cond.methodLink RX6 43 yX0_init ∈ GW := gw_in (List.mem_of_getElem? (i := 333) (by decide +kernel)) rfl
theorem i_334 : Cond.instanceMethod yX0_init ∈ GW := gw_in (List.mem_of_getElem? (i := 334) (by decide +kernel)) rfl
theorem i_335 : Cond.code yX0_init cX0_init 2 none ∈ GW := gw_in (List.mem_of_getElem? (i := 335) (by decide +kernel)) rfl
theorem i_337 : Cond.fieldLink RX0 43 "NotchedKeys$ApartCodes" "codes" "LNotchedKeys$Codes;" ∈ GW := gw_in (List.mem_of_getElem? (i := 337) (by decide +kernel)) rfl
theorem i_338 : Cond.fieldLink RX0 9 "NotchedKeys$ApartCodes" "free" "[Z" ∈ GW := gw_in (List.mem_of_getElem? (i := 338) (by decide +kernel)) rfl
theorem i_339 : Cond.fieldLink RX6 473 "NotchedKeys$ApartCodes" "free" "[Z" ∈ GW := gw_in (List.mem_of_getElem? (i := 339) (by decide +kernel)) rfl
theorem i_340 : Cond.fieldLink RX0 57 "NotchedKeys$ApartCodes" "chainCount" "I" ∈ GW := gw_in (List.mem_of_getElem? (i := 340) (by decide +kernel)) rfl
theorem i_341 : Cond.fieldLink RX6 338 "NotchedKeys$ApartCodes" "chainCount" "I" ∈ GW := gw_in (List.mem_of_getElem? (i := 341) (by decide +kernel)) rfl
theorem i_342 : Cond.fieldLink RX0 15 "NotchedKeys$ApartCodes" "chosen" "[I" ∈ GW := gw_in (List.mem_of_getElem? (i := 342) (by decide +kernel)) rfl
theorem i_343 : Cond.fieldLink RX6 346 "NotchedKeys$ApartCodes" "chosen" "[I" ∈ GW := gw_in (List.mem_of_getElem? (i := 343) (by decide +kernel)) rfl
theorem i_344 : Cond.fieldLink RX0 70 "NotchedKeys$ApartCodes" "chosenCount" "I" ∈ GW := gw_in (List.mem_of_getElem? (i := 344) (by decide +kernel)) rfl
theorem i_345 : Cond.fieldLink RX6 341 "NotchedKeys$ApartCodes" "chosenCount" "I" ∈ GW := gw_in (List.mem_of_getElem? (i := 345) (by decide +kernel)) rfl
theorem i_346 : Cond.fieldLink RX0 19 "NotchedKeys$ApartCodes" "next" "[I" ∈ GW := gw_in (List.mem_of_getElem? (i := 346) (by decide +kernel)) rfl
theorem i_347 : Cond.fieldLink RX0 22 "NotchedKeys$ApartCodes" "previous" "[I" ∈ GW := gw_in (List.mem_of_getElem? (i := 347) (by decide +kernel)) rfl
theorem i_348 : Cond.fieldLink RX0 25 "NotchedKeys$ApartCodes" "starts" "[I" ∈ GW := gw_in (List.mem_of_getElem? (i := 348) (by decide +kernel)) rfl
theorem i_349 : Cond.fieldLink RX0 28 "NotchedKeys$ApartCodes" "queue" "[I" ∈ GW := gw_in (List.mem_of_getElem? (i := 349) (by decide +kernel)) rfl
theorem i_350 : Cond.fieldLink RX0 31 "NotchedKeys$ApartCodes" "reachedFrom" "[I" ∈ GW := gw_in (List.mem_of_getElem? (i := 350) (by decide +kernel)) rfl
theorem i_351 : Cond.fieldLink RX0 34 "NotchedKeys$ApartCodes" "open" "[Z" ∈ GW := gw_in (List.mem_of_getElem? (i := 351) (by decide +kernel)) rfl
theorem i_352 : Cond.fieldLink RX0 37 "NotchedKeys$ApartCodes" "left" "[Z" ∈ GW := gw_in (List.mem_of_getElem? (i := 352) (by decide +kernel)) rfl
theorem i_353 : Cond.fieldLink RX0 40 "NotchedKeys$ApartCodes" "lowest" "[I" ∈ GW := gw_in (List.mem_of_getElem? (i := 353) (by decide +kernel)) rfl
theorem i_382 : Cond.fieldLink RX6 37 "NotchedKeys" "codes" "LNotchedKeys$Codes;" ∈ GW := gw_in (List.mem_of_getElem? (i := 382) (by decide +kernel)) rfl
theorem i_383 : Cond.fieldLink RX6 46 "NotchedKeys" "apart" "LNotchedKeys$ApartCodes;" ∈ GW := gw_in (List.mem_of_getElem? (i := 383) (by decide +kernel)) rfl
theorem i_384 : Cond.fieldLink RX6 10 "NotchedKeys" "orders" "LNotchedKeys$OrderText;" ∈ GW := gw_in (List.mem_of_getElem? (i := 384) (by decide +kernel)) rfl
theorem i_385 : Cond.fieldLink RX6 19 "NotchedKeys" "now" "LNotchedKeys$State;" ∈ GW := gw_in (List.mem_of_getElem? (i := 385) (by decide +kernel)) rfl
theorem i_386 : Cond.fieldLink RX6 23 "NotchedKeys" "snapshot" "LNotchedKeys$State;" ∈ GW := gw_in (List.mem_of_getElem? (i := 386) (by decide +kernel)) rfl
theorem i_387 : Cond.fieldLink RX6 230 "NotchedKeys" "hasSnapshot" "Z" ∈ GW := gw_in (List.mem_of_getElem? (i := 387) (by decide +kernel)) rfl
theorem i_388 : Cond.fieldLink RX6 26 "NotchedKeys" "saved" "[LNotchedKeys$State;" ∈ GW := gw_in (List.mem_of_getElem? (i := 388) (by decide +kernel)) rfl
theorem i_389 : Cond.fieldLink RX6 30 "NotchedKeys" "latest" "I" ∈ GW := gw_in (List.mem_of_getElem? (i := 389) (by decide +kernel)) rfl
theorem i_390 : Cond.fieldLink RX6 235 "NotchedKeys" "savedCount" "I" ∈ GW := gw_in (List.mem_of_getElem? (i := 390) (by decide +kernel)) rfl
theorem i_410 : Cond.methodLink RL 152 yX6_clearBuffer ∈ GW := gw_in (List.mem_of_getElem? (i := 410) (by decide +kernel)) rfl
theorem i_411 : Cond.instanceMethod yX6_clearBuffer ∈ GW := gw_in (List.mem_of_getElem? (i := 411) (by decide +kernel)) rfl
theorem i_412 : Cond.selects RX6 yX6_clearBuffer yX6_clearBuffer ∈ GW := gw_in (List.mem_of_getElem? (i := 412) (by decide +kernel)) rfl
theorem i_413 : Cond.code yX6_clearBuffer cX6_clearBuffer 2 (some .int) ∈ GW := gw_in (List.mem_of_getElem? (i := 413) (by decide +kernel)) rfl
theorem i_414 : Cond.methodLink RL 156 yX6_firstError ∈ GW := gw_in (List.mem_of_getElem? (i := 414) (by decide +kernel)) rfl
theorem i_415 : Cond.instanceMethod yX6_firstError ∈ GW := gw_in (List.mem_of_getElem? (i := 415) (by decide +kernel)) rfl
theorem i_416 : Cond.selects RX6 yX6_firstError yX6_firstError ∈ GW := gw_in (List.mem_of_getElem? (i := 416) (by decide +kernel)) rfl
theorem i_417 : Cond.code yX6_firstError cX6_firstError 1 (some .int) ∈ GW := gw_in (List.mem_of_getElem? (i := 417) (by decide +kernel)) rfl
theorem i_418 : Cond.methodLink RX6 208 yX4_readAll ∈ GW := gw_in (List.mem_of_getElem? (i := 418) (by decide +kernel)) rfl
theorem i_419 : Cond.instanceMethod yX4_readAll ∈ GW := gw_in (List.mem_of_getElem? (i := 419) (by decide +kernel)) rfl
theorem i_420 : Cond.selects RX4 yX4_readAll yX4_readAll ∈ GW := gw_in (List.mem_of_getElem? (i := 420) (by decide +kernel)) rfl
theorem i_421 : Cond.code yX4_readAll cX4_readAll 2 (some .boolean) ∈ GW := gw_in (List.mem_of_getElem? (i := 421) (by decide +kernel)) rfl
theorem i_422 : Cond.methodLink RX4 19 yX4_readOrder ∈ GW := gw_in (List.mem_of_getElem? (i := 422) (by decide +kernel)) rfl
theorem i_423 : Cond.instanceMethod yX4_readOrder ∈ GW := gw_in (List.mem_of_getElem? (i := 423) (by decide +kernel)) rfl
theorem i_424 : Cond.selects RX4 yX4_readOrder yX4_readOrder ∈ GW := gw_in (List.mem_of_getElem? (i := 424) (by decide +kernel)) rfl
theorem i_425 : Cond.code yX4_readOrder cX4_readOrder 1 (some .boolean) ∈ GW := gw_in (List.mem_of_getElem? (i := 425) (by decide +kernel)) rfl
theorem i_426 : Cond.methodLink RX4 26 yX4_skip ∈ GW := gw_in (List.mem_of_getElem? (i := 426) (by decide +kernel)) rfl
theorem i_427 : Cond.instanceMethod yX4_skip ∈ GW := gw_in (List.mem_of_getElem? (i := 427) (by decide +kernel)) rfl
theorem i_428 : Cond.selects RX4 yX4_skip yX4_skip ∈ GW := gw_in (List.mem_of_getElem? (i := 428) (by decide +kernel)) rfl
theorem i_429 : Cond.code yX4_skip cX4_skip 2 (some .boolean) ∈ GW := gw_in (List.mem_of_getElem? (i := 429) (by decide +kernel)) rfl
theorem i_430 : Cond.methodLink RX4 44 yX4_isNext ∈ GW := gw_in (List.mem_of_getElem? (i := 430) (by decide +kernel)) rfl
theorem i_432 : Cond.instanceMethod yX4_isNext ∈ GW := gw_in (List.mem_of_getElem? (i := 432) (by decide +kernel)) rfl
theorem i_433 : Cond.code yX4_isNext cX4_isNext 3 (some .boolean) ∈ GW := gw_in (List.mem_of_getElem? (i := 433) (by decide +kernel)) rfl
theorem i_434 : Cond.methodLink RX4 34 yX4_readCode ∈ GW := gw_in (List.mem_of_getElem? (i := 434) (by decide +kernel)) rfl
theorem i_436 : Cond.instanceMethod yX4_readCode ∈ GW := gw_in (List.mem_of_getElem? (i := 436) (by decide +kernel)) rfl
theorem i_437 : Cond.code yX4_readCode cX4_readCode 3 (some .boolean) ∈ GW := gw_in (List.mem_of_getElem? (i := 437) (by decide +kernel)) rfl
theorem i_438 : Cond.methodLink RX4 37 yX4_readNumber ∈ GW := gw_in (List.mem_of_getElem? (i := 438) (by decide +kernel)) rfl
theorem i_440 : Cond.instanceMethod yX4_readNumber ∈ GW := gw_in (List.mem_of_getElem? (i := 440) (by decide +kernel)) rfl
theorem i_441 : Cond.code yX4_readNumber cX4_readNumber 2 (some .boolean) ∈ GW := gw_in (List.mem_of_getElem? (i := 441) (by decide +kernel)) rfl
theorem i_442 : Cond.methodLink RX4 41 yX4_readKey ∈ GW := gw_in (List.mem_of_getElem? (i := 442) (by decide +kernel)) rfl
theorem i_444 : Cond.instanceMethod yX4_readKey ∈ GW := gw_in (List.mem_of_getElem? (i := 444) (by decide +kernel)) rfl
theorem i_445 : Cond.code yX4_readKey cX4_readKey 1 (some .boolean) ∈ GW := gw_in (List.mem_of_getElem? (i := 445) (by decide +kernel)) rfl
theorem i_446 : Cond.methodLink RL 164 yX6_keep ∈ GW := gw_in (List.mem_of_getElem? (i := 446) (by decide +kernel)) rfl
theorem i_447 : Cond.instanceMethod yX6_keep ∈ GW := gw_in (List.mem_of_getElem? (i := 447) (by decide +kernel)) rfl
theorem i_448 : Cond.selects RX6 yX6_keep yX6_keep ∈ GW := gw_in (List.mem_of_getElem? (i := 448) (by decide +kernel)) rfl
theorem i_449 : Cond.code yX6_keep cX6_keep 1 (some .int) ∈ GW := gw_in (List.mem_of_getElem? (i := 449) (by decide +kernel)) rfl
theorem i_450 : Cond.methodLink RX6 227 yX5_copyFrom ∈ GW := gw_in (List.mem_of_getElem? (i := 450) (by decide +kernel)) rfl
theorem i_451 : Cond.instanceMethod yX5_copyFrom ∈ GW := gw_in (List.mem_of_getElem? (i := 451) (by decide +kernel)) rfl
theorem i_452 : Cond.selects RX5 yX5_copyFrom yX5_copyFrom ∈ GW := gw_in (List.mem_of_getElem? (i := 452) (by decide +kernel)) rfl
theorem i_453 : Cond.code yX5_copyFrom cX5_copyFrom 3 none ∈ GW := gw_in (List.mem_of_getElem? (i := 453) (by decide +kernel)) rfl
theorem i_454 : Cond.methodLink RX5 42 yX2_copyFrom ∈ GW := gw_in (List.mem_of_getElem? (i := 454) (by decide +kernel)) rfl
theorem i_455 : Cond.instanceMethod yX2_copyFrom ∈ GW := gw_in (List.mem_of_getElem? (i := 455) (by decide +kernel)) rfl
theorem i_456 : Cond.selects RX2 yX2_copyFrom yX2_copyFrom ∈ GW := gw_in (List.mem_of_getElem? (i := 456) (by decide +kernel)) rfl
theorem i_457 : Cond.code yX2_copyFrom cX2_copyFrom 2 none ∈ GW := gw_in (List.mem_of_getElem? (i := 457) (by decide +kernel)) rfl
theorem i_458 : Cond.methodLink RX5 46 yX3_copyFrom ∈ GW := gw_in (List.mem_of_getElem? (i := 458) (by decide +kernel)) rfl
theorem i_459 : Cond.instanceMethod yX3_copyFrom ∈ GW := gw_in (List.mem_of_getElem? (i := 459) (by decide +kernel)) rfl
theorem i_460 : Cond.selects RX3 yX3_copyFrom yX3_copyFrom ∈ GW := gw_in (List.mem_of_getElem? (i := 460) (by decide +kernel)) rfl
theorem i_461 : Cond.code yX3_copyFrom cX3_copyFrom 2 none ∈ GW := gw_in (List.mem_of_getElem? (i := 461) (by decide +kernel)) rfl
theorem i_465 : Cond.methodLink RL 216 yX6_freeShare ∈ GW := gw_in (List.mem_of_getElem? (i := 465) (by decide +kernel)) rfl
theorem i_466 : Cond.instanceMethod yX6_freeShare ∈ GW := gw_in (List.mem_of_getElem? (i := 466) (by decide +kernel)) rfl
theorem i_467 : Cond.selects RX6 yX6_freeShare yX6_freeShare ∈ GW := gw_in (List.mem_of_getElem? (i := 467) (by decide +kernel)) rfl
theorem i_468 : Cond.code yX6_freeShare cX6_freeShare 2 (some .double) ∈ GW := gw_in (List.mem_of_getElem? (i := 468) (by decide +kernel)) rfl
theorem i_469 : Cond.methodLink RX6 325 yX6_soundCodes ∈ GW := gw_in (List.mem_of_getElem? (i := 469) (by decide +kernel)) rfl
theorem i_471 : Cond.instanceMethod yX6_soundCodes ∈ GW := gw_in (List.mem_of_getElem? (i := 471) (by decide +kernel)) rfl
theorem i_472 : Cond.code yX6_soundCodes cX6_soundCodes 3 (some .int) ∈ GW := gw_in (List.mem_of_getElem? (i := 472) (by decide +kernel)) rfl
theorem i_473 : Cond.methodLink RX6 282 yX6_isSound ∈ GW := gw_in (List.mem_of_getElem? (i := 473) (by decide +kernel)) rfl
theorem i_475 : Cond.instanceMethod yX6_isSound ∈ GW := gw_in (List.mem_of_getElem? (i := 475) (by decide +kernel)) rfl
theorem i_476 : Cond.code yX6_isSound cX6_isSound 2 (some .boolean) ∈ GW := gw_in (List.mem_of_getElem? (i := 476) (by decide +kernel)) rfl
theorem i_477 : Cond.methodLink RX6 328 yX6_freeCodes ∈ GW := gw_in (List.mem_of_getElem? (i := 477) (by decide +kernel)) rfl
theorem i_479 : Cond.instanceMethod yX6_freeCodes ∈ GW := gw_in (List.mem_of_getElem? (i := 479) (by decide +kernel)) rfl
theorem i_480 : Cond.code yX6_freeCodes cX6_freeCodes 3 (some .int) ∈ GW := gw_in (List.mem_of_getElem? (i := 480) (by decide +kernel)) rfl
theorem i_481 : Cond.methodLink RX6 291 yX6_isFree ∈ GW := gw_in (List.mem_of_getElem? (i := 481) (by decide +kernel)) rfl
theorem i_483 : Cond.instanceMethod yX6_isFree ∈ GW := gw_in (List.mem_of_getElem? (i := 483) (by decide +kernel)) rfl
theorem i_484 : Cond.code yX6_isFree cX6_isFree 2 (some .boolean) ∈ GW := gw_in (List.mem_of_getElem? (i := 484) (by decide +kernel)) rfl
theorem i_485 : Cond.methodLink RX6 458 yX6_reasonByKeys ∈ GW := gw_in (List.mem_of_getElem? (i := 485) (by decide +kernel)) rfl
theorem i_487 : Cond.instanceMethod yX6_reasonByKeys ∈ GW := gw_in (List.mem_of_getElem? (i := 487) (by decide +kernel)) rfl
theorem i_488 : Cond.code yX6_reasonByKeys cX6_reasonByKeys 9 (some .int) ∈ GW := gw_in (List.mem_of_getElem? (i := 488) (by decide +kernel)) rfl
theorem i_489 : Cond.methodLink RX6 464 yX1_liesUnder ∈ GW := gw_in (List.mem_of_getElem? (i := 489) (by decide +kernel)) rfl
theorem i_490 : Cond.instanceMethod yX1_liesUnder ∈ GW := gw_in (List.mem_of_getElem? (i := 490) (by decide +kernel)) rfl
theorem i_491 : Cond.selects RX1 yX1_liesUnder yX1_liesUnder ∈ GW := gw_in (List.mem_of_getElem? (i := 491) (by decide +kernel)) rfl
theorem i_492 : Cond.code yX1_liesUnder cX1_liesUnder 3 (some .boolean) ∈ GW := gw_in (List.mem_of_getElem? (i := 492) (by decide +kernel)) rfl
theorem i_493 : Cond.methodLink RL 221 yX6_meanLevel ∈ GW := gw_in (List.mem_of_getElem? (i := 493) (by decide +kernel)) rfl
theorem i_494 : Cond.instanceMethod yX6_meanLevel ∈ GW := gw_in (List.mem_of_getElem? (i := 494) (by decide +kernel)) rfl
theorem i_495 : Cond.selects RX6 yX6_meanLevel yX6_meanLevel ∈ GW := gw_in (List.mem_of_getElem? (i := 495) (by decide +kernel)) rfl
theorem i_496 : Cond.code yX6_meanLevel cX6_meanLevel 3 (some .float) ∈ GW := gw_in (List.mem_of_getElem? (i := 496) (by decide +kernel)) rfl
theorem i_497 : Cond.methodLink RL 226 yX6_digest ∈ GW := gw_in (List.mem_of_getElem? (i := 497) (by decide +kernel)) rfl
theorem i_498 : Cond.instanceMethod yX6_digest ∈ GW := gw_in (List.mem_of_getElem? (i := 498) (by decide +kernel)) rfl
theorem i_499 : Cond.selects RX6 yX6_digest yX6_digest ∈ GW := gw_in (List.mem_of_getElem? (i := 499) (by decide +kernel)) rfl
theorem i_500 : Cond.code yX6_digest cX6_digest 4 (some .long) ∈ GW := gw_in (List.mem_of_getElem? (i := 500) (by decide +kernel)) rfl
theorem i_501 : Cond.constantLong RX6 365 (3613) ∈ GW := gw_in (List.mem_of_getElem? (i := 501) (by decide +kernel)) rfl
theorem i_502 : Cond.methodLink RX6 367 yX6_mixCounts ∈ GW := gw_in (List.mem_of_getElem? (i := 502) (by decide +kernel)) rfl
theorem i_504 : Cond.instanceMethod yX6_mixCounts ∈ GW := gw_in (List.mem_of_getElem? (i := 504) (by decide +kernel)) rfl
theorem i_505 : Cond.code yX6_mixCounts cX6_mixCounts 6 (some .long) ∈ GW := gw_in (List.mem_of_getElem? (i := 505) (by decide +kernel)) rfl
theorem i_506 : Cond.methodLink RX6 485 yX6_count ∈ GW := gw_in (List.mem_of_getElem? (i := 506) (by decide +kernel)) rfl
theorem i_507 : Cond.instanceMethod yX6_count ∈ GW := gw_in (List.mem_of_getElem? (i := 507) (by decide +kernel)) rfl
theorem i_508 : Cond.selects RX6 yX6_count yX6_count ∈ GW := gw_in (List.mem_of_getElem? (i := 508) (by decide +kernel)) rfl
theorem i_509 : Cond.code yX6_count cX6_count 2 (some .int) ∈ GW := gw_in (List.mem_of_getElem? (i := 509) (by decide +kernel)) rfl
theorem i_510 : Cond.methodLink RX6 310 yX6_lostKeys ∈ GW := gw_in (List.mem_of_getElem? (i := 510) (by decide +kernel)) rfl
theorem i_512 : Cond.instanceMethod yX6_lostKeys ∈ GW := gw_in (List.mem_of_getElem? (i := 512) (by decide +kernel)) rfl
theorem i_513 : Cond.code yX6_lostKeys cX6_lostKeys 3 (some .int) ∈ GW := gw_in (List.mem_of_getElem? (i := 513) (by decide +kernel)) rfl
theorem i_514 : Cond.methodLink RX6 313 yX6_lockCount ∈ GW := gw_in (List.mem_of_getElem? (i := 514) (by decide +kernel)) rfl
theorem i_516 : Cond.instanceMethod yX6_lockCount ∈ GW := gw_in (List.mem_of_getElem? (i := 516) (by decide +kernel)) rfl
theorem i_517 : Cond.code yX6_lockCount cX6_lockCount 3 (some .int) ∈ GW := gw_in (List.mem_of_getElem? (i := 517) (by decide +kernel)) rfl
theorem i_518 : Cond.methodLink RX6 158 yX6_isLock ∈ GW := gw_in (List.mem_of_getElem? (i := 518) (by decide +kernel)) rfl
theorem i_520 : Cond.instanceMethod yX6_isLock ∈ GW := gw_in (List.mem_of_getElem? (i := 520) (by decide +kernel)) rfl
theorem i_521 : Cond.code yX6_isLock cX6_isLock 2 (some .boolean) ∈ GW := gw_in (List.mem_of_getElem? (i := 521) (by decide +kernel)) rfl
theorem i_522 : Cond.methodLink RX6 142 yX6_isPlace ∈ GW := gw_in (List.mem_of_getElem? (i := 522) (by decide +kernel)) rfl
theorem i_523 : Cond.static yX6_isPlace ∈ GW := gw_in (List.mem_of_getElem? (i := 523) (by decide +kernel)) rfl
theorem i_524 : Cond.code yX6_isPlace cX6_isPlace 1 (some .boolean) ∈ GW := gw_in (List.mem_of_getElem? (i := 524) (by decide +kernel)) rfl
theorem i_525 : Cond.methodLink RX6 316 yX6_crossedPairs ∈ GW := gw_in (List.mem_of_getElem? (i := 525) (by decide +kernel)) rfl
theorem i_527 : Cond.instanceMethod yX6_crossedPairs ∈ GW := gw_in (List.mem_of_getElem? (i := 527) (by decide +kernel)) rfl
theorem i_528 : Cond.code yX6_crossedPairs cX6_crossedPairs 4 (some .int) ∈ GW := gw_in (List.mem_of_getElem? (i := 528) (by decide +kernel)) rfl
theorem i_529 : Cond.methodLink RX6 470 yX1_areCrossed ∈ GW := gw_in (List.mem_of_getElem? (i := 529) (by decide +kernel)) rfl
theorem i_530 : Cond.instanceMethod yX1_areCrossed ∈ GW := gw_in (List.mem_of_getElem? (i := 530) (by decide +kernel)) rfl
theorem i_531 : Cond.selects RX1 yX1_areCrossed yX1_areCrossed ∈ GW := gw_in (List.mem_of_getElem? (i := 531) (by decide +kernel)) rfl
theorem i_532 : Cond.code yX1_areCrossed cX1_areCrossed 4 (some .boolean) ∈ GW := gw_in (List.mem_of_getElem? (i := 532) (by decide +kernel)) rfl
theorem i_533 : Cond.classLink RX6 57 "java/lang/IllegalArgumentException" ∈ GW := gw_in (List.mem_of_getElem? (i := 533) (by decide +kernel)) rfl
theorem i_601 : Cond.methodLink RX6 383 yX6_mix ∈ GW := gw_in (List.mem_of_getElem? (i := 601) (by decide +kernel)) rfl
theorem i_602 : Cond.static yX6_mix ∈ GW := gw_in (List.mem_of_getElem? (i := 602) (by decide +kernel)) rfl
theorem i_603 : Cond.code yX6_mix cX6_mix 4 (some .long) ∈ GW := gw_in (List.mem_of_getElem? (i := 603) (by decide +kernel)) rfl
theorem i_604 : Cond.constantLong RX6 483 (31) ∈ GW := gw_in (List.mem_of_getElem? (i := 604) (by decide +kernel)) rfl
theorem i_605 : Cond.methodLink RX6 371 yX6_mixKeys ∈ GW := gw_in (List.mem_of_getElem? (i := 605) (by decide +kernel)) rfl
theorem i_607 : Cond.instanceMethod yX6_mixKeys ∈ GW := gw_in (List.mem_of_getElem? (i := 607) (by decide +kernel)) rfl
theorem i_608 : Cond.code yX6_mixKeys cX6_mixKeys 7 (some .long) ∈ GW := gw_in (List.mem_of_getElem? (i := 608) (by decide +kernel)) rfl
theorem i_609 : Cond.methodLink RX6 488 yX6_key ∈ GW := gw_in (List.mem_of_getElem? (i := 609) (by decide +kernel)) rfl
theorem i_610 : Cond.instanceMethod yX6_key ∈ GW := gw_in (List.mem_of_getElem? (i := 610) (by decide +kernel)) rfl
theorem i_611 : Cond.selects RX6 yX6_key yX6_key ∈ GW := gw_in (List.mem_of_getElem? (i := 611) (by decide +kernel)) rfl
theorem i_612 : Cond.code yX6_key cX6_key 4 (some .int) ∈ GW := gw_in (List.mem_of_getElem? (i := 612) (by decide +kernel)) rfl
theorem i_613 : Cond.methodLink RX6 83 yX6_isKey ∈ GW := gw_in (List.mem_of_getElem? (i := 613) (by decide +kernel)) rfl
theorem i_615 : Cond.instanceMethod yX6_isKey ∈ GW := gw_in (List.mem_of_getElem? (i := 615) (by decide +kernel)) rfl
theorem i_616 : Cond.code yX6_isKey cX6_isKey 2 (some .boolean) ∈ GW := gw_in (List.mem_of_getElem? (i := 616) (by decide +kernel)) rfl
theorem i_617 : Cond.classLink RX6 89 "java/lang/IndexOutOfBoundsException" ∈ GW := gw_in (List.mem_of_getElem? (i := 617) (by decide +kernel)) rfl
theorem i_633 : Cond.methodLink RX6 132 yX6_locksOpenedBy ∈ GW := gw_in (List.mem_of_getElem? (i := 633) (by decide +kernel)) rfl
theorem i_635 : Cond.instanceMethod yX6_locksOpenedBy ∈ GW := gw_in (List.mem_of_getElem? (i := 635) (by decide +kernel)) rfl
theorem i_636 : Cond.code yX6_locksOpenedBy cX6_locksOpenedBy 4 (some .int) ∈ GW := gw_in (List.mem_of_getElem? (i := 636) (by decide +kernel)) rfl
theorem i_637 : Cond.methodLink RX6 415 yX6_opens ∈ GW := gw_in (List.mem_of_getElem? (i := 637) (by decide +kernel)) rfl
theorem i_639 : Cond.instanceMethod yX6_opens ∈ GW := gw_in (List.mem_of_getElem? (i := 639) (by decide +kernel)) rfl
theorem i_640 : Cond.code yX6_opens cX6_opens 4 (some .boolean) ∈ GW := gw_in (List.mem_of_getElem? (i := 640) (by decide +kernel)) rfl
theorem i_641 : Cond.methodLink RX6 467 yX1_isUnderOrLike ∈ GW := gw_in (List.mem_of_getElem? (i := 641) (by decide +kernel)) rfl
theorem i_642 : Cond.instanceMethod yX1_isUnderOrLike ∈ GW := gw_in (List.mem_of_getElem? (i := 642) (by decide +kernel)) rfl
theorem i_643 : Cond.selects RX1 yX1_isUnderOrLike yX1_isUnderOrLike ∈ GW := gw_in (List.mem_of_getElem? (i := 643) (by decide +kernel)) rfl
theorem i_644 : Cond.code yX1_isUnderOrLike cX1_isUnderOrLike 3 (some .boolean) ∈ GW := gw_in (List.mem_of_getElem? (i := 644) (by decide +kernel)) rfl
theorem i_645 : Cond.methodLink RX6 249 yX6_keysOver ∈ GW := gw_in (List.mem_of_getElem? (i := 645) (by decide +kernel)) rfl
theorem i_647 : Cond.instanceMethod yX6_keysOver ∈ GW := gw_in (List.mem_of_getElem? (i := 647) (by decide +kernel)) rfl
theorem i_648 : Cond.code yX6_keysOver cX6_keysOver 4 (some .int) ∈ GW := gw_in (List.mem_of_getElem? (i := 648) (by decide +kernel)) rfl
theorem i_649 : Cond.methodLink RX6 252 yX6_keysUnder ∈ GW := gw_in (List.mem_of_getElem? (i := 649) (by decide +kernel)) rfl
theorem i_651 : Cond.instanceMethod yX6_keysUnder ∈ GW := gw_in (List.mem_of_getElem? (i := 651) (by decide +kernel)) rfl
theorem i_652 : Cond.code yX6_keysUnder cX6_keysUnder 4 (some .int) ∈ GW := gw_in (List.mem_of_getElem? (i := 652) (by decide +kernel)) rfl
theorem i_654 : Cond.methodLink RX6 490 yX6_why ∈ GW := gw_in (List.mem_of_getElem? (i := 654) (by decide +kernel)) rfl
theorem i_655 : Cond.instanceMethod yX6_why ∈ GW := gw_in (List.mem_of_getElem? (i := 655) (by decide +kernel)) rfl
theorem i_656 : Cond.selects RX6 yX6_why yX6_why ∈ GW := gw_in (List.mem_of_getElem? (i := 656) (by decide +kernel)) rfl
theorem i_657 : Cond.code yX6_why cX6_why 3 (some .int) ∈ GW := gw_in (List.mem_of_getElem? (i := 657) (by decide +kernel)) rfl
theorem i_658 : Cond.methodLink RX6 86 yX6_isNotch ∈ GW := gw_in (List.mem_of_getElem? (i := 658) (by decide +kernel)) rfl
theorem i_659 : Cond.static yX6_isNotch ∈ GW := gw_in (List.mem_of_getElem? (i := 659) (by decide +kernel)) rfl
theorem i_660 : Cond.code yX6_isNotch cX6_isNotch 1 (some .boolean) ∈ GW := gw_in (List.mem_of_getElem? (i := 660) (by decide +kernel)) rfl
theorem i_662 : Cond.methodLink RX6 94 yX6_reasonAgainstDeeper ∈ GW := gw_in (List.mem_of_getElem? (i := 662) (by decide +kernel)) rfl
theorem i_664 : Cond.instanceMethod yX6_reasonAgainstDeeper ∈ GW := gw_in (List.mem_of_getElem? (i := 664) (by decide +kernel)) rfl
theorem i_665 : Cond.code yX6_reasonAgainstDeeper cX6_reasonAgainstDeeper 5 (some .int) ∈ GW := gw_in (List.mem_of_getElem? (i := 665) (by decide +kernel)) rfl
theorem i_666 : Cond.methodLink RX6 461 yX1_depthOf ∈ GW := gw_in (List.mem_of_getElem? (i := 666) (by decide +kernel)) rfl
theorem i_667 : Cond.fieldLink RX6 412 "NotchedKeys" "NOTCH_WEIGHTS" "[I" ∈ GW := gw_in (List.mem_of_getElem? (i := 667) (by decide +kernel)) rfl
theorem i_668 : Cond.methodLink RX6 493 yX6_crossedIn ∈ GW := gw_in (List.mem_of_getElem? (i := 668) (by decide +kernel)) rfl
theorem i_669 : Cond.instanceMethod yX6_crossedIn ∈ GW := gw_in (List.mem_of_getElem? (i := 669) (by decide +kernel)) rfl
theorem i_670 : Cond.selects RX6 yX6_crossedIn yX6_crossedIn ∈ GW := gw_in (List.mem_of_getElem? (i := 670) (by decide +kernel)) rfl
theorem i_671 : Cond.code yX6_crossedIn cX6_crossedIn 5 (some .int) ∈ GW := gw_in (List.mem_of_getElem? (i := 671) (by decide +kernel)) rfl
theorem i_672 : Cond.methodLink RX6 362 yX6_crossesAnother ∈ GW := gw_in (List.mem_of_getElem? (i := 672) (by decide +kernel)) rfl
theorem i_674 : Cond.instanceMethod yX6_crossesAnother ∈ GW := gw_in (List.mem_of_getElem? (i := 674) (by decide +kernel)) rfl
theorem i_675 : Cond.code yX6_crossesAnother cX6_crossesAnother 4 (some .boolean) ∈ GW := gw_in (List.mem_of_getElem? (i := 675) (by decide +kernel)) rfl
theorem i_676 : Cond.methodLink RX6 359 yX6_codeBehindUse ∈ GW := gw_in (List.mem_of_getElem? (i := 676) (by decide +kernel)) rfl
theorem i_678 : Cond.instanceMethod yX6_codeBehindUse ∈ GW := gw_in (List.mem_of_getElem? (i := 678) (by decide +kernel)) rfl
theorem i_679 : Cond.code yX6_codeBehindUse cX6_codeBehindUse 4 (some .int) ∈ GW := gw_in (List.mem_of_getElem? (i := 679) (by decide +kernel)) rfl
theorem i_680 : Cond.methodLink RX6 374 yX6_mixLocksAndPersons ∈ GW := gw_in (List.mem_of_getElem? (i := 680) (by decide +kernel)) rfl
theorem i_682 : Cond.instanceMethod yX6_mixLocksAndPersons ∈ GW := gw_in (List.mem_of_getElem? (i := 682) (by decide +kernel)) rfl
theorem i_683 : Cond.code yX6_mixLocksAndPersons cX6_mixLocksAndPersons 7 (some .long) ∈ GW := gw_in (List.mem_of_getElem? (i := 683) (by decide +kernel)) rfl
theorem i_684 : Cond.methodLink RX6 496 yX6_lock ∈ GW := gw_in (List.mem_of_getElem? (i := 684) (by decide +kernel)) rfl
theorem i_685 : Cond.instanceMethod yX6_lock ∈ GW := gw_in (List.mem_of_getElem? (i := 685) (by decide +kernel)) rfl
theorem i_686 : Cond.selects RX6 yX6_lock yX6_lock ∈ GW := gw_in (List.mem_of_getElem? (i := 686) (by decide +kernel)) rfl
theorem i_687 : Cond.code yX6_lock cX6_lock 4 (some .int) ∈ GW := gw_in (List.mem_of_getElem? (i := 687) (by decide +kernel)) rfl
theorem i_690 : Cond.methodLink RX6 166 yX6_keysOpening ∈ GW := gw_in (List.mem_of_getElem? (i := 690) (by decide +kernel)) rfl
theorem i_692 : Cond.instanceMethod yX6_keysOpening ∈ GW := gw_in (List.mem_of_getElem? (i := 692) (by decide +kernel)) rfl
theorem i_693 : Cond.code yX6_keysOpening cX6_keysOpening 4 (some .int) ∈ GW := gw_in (List.mem_of_getElem? (i := 693) (by decide +kernel)) rfl
theorem i_694 : Cond.methodLink RX6 266 yX6_whoCouldOpen ∈ GW := gw_in (List.mem_of_getElem? (i := 694) (by decide +kernel)) rfl
theorem i_696 : Cond.instanceMethod yX6_whoCouldOpen ∈ GW := gw_in (List.mem_of_getElem? (i := 696) (by decide +kernel)) rfl
theorem i_697 : Cond.code yX6_whoCouldOpen cX6_whoCouldOpen 5 (some .int) ∈ GW := gw_in (List.mem_of_getElem? (i := 697) (by decide +kernel)) rfl
theorem i_698 : Cond.methodLink RX6 499 yX6_person ∈ GW := gw_in (List.mem_of_getElem? (i := 698) (by decide +kernel)) rfl
theorem i_699 : Cond.instanceMethod yX6_person ∈ GW := gw_in (List.mem_of_getElem? (i := 699) (by decide +kernel)) rfl
theorem i_700 : Cond.selects RX6 yX6_person yX6_person ∈ GW := gw_in (List.mem_of_getElem? (i := 700) (by decide +kernel)) rfl
theorem i_701 : Cond.code yX6_person cX6_person 3 (some .int) ∈ GW := gw_in (List.mem_of_getElem? (i := 701) (by decide +kernel)) rfl
theorem i_702 : Cond.methodLink RX6 54 yX6_isPerson ∈ GW := gw_in (List.mem_of_getElem? (i := 702) (by decide +kernel)) rfl
theorem i_703 : Cond.static yX6_isPerson ∈ GW := gw_in (List.mem_of_getElem? (i := 703) (by decide +kernel)) rfl
theorem i_704 : Cond.code yX6_isPerson cX6_isPerson 1 (some .boolean) ∈ GW := gw_in (List.mem_of_getElem? (i := 704) (by decide +kernel)) rfl
theorem i_706 : Cond.methodLink RX6 271 yX6_keysOf ∈ GW := gw_in (List.mem_of_getElem? (i := 706) (by decide +kernel)) rfl
theorem i_708 : Cond.instanceMethod yX6_keysOf ∈ GW := gw_in (List.mem_of_getElem? (i := 708) (by decide +kernel)) rfl
theorem i_709 : Cond.code yX6_keysOf cX6_keysOf 4 (some .int) ∈ GW := gw_in (List.mem_of_getElem? (i := 709) (by decide +kernel)) rfl
theorem i_710 : Cond.methodLink RX6 274 yX6_locksFor ∈ GW := gw_in (List.mem_of_getElem? (i := 710) (by decide +kernel)) rfl
theorem i_712 : Cond.instanceMethod yX6_locksFor ∈ GW := gw_in (List.mem_of_getElem? (i := 712) (by decide +kernel)) rfl
theorem i_713 : Cond.code yX6_locksFor cX6_locksFor 4 (some .int) ∈ GW := gw_in (List.mem_of_getElem? (i := 713) (by decide +kernel)) rfl
theorem i_715 : Cond.methodLink RX6 377 yX6_mixCodesAndLevels ∈ GW := gw_in (List.mem_of_getElem? (i := 715) (by decide +kernel)) rfl
theorem i_717 : Cond.instanceMethod yX6_mixCodesAndLevels ∈ GW := gw_in (List.mem_of_getElem? (i := 717) (by decide +kernel)) rfl
theorem i_718 : Cond.code yX6_mixCodesAndLevels cX6_mixCodesAndLevels 7 (some .long) ∈ GW := gw_in (List.mem_of_getElem? (i := 718) (by decide +kernel)) rfl
theorem i_719 : Cond.methodLink RX6 502 yX6_code ∈ GW := gw_in (List.mem_of_getElem? (i := 719) (by decide +kernel)) rfl
theorem i_720 : Cond.instanceMethod yX6_code ∈ GW := gw_in (List.mem_of_getElem? (i := 720) (by decide +kernel)) rfl
theorem i_721 : Cond.selects RX6 yX6_code yX6_code ∈ GW := gw_in (List.mem_of_getElem? (i := 721) (by decide +kernel)) rfl
theorem i_722 : Cond.code yX6_code cX6_code 3 (some .int) ∈ GW := gw_in (List.mem_of_getElem? (i := 722) (by decide +kernel)) rfl
theorem i_723 : Cond.methodLink RX6 50 yX6_isCode ∈ GW := gw_in (List.mem_of_getElem? (i := 723) (by decide +kernel)) rfl
theorem i_724 : Cond.static yX6_isCode ∈ GW := gw_in (List.mem_of_getElem? (i := 724) (by decide +kernel)) rfl
theorem i_725 : Cond.code yX6_isCode cX6_isCode 1 (some .boolean) ∈ GW := gw_in (List.mem_of_getElem? (i := 725) (by decide +kernel)) rfl
theorem i_727 : Cond.methodLink RX6 64 yX6_reasonAgainstCut ∈ GW := gw_in (List.mem_of_getElem? (i := 727) (by decide +kernel)) rfl
theorem i_729 : Cond.instanceMethod yX6_reasonAgainstCut ∈ GW := gw_in (List.mem_of_getElem? (i := 729) (by decide +kernel)) rfl
theorem i_730 : Cond.code yX6_reasonAgainstCut cX6_reasonAgainstCut 2 (some .int) ∈ GW := gw_in (List.mem_of_getElem? (i := 730) (by decide +kernel)) rfl
theorem i_731 : Cond.methodLink RX6 285 yX6_soundCodesOver ∈ GW := gw_in (List.mem_of_getElem? (i := 731) (by decide +kernel)) rfl
theorem i_733 : Cond.instanceMethod yX6_soundCodesOver ∈ GW := gw_in (List.mem_of_getElem? (i := 733) (by decide +kernel)) rfl
theorem i_734 : Cond.code yX6_soundCodesOver cX6_soundCodesOver 4 (some .int) ∈ GW := gw_in (List.mem_of_getElem? (i := 734) (by decide +kernel)) rfl
theorem i_735 : Cond.methodLink RX6 288 yX6_soundCodesUnder ∈ GW := gw_in (List.mem_of_getElem? (i := 735) (by decide +kernel)) rfl
theorem i_737 : Cond.instanceMethod yX6_soundCodesUnder ∈ GW := gw_in (List.mem_of_getElem? (i := 737) (by decide +kernel)) rfl
theorem i_738 : Cond.code yX6_soundCodesUnder cX6_soundCodesUnder 4 (some .int) ∈ GW := gw_in (List.mem_of_getElem? (i := 738) (by decide +kernel)) rfl
theorem i_739 : Cond.methodLink RX6 504 yX6_level ∈ GW := gw_in (List.mem_of_getElem? (i := 739) (by decide +kernel)) rfl
theorem i_740 : Cond.instanceMethod yX6_level ∈ GW := gw_in (List.mem_of_getElem? (i := 740) (by decide +kernel)) rfl
theorem i_741 : Cond.selects RX6 yX6_level yX6_level ∈ GW := gw_in (List.mem_of_getElem? (i := 741) (by decide +kernel)) rfl
theorem i_742 : Cond.code yX6_level cX6_level 3 (some .int) ∈ GW := gw_in (List.mem_of_getElem? (i := 742) (by decide +kernel)) rfl
theorem i_744 : Cond.methodLink RX6 296 yX6_soundCodesOf ∈ GW := gw_in (List.mem_of_getElem? (i := 744) (by decide +kernel)) rfl
theorem i_746 : Cond.instanceMethod yX6_soundCodesOf ∈ GW := gw_in (List.mem_of_getElem? (i := 746) (by decide +kernel)) rfl
theorem i_747 : Cond.code yX6_soundCodesOf cX6_soundCodesOf 4 (some .int) ∈ GW := gw_in (List.mem_of_getElem? (i := 747) (by decide +kernel)) rfl
theorem i_748 : Cond.methodLink RX6 299 yX6_freeCodesOf ∈ GW := gw_in (List.mem_of_getElem? (i := 748) (by decide +kernel)) rfl
theorem i_750 : Cond.instanceMethod yX6_freeCodesOf ∈ GW := gw_in (List.mem_of_getElem? (i := 750) (by decide +kernel)) rfl
theorem i_751 : Cond.code yX6_freeCodesOf cX6_freeCodesOf 4 (some .int) ∈ GW := gw_in (List.mem_of_getElem? (i := 751) (by decide +kernel)) rfl
theorem i_752 : Cond.methodLink RX6 302 yX6_keysOfLevel ∈ GW := gw_in (List.mem_of_getElem? (i := 752) (by decide +kernel)) rfl
theorem i_754 : Cond.instanceMethod yX6_keysOfLevel ∈ GW := gw_in (List.mem_of_getElem? (i := 754) (by decide +kernel)) rfl
theorem i_755 : Cond.code yX6_keysOfLevel cX6_keysOfLevel 4 (some .int) ∈ GW := gw_in (List.mem_of_getElem? (i := 755) (by decide +kernel)) rfl
theorem i_756 : Cond.methodLink RX6 305 yX6_leastFreeCodeOf ∈ GW := gw_in (List.mem_of_getElem? (i := 756) (by decide +kernel)) rfl
theorem i_758 : Cond.instanceMethod yX6_leastFreeCodeOf ∈ GW := gw_in (List.mem_of_getElem? (i := 758) (by decide +kernel)) rfl
theorem i_759 : Cond.code yX6_leastFreeCodeOf cX6_leastFreeCodeOf 3 (some .int) ∈ GW := gw_in (List.mem_of_getElem? (i := 759) (by decide +kernel)) rfl
theorem i_761 : Cond.methodLink RX6 380 yX6_stopped ∈ GW := gw_in (List.mem_of_getElem? (i := 761) (by decide +kernel)) rfl
theorem i_762 : Cond.instanceMethod yX6_stopped ∈ GW := gw_in (List.mem_of_getElem? (i := 762) (by decide +kernel)) rfl
theorem i_763 : Cond.selects RX6 yX6_stopped yX6_stopped ∈ GW := gw_in (List.mem_of_getElem? (i := 763) (by decide +kernel)) rfl
theorem i_764 : Cond.code yX6_stopped cX6_stopped 2 (some .int) ∈ GW := gw_in (List.mem_of_getElem? (i := 764) (by decide +kernel)) rfl
theorem i_766 : Cond.methodLink RX6 387 yX6_most ∈ GW := gw_in (List.mem_of_getElem? (i := 766) (by decide +kernel)) rfl
theorem i_767 : Cond.instanceMethod yX6_most ∈ GW := gw_in (List.mem_of_getElem? (i := 767) (by decide +kernel)) rfl
theorem i_768 : Cond.selects RX6 yX6_most yX6_most ∈ GW := gw_in (List.mem_of_getElem? (i := 768) (by decide +kernel)) rfl
theorem i_769 : Cond.code yX6_most cX6_most 2 (some .int) ∈ GW := gw_in (List.mem_of_getElem? (i := 769) (by decide +kernel)) rfl
theorem i_770 : Cond.methodLink RX6 335 yX6_findMost ∈ GW := gw_in (List.mem_of_getElem? (i := 770) (by decide +kernel)) rfl
theorem i_772 : Cond.instanceMethod yX6_findMost ∈ GW := gw_in (List.mem_of_getElem? (i := 772) (by decide +kernel)) rfl
theorem i_773 : Cond.code yX6_findMost cX6_findMost 4 none ∈ GW := gw_in (List.mem_of_getElem? (i := 773) (by decide +kernel)) rfl
theorem i_774 : Cond.methodLink RX6 477 yX0_findChains ∈ GW := gw_in (List.mem_of_getElem? (i := 774) (by decide +kernel)) rfl
theorem i_775 : Cond.instanceMethod yX0_findChains ∈ GW := gw_in (List.mem_of_getElem? (i := 775) (by decide +kernel)) rfl
theorem i_776 : Cond.selects RX0 yX0_findChains yX0_findChains ∈ GW := gw_in (List.mem_of_getElem? (i := 776) (by decide +kernel)) rfl
theorem i_777 : Cond.code yX0_findChains cX0_findChains 2 none ∈ GW := gw_in (List.mem_of_getElem? (i := 777) (by decide +kernel)) rfl
theorem i_778 : Cond.methodLink RX0 47 yJ7_fill_53178 ∈ GW := gw_in (List.mem_of_getElem? (i := 778) (by decide +kernel)) rfl
theorem i_779 : Cond.static yJ7_fill_53178 ∈ GW := gw_in (List.mem_of_getElem? (i := 779) (by decide +kernel)) rfl
theorem i_780 : Cond.code yJ7_fill_53178 cJ7_fill_53178 4 none ∈ GW := gw_in (List.mem_of_getElem? (i := 780) (by decide +kernel)) rfl
theorem i_781 : Cond.methodLink RX0 53 yX0_findNext ∈ GW := gw_in (List.mem_of_getElem? (i := 781) (by decide +kernel)) rfl
theorem i_783 : Cond.instanceMethod yX0_findNext ∈ GW := gw_in (List.mem_of_getElem? (i := 783) (by decide +kernel)) rfl
theorem i_784 : Cond.code yX0_findNext cX0_findNext 6 none ∈ GW := gw_in (List.mem_of_getElem? (i := 784) (by decide +kernel)) rfl
theorem i_785 : Cond.methodLink RX0 61 yX1_liesUnder ∈ GW := gw_in (List.mem_of_getElem? (i := 785) (by decide +kernel)) rfl
theorem i_786 : Cond.methodLink RX0 67 yX0_swapBack ∈ GW := gw_in (List.mem_of_getElem? (i := 786) (by decide +kernel)) rfl
theorem i_788 : Cond.instanceMethod yX0_swapBack ∈ GW := gw_in (List.mem_of_getElem? (i := 788) (by decide +kernel)) rfl
theorem i_789 : Cond.code yX0_swapBack cX0_swapBack 6 none ∈ GW := gw_in (List.mem_of_getElem? (i := 789) (by decide +kernel)) rfl
theorem i_790 : Cond.methodLink RX6 480 yX0_choose ∈ GW := gw_in (List.mem_of_getElem? (i := 790) (by decide +kernel)) rfl
theorem i_791 : Cond.instanceMethod yX0_choose ∈ GW := gw_in (List.mem_of_getElem? (i := 791) (by decide +kernel)) rfl
theorem i_792 : Cond.selects RX0 yX0_choose yX0_choose ∈ GW := gw_in (List.mem_of_getElem? (i := 792) (by decide +kernel)) rfl
theorem i_793 : Cond.code yX0_choose cX0_choose 2 none ∈ GW := gw_in (List.mem_of_getElem? (i := 793) (by decide +kernel)) rfl
theorem i_794 : Cond.methodLink RX0 73 yX0_leavesFullSet ∈ GW := gw_in (List.mem_of_getElem? (i := 794) (by decide +kernel)) rfl
theorem i_796 : Cond.instanceMethod yX0_leavesFullSet ∈ GW := gw_in (List.mem_of_getElem? (i := 796) (by decide +kernel)) rfl
theorem i_797 : Cond.code yX0_leavesFullSet cX0_leavesFullSet 5 (some .boolean) ∈ GW := gw_in (List.mem_of_getElem? (i := 797) (by decide +kernel)) rfl
theorem i_798 : Cond.methodLink RX0 80 yX1_areCrossed ∈ GW := gw_in (List.mem_of_getElem? (i := 798) (by decide +kernel)) rfl
theorem i_799 : Cond.methodLink RX0 83 yX0_leftFrom ∈ GW := gw_in (List.mem_of_getElem? (i := 799) (by decide +kernel)) rfl
theorem i_801 : Cond.instanceMethod yX0_leftFrom ∈ GW := gw_in (List.mem_of_getElem? (i := 801) (by decide +kernel)) rfl
theorem i_802 : Cond.code yX0_leftFrom cX0_leftFrom 4 (some .int) ∈ GW := gw_in (List.mem_of_getElem? (i := 802) (by decide +kernel)) rfl
theorem i_803 : Cond.methodLink RX0 87 yX0_canBeApart ∈ GW := gw_in (List.mem_of_getElem? (i := 803) (by decide +kernel)) rfl
theorem i_805 : Cond.instanceMethod yX0_canBeApart ∈ GW := gw_in (List.mem_of_getElem? (i := 805) (by decide +kernel)) rfl
theorem i_806 : Cond.code yX0_canBeApart cX0_canBeApart 7 (some .boolean) ∈ GW := gw_in (List.mem_of_getElem? (i := 806) (by decide +kernel)) rfl
theorem i_807 : Cond.methodLink RX0 77 yX0_add ∈ GW := gw_in (List.mem_of_getElem? (i := 807) (by decide +kernel)) rfl
theorem i_809 : Cond.instanceMethod yX0_add ∈ GW := gw_in (List.mem_of_getElem? (i := 809) (by decide +kernel)) rfl
theorem i_810 : Cond.code yX0_add cX0_add 3 none ∈ GW := gw_in (List.mem_of_getElem? (i := 810) (by decide +kernel)) rfl
theorem i_811 : Cond.methodLink RX6 390 yX6_pick ∈ GW := gw_in (List.mem_of_getElem? (i := 811) (by decide +kernel)) rfl
theorem i_812 : Cond.instanceMethod yX6_pick ∈ GW := gw_in (List.mem_of_getElem? (i := 812) (by decide +kernel)) rfl
theorem i_813 : Cond.selects RX6 yX6_pick yX6_pick ∈ GW := gw_in (List.mem_of_getElem? (i := 813) (by decide +kernel)) rfl
theorem i_814 : Cond.code yX6_pick cX6_pick 2 (some .int) ∈ GW := gw_in (List.mem_of_getElem? (i := 814) (by decide +kernel)) rfl
theorem i_816 : Cond.methodLink RX6 393 yX6_freeShare ∈ GW := gw_in (List.mem_of_getElem? (i := 816) (by decide +kernel)) rfl
theorem i_817 : Cond.methodLink RX6 397 yX6_doubleBits ∈ GW := gw_in (List.mem_of_getElem? (i := 817) (by decide +kernel)) rfl
theorem i_818 : Cond.static yX6_doubleBits ∈ GW := gw_in (List.mem_of_getElem? (i := 818) (by decide +kernel)) rfl
theorem i_819 : Cond.code yX6_doubleBits cX6_doubleBits 7 (some .long) ∈ GW := gw_in (List.mem_of_getElem? (i := 819) (by decide +kernel)) rfl
theorem i_820 : Cond.constantLong RX6 507 (1023) ∈ GW := gw_in (List.mem_of_getElem? (i := 820) (by decide +kernel)) rfl
theorem i_821 : Cond.constantDouble RX6 509 (4611686018427387904) ∈ GW := gw_in (List.mem_of_getElem? (i := 821) (by decide +kernel)) rfl
theorem i_822 : Cond.constantDouble RX6 511 (4841369599423283200) ∈ GW := gw_in (List.mem_of_getElem? (i := 822) (by decide +kernel)) rfl
theorem i_823 : Cond.methodLink RX6 401 yX6_meanLevel ∈ GW := gw_in (List.mem_of_getElem? (i := 823) (by decide +kernel)) rfl
theorem i_824 : Cond.methodLink RX6 405 yX6_floatBits ∈ GW := gw_in (List.mem_of_getElem? (i := 824) (by decide +kernel)) rfl
theorem i_825 : Cond.static yX6_floatBits ∈ GW := gw_in (List.mem_of_getElem? (i := 825) (by decide +kernel)) rfl
theorem i_826 : Cond.code yX6_floatBits cX6_floatBits 5 (some .int) ∈ GW := gw_in (List.mem_of_getElem? (i := 826) (by decide +kernel)) rfl
theorem i_827 : Cond.constantDouble RX6 513 (4710765210229538816) ∈ GW := gw_in (List.mem_of_getElem? (i := 827) (by decide +kernel)) rfl
theorem i_831 : Cond.classLink RL 13 "java/lang/IllegalArgumentException" ∈ GW := gw_in (List.mem_of_getElem? (i := 831) (by decide +kernel)) rfl
theorem i_832 : Cond.classLink RL 15 "java/lang/IllegalStateException" ∈ GW := gw_in (List.mem_of_getElem? (i := 832) (by decide +kernel)) rfl
theorem i_833 : Cond.methodLink RL 7 yX6_cut ∈ GW := gw_in (List.mem_of_getElem? (i := 833) (by decide +kernel)) rfl
theorem i_834 : Cond.instanceMethod yX6_cut ∈ GW := gw_in (List.mem_of_getElem? (i := 834) (by decide +kernel)) rfl
theorem i_835 : Cond.selects RX6 yX6_cut yX6_cut ∈ GW := gw_in (List.mem_of_getElem? (i := 835) (by decide +kernel)) rfl
theorem i_836 : Cond.code yX6_cut cX6_cut 3 (some .int) ∈ GW := gw_in (List.mem_of_getElem? (i := 836) (by decide +kernel)) rfl
theorem i_838 : Cond.classLink RX6 68 "java/lang/IllegalStateException" ∈ GW := gw_in (List.mem_of_getElem? (i := 838) (by decide +kernel)) rfl
theorem i_854 : Cond.methodLink RX6 73 yX6_save ∈ GW := gw_in (List.mem_of_getElem? (i := 854) (by decide +kernel)) rfl
theorem i_856 : Cond.instanceMethod yX6_save ∈ GW := gw_in (List.mem_of_getElem? (i := 856) (by decide +kernel)) rfl
theorem i_857 : Cond.code yX6_save cX6_save 1 none ∈ GW := gw_in (List.mem_of_getElem? (i := 857) (by decide +kernel)) rfl
theorem i_858 : Cond.methodLink RX6 76 yX6_addKey ∈ GW := gw_in (List.mem_of_getElem? (i := 858) (by decide +kernel)) rfl
theorem i_860 : Cond.instanceMethod yX6_addKey ∈ GW := gw_in (List.mem_of_getElem? (i := 860) (by decide +kernel)) rfl
theorem i_861 : Cond.code yX6_addKey cX6_addKey 3 none ∈ GW := gw_in (List.mem_of_getElem? (i := 861) (by decide +kernel)) rfl
theorem i_862 : Cond.methodLink RX6 409 yX2_startWith ∈ GW := gw_in (List.mem_of_getElem? (i := 862) (by decide +kernel)) rfl
theorem i_863 : Cond.instanceMethod yX2_startWith ∈ GW := gw_in (List.mem_of_getElem? (i := 863) (by decide +kernel)) rfl
theorem i_864 : Cond.selects RX2 yX2_startWith yX2_startWith ∈ GW := gw_in (List.mem_of_getElem? (i := 864) (by decide +kernel)) rfl
theorem i_865 : Cond.code yX2_startWith cX2_startWith 3 none ∈ GW := gw_in (List.mem_of_getElem? (i := 865) (by decide +kernel)) rfl
theorem i_869 : Cond.classLink RL 20 "java/lang/IndexOutOfBoundsException" ∈ GW := gw_in (List.mem_of_getElem? (i := 869) (by decide +kernel)) rfl
theorem i_870 : Cond.methodLink RL 17 yX6_deepen ∈ GW := gw_in (List.mem_of_getElem? (i := 870) (by decide +kernel)) rfl
theorem i_871 : Cond.instanceMethod yX6_deepen ∈ GW := gw_in (List.mem_of_getElem? (i := 871) (by decide +kernel)) rfl
theorem i_872 : Cond.selects RX6 yX6_deepen yX6_deepen ∈ GW := gw_in (List.mem_of_getElem? (i := 872) (by decide +kernel)) rfl
theorem i_873 : Cond.code yX6_deepen cX6_deepen 3 (some .int) ∈ GW := gw_in (List.mem_of_getElem? (i := 873) (by decide +kernel)) rfl
theorem i_875 : Cond.methodLink RX6 100 yX6_cutDeeper ∈ GW := gw_in (List.mem_of_getElem? (i := 875) (by decide +kernel)) rfl
theorem i_877 : Cond.instanceMethod yX6_cutDeeper ∈ GW := gw_in (List.mem_of_getElem? (i := 877) (by decide +kernel)) rfl
theorem i_878 : Cond.code yX6_cutDeeper cX6_cutDeeper 3 none ∈ GW := gw_in (List.mem_of_getElem? (i := 878) (by decide +kernel)) rfl
theorem i_882 : Cond.methodLink RL 22 yX6_retire ∈ GW := gw_in (List.mem_of_getElem? (i := 882) (by decide +kernel)) rfl
theorem i_883 : Cond.instanceMethod yX6_retire ∈ GW := gw_in (List.mem_of_getElem? (i := 883) (by decide +kernel)) rfl
theorem i_884 : Cond.selects RX6 yX6_retire yX6_retire ∈ GW := gw_in (List.mem_of_getElem? (i := 884) (by decide +kernel)) rfl
theorem i_885 : Cond.code yX6_retire cX6_retire 3 (some .int) ∈ GW := gw_in (List.mem_of_getElem? (i := 885) (by decide +kernel)) rfl
theorem i_886 : Cond.methodLink RX6 114 yX2_copyFrom ∈ GW := gw_in (List.mem_of_getElem? (i := 886) (by decide +kernel)) rfl
theorem i_890 : Cond.methodLink RL 26 yX6_give ∈ GW := gw_in (List.mem_of_getElem? (i := 890) (by decide +kernel)) rfl
theorem i_891 : Cond.instanceMethod yX6_give ∈ GW := gw_in (List.mem_of_getElem? (i := 891) (by decide +kernel)) rfl
theorem i_892 : Cond.selects RX6 yX6_give yX6_give ∈ GW := gw_in (List.mem_of_getElem? (i := 892) (by decide +kernel)) rfl
theorem i_893 : Cond.code yX6_give cX6_give 5 (some .int) ∈ GW := gw_in (List.mem_of_getElem? (i := 893) (by decide +kernel)) rfl
theorem i_898 : Cond.methodLink RL 29 yX6_lose ∈ GW := gw_in (List.mem_of_getElem? (i := 898) (by decide +kernel)) rfl
theorem i_899 : Cond.instanceMethod yX6_lose ∈ GW := gw_in (List.mem_of_getElem? (i := 899) (by decide +kernel)) rfl
theorem i_900 : Cond.selects RX6 yX6_lose yX6_lose ∈ GW := gw_in (List.mem_of_getElem? (i := 900) (by decide +kernel)) rfl
theorem i_901 : Cond.code yX6_lose cX6_lose 2 (some .int) ∈ GW := gw_in (List.mem_of_getElem? (i := 901) (by decide +kernel)) rfl
theorem i_903 : Cond.methodLink RX6 135 yJ6_bitCount_0f7a4 ∈ GW := gw_in (List.mem_of_getElem? (i := 903) (by decide +kernel)) rfl
theorem i_904 : Cond.static yJ6_bitCount_0f7a4 ∈ GW := gw_in (List.mem_of_getElem? (i := 904) (by decide +kernel)) rfl
theorem i_905 : Cond.code yJ6_bitCount_0f7a4 cJ6_bitCount_0f7a4 1 (some .int) ∈ GW := gw_in (List.mem_of_getElem? (i := 905) (by decide +kernel)) rfl
theorem i_906 : Cond.constant RJ6 265 (1431655765) ∈ GW := gw_in (List.mem_of_getElem? (i := 906) (by decide +kernel)) rfl
theorem i_907 : Cond.constant RJ6 266 (858993459) ∈ GW := gw_in (List.mem_of_getElem? (i := 907) (by decide +kernel)) rfl
theorem i_908 : Cond.constant RJ6 267 (252645135) ∈ GW := gw_in (List.mem_of_getElem? (i := 908) (by decide +kernel)) rfl
theorem i_912 : Cond.methodLink RL 32 yX6_find ∈ GW := gw_in (List.mem_of_getElem? (i := 912) (by decide +kernel)) rfl
theorem i_913 : Cond.instanceMethod yX6_find ∈ GW := gw_in (List.mem_of_getElem? (i := 913) (by decide +kernel)) rfl
theorem i_914 : Cond.selects RX6 yX6_find yX6_find ∈ GW := gw_in (List.mem_of_getElem? (i := 914) (by decide +kernel)) rfl
theorem i_915 : Cond.code yX6_find cX6_find 2 (some .int) ∈ GW := gw_in (List.mem_of_getElem? (i := 915) (by decide +kernel)) rfl
theorem i_920 : Cond.methodLink RL 35 yX6_ward ∈ GW := gw_in (List.mem_of_getElem? (i := 920) (by decide +kernel)) rfl
theorem i_921 : Cond.instanceMethod yX6_ward ∈ GW := gw_in (List.mem_of_getElem? (i := 921) (by decide +kernel)) rfl
theorem i_922 : Cond.selects RX6 yX6_ward yX6_ward ∈ GW := gw_in (List.mem_of_getElem? (i := 922) (by decide +kernel)) rfl
theorem i_923 : Cond.code yX6_ward cX6_ward 4 (some .int) ∈ GW := gw_in (List.mem_of_getElem? (i := 923) (by decide +kernel)) rfl
theorem i_927 : Cond.methodLink RL 38 yX6_guest ∈ GW := gw_in (List.mem_of_getElem? (i := 927) (by decide +kernel)) rfl
theorem i_928 : Cond.instanceMethod yX6_guest ∈ GW := gw_in (List.mem_of_getElem? (i := 928) (by decide +kernel)) rfl
theorem i_929 : Cond.selects RX6 yX6_guest yX6_guest ∈ GW := gw_in (List.mem_of_getElem? (i := 929) (by decide +kernel)) rfl
theorem i_930 : Cond.code yX6_guest cX6_guest 4 (some .int) ∈ GW := gw_in (List.mem_of_getElem? (i := 930) (by decide +kernel)) rfl
theorem i_935 : Cond.methodLink RL 41 yX6_take ∈ GW := gw_in (List.mem_of_getElem? (i := 935) (by decide +kernel)) rfl
theorem i_936 : Cond.instanceMethod yX6_take ∈ GW := gw_in (List.mem_of_getElem? (i := 936) (by decide +kernel)) rfl
theorem i_937 : Cond.selects RX6 yX6_take yX6_take ∈ GW := gw_in (List.mem_of_getElem? (i := 937) (by decide +kernel)) rfl
theorem i_938 : Cond.code yX6_take cX6_take 3 (some .int) ∈ GW := gw_in (List.mem_of_getElem? (i := 938) (by decide +kernel)) rfl
theorem i_939 : Cond.methodLink RX6 169 yX3_clear ∈ GW := gw_in (List.mem_of_getElem? (i := 939) (by decide +kernel)) rfl
theorem i_940 : Cond.instanceMethod yX3_clear ∈ GW := gw_in (List.mem_of_getElem? (i := 940) (by decide +kernel)) rfl
theorem i_941 : Cond.selects RX3 yX3_clear yX3_clear ∈ GW := gw_in (List.mem_of_getElem? (i := 941) (by decide +kernel)) rfl
theorem i_942 : Cond.code yX3_clear cX3_clear 1 none ∈ GW := gw_in (List.mem_of_getElem? (i := 942) (by decide +kernel)) rfl
theorem i_946 : Cond.methodLink RL 44 yX6_turn ∈ GW := gw_in (List.mem_of_getElem? (i := 946) (by decide +kernel)) rfl
theorem i_947 : Cond.instanceMethod yX6_turn ∈ GW := gw_in (List.mem_of_getElem? (i := 947) (by decide +kernel)) rfl
theorem i_948 : Cond.selects RX6 yX6_turn yX6_turn ∈ GW := gw_in (List.mem_of_getElem? (i := 948) (by decide +kernel)) rfl
theorem i_949 : Cond.code yX6_turn cX6_turn 3 (some .int) ∈ GW := gw_in (List.mem_of_getElem? (i := 949) (by decide +kernel)) rfl
theorem i_952 : Cond.methodLink RX6 176 yX6_tryKey ∈ GW := gw_in (List.mem_of_getElem? (i := 952) (by decide +kernel)) rfl
theorem i_954 : Cond.instanceMethod yX6_tryKey ∈ GW := gw_in (List.mem_of_getElem? (i := 954) (by decide +kernel)) rfl
theorem i_955 : Cond.code yX6_tryKey cX6_tryKey 6 (some .boolean) ∈ GW := gw_in (List.mem_of_getElem? (i := 955) (by decide +kernel)) rfl
theorem i_959 : Cond.methodLink RL 47 yX6_set ∈ GW := gw_in (List.mem_of_getElem? (i := 959) (by decide +kernel)) rfl
theorem i_960 : Cond.instanceMethod yX6_set ∈ GW := gw_in (List.mem_of_getElem? (i := 960) (by decide +kernel)) rfl
theorem i_961 : Cond.selects RX6 yX6_set yX6_set ∈ GW := gw_in (List.mem_of_getElem? (i := 961) (by decide +kernel)) rfl
theorem i_962 : Cond.code yX6_set cX6_set 4 (some .int) ∈ GW := gw_in (List.mem_of_getElem? (i := 962) (by decide +kernel)) rfl
theorem i_963 : Cond.methodLink RX6 180 yX6_isSetting ∈ GW := gw_in (List.mem_of_getElem? (i := 963) (by decide +kernel)) rfl
theorem i_964 : Cond.static yX6_isSetting ∈ GW := gw_in (List.mem_of_getElem? (i := 964) (by decide +kernel)) rfl
theorem i_965 : Cond.code yX6_isSetting cX6_isSetting 1 (some .boolean) ∈ GW := gw_in (List.mem_of_getElem? (i := 965) (by decide +kernel)) rfl
theorem i_967 : Cond.fieldLink RX6 185 "NotchedKeys" "LEAST_VALUES" "[I" ∈ GW := gw_in (List.mem_of_getElem? (i := 967) (by decide +kernel)) rfl
theorem i_969 : Cond.fieldLink RX6 189 "NotchedKeys" "GREATEST_VALUES" "[I" ∈ GW := gw_in (List.mem_of_getElem? (i := 969) (by decide +kernel)) rfl
theorem i_975 : Cond.methodLink RL 50 yX6_append ∈ GW := gw_in (List.mem_of_getElem? (i := 975) (by decide +kernel)) rfl
theorem i_976 : Cond.instanceMethod yX6_append ∈ GW := gw_in (List.mem_of_getElem? (i := 976) (by decide +kernel)) rfl
theorem i_977 : Cond.selects RX6 yX6_append yX6_append ∈ GW := gw_in (List.mem_of_getElem? (i := 977) (by decide +kernel)) rfl
theorem i_978 : Cond.code yX6_append cX6_append 2 (some .int) ∈ GW := gw_in (List.mem_of_getElem? (i := 978) (by decide +kernel)) rfl
theorem i_984 : Cond.methodLink RL 53 yX6_obey ∈ GW := gw_in (List.mem_of_getElem? (i := 984) (by decide +kernel)) rfl
theorem i_985 : Cond.instanceMethod yX6_obey ∈ GW := gw_in (List.mem_of_getElem? (i := 985) (by decide +kernel)) rfl
theorem i_986 : Cond.selects RX6 yX6_obey yX6_obey ∈ GW := gw_in (List.mem_of_getElem? (i := 986) (by decide +kernel)) rfl
theorem i_987 : Cond.code yX6_obey cX6_obey 2 (some .int) ∈ GW := gw_in (List.mem_of_getElem? (i := 987) (by decide +kernel)) rfl
theorem i_989 : Cond.methodLink RX6 223 yX6_doOrders ∈ GW := gw_in (List.mem_of_getElem? (i := 989) (by decide +kernel)) rfl
theorem i_991 : Cond.instanceMethod yX6_doOrders ∈ GW := gw_in (List.mem_of_getElem? (i := 991) (by decide +kernel)) rfl
theorem i_992 : Cond.code yX6_doOrders cX6_doOrders 3 (some .int) ∈ GW := gw_in (List.mem_of_getElem? (i := 992) (by decide +kernel)) rfl
theorem i_993 : Cond.methodLink RX6 421 yX4_readOrder ∈ GW := gw_in (List.mem_of_getElem? (i := 993) (by decide +kernel)) rfl
theorem i_994 : Cond.methodLink RX6 424 yX6_doOrder ∈ GW := gw_in (List.mem_of_getElem? (i := 994) (by decide +kernel)) rfl
theorem i_996 : Cond.instanceMethod yX6_doOrder ∈ GW := gw_in (List.mem_of_getElem? (i := 996) (by decide +kernel)) rfl
theorem i_997 : Cond.code yX6_doOrder cX6_doOrder 1 (some .int) ∈ GW := gw_in (List.mem_of_getElem? (i := 997) (by decide +kernel)) rfl
theorem i_998 : Cond.methodLink RX6 439 yX6_doCut ∈ GW := gw_in (List.mem_of_getElem? (i := 998) (by decide +kernel)) rfl
theorem i_1000 : Cond.instanceMethod yX6_doCut ∈ GW := gw_in (List.mem_of_getElem? (i := 1000) (by decide +kernel)) rfl
theorem i_1001 : Cond.code yX6_doCut cX6_doCut 4 (some .int) ∈ GW := gw_in (List.mem_of_getElem? (i := 1001) (by decide +kernel)) rfl
theorem i_1002 : Cond.methodLink RX6 445 yX6_doDeepen ∈ GW := gw_in (List.mem_of_getElem? (i := 1002) (by decide +kernel)) rfl
theorem i_1004 : Cond.instanceMethod yX6_doDeepen ∈ GW := gw_in (List.mem_of_getElem? (i := 1004) (by decide +kernel)) rfl
theorem i_1005 : Cond.code yX6_doDeepen cX6_doDeepen 4 (some .int) ∈ GW := gw_in (List.mem_of_getElem? (i := 1005) (by decide +kernel)) rfl
theorem i_1006 : Cond.methodLink RX6 448 yX6_doTry ∈ GW := gw_in (List.mem_of_getElem? (i := 1006) (by decide +kernel)) rfl
theorem i_1008 : Cond.instanceMethod yX6_doTry ∈ GW := gw_in (List.mem_of_getElem? (i := 1008) (by decide +kernel)) rfl
theorem i_1009 : Cond.code yX6_doTry cX6_doTry 3 (some .int) ∈ GW := gw_in (List.mem_of_getElem? (i := 1009) (by decide +kernel)) rfl
theorem i_1010 : Cond.methodLink RX6 451 yX6_doMark ∈ GW := gw_in (List.mem_of_getElem? (i := 1010) (by decide +kernel)) rfl
theorem i_1012 : Cond.instanceMethod yX6_doMark ∈ GW := gw_in (List.mem_of_getElem? (i := 1012) (by decide +kernel)) rfl
theorem i_1013 : Cond.code yX6_doMark cX6_doMark 3 (some .int) ∈ GW := gw_in (List.mem_of_getElem? (i := 1013) (by decide +kernel)) rfl
theorem i_1014 : Cond.methodLink RX6 427 yX4_skip ∈ GW := gw_in (List.mem_of_getElem? (i := 1014) (by decide +kernel)) rfl
theorem i_1018 : Cond.methodLink RL 57 yX6_goBack ∈ GW := gw_in (List.mem_of_getElem? (i := 1018) (by decide +kernel)) rfl
theorem i_1019 : Cond.instanceMethod yX6_goBack ∈ GW := gw_in (List.mem_of_getElem? (i := 1019) (by decide +kernel)) rfl
theorem i_1020 : Cond.selects RX6 yX6_goBack yX6_goBack ∈ GW := gw_in (List.mem_of_getElem? (i := 1020) (by decide +kernel)) rfl
theorem i_1021 : Cond.code yX6_goBack cX6_goBack 1 (some .int) ∈ GW := gw_in (List.mem_of_getElem? (i := 1021) (by decide +kernel)) rfl
theorem i_1026 : Cond.methodLink RL 60 yX6_undo ∈ GW := gw_in (List.mem_of_getElem? (i := 1026) (by decide +kernel)) rfl
theorem i_1027 : Cond.instanceMethod yX6_undo ∈ GW := gw_in (List.mem_of_getElem? (i := 1027) (by decide +kernel)) rfl
theorem i_1028 : Cond.selects RX6 yX6_undo yX6_undo ∈ GW := gw_in (List.mem_of_getElem? (i := 1028) (by decide +kernel)) rfl
theorem i_1029 : Cond.code yX6_undo cX6_undo 1 (some .int) ∈ GW := gw_in (List.mem_of_getElem? (i := 1029) (by decide +kernel)) rfl
theorem i_1034 : Cond.methodLink RL 63 yX6_key ∈ GW := gw_in (List.mem_of_getElem? (i := 1034) (by decide +kernel)) rfl
theorem i_1038 : Cond.methodLink RL 66 yX6_lock ∈ GW := gw_in (List.mem_of_getElem? (i := 1038) (by decide +kernel)) rfl
theorem i_1042 : Cond.methodLink RL 69 yX6_person ∈ GW := gw_in (List.mem_of_getElem? (i := 1042) (by decide +kernel)) rfl
theorem i_1046 : Cond.methodLink RL 72 yX6_code ∈ GW := gw_in (List.mem_of_getElem? (i := 1046) (by decide +kernel)) rfl
theorem i_1050 : Cond.methodLink RL 75 yX6_level ∈ GW := gw_in (List.mem_of_getElem? (i := 1050) (by decide +kernel)) rfl
theorem i_1054 : Cond.methodLink RL 78 yX6_count ∈ GW := gw_in (List.mem_of_getElem? (i := 1054) (by decide +kernel)) rfl
theorem i_1058 : Cond.methodLink RL 81 yX6_setting ∈ GW := gw_in (List.mem_of_getElem? (i := 1058) (by decide +kernel)) rfl
theorem i_1059 : Cond.instanceMethod yX6_setting ∈ GW := gw_in (List.mem_of_getElem? (i := 1059) (by decide +kernel)) rfl
theorem i_1060 : Cond.selects RX6 yX6_setting yX6_setting ∈ GW := gw_in (List.mem_of_getElem? (i := 1060) (by decide +kernel)) rfl
theorem i_1061 : Cond.code yX6_setting cX6_setting 2 (some .int) ∈ GW := gw_in (List.mem_of_getElem? (i := 1061) (by decide +kernel)) rfl
theorem i_1065 : Cond.methodLink RL 84 yX6_why ∈ GW := gw_in (List.mem_of_getElem? (i := 1065) (by decide +kernel)) rfl
theorem i_1069 : Cond.methodLink RL 87 yX6_stopped ∈ GW := gw_in (List.mem_of_getElem? (i := 1069) (by decide +kernel)) rfl
theorem i_1073 : Cond.methodLink RL 90 yX6_most ∈ GW := gw_in (List.mem_of_getElem? (i := 1073) (by decide +kernel)) rfl
theorem i_1077 : Cond.methodLink RL 93 yX6_pick ∈ GW := gw_in (List.mem_of_getElem? (i := 1077) (by decide +kernel)) rfl
theorem i_1081 : Cond.methodLink RL 96 yX6_opener ∈ GW := gw_in (List.mem_of_getElem? (i := 1081) (by decide +kernel)) rfl
theorem i_1082 : Cond.instanceMethod yX6_opener ∈ GW := gw_in (List.mem_of_getElem? (i := 1082) (by decide +kernel)) rfl
theorem i_1083 : Cond.selects RX6 yX6_opener yX6_opener ∈ GW := gw_in (List.mem_of_getElem? (i := 1083) (by decide +kernel)) rfl
theorem i_1084 : Cond.code yX6_opener cX6_opener 5 (some .int) ∈ GW := gw_in (List.mem_of_getElem? (i := 1084) (by decide +kernel)) rfl
theorem i_1085 : Cond.methodLink RX6 349 yX6_hasAllLocks ∈ GW := gw_in (List.mem_of_getElem? (i := 1085) (by decide +kernel)) rfl
theorem i_1087 : Cond.instanceMethod yX6_hasAllLocks ∈ GW := gw_in (List.mem_of_getElem? (i := 1087) (by decide +kernel)) rfl
theorem i_1088 : Cond.code yX6_hasAllLocks cX6_hasAllLocks 3 (some .boolean) ∈ GW := gw_in (List.mem_of_getElem? (i := 1088) (by decide +kernel)) rfl
theorem i_1090 : Cond.methodLink RX6 354 yX6_opensAll ∈ GW := gw_in (List.mem_of_getElem? (i := 1090) (by decide +kernel)) rfl
theorem i_1092 : Cond.instanceMethod yX6_opensAll ∈ GW := gw_in (List.mem_of_getElem? (i := 1092) (by decide +kernel)) rfl
theorem i_1093 : Cond.code yX6_opensAll cX6_opensAll 4 (some .boolean) ∈ GW := gw_in (List.mem_of_getElem? (i := 1093) (by decide +kernel)) rfl
theorem i_1097 : Cond.methodLink RL 99 yX6_worn ∈ GW := gw_in (List.mem_of_getElem? (i := 1097) (by decide +kernel)) rfl
theorem i_1098 : Cond.instanceMethod yX6_worn ∈ GW := gw_in (List.mem_of_getElem? (i := 1098) (by decide +kernel)) rfl
theorem i_1099 : Cond.selects RX6 yX6_worn yX6_worn ∈ GW := gw_in (List.mem_of_getElem? (i := 1099) (by decide +kernel)) rfl
theorem i_1100 : Cond.code yX6_worn cX6_worn 5 (some .int) ∈ GW := gw_in (List.mem_of_getElem? (i := 1100) (by decide +kernel)) rfl
theorem i_1105 : Cond.methodLink RL 102 yX6_crossedIn ∈ GW := gw_in (List.mem_of_getElem? (i := 1105) (by decide +kernel)) rfl
theorem i_1106 : Cond.classLink RL 106 "NotchedKeysModel" ∈ GW := gw_in (List.mem_of_getElem? (i := 1106) (by decide +kernel)) rfl
theorem i_1107 : Cond.instantiable RX7 23 ∈ GW := gw_in (List.mem_of_getElem? (i := 1107) (by decide +kernel)) rfl
theorem i_1108 : Cond.methodLink RL 108 yX7_init ∈ GW := gw_in (List.mem_of_getElem? (i := 1108) (by decide +kernel)) rfl
theorem i_1109 : Cond.instanceMethod yX7_init ∈ GW := gw_in (List.mem_of_getElem? (i := 1109) (by decide +kernel)) rfl
theorem i_1110 : Cond.code yX7_init cX7_init 4 none ∈ GW := gw_in (List.mem_of_getElem? (i := 1110) (by decide +kernel)) rfl
theorem i_1112 : Cond.methodLink RX7 49 yX7_liesUnder ∈ GW := gw_in (List.mem_of_getElem? (i := 1112) (by decide +kernel)) rfl
theorem i_1113 : Cond.static yX7_liesUnder ∈ GW := gw_in (List.mem_of_getElem? (i := 1113) (by decide +kernel)) rfl
theorem i_1114 : Cond.code yX7_liesUnder cX7_liesUnder 4 (some .boolean) ∈ GW := gw_in (List.mem_of_getElem? (i := 1114) (by decide +kernel)) rfl
theorem i_1115 : Cond.methodLink RX7 82 yX7_depth ∈ GW := gw_in (List.mem_of_getElem? (i := 1115) (by decide +kernel)) rfl
theorem i_1116 : Cond.static yX7_depth ∈ GW := gw_in (List.mem_of_getElem? (i := 1116) (by decide +kernel)) rfl
theorem i_1117 : Cond.code yX7_depth cX7_depth 2 (some .int) ∈ GW := gw_in (List.mem_of_getElem? (i := 1117) (by decide +kernel)) rfl
theorem i_1118 : Cond.methodLink RX7 79 yX7_worth ∈ GW := gw_in (List.mem_of_getElem? (i := 1118) (by decide +kernel)) rfl
theorem i_1119 : Cond.static yX7_worth ∈ GW := gw_in (List.mem_of_getElem? (i := 1119) (by decide +kernel)) rfl
theorem i_1120 : Cond.code yX7_worth cX7_worth 1 (some .int) ∈ GW := gw_in (List.mem_of_getElem? (i := 1120) (by decide +kernel)) rfl
theorem i_1121 : Cond.fieldLink RX7 53 "NotchedKeysModel" "thrown" "I" ∈ GW := gw_in (List.mem_of_getElem? (i := 1121) (by decide +kernel)) rfl
theorem i_1122 : Cond.fieldLink RX7 7 "NotchedKeysModel" "state" "[I" ∈ GW := gw_in (List.mem_of_getElem? (i := 1122) (by decide +kernel)) rfl
theorem i_1123 : Cond.fieldLink RX7 13 "NotchedKeysModel" "saved" "[I" ∈ GW := gw_in (List.mem_of_getElem? (i := 1123) (by decide +kernel)) rfl
theorem i_1124 : Cond.fieldLink RX7 65 "NotchedKeysModel" "savedMany" "I" ∈ GW := gw_in (List.mem_of_getElem? (i := 1124) (by decide +kernel)) rfl
theorem i_1125 : Cond.fieldLink RX7 16 "NotchedKeysModel" "snapshot" "[I" ∈ GW := gw_in (List.mem_of_getElem? (i := 1125) (by decide +kernel)) rfl
theorem i_1126 : Cond.fieldLink RX7 72 "NotchedKeysModel" "hasSnapshot" "Z" ∈ GW := gw_in (List.mem_of_getElem? (i := 1126) (by decide +kernel)) rfl
theorem i_1127 : Cond.fieldLink RX7 19 "NotchedKeysModel" "buffer" "[I" ∈ GW := gw_in (List.mem_of_getElem? (i := 1127) (by decide +kernel)) rfl
theorem i_1128 : Cond.fieldLink RX7 155 "NotchedKeysModel" "length" "I" ∈ GW := gw_in (List.mem_of_getElem? (i := 1128) (by decide +kernel)) rfl
theorem i_1129 : Cond.fieldLink RX7 158 "NotchedKeysModel" "at" "I" ∈ GW := gw_in (List.mem_of_getElem? (i := 1129) (by decide +kernel)) rfl
theorem i_1130 : Cond.fieldLink RX7 174 "NotchedKeysModel" "letter" "I" ∈ GW := gw_in (List.mem_of_getElem? (i := 1130) (by decide +kernel)) rfl
theorem i_1131 : Cond.fieldLink RX7 168 "NotchedKeysModel" "first" "I" ∈ GW := gw_in (List.mem_of_getElem? (i := 1131) (by decide +kernel)) rfl
theorem i_1132 : Cond.fieldLink RX7 165 "NotchedKeysModel" "second" "I" ∈ GW := gw_in (List.mem_of_getElem? (i := 1132) (by decide +kernel)) rfl
theorem i_1133 : Cond.fieldLink RX7 22 "NotchedKeysModel" "overStart" "[I" ∈ GW := gw_in (List.mem_of_getElem? (i := 1133) (by decide +kernel)) rfl
theorem i_1134 : Cond.fieldLink RX7 25 "NotchedKeysModel" "overCode" "[I" ∈ GW := gw_in (List.mem_of_getElem? (i := 1134) (by decide +kernel)) rfl
theorem i_1135 : Cond.fieldLink RX7 28 "NotchedKeysModel" "isLookedAt" "[I" ∈ GW := gw_in (List.mem_of_getElem? (i := 1135) (by decide +kernel)) rfl
theorem i_1136 : Cond.fieldLink RX7 31 "NotchedKeysModel" "above" "[I" ∈ GW := gw_in (List.mem_of_getElem? (i := 1136) (by decide +kernel)) rfl
theorem i_1137 : Cond.fieldLink RX7 34 "NotchedKeysModel" "below" "[I" ∈ GW := gw_in (List.mem_of_getElem? (i := 1137) (by decide +kernel)) rfl
theorem i_1138 : Cond.fieldLink RX7 37 "NotchedKeysModel" "reachedFrom" "[I" ∈ GW := gw_in (List.mem_of_getElem? (i := 1138) (by decide +kernel)) rfl
theorem i_1139 : Cond.fieldLink RX7 40 "NotchedKeysModel" "row" "[I" ∈ GW := gw_in (List.mem_of_getElem? (i := 1139) (by decide +kernel)) rfl
theorem i_1140 : Cond.fieldLink RX7 43 "NotchedKeysModel" "isFree" "[I" ∈ GW := gw_in (List.mem_of_getElem? (i := 1140) (by decide +kernel)) rfl
theorem i_1141 : Cond.fieldLink RX7 46 "NotchedKeysModel" "chosen" "[I" ∈ GW := gw_in (List.mem_of_getElem? (i := 1141) (by decide +kernel)) rfl
theorem i_1142 : Cond.fieldLink RX7 259 "NotchedKeysModel" "chosenMany" "I" ∈ GW := gw_in (List.mem_of_getElem? (i := 1142) (by decide +kernel)) rfl
theorem i_1143 : Cond.fieldLink RX7 299 "NotchedKeysModel" "hash" "J" ∈ GW := gw_in (List.mem_of_getElem? (i := 1143) (by decide +kernel)) rfl
theorem i_1191 : Cond.methodLink RL 115 yX7_thrown ∈ GW := gw_in (List.mem_of_getElem? (i := 1191) (by decide +kernel)) rfl
theorem i_1192 : Cond.instanceMethod yX7_thrown ∈ GW := gw_in (List.mem_of_getElem? (i := 1192) (by decide +kernel)) rfl
theorem i_1193 : Cond.selects RX7 yX7_thrown yX7_thrown ∈ GW := gw_in (List.mem_of_getElem? (i := 1193) (by decide +kernel)) rfl
theorem i_1194 : Cond.code yX7_thrown cX7_thrown 1 (some .int) ∈ GW := gw_in (List.mem_of_getElem? (i := 1194) (by decide +kernel)) rfl
theorem i_1195 : Cond.methodLink RL 173 yX7_undo ∈ GW := gw_in (List.mem_of_getElem? (i := 1195) (by decide +kernel)) rfl
theorem i_1196 : Cond.instanceMethod yX7_undo ∈ GW := gw_in (List.mem_of_getElem? (i := 1196) (by decide +kernel)) rfl
theorem i_1197 : Cond.selects RX7 yX7_undo yX7_undo ∈ GW := gw_in (List.mem_of_getElem? (i := 1197) (by decide +kernel)) rfl
theorem i_1198 : Cond.code yX7_undo cX7_undo 2 (some .int) ∈ GW := gw_in (List.mem_of_getElem? (i := 1198) (by decide +kernel)) rfl
theorem i_1199 : Cond.methodLink RX7 68 yX7_fails ∈ GW := gw_in (List.mem_of_getElem? (i := 1199) (by decide +kernel)) rfl
theorem i_1201 : Cond.instanceMethod yX7_fails ∈ GW := gw_in (List.mem_of_getElem? (i := 1201) (by decide +kernel)) rfl
theorem i_1202 : Cond.code yX7_fails cX7_fails 2 (some .int) ∈ GW := gw_in (List.mem_of_getElem? (i := 1202) (by decide +kernel)) rfl
theorem i_1203 : Cond.methodLink RL 167 yX7_keep ∈ GW := gw_in (List.mem_of_getElem? (i := 1203) (by decide +kernel)) rfl
theorem i_1204 : Cond.instanceMethod yX7_keep ∈ GW := gw_in (List.mem_of_getElem? (i := 1204) (by decide +kernel)) rfl
theorem i_1205 : Cond.selects RX7 yX7_keep yX7_keep ∈ GW := gw_in (List.mem_of_getElem? (i := 1205) (by decide +kernel)) rfl
theorem i_1206 : Cond.code yX7_keep cX7_keep 2 (some .int) ∈ GW := gw_in (List.mem_of_getElem? (i := 1206) (by decide +kernel)) rfl
theorem i_1207 : Cond.methodLink RL 170 yX7_goBack ∈ GW := gw_in (List.mem_of_getElem? (i := 1207) (by decide +kernel)) rfl
theorem i_1208 : Cond.instanceMethod yX7_goBack ∈ GW := gw_in (List.mem_of_getElem? (i := 1208) (by decide +kernel)) rfl
theorem i_1209 : Cond.selects RX7 yX7_goBack yX7_goBack ∈ GW := gw_in (List.mem_of_getElem? (i := 1209) (by decide +kernel)) rfl
theorem i_1210 : Cond.code yX7_goBack cX7_goBack 2 (some .int) ∈ GW := gw_in (List.mem_of_getElem? (i := 1210) (by decide +kernel)) rfl
theorem i_1211 : Cond.methodLink RX7 76 yX7_save ∈ GW := gw_in (List.mem_of_getElem? (i := 1211) (by decide +kernel)) rfl
theorem i_1213 : Cond.instanceMethod yX7_save ∈ GW := gw_in (List.mem_of_getElem? (i := 1213) (by decide +kernel)) rfl
theorem i_1214 : Cond.code yX7_save cX7_save 2 none ∈ GW := gw_in (List.mem_of_getElem? (i := 1214) (by decide +kernel)) rfl
theorem i_1215 : Cond.methodLink RL 114 yX7_cut ∈ GW := gw_in (List.mem_of_getElem? (i := 1215) (by decide +kernel)) rfl
theorem i_1216 : Cond.instanceMethod yX7_cut ∈ GW := gw_in (List.mem_of_getElem? (i := 1216) (by decide +kernel)) rfl
theorem i_1217 : Cond.selects RX7 yX7_cut yX7_cut ∈ GW := gw_in (List.mem_of_getElem? (i := 1217) (by decide +kernel)) rfl
theorem i_1218 : Cond.code yX7_cut cX7_cut 3 (some .int) ∈ GW := gw_in (List.mem_of_getElem? (i := 1218) (by decide +kernel)) rfl
theorem i_1219 : Cond.methodLink RX7 119 yX7_isCode ∈ GW := gw_in (List.mem_of_getElem? (i := 1219) (by decide +kernel)) rfl
theorem i_1220 : Cond.static yX7_isCode ∈ GW := gw_in (List.mem_of_getElem? (i := 1220) (by decide +kernel)) rfl
theorem i_1221 : Cond.code yX7_isCode cX7_isCode 1 (some .boolean) ∈ GW := gw_in (List.mem_of_getElem? (i := 1221) (by decide +kernel)) rfl
theorem i_1222 : Cond.methodLink RX7 57 yX7_within ∈ GW := gw_in (List.mem_of_getElem? (i := 1222) (by decide +kernel)) rfl
theorem i_1223 : Cond.static yX7_within ∈ GW := gw_in (List.mem_of_getElem? (i := 1223) (by decide +kernel)) rfl
theorem i_1224 : Cond.code yX7_within cX7_within 3 (some .boolean) ∈ GW := gw_in (List.mem_of_getElem? (i := 1224) (by decide +kernel)) rfl
theorem i_1225 : Cond.methodLink RX7 122 yX7_isOwner ∈ GW := gw_in (List.mem_of_getElem? (i := 1225) (by decide +kernel)) rfl
theorem i_1226 : Cond.static yX7_isOwner ∈ GW := gw_in (List.mem_of_getElem? (i := 1226) (by decide +kernel)) rfl
theorem i_1227 : Cond.code yX7_isOwner cX7_isOwner 1 (some .boolean) ∈ GW := gw_in (List.mem_of_getElem? (i := 1227) (by decide +kernel)) rfl
theorem i_1228 : Cond.methodLink RX7 125 yX7_whyNotCut ∈ GW := gw_in (List.mem_of_getElem? (i := 1228) (by decide +kernel)) rfl
theorem i_1230 : Cond.instanceMethod yX7_whyNotCut ∈ GW := gw_in (List.mem_of_getElem? (i := 1230) (by decide +kernel)) rfl
theorem i_1231 : Cond.code yX7_whyNotCut cX7_whyNotCut 2 (some .int) ∈ GW := gw_in (List.mem_of_getElem? (i := 1231) (by decide +kernel)) rfl
theorem i_1232 : Cond.methodLink RX7 88 yX7_isSound ∈ GW := gw_in (List.mem_of_getElem? (i := 1232) (by decide +kernel)) rfl
theorem i_1234 : Cond.instanceMethod yX7_isSound ∈ GW := gw_in (List.mem_of_getElem? (i := 1234) (by decide +kernel)) rfl
theorem i_1235 : Cond.code yX7_isSound cX7_isSound 5 (some .boolean) ∈ GW := gw_in (List.mem_of_getElem? (i := 1235) (by decide +kernel)) rfl
theorem i_1236 : Cond.methodLink RX7 92 yX7_clash ∈ GW := gw_in (List.mem_of_getElem? (i := 1236) (by decide +kernel)) rfl
theorem i_1238 : Cond.instanceMethod yX7_clash ∈ GW := gw_in (List.mem_of_getElem? (i := 1238) (by decide +kernel)) rfl
theorem i_1239 : Cond.code yX7_clash cX7_clash 8 (some .int) ∈ GW := gw_in (List.mem_of_getElem? (i := 1239) (by decide +kernel)) rfl
theorem i_1240 : Cond.methodLink RX7 85 yX7_ofKey ∈ GW := gw_in (List.mem_of_getElem? (i := 1240) (by decide +kernel)) rfl
theorem i_1242 : Cond.instanceMethod yX7_ofKey ∈ GW := gw_in (List.mem_of_getElem? (i := 1242) (by decide +kernel)) rfl
theorem i_1243 : Cond.code yX7_ofKey cX7_ofKey 3 (some .int) ∈ GW := gw_in (List.mem_of_getElem? (i := 1243) (by decide +kernel)) rfl
theorem i_1244 : Cond.methodLink RX7 128 yX7_doesCut ∈ GW := gw_in (List.mem_of_getElem? (i := 1244) (by decide +kernel)) rfl
theorem i_1246 : Cond.instanceMethod yX7_doesCut ∈ GW := gw_in (List.mem_of_getElem? (i := 1246) (by decide +kernel)) rfl
theorem i_1247 : Cond.code yX7_doesCut cX7_doesCut 4 (some .int) ∈ GW := gw_in (List.mem_of_getElem? (i := 1247) (by decide +kernel)) rfl
theorem i_1248 : Cond.methodLink RX7 104 yX7_levelOf ∈ GW := gw_in (List.mem_of_getElem? (i := 1248) (by decide +kernel)) rfl
theorem i_1249 : Cond.static yX7_levelOf ∈ GW := gw_in (List.mem_of_getElem? (i := 1249) (by decide +kernel)) rfl
theorem i_1250 : Cond.code yX7_levelOf cX7_levelOf 1 (some .int) ∈ GW := gw_in (List.mem_of_getElem? (i := 1250) (by decide +kernel)) rfl
theorem i_1251 : Cond.methodLink RL 120 yX7_deepen ∈ GW := gw_in (List.mem_of_getElem? (i := 1251) (by decide +kernel)) rfl
theorem i_1252 : Cond.instanceMethod yX7_deepen ∈ GW := gw_in (List.mem_of_getElem? (i := 1252) (by decide +kernel)) rfl
theorem i_1253 : Cond.selects RX7 yX7_deepen yX7_deepen ∈ GW := gw_in (List.mem_of_getElem? (i := 1253) (by decide +kernel)) rfl
theorem i_1254 : Cond.code yX7_deepen cX7_deepen 3 (some .int) ∈ GW := gw_in (List.mem_of_getElem? (i := 1254) (by decide +kernel)) rfl
theorem i_1255 : Cond.methodLink RX7 131 yX7_isKey ∈ GW := gw_in (List.mem_of_getElem? (i := 1255) (by decide +kernel)) rfl
theorem i_1257 : Cond.instanceMethod yX7_isKey ∈ GW := gw_in (List.mem_of_getElem? (i := 1257) (by decide +kernel)) rfl
theorem i_1258 : Cond.code yX7_isKey cX7_isKey 2 (some .boolean) ∈ GW := gw_in (List.mem_of_getElem? (i := 1258) (by decide +kernel)) rfl
theorem i_1259 : Cond.methodLink RX7 134 yX7_isNotch ∈ GW := gw_in (List.mem_of_getElem? (i := 1259) (by decide +kernel)) rfl
theorem i_1260 : Cond.static yX7_isNotch ∈ GW := gw_in (List.mem_of_getElem? (i := 1260) (by decide +kernel)) rfl
theorem i_1261 : Cond.code yX7_isNotch cX7_isNotch 1 (some .boolean) ∈ GW := gw_in (List.mem_of_getElem? (i := 1261) (by decide +kernel)) rfl
theorem i_1262 : Cond.methodLink RX7 137 yX7_whyNotDeeper ∈ GW := gw_in (List.mem_of_getElem? (i := 1262) (by decide +kernel)) rfl
theorem i_1264 : Cond.instanceMethod yX7_whyNotDeeper ∈ GW := gw_in (List.mem_of_getElem? (i := 1264) (by decide +kernel)) rfl
theorem i_1265 : Cond.code yX7_whyNotDeeper cX7_whyNotDeeper 5 (some .int) ∈ GW := gw_in (List.mem_of_getElem? (i := 1265) (by decide +kernel)) rfl
theorem i_1266 : Cond.methodLink RX7 140 yX7_doesDeepen ∈ GW := gw_in (List.mem_of_getElem? (i := 1266) (by decide +kernel)) rfl
theorem i_1268 : Cond.instanceMethod yX7_doesDeepen ∈ GW := gw_in (List.mem_of_getElem? (i := 1268) (by decide +kernel)) rfl
theorem i_1269 : Cond.code yX7_doesDeepen cX7_doesDeepen 3 (some .int) ∈ GW := gw_in (List.mem_of_getElem? (i := 1269) (by decide +kernel)) rfl
theorem i_1270 : Cond.methodLink RL 124 yX7_retire ∈ GW := gw_in (List.mem_of_getElem? (i := 1270) (by decide +kernel)) rfl
theorem i_1271 : Cond.instanceMethod yX7_retire ∈ GW := gw_in (List.mem_of_getElem? (i := 1271) (by decide +kernel)) rfl
theorem i_1272 : Cond.selects RX7 yX7_retire yX7_retire ∈ GW := gw_in (List.mem_of_getElem? (i := 1272) (by decide +kernel)) rfl
theorem i_1273 : Cond.code yX7_retire cX7_retire 3 (some .int) ∈ GW := gw_in (List.mem_of_getElem? (i := 1273) (by decide +kernel)) rfl
theorem i_1274 : Cond.methodLink RL 127 yX7_give ∈ GW := gw_in (List.mem_of_getElem? (i := 1274) (by decide +kernel)) rfl
theorem i_1275 : Cond.instanceMethod yX7_give ∈ GW := gw_in (List.mem_of_getElem? (i := 1275) (by decide +kernel)) rfl
theorem i_1276 : Cond.selects RX7 yX7_give yX7_give ∈ GW := gw_in (List.mem_of_getElem? (i := 1276) (by decide +kernel)) rfl
theorem i_1277 : Cond.code yX7_give cX7_give 4 (some .int) ∈ GW := gw_in (List.mem_of_getElem? (i := 1277) (by decide +kernel)) rfl
theorem i_1278 : Cond.methodLink RL 130 yX7_lose ∈ GW := gw_in (List.mem_of_getElem? (i := 1278) (by decide +kernel)) rfl
theorem i_1279 : Cond.instanceMethod yX7_lose ∈ GW := gw_in (List.mem_of_getElem? (i := 1279) (by decide +kernel)) rfl
theorem i_1280 : Cond.selects RX7 yX7_lose yX7_lose ∈ GW := gw_in (List.mem_of_getElem? (i := 1280) (by decide +kernel)) rfl
theorem i_1281 : Cond.code yX7_lose cX7_lose 2 (some .int) ∈ GW := gw_in (List.mem_of_getElem? (i := 1281) (by decide +kernel)) rfl
theorem i_1282 : Cond.methodLink RX7 143 yX7_setsLost ∈ GW := gw_in (List.mem_of_getElem? (i := 1282) (by decide +kernel)) rfl
theorem i_1284 : Cond.instanceMethod yX7_setsLost ∈ GW := gw_in (List.mem_of_getElem? (i := 1284) (by decide +kernel)) rfl
theorem i_1285 : Cond.code yX7_setsLost cX7_setsLost 3 (some .int) ∈ GW := gw_in (List.mem_of_getElem? (i := 1285) (by decide +kernel)) rfl
theorem i_1286 : Cond.methodLink RX7 113 yX7_locksOf ∈ GW := gw_in (List.mem_of_getElem? (i := 1286) (by decide +kernel)) rfl
theorem i_1288 : Cond.instanceMethod yX7_locksOf ∈ GW := gw_in (List.mem_of_getElem? (i := 1288) (by decide +kernel)) rfl
theorem i_1289 : Cond.code yX7_locksOf cX7_locksOf 4 (some .int) ∈ GW := gw_in (List.mem_of_getElem? (i := 1289) (by decide +kernel)) rfl
theorem i_1290 : Cond.methodLink RX7 101 yX7_opens ∈ GW := gw_in (List.mem_of_getElem? (i := 1290) (by decide +kernel)) rfl
theorem i_1292 : Cond.instanceMethod yX7_opens ∈ GW := gw_in (List.mem_of_getElem? (i := 1292) (by decide +kernel)) rfl
theorem i_1293 : Cond.code yX7_opens cX7_opens 4 (some .boolean) ∈ GW := gw_in (List.mem_of_getElem? (i := 1293) (by decide +kernel)) rfl
theorem i_1294 : Cond.methodLink RX7 95 yX7_isLock ∈ GW := gw_in (List.mem_of_getElem? (i := 1294) (by decide +kernel)) rfl
theorem i_1296 : Cond.instanceMethod yX7_isLock ∈ GW := gw_in (List.mem_of_getElem? (i := 1296) (by decide +kernel)) rfl
theorem i_1297 : Cond.code yX7_isLock cX7_isLock 2 (some .boolean) ∈ GW := gw_in (List.mem_of_getElem? (i := 1297) (by decide +kernel)) rfl
theorem i_1298 : Cond.methodLink RX7 61 yX7_ofLock ∈ GW := gw_in (List.mem_of_getElem? (i := 1298) (by decide +kernel)) rfl
theorem i_1300 : Cond.instanceMethod yX7_ofLock ∈ GW := gw_in (List.mem_of_getElem? (i := 1300) (by decide +kernel)) rfl
theorem i_1301 : Cond.code yX7_ofLock cX7_ofLock 3 (some .int) ∈ GW := gw_in (List.mem_of_getElem? (i := 1301) (by decide +kernel)) rfl
theorem i_1302 : Cond.methodLink RX7 98 yX7_reaches ∈ GW := gw_in (List.mem_of_getElem? (i := 1302) (by decide +kernel)) rfl
theorem i_1303 : Cond.static yX7_reaches ∈ GW := gw_in (List.mem_of_getElem? (i := 1303) (by decide +kernel)) rfl
theorem i_1304 : Cond.code yX7_reaches cX7_reaches 2 (some .boolean) ∈ GW := gw_in (List.mem_of_getElem? (i := 1304) (by decide +kernel)) rfl
theorem i_1305 : Cond.methodLink RX7 116 yX7_ones ∈ GW := gw_in (List.mem_of_getElem? (i := 1305) (by decide +kernel)) rfl
theorem i_1306 : Cond.static yX7_ones ∈ GW := gw_in (List.mem_of_getElem? (i := 1306) (by decide +kernel)) rfl
theorem i_1307 : Cond.code yX7_ones cX7_ones 3 (some .int) ∈ GW := gw_in (List.mem_of_getElem? (i := 1307) (by decide +kernel)) rfl
theorem i_1308 : Cond.methodLink RL 133 yX7_find ∈ GW := gw_in (List.mem_of_getElem? (i := 1308) (by decide +kernel)) rfl
theorem i_1309 : Cond.instanceMethod yX7_find ∈ GW := gw_in (List.mem_of_getElem? (i := 1309) (by decide +kernel)) rfl
theorem i_1310 : Cond.selects RX7 yX7_find yX7_find ∈ GW := gw_in (List.mem_of_getElem? (i := 1310) (by decide +kernel)) rfl
theorem i_1311 : Cond.code yX7_find cX7_find 2 (some .int) ∈ GW := gw_in (List.mem_of_getElem? (i := 1311) (by decide +kernel)) rfl
theorem i_1312 : Cond.methodLink RL 136 yX7_ward ∈ GW := gw_in (List.mem_of_getElem? (i := 1312) (by decide +kernel)) rfl
theorem i_1313 : Cond.instanceMethod yX7_ward ∈ GW := gw_in (List.mem_of_getElem? (i := 1313) (by decide +kernel)) rfl
theorem i_1314 : Cond.selects RX7 yX7_ward yX7_ward ∈ GW := gw_in (List.mem_of_getElem? (i := 1314) (by decide +kernel)) rfl
theorem i_1315 : Cond.code yX7_ward cX7_ward 4 (some .int) ∈ GW := gw_in (List.mem_of_getElem? (i := 1315) (by decide +kernel)) rfl
theorem i_1316 : Cond.methodLink RX7 146 yX7_isPlace ∈ GW := gw_in (List.mem_of_getElem? (i := 1316) (by decide +kernel)) rfl
theorem i_1317 : Cond.static yX7_isPlace ∈ GW := gw_in (List.mem_of_getElem? (i := 1317) (by decide +kernel)) rfl
theorem i_1318 : Cond.code yX7_isPlace cX7_isPlace 1 (some .boolean) ∈ GW := gw_in (List.mem_of_getElem? (i := 1318) (by decide +kernel)) rfl
theorem i_1319 : Cond.methodLink RL 139 yX7_guest ∈ GW := gw_in (List.mem_of_getElem? (i := 1319) (by decide +kernel)) rfl
theorem i_1320 : Cond.instanceMethod yX7_guest ∈ GW := gw_in (List.mem_of_getElem? (i := 1320) (by decide +kernel)) rfl
theorem i_1321 : Cond.selects RX7 yX7_guest yX7_guest ∈ GW := gw_in (List.mem_of_getElem? (i := 1321) (by decide +kernel)) rfl
theorem i_1322 : Cond.code yX7_guest cX7_guest 4 (some .int) ∈ GW := gw_in (List.mem_of_getElem? (i := 1322) (by decide +kernel)) rfl
theorem i_1323 : Cond.methodLink RL 142 yX7_take ∈ GW := gw_in (List.mem_of_getElem? (i := 1323) (by decide +kernel)) rfl
theorem i_1324 : Cond.instanceMethod yX7_take ∈ GW := gw_in (List.mem_of_getElem? (i := 1324) (by decide +kernel)) rfl
theorem i_1325 : Cond.selects RX7 yX7_take yX7_take ∈ GW := gw_in (List.mem_of_getElem? (i := 1325) (by decide +kernel)) rfl
theorem i_1326 : Cond.code yX7_take cX7_take 3 (some .int) ∈ GW := gw_in (List.mem_of_getElem? (i := 1326) (by decide +kernel)) rfl
theorem i_1327 : Cond.methodLink RX7 149 yX7_keysOf ∈ GW := gw_in (List.mem_of_getElem? (i := 1327) (by decide +kernel)) rfl
theorem i_1329 : Cond.instanceMethod yX7_keysOf ∈ GW := gw_in (List.mem_of_getElem? (i := 1329) (by decide +kernel)) rfl
theorem i_1330 : Cond.code yX7_keysOf cX7_keysOf 4 (some .int) ∈ GW := gw_in (List.mem_of_getElem? (i := 1330) (by decide +kernel)) rfl
theorem i_1331 : Cond.methodLink RL 145 yX7_turn ∈ GW := gw_in (List.mem_of_getElem? (i := 1331) (by decide +kernel)) rfl
theorem i_1332 : Cond.instanceMethod yX7_turn ∈ GW := gw_in (List.mem_of_getElem? (i := 1332) (by decide +kernel)) rfl
theorem i_1333 : Cond.selects RX7 yX7_turn yX7_turn ∈ GW := gw_in (List.mem_of_getElem? (i := 1333) (by decide +kernel)) rfl
theorem i_1334 : Cond.code yX7_turn cX7_turn 3 (some .int) ∈ GW := gw_in (List.mem_of_getElem? (i := 1334) (by decide +kernel)) rfl
theorem i_1335 : Cond.methodLink RX7 152 yX7_doesTurn ∈ GW := gw_in (List.mem_of_getElem? (i := 1335) (by decide +kernel)) rfl
theorem i_1337 : Cond.instanceMethod yX7_doesTurn ∈ GW := gw_in (List.mem_of_getElem? (i := 1337) (by decide +kernel)) rfl
theorem i_1338 : Cond.code yX7_doesTurn cX7_doesTurn 5 (some .int) ∈ GW := gw_in (List.mem_of_getElem? (i := 1338) (by decide +kernel)) rfl
theorem i_1339 : Cond.methodLink RX7 107 yX7_wears ∈ GW := gw_in (List.mem_of_getElem? (i := 1339) (by decide +kernel)) rfl
theorem i_1341 : Cond.instanceMethod yX7_wears ∈ GW := gw_in (List.mem_of_getElem? (i := 1341) (by decide +kernel)) rfl
theorem i_1342 : Cond.code yX7_wears cX7_wears 2 (some .boolean) ∈ GW := gw_in (List.mem_of_getElem? (i := 1342) (by decide +kernel)) rfl
theorem i_1343 : Cond.methodLink RX7 110 yX7_wornCode ∈ GW := gw_in (List.mem_of_getElem? (i := 1343) (by decide +kernel)) rfl
theorem i_1344 : Cond.static yX7_wornCode ∈ GW := gw_in (List.mem_of_getElem? (i := 1344) (by decide +kernel)) rfl
theorem i_1345 : Cond.code yX7_wornCode cX7_wornCode 3 (some .int) ∈ GW := gw_in (List.mem_of_getElem? (i := 1345) (by decide +kernel)) rfl
theorem i_1346 : Cond.methodLink RL 148 yX7_set ∈ GW := gw_in (List.mem_of_getElem? (i := 1346) (by decide +kernel)) rfl
theorem i_1347 : Cond.instanceMethod yX7_set ∈ GW := gw_in (List.mem_of_getElem? (i := 1347) (by decide +kernel)) rfl
theorem i_1348 : Cond.selects RX7 yX7_set yX7_set ∈ GW := gw_in (List.mem_of_getElem? (i := 1348) (by decide +kernel)) rfl
theorem i_1349 : Cond.code yX7_set cX7_set 6 (some .int) ∈ GW := gw_in (List.mem_of_getElem? (i := 1349) (by decide +kernel)) rfl
theorem i_1350 : Cond.methodLink RL 151 yX7_append ∈ GW := gw_in (List.mem_of_getElem? (i := 1350) (by decide +kernel)) rfl
theorem i_1351 : Cond.instanceMethod yX7_append ∈ GW := gw_in (List.mem_of_getElem? (i := 1351) (by decide +kernel)) rfl
theorem i_1352 : Cond.selects RX7 yX7_append yX7_append ∈ GW := gw_in (List.mem_of_getElem? (i := 1352) (by decide +kernel)) rfl
theorem i_1353 : Cond.code yX7_append cX7_append 2 (some .int) ∈ GW := gw_in (List.mem_of_getElem? (i := 1353) (by decide +kernel)) rfl
theorem i_1354 : Cond.methodLink RL 155 yX7_clearBuffer ∈ GW := gw_in (List.mem_of_getElem? (i := 1354) (by decide +kernel)) rfl
theorem i_1355 : Cond.instanceMethod yX7_clearBuffer ∈ GW := gw_in (List.mem_of_getElem? (i := 1355) (by decide +kernel)) rfl
theorem i_1356 : Cond.selects RX7 yX7_clearBuffer yX7_clearBuffer ∈ GW := gw_in (List.mem_of_getElem? (i := 1356) (by decide +kernel)) rfl
theorem i_1357 : Cond.code yX7_clearBuffer cX7_clearBuffer 2 (some .int) ∈ GW := gw_in (List.mem_of_getElem? (i := 1357) (by decide +kernel)) rfl
theorem i_1358 : Cond.methodLink RL 159 yX7_firstError ∈ GW := gw_in (List.mem_of_getElem? (i := 1358) (by decide +kernel)) rfl
theorem i_1359 : Cond.instanceMethod yX7_firstError ∈ GW := gw_in (List.mem_of_getElem? (i := 1359) (by decide +kernel)) rfl
theorem i_1360 : Cond.selects RX7 yX7_firstError yX7_firstError ∈ GW := gw_in (List.mem_of_getElem? (i := 1360) (by decide +kernel)) rfl
theorem i_1361 : Cond.code yX7_firstError cX7_firstError 2 (some .int) ∈ GW := gw_in (List.mem_of_getElem? (i := 1361) (by decide +kernel)) rfl
theorem i_1362 : Cond.methodLink RX7 190 yX7_findError ∈ GW := gw_in (List.mem_of_getElem? (i := 1362) (by decide +kernel)) rfl
theorem i_1364 : Cond.instanceMethod yX7_findError ∈ GW := gw_in (List.mem_of_getElem? (i := 1364) (by decide +kernel)) rfl
theorem i_1365 : Cond.code yX7_findError cX7_findError 1 (some .int) ∈ GW := gw_in (List.mem_of_getElem? (i := 1365) (by decide +kernel)) rfl
theorem i_1366 : Cond.methodLink RX7 187 yX7_readsOrder ∈ GW := gw_in (List.mem_of_getElem? (i := 1366) (by decide +kernel)) rfl
theorem i_1368 : Cond.instanceMethod yX7_readsOrder ∈ GW := gw_in (List.mem_of_getElem? (i := 1368) (by decide +kernel)) rfl
theorem i_1369 : Cond.code yX7_readsOrder cX7_readsOrder 1 (some .boolean) ∈ GW := gw_in (List.mem_of_getElem? (i := 1369) (by decide +kernel)) rfl
theorem i_1370 : Cond.methodLink RX7 161 yX7_next ∈ GW := gw_in (List.mem_of_getElem? (i := 1370) (by decide +kernel)) rfl
theorem i_1372 : Cond.instanceMethod yX7_next ∈ GW := gw_in (List.mem_of_getElem? (i := 1372) (by decide +kernel)) rfl
theorem i_1373 : Cond.code yX7_next cX7_next 1 (some .int) ∈ GW := gw_in (List.mem_of_getElem? (i := 1373) (by decide +kernel)) rfl
theorem i_1374 : Cond.methodLink RX7 177 yX7_readsCode ∈ GW := gw_in (List.mem_of_getElem? (i := 1374) (by decide +kernel)) rfl
theorem i_1376 : Cond.instanceMethod yX7_readsCode ∈ GW := gw_in (List.mem_of_getElem? (i := 1376) (by decide +kernel)) rfl
theorem i_1377 : Cond.code yX7_readsCode cX7_readsCode 2 (some .boolean) ∈ GW := gw_in (List.mem_of_getElem? (i := 1377) (by decide +kernel)) rfl
theorem i_1378 : Cond.methodLink RX7 171 yX7_readsDigit ∈ GW := gw_in (List.mem_of_getElem? (i := 1378) (by decide +kernel)) rfl
theorem i_1380 : Cond.instanceMethod yX7_readsDigit ∈ GW := gw_in (List.mem_of_getElem? (i := 1380) (by decide +kernel)) rfl
theorem i_1381 : Cond.code yX7_readsDigit cX7_readsDigit 4 (some .boolean) ∈ GW := gw_in (List.mem_of_getElem? (i := 1381) (by decide +kernel)) rfl
theorem i_1382 : Cond.methodLink RX7 181 yX7_takes ∈ GW := gw_in (List.mem_of_getElem? (i := 1382) (by decide +kernel)) rfl
theorem i_1384 : Cond.instanceMethod yX7_takes ∈ GW := gw_in (List.mem_of_getElem? (i := 1384) (by decide +kernel)) rfl
theorem i_1385 : Cond.code yX7_takes cX7_takes 3 (some .boolean) ∈ GW := gw_in (List.mem_of_getElem? (i := 1385) (by decide +kernel)) rfl
theorem i_1386 : Cond.methodLink RX7 184 yX7_readsKey ∈ GW := gw_in (List.mem_of_getElem? (i := 1386) (by decide +kernel)) rfl
theorem i_1388 : Cond.instanceMethod yX7_readsKey ∈ GW := gw_in (List.mem_of_getElem? (i := 1388) (by decide +kernel)) rfl
theorem i_1389 : Cond.code yX7_readsKey cX7_readsKey 1 (some .boolean) ∈ GW := gw_in (List.mem_of_getElem? (i := 1389) (by decide +kernel)) rfl
theorem i_1390 : Cond.methodLink RL 163 yX7_obey ∈ GW := gw_in (List.mem_of_getElem? (i := 1390) (by decide +kernel)) rfl
theorem i_1391 : Cond.instanceMethod yX7_obey ∈ GW := gw_in (List.mem_of_getElem? (i := 1391) (by decide +kernel)) rfl
theorem i_1392 : Cond.selects RX7 yX7_obey yX7_obey ∈ GW := gw_in (List.mem_of_getElem? (i := 1392) (by decide +kernel)) rfl
theorem i_1393 : Cond.code yX7_obey cX7_obey 4 (some .int) ∈ GW := gw_in (List.mem_of_getElem? (i := 1393) (by decide +kernel)) rfl
theorem i_1394 : Cond.methodLink RX7 193 yX7_whyStopped ∈ GW := gw_in (List.mem_of_getElem? (i := 1394) (by decide +kernel)) rfl
theorem i_1396 : Cond.instanceMethod yX7_whyStopped ∈ GW := gw_in (List.mem_of_getElem? (i := 1396) (by decide +kernel)) rfl
theorem i_1397 : Cond.code yX7_whyStopped cX7_whyStopped 1 (some .int) ∈ GW := gw_in (List.mem_of_getElem? (i := 1397) (by decide +kernel)) rfl
theorem i_1398 : Cond.methodLink RX7 196 yX7_doesOrder ∈ GW := gw_in (List.mem_of_getElem? (i := 1398) (by decide +kernel)) rfl
theorem i_1400 : Cond.instanceMethod yX7_doesOrder ∈ GW := gw_in (List.mem_of_getElem? (i := 1400) (by decide +kernel)) rfl
theorem i_1401 : Cond.code yX7_doesOrder cX7_doesOrder 1 (some .int) ∈ GW := gw_in (List.mem_of_getElem? (i := 1401) (by decide +kernel)) rfl
theorem i_1402 : Cond.methodLink RL 176 yX7_key ∈ GW := gw_in (List.mem_of_getElem? (i := 1402) (by decide +kernel)) rfl
theorem i_1403 : Cond.instanceMethod yX7_key ∈ GW := gw_in (List.mem_of_getElem? (i := 1403) (by decide +kernel)) rfl
theorem i_1404 : Cond.selects RX7 yX7_key yX7_key ∈ GW := gw_in (List.mem_of_getElem? (i := 1404) (by decide +kernel)) rfl
theorem i_1405 : Cond.code yX7_key cX7_key 3 (some .int) ∈ GW := gw_in (List.mem_of_getElem? (i := 1405) (by decide +kernel)) rfl
theorem i_1406 : Cond.methodLink RX7 203 yX7_tellsKey ∈ GW := gw_in (List.mem_of_getElem? (i := 1406) (by decide +kernel)) rfl
theorem i_1408 : Cond.instanceMethod yX7_tellsKey ∈ GW := gw_in (List.mem_of_getElem? (i := 1408) (by decide +kernel)) rfl
theorem i_1409 : Cond.code yX7_tellsKey cX7_tellsKey 4 (some .int) ∈ GW := gw_in (List.mem_of_getElem? (i := 1409) (by decide +kernel)) rfl
theorem i_1410 : Cond.methodLink RX7 199 yX7_codesBeside ∈ GW := gw_in (List.mem_of_getElem? (i := 1410) (by decide +kernel)) rfl
theorem i_1412 : Cond.instanceMethod yX7_codesBeside ∈ GW := gw_in (List.mem_of_getElem? (i := 1412) (by decide +kernel)) rfl
theorem i_1413 : Cond.code yX7_codesBeside cX7_codesBeside 7 (some .int) ∈ GW := gw_in (List.mem_of_getElem? (i := 1413) (by decide +kernel)) rfl
theorem i_1414 : Cond.methodLink RL 179 yX7_lock ∈ GW := gw_in (List.mem_of_getElem? (i := 1414) (by decide +kernel)) rfl
theorem i_1415 : Cond.instanceMethod yX7_lock ∈ GW := gw_in (List.mem_of_getElem? (i := 1415) (by decide +kernel)) rfl
theorem i_1416 : Cond.selects RX7 yX7_lock yX7_lock ∈ GW := gw_in (List.mem_of_getElem? (i := 1416) (by decide +kernel)) rfl
theorem i_1417 : Cond.code yX7_lock cX7_lock 3 (some .int) ∈ GW := gw_in (List.mem_of_getElem? (i := 1417) (by decide +kernel)) rfl
theorem i_1418 : Cond.methodLink RX7 209 yX7_tellsLock ∈ GW := gw_in (List.mem_of_getElem? (i := 1418) (by decide +kernel)) rfl
theorem i_1420 : Cond.instanceMethod yX7_tellsLock ∈ GW := gw_in (List.mem_of_getElem? (i := 1420) (by decide +kernel)) rfl
theorem i_1421 : Cond.code yX7_tellsLock cX7_tellsLock 3 (some .int) ∈ GW := gw_in (List.mem_of_getElem? (i := 1421) (by decide +kernel)) rfl
theorem i_1422 : Cond.methodLink RX7 206 yX7_whoOpens ∈ GW := gw_in (List.mem_of_getElem? (i := 1422) (by decide +kernel)) rfl
theorem i_1424 : Cond.instanceMethod yX7_whoOpens ∈ GW := gw_in (List.mem_of_getElem? (i := 1424) (by decide +kernel)) rfl
theorem i_1425 : Cond.code yX7_whoOpens cX7_whoOpens 5 (some .int) ∈ GW := gw_in (List.mem_of_getElem? (i := 1425) (by decide +kernel)) rfl
theorem i_1426 : Cond.methodLink RL 182 yX7_person ∈ GW := gw_in (List.mem_of_getElem? (i := 1426) (by decide +kernel)) rfl
theorem i_1427 : Cond.instanceMethod yX7_person ∈ GW := gw_in (List.mem_of_getElem? (i := 1427) (by decide +kernel)) rfl
theorem i_1428 : Cond.selects RX7 yX7_person yX7_person ∈ GW := gw_in (List.mem_of_getElem? (i := 1428) (by decide +kernel)) rfl
theorem i_1429 : Cond.code yX7_person cX7_person 3 (some .int) ∈ GW := gw_in (List.mem_of_getElem? (i := 1429) (by decide +kernel)) rfl
theorem i_1430 : Cond.methodLink RX7 212 yX7_tellsPerson ∈ GW := gw_in (List.mem_of_getElem? (i := 1430) (by decide +kernel)) rfl
theorem i_1432 : Cond.instanceMethod yX7_tellsPerson ∈ GW := gw_in (List.mem_of_getElem? (i := 1432) (by decide +kernel)) rfl
theorem i_1433 : Cond.code yX7_tellsPerson cX7_tellsPerson 7 (some .int) ∈ GW := gw_in (List.mem_of_getElem? (i := 1433) (by decide +kernel)) rfl
theorem i_1434 : Cond.methodLink RL 185 yX7_code ∈ GW := gw_in (List.mem_of_getElem? (i := 1434) (by decide +kernel)) rfl
theorem i_1435 : Cond.instanceMethod yX7_code ∈ GW := gw_in (List.mem_of_getElem? (i := 1435) (by decide +kernel)) rfl
theorem i_1436 : Cond.selects RX7 yX7_code yX7_code ∈ GW := gw_in (List.mem_of_getElem? (i := 1436) (by decide +kernel)) rfl
theorem i_1437 : Cond.code yX7_code cX7_code 3 (some .int) ∈ GW := gw_in (List.mem_of_getElem? (i := 1437) (by decide +kernel)) rfl
theorem i_1438 : Cond.methodLink RX7 221 yX7_tellsCode ∈ GW := gw_in (List.mem_of_getElem? (i := 1438) (by decide +kernel)) rfl
theorem i_1440 : Cond.instanceMethod yX7_tellsCode ∈ GW := gw_in (List.mem_of_getElem? (i := 1440) (by decide +kernel)) rfl
theorem i_1441 : Cond.code yX7_tellsCode cX7_tellsCode 3 (some .int) ∈ GW := gw_in (List.mem_of_getElem? (i := 1441) (by decide +kernel)) rfl
theorem i_1442 : Cond.methodLink RX7 215 yX7_soundBeside ∈ GW := gw_in (List.mem_of_getElem? (i := 1442) (by decide +kernel)) rfl
theorem i_1444 : Cond.instanceMethod yX7_soundBeside ∈ GW := gw_in (List.mem_of_getElem? (i := 1444) (by decide +kernel)) rfl
theorem i_1445 : Cond.code yX7_soundBeside cX7_soundBeside 6 (some .int) ∈ GW := gw_in (List.mem_of_getElem? (i := 1445) (by decide +kernel)) rfl
theorem i_1446 : Cond.methodLink RX7 218 yX7_isFreeCode ∈ GW := gw_in (List.mem_of_getElem? (i := 1446) (by decide +kernel)) rfl
theorem i_1448 : Cond.instanceMethod yX7_isFreeCode ∈ GW := gw_in (List.mem_of_getElem? (i := 1448) (by decide +kernel)) rfl
theorem i_1449 : Cond.code yX7_isFreeCode cX7_isFreeCode 2 (some .boolean) ∈ GW := gw_in (List.mem_of_getElem? (i := 1449) (by decide +kernel)) rfl
theorem i_1450 : Cond.methodLink RL 188 yX7_level ∈ GW := gw_in (List.mem_of_getElem? (i := 1450) (by decide +kernel)) rfl
theorem i_1451 : Cond.instanceMethod yX7_level ∈ GW := gw_in (List.mem_of_getElem? (i := 1451) (by decide +kernel)) rfl
theorem i_1452 : Cond.selects RX7 yX7_level yX7_level ∈ GW := gw_in (List.mem_of_getElem? (i := 1452) (by decide +kernel)) rfl
theorem i_1453 : Cond.code yX7_level cX7_level 3 (some .int) ∈ GW := gw_in (List.mem_of_getElem? (i := 1453) (by decide +kernel)) rfl
theorem i_1454 : Cond.methodLink RX7 224 yX7_tellsLevel ∈ GW := gw_in (List.mem_of_getElem? (i := 1454) (by decide +kernel)) rfl
theorem i_1456 : Cond.instanceMethod yX7_tellsLevel ∈ GW := gw_in (List.mem_of_getElem? (i := 1456) (by decide +kernel)) rfl
theorem i_1457 : Cond.code yX7_tellsLevel cX7_tellsLevel 10 (some .int) ∈ GW := gw_in (List.mem_of_getElem? (i := 1457) (by decide +kernel)) rfl
theorem i_1458 : Cond.methodLink RL 191 yX7_count ∈ GW := gw_in (List.mem_of_getElem? (i := 1458) (by decide +kernel)) rfl
theorem i_1459 : Cond.instanceMethod yX7_count ∈ GW := gw_in (List.mem_of_getElem? (i := 1459) (by decide +kernel)) rfl
theorem i_1460 : Cond.selects RX7 yX7_count yX7_count ∈ GW := gw_in (List.mem_of_getElem? (i := 1460) (by decide +kernel)) rfl
theorem i_1461 : Cond.code yX7_count cX7_count 2 (some .int) ∈ GW := gw_in (List.mem_of_getElem? (i := 1461) (by decide +kernel)) rfl
theorem i_1462 : Cond.methodLink RX7 243 yX7_tellsCount ∈ GW := gw_in (List.mem_of_getElem? (i := 1462) (by decide +kernel)) rfl
theorem i_1464 : Cond.instanceMethod yX7_tellsCount ∈ GW := gw_in (List.mem_of_getElem? (i := 1464) (by decide +kernel)) rfl
theorem i_1465 : Cond.code yX7_tellsCount cX7_tellsCount 2 (some .int) ∈ GW := gw_in (List.mem_of_getElem? (i := 1465) (by decide +kernel)) rfl
theorem i_1466 : Cond.methodLink RX7 230 yX7_lostKeys ∈ GW := gw_in (List.mem_of_getElem? (i := 1466) (by decide +kernel)) rfl
theorem i_1468 : Cond.instanceMethod yX7_lostKeys ∈ GW := gw_in (List.mem_of_getElem? (i := 1468) (by decide +kernel)) rfl
theorem i_1469 : Cond.code yX7_lostKeys cX7_lostKeys 3 (some .int) ∈ GW := gw_in (List.mem_of_getElem? (i := 1469) (by decide +kernel)) rfl
theorem i_1470 : Cond.methodLink RX7 233 yX7_locks ∈ GW := gw_in (List.mem_of_getElem? (i := 1470) (by decide +kernel)) rfl
theorem i_1472 : Cond.instanceMethod yX7_locks ∈ GW := gw_in (List.mem_of_getElem? (i := 1472) (by decide +kernel)) rfl
theorem i_1473 : Cond.code yX7_locks cX7_locks 3 (some .int) ∈ GW := gw_in (List.mem_of_getElem? (i := 1473) (by decide +kernel)) rfl
theorem i_1474 : Cond.methodLink RX7 236 yX7_crossedPairs ∈ GW := gw_in (List.mem_of_getElem? (i := 1474) (by decide +kernel)) rfl
theorem i_1476 : Cond.instanceMethod yX7_crossedPairs ∈ GW := gw_in (List.mem_of_getElem? (i := 1476) (by decide +kernel)) rfl
theorem i_1477 : Cond.code yX7_crossedPairs cX7_crossedPairs 4 (some .int) ∈ GW := gw_in (List.mem_of_getElem? (i := 1477) (by decide +kernel)) rfl
theorem i_1478 : Cond.methodLink RX7 227 yX7_isCrossed ∈ GW := gw_in (List.mem_of_getElem? (i := 1478) (by decide +kernel)) rfl
theorem i_1479 : Cond.static yX7_isCrossed ∈ GW := gw_in (List.mem_of_getElem? (i := 1479) (by decide +kernel)) rfl
theorem i_1480 : Cond.code yX7_isCrossed cX7_isCrossed 2 (some .boolean) ∈ GW := gw_in (List.mem_of_getElem? (i := 1480) (by decide +kernel)) rfl
theorem i_1481 : Cond.methodLink RX7 239 yX7_codes ∈ GW := gw_in (List.mem_of_getElem? (i := 1481) (by decide +kernel)) rfl
theorem i_1483 : Cond.instanceMethod yX7_codes ∈ GW := gw_in (List.mem_of_getElem? (i := 1483) (by decide +kernel)) rfl
theorem i_1484 : Cond.code yX7_codes cX7_codes 4 (some .int) ∈ GW := gw_in (List.mem_of_getElem? (i := 1484) (by decide +kernel)) rfl
theorem i_1485 : Cond.methodLink RL 194 yX7_setting ∈ GW := gw_in (List.mem_of_getElem? (i := 1485) (by decide +kernel)) rfl
theorem i_1486 : Cond.instanceMethod yX7_setting ∈ GW := gw_in (List.mem_of_getElem? (i := 1486) (by decide +kernel)) rfl
theorem i_1487 : Cond.selects RX7 yX7_setting yX7_setting ∈ GW := gw_in (List.mem_of_getElem? (i := 1487) (by decide +kernel)) rfl
theorem i_1488 : Cond.code yX7_setting cX7_setting 2 (some .int) ∈ GW := gw_in (List.mem_of_getElem? (i := 1488) (by decide +kernel)) rfl
theorem i_1489 : Cond.methodLink RL 197 yX7_why ∈ GW := gw_in (List.mem_of_getElem? (i := 1489) (by decide +kernel)) rfl
theorem i_1490 : Cond.instanceMethod yX7_why ∈ GW := gw_in (List.mem_of_getElem? (i := 1490) (by decide +kernel)) rfl
theorem i_1491 : Cond.selects RX7 yX7_why yX7_why ∈ GW := gw_in (List.mem_of_getElem? (i := 1491) (by decide +kernel)) rfl
theorem i_1492 : Cond.code yX7_why cX7_why 3 (some .int) ∈ GW := gw_in (List.mem_of_getElem? (i := 1492) (by decide +kernel)) rfl
theorem i_1493 : Cond.methodLink RL 200 yX7_stopped ∈ GW := gw_in (List.mem_of_getElem? (i := 1493) (by decide +kernel)) rfl
theorem i_1494 : Cond.instanceMethod yX7_stopped ∈ GW := gw_in (List.mem_of_getElem? (i := 1494) (by decide +kernel)) rfl
theorem i_1495 : Cond.selects RX7 yX7_stopped yX7_stopped ∈ GW := gw_in (List.mem_of_getElem? (i := 1495) (by decide +kernel)) rfl
theorem i_1496 : Cond.code yX7_stopped cX7_stopped 2 (some .int) ∈ GW := gw_in (List.mem_of_getElem? (i := 1496) (by decide +kernel)) rfl
theorem i_1497 : Cond.methodLink RL 203 yX7_most ∈ GW := gw_in (List.mem_of_getElem? (i := 1497) (by decide +kernel)) rfl
theorem i_1498 : Cond.instanceMethod yX7_most ∈ GW := gw_in (List.mem_of_getElem? (i := 1498) (by decide +kernel)) rfl
theorem i_1499 : Cond.selects RX7 yX7_most yX7_most ∈ GW := gw_in (List.mem_of_getElem? (i := 1499) (by decide +kernel)) rfl
theorem i_1500 : Cond.code yX7_most cX7_most 2 (some .int) ∈ GW := gw_in (List.mem_of_getElem? (i := 1500) (by decide +kernel)) rfl
theorem i_1501 : Cond.methodLink RX7 271 yX7_tellsMost ∈ GW := gw_in (List.mem_of_getElem? (i := 1501) (by decide +kernel)) rfl
theorem i_1503 : Cond.instanceMethod yX7_tellsMost ∈ GW := gw_in (List.mem_of_getElem? (i := 1503) (by decide +kernel)) rfl
theorem i_1504 : Cond.code yX7_tellsMost cX7_tellsMost 2 (some .int) ∈ GW := gw_in (List.mem_of_getElem? (i := 1504) (by decide +kernel)) rfl
theorem i_1505 : Cond.methodLink RX7 262 yX7_mostByChains ∈ GW := gw_in (List.mem_of_getElem? (i := 1505) (by decide +kernel)) rfl
theorem i_1507 : Cond.instanceMethod yX7_mostByChains ∈ GW := gw_in (List.mem_of_getElem? (i := 1507) (by decide +kernel)) rfl
theorem i_1508 : Cond.code yX7_mostByChains cX7_mostByChains 2 (some .int) ∈ GW := gw_in (List.mem_of_getElem? (i := 1508) (by decide +kernel)) rfl
theorem i_1509 : Cond.methodLink RX7 253 yX7_layFree ∈ GW := gw_in (List.mem_of_getElem? (i := 1509) (by decide +kernel)) rfl
theorem i_1511 : Cond.instanceMethod yX7_layFree ∈ GW := gw_in (List.mem_of_getElem? (i := 1511) (by decide +kernel)) rfl
theorem i_1512 : Cond.code yX7_layFree cX7_layFree 2 none ∈ GW := gw_in (List.mem_of_getElem? (i := 1512) (by decide +kernel)) rfl
theorem i_1513 : Cond.methodLink RX7 256 yX7_fewestChains ∈ GW := gw_in (List.mem_of_getElem? (i := 1513) (by decide +kernel)) rfl
theorem i_1515 : Cond.instanceMethod yX7_fewestChains ∈ GW := gw_in (List.mem_of_getElem? (i := 1515) (by decide +kernel)) rfl
theorem i_1516 : Cond.code yX7_fewestChains cX7_fewestChains 3 (some .int) ∈ GW := gw_in (List.mem_of_getElem? (i := 1516) (by decide +kernel)) rfl
theorem i_1517 : Cond.methodLink RX7 250 yX7_matches ∈ GW := gw_in (List.mem_of_getElem? (i := 1517) (by decide +kernel)) rfl
theorem i_1519 : Cond.instanceMethod yX7_matches ∈ GW := gw_in (List.mem_of_getElem? (i := 1519) (by decide +kernel)) rfl
theorem i_1520 : Cond.code yX7_matches cX7_matches 6 (some .boolean) ∈ GW := gw_in (List.mem_of_getElem? (i := 1520) (by decide +kernel)) rfl
theorem i_1521 : Cond.methodLink RX7 246 yX7_matchBack ∈ GW := gw_in (List.mem_of_getElem? (i := 1521) (by decide +kernel)) rfl
theorem i_1523 : Cond.instanceMethod yX7_matchBack ∈ GW := gw_in (List.mem_of_getElem? (i := 1523) (by decide +kernel)) rfl
theorem i_1524 : Cond.code yX7_matchBack cX7_matchBack 7 none ∈ GW := gw_in (List.mem_of_getElem? (i := 1524) (by decide +kernel)) rfl
theorem i_1525 : Cond.methodLink RX7 268 yX7_choose ∈ GW := gw_in (List.mem_of_getElem? (i := 1525) (by decide +kernel)) rfl
theorem i_1527 : Cond.instanceMethod yX7_choose ∈ GW := gw_in (List.mem_of_getElem? (i := 1527) (by decide +kernel)) rfl
theorem i_1528 : Cond.code yX7_choose cX7_choose 4 none ∈ GW := gw_in (List.mem_of_getElem? (i := 1528) (by decide +kernel)) rfl
theorem i_1529 : Cond.methodLink RX7 265 yX7_isApart ∈ GW := gw_in (List.mem_of_getElem? (i := 1529) (by decide +kernel)) rfl
theorem i_1531 : Cond.instanceMethod yX7_isApart ∈ GW := gw_in (List.mem_of_getElem? (i := 1531) (by decide +kernel)) rfl
theorem i_1532 : Cond.code yX7_isApart cX7_isApart 4 (some .boolean) ∈ GW := gw_in (List.mem_of_getElem? (i := 1532) (by decide +kernel)) rfl
theorem i_1533 : Cond.methodLink RL 206 yX7_pick ∈ GW := gw_in (List.mem_of_getElem? (i := 1533) (by decide +kernel)) rfl
theorem i_1534 : Cond.instanceMethod yX7_pick ∈ GW := gw_in (List.mem_of_getElem? (i := 1534) (by decide +kernel)) rfl
theorem i_1535 : Cond.selects RX7 yX7_pick yX7_pick ∈ GW := gw_in (List.mem_of_getElem? (i := 1535) (by decide +kernel)) rfl
theorem i_1536 : Cond.code yX7_pick cX7_pick 2 (some .int) ∈ GW := gw_in (List.mem_of_getElem? (i := 1536) (by decide +kernel)) rfl
theorem i_1537 : Cond.methodLink RX7 274 yX7_tellsPick ∈ GW := gw_in (List.mem_of_getElem? (i := 1537) (by decide +kernel)) rfl
theorem i_1539 : Cond.instanceMethod yX7_tellsPick ∈ GW := gw_in (List.mem_of_getElem? (i := 1539) (by decide +kernel)) rfl
theorem i_1540 : Cond.code yX7_tellsPick cX7_tellsPick 2 (some .int) ∈ GW := gw_in (List.mem_of_getElem? (i := 1540) (by decide +kernel)) rfl
theorem i_1541 : Cond.methodLink RL 209 yX7_opener ∈ GW := gw_in (List.mem_of_getElem? (i := 1541) (by decide +kernel)) rfl
theorem i_1542 : Cond.instanceMethod yX7_opener ∈ GW := gw_in (List.mem_of_getElem? (i := 1542) (by decide +kernel)) rfl
theorem i_1543 : Cond.selects RX7 yX7_opener yX7_opener ∈ GW := gw_in (List.mem_of_getElem? (i := 1543) (by decide +kernel)) rfl
theorem i_1544 : Cond.code yX7_opener cX7_opener 5 (some .int) ∈ GW := gw_in (List.mem_of_getElem? (i := 1544) (by decide +kernel)) rfl
theorem i_1545 : Cond.methodLink RX7 277 yX7_areLocks ∈ GW := gw_in (List.mem_of_getElem? (i := 1545) (by decide +kernel)) rfl
theorem i_1547 : Cond.instanceMethod yX7_areLocks ∈ GW := gw_in (List.mem_of_getElem? (i := 1547) (by decide +kernel)) rfl
theorem i_1548 : Cond.code yX7_areLocks cX7_areLocks 4 (some .boolean) ∈ GW := gw_in (List.mem_of_getElem? (i := 1548) (by decide +kernel)) rfl
theorem i_1549 : Cond.methodLink RL 212 yX7_worn ∈ GW := gw_in (List.mem_of_getElem? (i := 1549) (by decide +kernel)) rfl
theorem i_1550 : Cond.instanceMethod yX7_worn ∈ GW := gw_in (List.mem_of_getElem? (i := 1550) (by decide +kernel)) rfl
theorem i_1551 : Cond.selects RX7 yX7_worn yX7_worn ∈ GW := gw_in (List.mem_of_getElem? (i := 1551) (by decide +kernel)) rfl
theorem i_1552 : Cond.code yX7_worn cX7_worn 3 (some .int) ∈ GW := gw_in (List.mem_of_getElem? (i := 1552) (by decide +kernel)) rfl
theorem i_1553 : Cond.methodLink RX7 280 yX7_behind ∈ GW := gw_in (List.mem_of_getElem? (i := 1553) (by decide +kernel)) rfl
theorem i_1555 : Cond.instanceMethod yX7_behind ∈ GW := gw_in (List.mem_of_getElem? (i := 1555) (by decide +kernel)) rfl
theorem i_1556 : Cond.code yX7_behind cX7_behind 5 (some .int) ∈ GW := gw_in (List.mem_of_getElem? (i := 1556) (by decide +kernel)) rfl
theorem i_1557 : Cond.methodLink RL 215 yX7_crossedIn ∈ GW := gw_in (List.mem_of_getElem? (i := 1557) (by decide +kernel)) rfl
theorem i_1558 : Cond.instanceMethod yX7_crossedIn ∈ GW := gw_in (List.mem_of_getElem? (i := 1558) (by decide +kernel)) rfl
theorem i_1559 : Cond.selects RX7 yX7_crossedIn yX7_crossedIn ∈ GW := gw_in (List.mem_of_getElem? (i := 1559) (by decide +kernel)) rfl
theorem i_1560 : Cond.code yX7_crossedIn cX7_crossedIn 2 (some .int) ∈ GW := gw_in (List.mem_of_getElem? (i := 1560) (by decide +kernel)) rfl
theorem i_1561 : Cond.methodLink RX7 286 yX7_firstCrossed ∈ GW := gw_in (List.mem_of_getElem? (i := 1561) (by decide +kernel)) rfl
theorem i_1563 : Cond.instanceMethod yX7_firstCrossed ∈ GW := gw_in (List.mem_of_getElem? (i := 1563) (by decide +kernel)) rfl
theorem i_1564 : Cond.code yX7_firstCrossed cX7_firstCrossed 3 (some .int) ∈ GW := gw_in (List.mem_of_getElem? (i := 1564) (by decide +kernel)) rfl
theorem i_1565 : Cond.methodLink RX7 283 yX7_isCrossedWith ∈ GW := gw_in (List.mem_of_getElem? (i := 1565) (by decide +kernel)) rfl
theorem i_1567 : Cond.instanceMethod yX7_isCrossedWith ∈ GW := gw_in (List.mem_of_getElem? (i := 1567) (by decide +kernel)) rfl
theorem i_1568 : Cond.code yX7_isCrossedWith cX7_isCrossedWith 5 (some .boolean) ∈ GW := gw_in (List.mem_of_getElem? (i := 1568) (by decide +kernel)) rfl
theorem i_1569 : Cond.methodLink RL 220 yX7_freeShare ∈ GW := gw_in (List.mem_of_getElem? (i := 1569) (by decide +kernel)) rfl
theorem i_1570 : Cond.instanceMethod yX7_freeShare ∈ GW := gw_in (List.mem_of_getElem? (i := 1570) (by decide +kernel)) rfl
theorem i_1571 : Cond.selects RX7 yX7_freeShare yX7_freeShare ∈ GW := gw_in (List.mem_of_getElem? (i := 1571) (by decide +kernel)) rfl
theorem i_1572 : Cond.code yX7_freeShare cX7_freeShare 1 (some .double) ∈ GW := gw_in (List.mem_of_getElem? (i := 1572) (by decide +kernel)) rfl
theorem i_1573 : Cond.methodLink RX7 289 yX7_shareOfFree ∈ GW := gw_in (List.mem_of_getElem? (i := 1573) (by decide +kernel)) rfl
theorem i_1575 : Cond.instanceMethod yX7_shareOfFree ∈ GW := gw_in (List.mem_of_getElem? (i := 1575) (by decide +kernel)) rfl
theorem i_1576 : Cond.code yX7_shareOfFree cX7_shareOfFree 1 (some .double) ∈ GW := gw_in (List.mem_of_getElem? (i := 1576) (by decide +kernel)) rfl
theorem i_1577 : Cond.methodLink RL 225 yX7_meanLevel ∈ GW := gw_in (List.mem_of_getElem? (i := 1577) (by decide +kernel)) rfl
theorem i_1578 : Cond.instanceMethod yX7_meanLevel ∈ GW := gw_in (List.mem_of_getElem? (i := 1578) (by decide +kernel)) rfl
theorem i_1579 : Cond.selects RX7 yX7_meanLevel yX7_meanLevel ∈ GW := gw_in (List.mem_of_getElem? (i := 1579) (by decide +kernel)) rfl
theorem i_1580 : Cond.code yX7_meanLevel cX7_meanLevel 1 (some .float) ∈ GW := gw_in (List.mem_of_getElem? (i := 1580) (by decide +kernel)) rfl
theorem i_1581 : Cond.methodLink RX7 293 yX7_mean ∈ GW := gw_in (List.mem_of_getElem? (i := 1581) (by decide +kernel)) rfl
theorem i_1583 : Cond.instanceMethod yX7_mean ∈ GW := gw_in (List.mem_of_getElem? (i := 1583) (by decide +kernel)) rfl
theorem i_1584 : Cond.code yX7_mean cX7_mean 3 (some .float) ∈ GW := gw_in (List.mem_of_getElem? (i := 1584) (by decide +kernel)) rfl
theorem i_1585 : Cond.methodLink RL 230 yX7_digest ∈ GW := gw_in (List.mem_of_getElem? (i := 1585) (by decide +kernel)) rfl
theorem i_1586 : Cond.instanceMethod yX7_digest ∈ GW := gw_in (List.mem_of_getElem? (i := 1586) (by decide +kernel)) rfl
theorem i_1587 : Cond.selects RX7 yX7_digest yX7_digest ∈ GW := gw_in (List.mem_of_getElem? (i := 1587) (by decide +kernel)) rfl
theorem i_1588 : Cond.code yX7_digest cX7_digest 2 (some .long) ∈ GW := gw_in (List.mem_of_getElem? (i := 1588) (by decide +kernel)) rfl
theorem i_1589 : Cond.constantLong RX7 307 (3613) ∈ GW := gw_in (List.mem_of_getElem? (i := 1589) (by decide +kernel)) rfl
theorem i_1590 : Cond.methodLink RX7 303 yX7_mix ∈ GW := gw_in (List.mem_of_getElem? (i := 1590) (by decide +kernel)) rfl
theorem i_1592 : Cond.instanceMethod yX7_mix ∈ GW := gw_in (List.mem_of_getElem? (i := 1592) (by decide +kernel)) rfl
theorem i_1593 : Cond.code yX7_mix cX7_mix 3 none ∈ GW := gw_in (List.mem_of_getElem? (i := 1593) (by decide +kernel)) rfl
theorem i_1594 : Cond.constantLong RX7 297 (31) ∈ GW := gw_in (List.mem_of_getElem? (i := 1594) (by decide +kernel)) rfl
theorem i_1595 : Cond.methodLink RX7 309 yX7_mixKeys ∈ GW := gw_in (List.mem_of_getElem? (i := 1595) (by decide +kernel)) rfl
theorem i_1597 : Cond.instanceMethod yX7_mixKeys ∈ GW := gw_in (List.mem_of_getElem? (i := 1597) (by decide +kernel)) rfl
theorem i_1598 : Cond.code yX7_mixKeys cX7_mixKeys 3 none ∈ GW := gw_in (List.mem_of_getElem? (i := 1598) (by decide +kernel)) rfl
theorem i_1599 : Cond.methodLink RX7 312 yX7_mixPlaces ∈ GW := gw_in (List.mem_of_getElem? (i := 1599) (by decide +kernel)) rfl
theorem i_1601 : Cond.instanceMethod yX7_mixPlaces ∈ GW := gw_in (List.mem_of_getElem? (i := 1601) (by decide +kernel)) rfl
theorem i_1602 : Cond.code yX7_mixPlaces cX7_mixPlaces 3 none ∈ GW := gw_in (List.mem_of_getElem? (i := 1602) (by decide +kernel)) rfl
theorem i_1603 : Cond.methodLink RX7 315 yX7_mixCodes ∈ GW := gw_in (List.mem_of_getElem? (i := 1603) (by decide +kernel)) rfl
theorem i_1605 : Cond.instanceMethod yX7_mixCodes ∈ GW := gw_in (List.mem_of_getElem? (i := 1605) (by decide +kernel)) rfl
theorem i_1606 : Cond.code yX7_mixCodes cX7_mixCodes 3 none ∈ GW := gw_in (List.mem_of_getElem? (i := 1606) (by decide +kernel)) rfl
theorem i_1607 : Cond.constantLong RX7 318 (-1) ∈ GW := gw_in (List.mem_of_getElem? (i := 1607) (by decide +kernel)) rfl
theorem i_1608 : Cond.methodLink RX7 320 yJxe99ae_doubleToLongBits_ccdee ∈ GW := gw_in (List.mem_of_getElem? (i := 1608) (by decide +kernel)) rfl
theorem i_1609 : Cond.static yJxe99ae_doubleToLongBits_ccdee ∈ GW := gw_in (List.mem_of_getElem? (i := 1609) (by decide +kernel)) rfl
theorem i_1610 : Cond.code yJxe99ae_doubleToLongBits_ccdee cJxe99ae_doubleToLongBits_ccdee 2 (some .long) ∈ GW := gw_in (List.mem_of_getElem? (i := 1610) (by decide +kernel)) rfl
theorem i_1611 : Cond.methodLink RJxe99ae 122 yJxe99ae_isNaN_b9ae7 ∈ GW := gw_in (List.mem_of_getElem? (i := 1611) (by decide +kernel)) rfl
theorem i_1612 : Cond.static yJxe99ae_isNaN_b9ae7 ∈ GW := gw_in (List.mem_of_getElem? (i := 1612) (by decide +kernel)) rfl
theorem i_1613 : Cond.code yJxe99ae_isNaN_b9ae7 cJxe99ae_isNaN_b9ae7 2 (some .boolean) ∈ GW := gw_in (List.mem_of_getElem? (i := 1613) (by decide +kernel)) rfl
theorem i_1617 : Cond.constantLong RJxe99ae 137 (9221120237041090560) ∈ GW := gw_in (List.mem_of_getElem? (i := 1617) (by decide +kernel)) rfl
theorem i_1618 : Cond.methodLink RX7 326 yJxf58ca_floatToIntBits_5c35a ∈ GW := gw_in (List.mem_of_getElem? (i := 1618) (by decide +kernel)) rfl
theorem i_1619 : Cond.static yJxf58ca_floatToIntBits_5c35a ∈ GW := gw_in (List.mem_of_getElem? (i := 1619) (by decide +kernel)) rfl
theorem i_1620 : Cond.code yJxf58ca_floatToIntBits_5c35a cJxf58ca_floatToIntBits_5c35a 1 (some .int) ∈ GW := gw_in (List.mem_of_getElem? (i := 1620) (by decide +kernel)) rfl
theorem i_1621 : Cond.methodLink RJxf58ca 59 yJxf58ca_isNaN_12338 ∈ GW := gw_in (List.mem_of_getElem? (i := 1621) (by decide +kernel)) rfl
theorem i_1622 : Cond.static yJxf58ca_isNaN_12338 ∈ GW := gw_in (List.mem_of_getElem? (i := 1622) (by decide +kernel)) rfl
theorem i_1623 : Cond.code yJxf58ca_isNaN_12338 cJxf58ca_isNaN_12338 1 (some .boolean) ∈ GW := gw_in (List.mem_of_getElem? (i := 1623) (by decide +kernel)) rfl
theorem i_1627 : Cond.constant RJxf58ca 77 (2143289344) ∈ GW := gw_in (List.mem_of_getElem? (i := 1627) (by decide +kernel)) rfl
end A4b
