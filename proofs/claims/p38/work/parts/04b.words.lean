section A4b
theorem i_1 : Cond.selects RX6 yX6_lostKeys yX6_lostKeys ∈ GW := gw_in (List.mem_of_getElem? (i := 1) (by decide +kernel)) rfl
theorem i_2 : Cond.selects RX6 yX6_lockCount yX6_lockCount ∈ GW := gw_in (List.mem_of_getElem? (i := 2) (by decide +kernel)) rfl
theorem i_3 : Cond.selects RX6 yX6_isLock yX6_isLock ∈ GW := gw_in (List.mem_of_getElem? (i := 3) (by decide +kernel)) rfl
theorem i_4 : Cond.selects RX6 yX6_crossedPairs yX6_crossedPairs ∈ GW := gw_in (List.mem_of_getElem? (i := 4) (by decide +kernel)) rfl
theorem i_5 : Cond.selects RX6 yX6_soundCodes yX6_soundCodes ∈ GW := gw_in (List.mem_of_getElem? (i := 5) (by decide +kernel)) rfl
theorem i_6 : Cond.selects RX6 yX6_isSound yX6_isSound ∈ GW := gw_in (List.mem_of_getElem? (i := 6) (by decide +kernel)) rfl
theorem i_7 : Cond.selects RX6 yX6_freeCodes yX6_freeCodes ∈ GW := gw_in (List.mem_of_getElem? (i := 7) (by decide +kernel)) rfl
theorem i_8 : Cond.selects RX6 yX6_isFree yX6_isFree ∈ GW := gw_in (List.mem_of_getElem? (i := 8) (by decide +kernel)) rfl
theorem i_9 : Cond.selects RX6 yX6_reasonByKeys yX6_reasonByKeys ∈ GW := gw_in (List.mem_of_getElem? (i := 9) (by decide +kernel)) rfl
theorem i_10 : Cond.selects RX6 yX6_isKey yX6_isKey ∈ GW := gw_in (List.mem_of_getElem? (i := 10) (by decide +kernel)) rfl
theorem i_11 : Cond.selects RX6 yX6_locksOpenedBy yX6_locksOpenedBy ∈ GW := gw_in (List.mem_of_getElem? (i := 11) (by decide +kernel)) rfl
theorem i_12 : Cond.selects RX6 yX6_opens yX6_opens ∈ GW := gw_in (List.mem_of_getElem? (i := 12) (by decide +kernel)) rfl
theorem i_13 : Cond.selects RX6 yX6_keysOver yX6_keysOver ∈ GW := gw_in (List.mem_of_getElem? (i := 13) (by decide +kernel)) rfl
theorem i_14 : Cond.selects RX6 yX6_keysUnder yX6_keysUnder ∈ GW := gw_in (List.mem_of_getElem? (i := 14) (by decide +kernel)) rfl
theorem i_15 : Cond.selects RX6 yX6_keysOpening yX6_keysOpening ∈ GW := gw_in (List.mem_of_getElem? (i := 15) (by decide +kernel)) rfl
theorem i_16 : Cond.selects RX6 yX6_whoCouldOpen yX6_whoCouldOpen ∈ GW := gw_in (List.mem_of_getElem? (i := 16) (by decide +kernel)) rfl
theorem i_17 : Cond.selects RX6 yX6_keysOf yX6_keysOf ∈ GW := gw_in (List.mem_of_getElem? (i := 17) (by decide +kernel)) rfl
theorem i_18 : Cond.selects RX6 yX6_locksFor yX6_locksFor ∈ GW := gw_in (List.mem_of_getElem? (i := 18) (by decide +kernel)) rfl
theorem i_19 : Cond.selects RX6 yX6_reasonAgainstCut yX6_reasonAgainstCut ∈ GW := gw_in (List.mem_of_getElem? (i := 19) (by decide +kernel)) rfl
theorem i_20 : Cond.selects RX6 yX6_save yX6_save ∈ GW := gw_in (List.mem_of_getElem? (i := 20) (by decide +kernel)) rfl
theorem i_21 : Cond.selects RX6 yX6_addKey yX6_addKey ∈ GW := gw_in (List.mem_of_getElem? (i := 21) (by decide +kernel)) rfl
theorem i_22 : Cond.selects RX6 yX6_reasonAgainstDeeper yX6_reasonAgainstDeeper ∈ GW := gw_in (List.mem_of_getElem? (i := 22) (by decide +kernel)) rfl
theorem i_23 : Cond.selects RX6 yX6_cutDeeper yX6_cutDeeper ∈ GW := gw_in (List.mem_of_getElem? (i := 23) (by decide +kernel)) rfl
theorem i_24 : Cond.selects RX6 yX6_tryKey yX6_tryKey ∈ GW := gw_in (List.mem_of_getElem? (i := 24) (by decide +kernel)) rfl
theorem i_25 : Cond.selects RX6 yX6_codeBehindUse yX6_codeBehindUse ∈ GW := gw_in (List.mem_of_getElem? (i := 25) (by decide +kernel)) rfl
theorem i_26 : Cond.selects RX6 yX6_soundCodesOver yX6_soundCodesOver ∈ GW := gw_in (List.mem_of_getElem? (i := 26) (by decide +kernel)) rfl
theorem i_27 : Cond.selects RX6 yX6_soundCodesUnder yX6_soundCodesUnder ∈ GW := gw_in (List.mem_of_getElem? (i := 27) (by decide +kernel)) rfl
theorem i_28 : Cond.selects RX6 yX6_hasAllLocks yX6_hasAllLocks ∈ GW := gw_in (List.mem_of_getElem? (i := 28) (by decide +kernel)) rfl
theorem i_29 : Cond.selects RX6 yX6_opensAll yX6_opensAll ∈ GW := gw_in (List.mem_of_getElem? (i := 29) (by decide +kernel)) rfl
theorem i_30 : Cond.selects RX6 yX6_findMost yX6_findMost ∈ GW := gw_in (List.mem_of_getElem? (i := 30) (by decide +kernel)) rfl
theorem i_31 : Cond.selects RX0 yX0_findNext yX0_findNext ∈ GW := gw_in (List.mem_of_getElem? (i := 31) (by decide +kernel)) rfl
theorem i_32 : Cond.selects RX0 yX0_swapBack yX0_swapBack ∈ GW := gw_in (List.mem_of_getElem? (i := 32) (by decide +kernel)) rfl
theorem i_33 : Cond.selects RX0 yX0_leavesFullSet yX0_leavesFullSet ∈ GW := gw_in (List.mem_of_getElem? (i := 33) (by decide +kernel)) rfl
theorem i_34 : Cond.selects RX0 yX0_leftFrom yX0_leftFrom ∈ GW := gw_in (List.mem_of_getElem? (i := 34) (by decide +kernel)) rfl
theorem i_35 : Cond.selects RX0 yX0_canBeApart yX0_canBeApart ∈ GW := gw_in (List.mem_of_getElem? (i := 35) (by decide +kernel)) rfl
theorem i_36 : Cond.selects RX0 yX0_add yX0_add ∈ GW := gw_in (List.mem_of_getElem? (i := 36) (by decide +kernel)) rfl
theorem i_37 : Cond.initialized RL ∈ GW := gw_in (List.mem_of_getElem? (i := 37) (by decide +kernel)) rfl
theorem i_38 : Cond.initialized RX6 ∈ GW := gw_in (List.mem_of_getElem? (i := 38) (by decide +kernel)) rfl
theorem i_39 : Cond.initialized RX4 ∈ GW := gw_in (List.mem_of_getElem? (i := 39) (by decide +kernel)) rfl
theorem i_40 : Cond.initialized RX5 ∈ GW := gw_in (List.mem_of_getElem? (i := 40) (by decide +kernel)) rfl
theorem i_41 : Cond.initialized RX2 ∈ GW := gw_in (List.mem_of_getElem? (i := 41) (by decide +kernel)) rfl
theorem i_42 : Cond.initialized RX3 ∈ GW := gw_in (List.mem_of_getElem? (i := 42) (by decide +kernel)) rfl
theorem i_43 : Cond.initialized RX1 ∈ GW := gw_in (List.mem_of_getElem? (i := 43) (by decide +kernel)) rfl
theorem i_44 : Cond.initialized RJ9 ∈ GW := gw_in (List.mem_of_getElem? (i := 44) (by decide +kernel)) rfl
theorem i_45 : Cond.initialized RX0 ∈ GW := gw_in (List.mem_of_getElem? (i := 45) (by decide +kernel)) rfl
theorem i_53 : Cond.initialized RJ6 ∈ GW := gw_in (List.mem_of_getElem? (i := 53) (by decide +kernel)) rfl
theorem i_54 : Cond.initialized RJ7 ∈ GW := gw_in (List.mem_of_getElem? (i := 54) (by decide +kernel)) rfl
theorem i_55 : Cond.classLink RL 11 "NotchedKeys" ∈ GW := gw_in (List.mem_of_getElem? (i := 55) (by decide +kernel)) rfl
theorem i_56 : Cond.instantiable RX6 9 ∈ GW := gw_in (List.mem_of_getElem? (i := 56) (by decide +kernel)) rfl
theorem i_57 : Cond.methodLink RL 206 yX6_init ∈ GW := gw_in (List.mem_of_getElem? (i := 57) (by decide +kernel)) rfl
theorem i_58 : Cond.instanceMethod yX6_init ∈ GW := gw_in (List.mem_of_getElem? (i := 58) (by decide +kernel)) rfl
theorem i_59 : Cond.code yX6_init cX6_init 2 none ∈ GW := gw_in (List.mem_of_getElem? (i := 59) (by decide +kernel)) rfl
theorem i_63 : Cond.classLink RX6 7 "NotchedKeys$OrderText" ∈ GW := gw_in (List.mem_of_getElem? (i := 63) (by decide +kernel)) rfl
theorem i_64 : Cond.instantiable RX4 7 ∈ GW := gw_in (List.mem_of_getElem? (i := 64) (by decide +kernel)) rfl
theorem i_66 : Cond.instanceMethod yX4_init ∈ GW := gw_in (List.mem_of_getElem? (i := 66) (by decide +kernel)) rfl
theorem i_67 : Cond.code yX4_init cX4_init 1 none ∈ GW := gw_in (List.mem_of_getElem? (i := 67) (by decide +kernel)) rfl
theorem i_69 : Cond.fieldLink RX4 9 "NotchedKeys$OrderText" "signs" "[C" ∈ GW := gw_in (List.mem_of_getElem? (i := 69) (by decide +kernel)) rfl
theorem i_86 : Cond.classLink RX6 16 "NotchedKeys$State" ∈ GW := gw_in (List.mem_of_getElem? (i := 86) (by decide +kernel)) rfl
theorem i_87 : Cond.instantiable RX5 12 ∈ GW := gw_in (List.mem_of_getElem? (i := 87) (by decide +kernel)) rfl
theorem i_88 : Cond.methodLink RX6 18 yX5_init ∈ GW := gw_in (List.mem_of_getElem? (i := 88) (by decide +kernel)) rfl
theorem i_89 : Cond.instanceMethod yX5_init ∈ GW := gw_in (List.mem_of_getElem? (i := 89) (by decide +kernel)) rfl
theorem i_90 : Cond.code yX5_init cX5_init 2 none ∈ GW := gw_in (List.mem_of_getElem? (i := 90) (by decide +kernel)) rfl
theorem i_92 : Cond.classLink RX5 9 "NotchedKeys$Key" ∈ GW := gw_in (List.mem_of_getElem? (i := 92) (by decide +kernel)) rfl
theorem i_94 : Cond.classLink RX5 17 "NotchedKeys$Lock" ∈ GW := gw_in (List.mem_of_getElem? (i := 94) (by decide +kernel)) rfl
theorem i_96 : Cond.instantiable RX2 6 ∈ GW := gw_in (List.mem_of_getElem? (i := 96) (by decide +kernel)) rfl
theorem i_98 : Cond.instanceMethod yX2_init ∈ GW := gw_in (List.mem_of_getElem? (i := 98) (by decide +kernel)) rfl
theorem i_99 : Cond.code yX2_init cX2_init 1 none ∈ GW := gw_in (List.mem_of_getElem? (i := 99) (by decide +kernel)) rfl
theorem i_101 : Cond.fieldLink RX2 7 "NotchedKeys$Key" "code" "I" ∈ GW := gw_in (List.mem_of_getElem? (i := 101) (by decide +kernel)) rfl
theorem i_102 : Cond.fieldLink RX6 107 "NotchedKeys$Key" "code" "I" ∈ GW := gw_in (List.mem_of_getElem? (i := 102) (by decide +kernel)) rfl
theorem i_103 : Cond.fieldLink RX2 13 "NotchedKeys$Key" "firstCode" "I" ∈ GW := gw_in (List.mem_of_getElem? (i := 103) (by decide +kernel)) rfl
theorem i_104 : Cond.fieldLink RX6 243 "NotchedKeys$Key" "firstCode" "I" ∈ GW := gw_in (List.mem_of_getElem? (i := 104) (by decide +kernel)) rfl
theorem i_105 : Cond.fieldLink RX2 16 "NotchedKeys$Key" "uses" "I" ∈ GW := gw_in (List.mem_of_getElem? (i := 105) (by decide +kernel)) rfl
theorem i_106 : Cond.fieldLink RX6 246 "NotchedKeys$Key" "uses" "I" ∈ GW := gw_in (List.mem_of_getElem? (i := 106) (by decide +kernel)) rfl
theorem i_107 : Cond.fieldLink RX2 19 "NotchedKeys$Key" "owner" "I" ∈ GW := gw_in (List.mem_of_getElem? (i := 107) (by decide +kernel)) rfl
theorem i_108 : Cond.fieldLink RX6 123 "NotchedKeys$Key" "owner" "I" ∈ GW := gw_in (List.mem_of_getElem? (i := 108) (by decide +kernel)) rfl
theorem i_109 : Cond.fieldLink RX2 22 "NotchedKeys$Key" "timesWorn" "I" ∈ GW := gw_in (List.mem_of_getElem? (i := 109) (by decide +kernel)) rfl
theorem i_110 : Cond.fieldLink RX6 255 "NotchedKeys$Key" "timesWorn" "I" ∈ GW := gw_in (List.mem_of_getElem? (i := 110) (by decide +kernel)) rfl
theorem i_111 : Cond.fieldLink RX2 25 "NotchedKeys$Key" "lost" "Z" ∈ GW := gw_in (List.mem_of_getElem? (i := 111) (by decide +kernel)) rfl
theorem i_112 : Cond.fieldLink RX6 126 "NotchedKeys$Key" "lost" "Z" ∈ GW := gw_in (List.mem_of_getElem? (i := 112) (by decide +kernel)) rfl
theorem i_127 : Cond.instantiable RX3 4 ∈ GW := gw_in (List.mem_of_getElem? (i := 127) (by decide +kernel)) rfl
theorem i_129 : Cond.instanceMethod yX3_init ∈ GW := gw_in (List.mem_of_getElem? (i := 129) (by decide +kernel)) rfl
theorem i_130 : Cond.code yX3_init cX3_init 1 none ∈ GW := gw_in (List.mem_of_getElem? (i := 130) (by decide +kernel)) rfl
theorem i_132 : Cond.fieldLink RX3 9 "NotchedKeys$Lock" "ward" "I" ∈ GW := gw_in (List.mem_of_getElem? (i := 132) (by decide +kernel)) rfl
theorem i_133 : Cond.fieldLink RX6 153 "NotchedKeys$Lock" "ward" "I" ∈ GW := gw_in (List.mem_of_getElem? (i := 133) (by decide +kernel)) rfl
theorem i_134 : Cond.fieldLink RX3 15 "NotchedKeys$Lock" "guest" "I" ∈ GW := gw_in (List.mem_of_getElem? (i := 134) (by decide +kernel)) rfl
theorem i_135 : Cond.fieldLink RX6 163 "NotchedKeys$Lock" "guest" "I" ∈ GW := gw_in (List.mem_of_getElem? (i := 135) (by decide +kernel)) rfl
theorem i_136 : Cond.fieldLink RX3 18 "NotchedKeys$Lock" "uses" "I" ∈ GW := gw_in (List.mem_of_getElem? (i := 136) (by decide +kernel)) rfl
theorem i_137 : Cond.fieldLink RX6 262 "NotchedKeys$Lock" "uses" "I" ∈ GW := gw_in (List.mem_of_getElem? (i := 137) (by decide +kernel)) rfl
theorem i_138 : Cond.fieldLink RX3 21 "NotchedKeys$Lock" "failedTries" "I" ∈ GW := gw_in (List.mem_of_getElem? (i := 138) (by decide +kernel)) rfl
theorem i_139 : Cond.fieldLink RX6 263 "NotchedKeys$Lock" "failedTries" "I" ∈ GW := gw_in (List.mem_of_getElem? (i := 139) (by decide +kernel)) rfl
theorem i_149 : Cond.fieldLink RX5 11 "NotchedKeys$State" "keys" "[LNotchedKeys$Key;" ∈ GW := gw_in (List.mem_of_getElem? (i := 149) (by decide +kernel)) rfl
theorem i_150 : Cond.fieldLink RX6 103 "NotchedKeys$State" "keys" "[LNotchedKeys$Key;" ∈ GW := gw_in (List.mem_of_getElem? (i := 150) (by decide +kernel)) rfl
theorem i_151 : Cond.fieldLink RX5 39 "NotchedKeys$State" "keyCount" "I" ∈ GW := gw_in (List.mem_of_getElem? (i := 151) (by decide +kernel)) rfl
theorem i_152 : Cond.fieldLink RX6 80 "NotchedKeys$State" "keyCount" "I" ∈ GW := gw_in (List.mem_of_getElem? (i := 152) (by decide +kernel)) rfl
theorem i_153 : Cond.fieldLink RX5 19 "NotchedKeys$State" "locks" "[LNotchedKeys$Lock;" ∈ GW := gw_in (List.mem_of_getElem? (i := 153) (by decide +kernel)) rfl
theorem i_154 : Cond.fieldLink RX6 149 "NotchedKeys$State" "locks" "[LNotchedKeys$Lock;" ∈ GW := gw_in (List.mem_of_getElem? (i := 154) (by decide +kernel)) rfl
theorem i_155 : Cond.fieldLink RX5 23 "NotchedKeys$State" "personUses" "[I" ∈ GW := gw_in (List.mem_of_getElem? (i := 155) (by decide +kernel)) rfl
theorem i_156 : Cond.fieldLink RX6 277 "NotchedKeys$State" "personUses" "[I" ∈ GW := gw_in (List.mem_of_getElem? (i := 156) (by decide +kernel)) rfl
theorem i_157 : Cond.fieldLink RX5 27 "NotchedKeys$State" "settings" "[I" ∈ GW := gw_in (List.mem_of_getElem? (i := 157) (by decide +kernel)) rfl
theorem i_158 : Cond.fieldLink RX6 194 "NotchedKeys$State" "settings" "[I" ∈ GW := gw_in (List.mem_of_getElem? (i := 158) (by decide +kernel)) rfl
theorem i_159 : Cond.fieldLink RX5 55 "NotchedKeys$State" "pence" "I" ∈ GW := gw_in (List.mem_of_getElem? (i := 159) (by decide +kernel)) rfl
theorem i_160 : Cond.fieldLink RX6 319 "NotchedKeys$State" "pence" "I" ∈ GW := gw_in (List.mem_of_getElem? (i := 160) (by decide +kernel)) rfl
theorem i_161 : Cond.fieldLink RX5 58 "NotchedKeys$State" "uses" "I" ∈ GW := gw_in (List.mem_of_getElem? (i := 161) (by decide +kernel)) rfl
theorem i_162 : Cond.fieldLink RX6 322 "NotchedKeys$State" "uses" "I" ∈ GW := gw_in (List.mem_of_getElem? (i := 162) (by decide +kernel)) rfl
theorem i_163 : Cond.fieldLink RX5 61 "NotchedKeys$State" "failedTries" "I" ∈ GW := gw_in (List.mem_of_getElem? (i := 163) (by decide +kernel)) rfl
theorem i_164 : Cond.fieldLink RX6 323 "NotchedKeys$State" "failedTries" "I" ∈ GW := gw_in (List.mem_of_getElem? (i := 164) (by decide +kernel)) rfl
theorem i_165 : Cond.fieldLink RX5 64 "NotchedKeys$State" "timesWorn" "I" ∈ GW := gw_in (List.mem_of_getElem? (i := 165) (by decide +kernel)) rfl
theorem i_166 : Cond.fieldLink RX6 324 "NotchedKeys$State" "timesWorn" "I" ∈ GW := gw_in (List.mem_of_getElem? (i := 166) (by decide +kernel)) rfl
theorem i_167 : Cond.fieldLink RX5 67 "NotchedKeys$State" "thrownAway" "I" ∈ GW := gw_in (List.mem_of_getElem? (i := 167) (by decide +kernel)) rfl
theorem i_168 : Cond.fieldLink RX6 118 "NotchedKeys$State" "thrownAway" "I" ∈ GW := gw_in (List.mem_of_getElem? (i := 168) (by decide +kernel)) rfl
theorem i_169 : Cond.fieldLink RX5 30 "NotchedKeys$State" "stopOrder" "I" ∈ GW := gw_in (List.mem_of_getElem? (i := 169) (by decide +kernel)) rfl
theorem i_170 : Cond.fieldLink RX5 34 "NotchedKeys$State" "stopReason" "I" ∈ GW := gw_in (List.mem_of_getElem? (i := 170) (by decide +kernel)) rfl
theorem i_197 : Cond.classLink RX6 34 "NotchedKeys$Codes" ∈ GW := gw_in (List.mem_of_getElem? (i := 197) (by decide +kernel)) rfl
theorem i_198 : Cond.instantiable RX1 4 ∈ GW := gw_in (List.mem_of_getElem? (i := 198) (by decide +kernel)) rfl
theorem i_199 : Cond.methodLink RX6 36 yX1_init ∈ GW := gw_in (List.mem_of_getElem? (i := 199) (by decide +kernel)) rfl
theorem i_200 : Cond.instanceMethod yX1_init ∈ GW := gw_in (List.mem_of_getElem? (i := 200) (by decide +kernel)) rfl
theorem i_201 : Cond.code yX1_init cX1_init 5 none ∈ GW := gw_in (List.mem_of_getElem? (i := 201) (by decide +kernel)) rfl
theorem i_203 : Cond.methodLink RX1 24 yX1_depthOf ∈ GW := gw_in (List.mem_of_getElem? (i := 203) (by decide +kernel)) rfl
theorem i_204 : Cond.static yX1_depthOf ∈ GW := gw_in (List.mem_of_getElem? (i := 204) (by decide +kernel)) rfl
theorem i_205 : Cond.code yX1_depthOf cX1_depthOf 2 (some .int) ∈ GW := gw_in (List.mem_of_getElem? (i := 205) (by decide +kernel)) rfl
theorem i_208 : Cond.methodLink RX1 28 yJ9_abs_0f7a4 ∈ GW := gw_in (List.mem_of_getElem? (i := 208) (by decide +kernel)) rfl
theorem i_209 : Cond.static yJ9_abs_0f7a4 ∈ GW := gw_in (List.mem_of_getElem? (i := 209) (by decide +kernel)) rfl
theorem i_210 : Cond.code yJ9_abs_0f7a4 cJ9_abs_0f7a4 1 (some .int) ∈ GW := gw_in (List.mem_of_getElem? (i := 210) (by decide +kernel)) rfl
theorem i_211 : Cond.methodLink RX1 34 yJ9_max_7cf53 ∈ GW := gw_in (List.mem_of_getElem? (i := 211) (by decide +kernel)) rfl
theorem i_212 : Cond.static yJ9_max_7cf53 ∈ GW := gw_in (List.mem_of_getElem? (i := 212) (by decide +kernel)) rfl
theorem i_213 : Cond.code yJ9_max_7cf53 cJ9_max_7cf53 2 (some .int) ∈ GW := gw_in (List.mem_of_getElem? (i := 213) (by decide +kernel)) rfl
theorem i_214 : Cond.methodLink RX1 37 yX1_wornOnce ∈ GW := gw_in (List.mem_of_getElem? (i := 214) (by decide +kernel)) rfl
theorem i_215 : Cond.static yX1_wornOnce ∈ GW := gw_in (List.mem_of_getElem? (i := 215) (by decide +kernel)) rfl
theorem i_216 : Cond.code yX1_wornOnce cX1_wornOnce 3 (some .int) ∈ GW := gw_in (List.mem_of_getElem? (i := 216) (by decide +kernel)) rfl
theorem i_217 : Cond.fieldLink RX1 9 "NotchedKeys$Codes" "marks" "[I" ∈ GW := gw_in (List.mem_of_getElem? (i := 217) (by decide +kernel)) rfl
theorem i_218 : Cond.fieldLink RX1 15 "NotchedKeys$Codes" "levels" "[I" ∈ GW := gw_in (List.mem_of_getElem? (i := 218) (by decide +kernel)) rfl
theorem i_219 : Cond.fieldLink RX6 240 "NotchedKeys$Codes" "levels" "[I" ∈ GW := gw_in (List.mem_of_getElem? (i := 219) (by decide +kernel)) rfl
theorem i_220 : Cond.fieldLink RX1 18 "NotchedKeys$Codes" "steps" "[I" ∈ GW := gw_in (List.mem_of_getElem? (i := 220) (by decide +kernel)) rfl
theorem i_221 : Cond.fieldLink RX6 455 "NotchedKeys$Codes" "steps" "[I" ∈ GW := gw_in (List.mem_of_getElem? (i := 221) (by decide +kernel)) rfl
theorem i_222 : Cond.fieldLink RX1 21 "NotchedKeys$Codes" "wornTo" "[I" ∈ GW := gw_in (List.mem_of_getElem? (i := 222) (by decide +kernel)) rfl
theorem i_223 : Cond.fieldLink RX6 418 "NotchedKeys$Codes" "wornTo" "[I" ∈ GW := gw_in (List.mem_of_getElem? (i := 223) (by decide +kernel)) rfl
theorem i_233 : Cond.classLink RX6 41 "NotchedKeys$ApartCodes" ∈ GW := gw_in (List.mem_of_getElem? (i := 233) (by decide +kernel)) rfl
theorem i_234 : Cond.instantiable RX0 13 ∈ GW := gw_in (List.mem_of_getElem? (i := 234) (by decide +kernel)) rfl
theorem i_235 : Cond.methodLink RX6 43 yX0_init ∈ GW := gw_in (List.mem_of_getElem? (i := 235) (by decide +kernel)) rfl
theorem i_236 : Cond.instanceMethod yX0_init ∈ GW := gw_in (List.mem_of_getElem? (i := 236) (by decide +kernel)) rfl
theorem i_237 : Cond.code yX0_init cX0_init 2 none ∈ GW := gw_in (List.mem_of_getElem? (i := 237) (by decide +kernel)) rfl
theorem i_239 : Cond.fieldLink RX0 43 "NotchedKeys$ApartCodes" "codes" "LNotchedKeys$Codes;" ∈ GW := gw_in (List.mem_of_getElem? (i := 239) (by decide +kernel)) rfl
theorem i_240 : Cond.fieldLink RX0 9 "NotchedKeys$ApartCodes" "free" "[Z" ∈ GW := gw_in (List.mem_of_getElem? (i := 240) (by decide +kernel)) rfl
theorem i_241 : Cond.fieldLink RX6 473 "NotchedKeys$ApartCodes" "free" "[Z" ∈ GW := gw_in (List.mem_of_getElem? (i := 241) (by decide +kernel)) rfl
theorem i_242 : Cond.fieldLink RX0 57 "NotchedKeys$ApartCodes" "chainCount" "I" ∈ GW := gw_in (List.mem_of_getElem? (i := 242) (by decide +kernel)) rfl
theorem i_243 : Cond.fieldLink RX6 338 "NotchedKeys$ApartCodes" "chainCount" "I" ∈ GW := gw_in (List.mem_of_getElem? (i := 243) (by decide +kernel)) rfl
theorem i_244 : Cond.fieldLink RX0 15 "NotchedKeys$ApartCodes" "chosen" "[I" ∈ GW := gw_in (List.mem_of_getElem? (i := 244) (by decide +kernel)) rfl
theorem i_245 : Cond.fieldLink RX6 346 "NotchedKeys$ApartCodes" "chosen" "[I" ∈ GW := gw_in (List.mem_of_getElem? (i := 245) (by decide +kernel)) rfl
theorem i_246 : Cond.fieldLink RX0 70 "NotchedKeys$ApartCodes" "chosenCount" "I" ∈ GW := gw_in (List.mem_of_getElem? (i := 246) (by decide +kernel)) rfl
theorem i_247 : Cond.fieldLink RX6 341 "NotchedKeys$ApartCodes" "chosenCount" "I" ∈ GW := gw_in (List.mem_of_getElem? (i := 247) (by decide +kernel)) rfl
theorem i_248 : Cond.fieldLink RX0 19 "NotchedKeys$ApartCodes" "next" "[I" ∈ GW := gw_in (List.mem_of_getElem? (i := 248) (by decide +kernel)) rfl
theorem i_249 : Cond.fieldLink RX0 22 "NotchedKeys$ApartCodes" "previous" "[I" ∈ GW := gw_in (List.mem_of_getElem? (i := 249) (by decide +kernel)) rfl
theorem i_250 : Cond.fieldLink RX0 25 "NotchedKeys$ApartCodes" "starts" "[I" ∈ GW := gw_in (List.mem_of_getElem? (i := 250) (by decide +kernel)) rfl
theorem i_251 : Cond.fieldLink RX0 28 "NotchedKeys$ApartCodes" "queue" "[I" ∈ GW := gw_in (List.mem_of_getElem? (i := 251) (by decide +kernel)) rfl
theorem i_252 : Cond.fieldLink RX0 31 "NotchedKeys$ApartCodes" "reachedFrom" "[I" ∈ GW := gw_in (List.mem_of_getElem? (i := 252) (by decide +kernel)) rfl
theorem i_253 : Cond.fieldLink RX0 34 "NotchedKeys$ApartCodes" "open" "[Z" ∈ GW := gw_in (List.mem_of_getElem? (i := 253) (by decide +kernel)) rfl
theorem i_254 : Cond.fieldLink RX0 37 "NotchedKeys$ApartCodes" "left" "[Z" ∈ GW := gw_in (List.mem_of_getElem? (i := 254) (by decide +kernel)) rfl
theorem i_255 : Cond.fieldLink RX0 40 "NotchedKeys$ApartCodes" "lowest" "[I" ∈ GW := gw_in (List.mem_of_getElem? (i := 255) (by decide +kernel)) rfl
theorem i_284 : Cond.fieldLink RX6 37 "NotchedKeys" "codes" "LNotchedKeys$Codes;" ∈ GW := gw_in (List.mem_of_getElem? (i := 284) (by decide +kernel)) rfl
theorem i_285 : Cond.fieldLink RX6 46 "NotchedKeys" "apart" "LNotchedKeys$ApartCodes;" ∈ GW := gw_in (List.mem_of_getElem? (i := 285) (by decide +kernel)) rfl
theorem i_286 : Cond.fieldLink RX6 10 "NotchedKeys" "orders" "LNotchedKeys$OrderText;" ∈ GW := gw_in (List.mem_of_getElem? (i := 286) (by decide +kernel)) rfl
theorem i_287 : Cond.fieldLink RX6 19 "NotchedKeys" "now" "LNotchedKeys$State;" ∈ GW := gw_in (List.mem_of_getElem? (i := 287) (by decide +kernel)) rfl
theorem i_288 : Cond.fieldLink RX6 23 "NotchedKeys" "snapshot" "LNotchedKeys$State;" ∈ GW := gw_in (List.mem_of_getElem? (i := 288) (by decide +kernel)) rfl
theorem i_289 : Cond.fieldLink RX6 26 "NotchedKeys" "saved" "[LNotchedKeys$State;" ∈ GW := gw_in (List.mem_of_getElem? (i := 289) (by decide +kernel)) rfl
theorem i_290 : Cond.fieldLink RX6 30 "NotchedKeys" "latest" "I" ∈ GW := gw_in (List.mem_of_getElem? (i := 290) (by decide +kernel)) rfl
theorem i_291 : Cond.fieldLink RX6 235 "NotchedKeys" "savedCount" "I" ∈ GW := gw_in (List.mem_of_getElem? (i := 291) (by decide +kernel)) rfl
theorem i_311 : Cond.methodLink RL 207 yL_cell ∈ GW := gw_in (List.mem_of_getElem? (i := 311) (by decide +kernel)) rfl
theorem i_312 : Cond.static yL_cell ∈ GW := gw_in (List.mem_of_getElem? (i := 312) (by decide +kernel)) rfl
theorem i_313 : Cond.code yL_cell cL_cell 2 (some .int) ∈ GW := gw_in (List.mem_of_getElem? (i := 313) (by decide +kernel)) rfl
theorem i_314 : Cond.constant RL 7 (43201) ∈ GW := gw_in (List.mem_of_getElem? (i := 314) (by decide +kernel)) rfl
theorem i_315 : Cond.constant RL 8 (2737623) ∈ GW := gw_in (List.mem_of_getElem? (i := 315) (by decide +kernel)) rfl
theorem i_316 : Cond.methodLink RL 185 yL_low ∈ GW := gw_in (List.mem_of_getElem? (i := 316) (by decide +kernel)) rfl
theorem i_317 : Cond.static yL_low ∈ GW := gw_in (List.mem_of_getElem? (i := 317) (by decide +kernel)) rfl
theorem i_318 : Cond.code yL_low cL_low 2 (some .int) ∈ GW := gw_in (List.mem_of_getElem? (i := 318) (by decide +kernel)) rfl
theorem i_319 : Cond.constant RL 9 (2147483647) ∈ GW := gw_in (List.mem_of_getElem? (i := 319) (by decide +kernel)) rfl
theorem i_323 : Cond.classLink RL 18 "java/lang/IllegalStateException" ∈ GW := gw_in (List.mem_of_getElem? (i := 323) (by decide +kernel)) rfl
theorem i_324 : Cond.methodLink RL 53 yX6_undo ∈ GW := gw_in (List.mem_of_getElem? (i := 324) (by decide +kernel)) rfl
theorem i_325 : Cond.instanceMethod yX6_undo ∈ GW := gw_in (List.mem_of_getElem? (i := 325) (by decide +kernel)) rfl
theorem i_326 : Cond.selects RX6 yX6_undo yX6_undo ∈ GW := gw_in (List.mem_of_getElem? (i := 326) (by decide +kernel)) rfl
theorem i_327 : Cond.code yX6_undo cX6_undo 1 (some .int) ∈ GW := gw_in (List.mem_of_getElem? (i := 327) (by decide +kernel)) rfl
theorem i_328 : Cond.classLink RX6 68 "java/lang/IllegalStateException" ∈ GW := gw_in (List.mem_of_getElem? (i := 328) (by decide +kernel)) rfl
theorem i_396 : Cond.methodLink RX6 227 yX5_copyFrom ∈ GW := gw_in (List.mem_of_getElem? (i := 396) (by decide +kernel)) rfl
theorem i_397 : Cond.instanceMethod yX5_copyFrom ∈ GW := gw_in (List.mem_of_getElem? (i := 397) (by decide +kernel)) rfl
theorem i_398 : Cond.selects RX5 yX5_copyFrom yX5_copyFrom ∈ GW := gw_in (List.mem_of_getElem? (i := 398) (by decide +kernel)) rfl
theorem i_399 : Cond.code yX5_copyFrom cX5_copyFrom 3 none ∈ GW := gw_in (List.mem_of_getElem? (i := 399) (by decide +kernel)) rfl
theorem i_400 : Cond.methodLink RX5 42 yX2_copyFrom ∈ GW := gw_in (List.mem_of_getElem? (i := 400) (by decide +kernel)) rfl
theorem i_401 : Cond.instanceMethod yX2_copyFrom ∈ GW := gw_in (List.mem_of_getElem? (i := 401) (by decide +kernel)) rfl
theorem i_402 : Cond.selects RX2 yX2_copyFrom yX2_copyFrom ∈ GW := gw_in (List.mem_of_getElem? (i := 402) (by decide +kernel)) rfl
theorem i_403 : Cond.code yX2_copyFrom cX2_copyFrom 2 none ∈ GW := gw_in (List.mem_of_getElem? (i := 403) (by decide +kernel)) rfl
theorem i_404 : Cond.methodLink RX5 46 yX3_copyFrom ∈ GW := gw_in (List.mem_of_getElem? (i := 404) (by decide +kernel)) rfl
theorem i_405 : Cond.instanceMethod yX3_copyFrom ∈ GW := gw_in (List.mem_of_getElem? (i := 405) (by decide +kernel)) rfl
theorem i_406 : Cond.selects RX3 yX3_copyFrom yX3_copyFrom ∈ GW := gw_in (List.mem_of_getElem? (i := 406) (by decide +kernel)) rfl
theorem i_407 : Cond.code yX3_copyFrom cX3_copyFrom 2 none ∈ GW := gw_in (List.mem_of_getElem? (i := 407) (by decide +kernel)) rfl
theorem i_411 : Cond.methodLink RL 211 yL_told ∈ GW := gw_in (List.mem_of_getElem? (i := 411) (by decide +kernel)) rfl
theorem i_412 : Cond.static yL_told ∈ GW := gw_in (List.mem_of_getElem? (i := 412) (by decide +kernel)) rfl
theorem i_413 : Cond.code yL_told cL_told 4 (some .long) ∈ GW := gw_in (List.mem_of_getElem? (i := 413) (by decide +kernel)) rfl
theorem i_414 : Cond.constantLong RL 110 (37) ∈ GW := gw_in (List.mem_of_getElem? (i := 414) (by decide +kernel)) rfl
theorem i_415 : Cond.constantLong RL 112 (31) ∈ GW := gw_in (List.mem_of_getElem? (i := 415) (by decide +kernel)) rfl
theorem i_419 : Cond.classLink RL 16 "java/lang/IllegalArgumentException" ∈ GW := gw_in (List.mem_of_getElem? (i := 419) (by decide +kernel)) rfl
theorem i_420 : Cond.methodLink RL 72 yX6_count ∈ GW := gw_in (List.mem_of_getElem? (i := 420) (by decide +kernel)) rfl
theorem i_421 : Cond.instanceMethod yX6_count ∈ GW := gw_in (List.mem_of_getElem? (i := 421) (by decide +kernel)) rfl
theorem i_422 : Cond.selects RX6 yX6_count yX6_count ∈ GW := gw_in (List.mem_of_getElem? (i := 422) (by decide +kernel)) rfl
theorem i_423 : Cond.code yX6_count cX6_count 2 (some .int) ∈ GW := gw_in (List.mem_of_getElem? (i := 423) (by decide +kernel)) rfl
theorem i_424 : Cond.methodLink RX6 310 yX6_lostKeys ∈ GW := gw_in (List.mem_of_getElem? (i := 424) (by decide +kernel)) rfl
theorem i_426 : Cond.instanceMethod yX6_lostKeys ∈ GW := gw_in (List.mem_of_getElem? (i := 426) (by decide +kernel)) rfl
theorem i_427 : Cond.code yX6_lostKeys cX6_lostKeys 3 (some .int) ∈ GW := gw_in (List.mem_of_getElem? (i := 427) (by decide +kernel)) rfl
theorem i_428 : Cond.methodLink RX6 313 yX6_lockCount ∈ GW := gw_in (List.mem_of_getElem? (i := 428) (by decide +kernel)) rfl
theorem i_430 : Cond.instanceMethod yX6_lockCount ∈ GW := gw_in (List.mem_of_getElem? (i := 430) (by decide +kernel)) rfl
theorem i_431 : Cond.code yX6_lockCount cX6_lockCount 3 (some .int) ∈ GW := gw_in (List.mem_of_getElem? (i := 431) (by decide +kernel)) rfl
theorem i_432 : Cond.methodLink RX6 158 yX6_isLock ∈ GW := gw_in (List.mem_of_getElem? (i := 432) (by decide +kernel)) rfl
theorem i_434 : Cond.instanceMethod yX6_isLock ∈ GW := gw_in (List.mem_of_getElem? (i := 434) (by decide +kernel)) rfl
theorem i_435 : Cond.code yX6_isLock cX6_isLock 2 (some .boolean) ∈ GW := gw_in (List.mem_of_getElem? (i := 435) (by decide +kernel)) rfl
theorem i_436 : Cond.methodLink RX6 142 yX6_isPlace ∈ GW := gw_in (List.mem_of_getElem? (i := 436) (by decide +kernel)) rfl
theorem i_437 : Cond.static yX6_isPlace ∈ GW := gw_in (List.mem_of_getElem? (i := 437) (by decide +kernel)) rfl
theorem i_438 : Cond.code yX6_isPlace cX6_isPlace 1 (some .boolean) ∈ GW := gw_in (List.mem_of_getElem? (i := 438) (by decide +kernel)) rfl
theorem i_439 : Cond.methodLink RX6 316 yX6_crossedPairs ∈ GW := gw_in (List.mem_of_getElem? (i := 439) (by decide +kernel)) rfl
theorem i_441 : Cond.instanceMethod yX6_crossedPairs ∈ GW := gw_in (List.mem_of_getElem? (i := 441) (by decide +kernel)) rfl
theorem i_442 : Cond.code yX6_crossedPairs cX6_crossedPairs 4 (some .int) ∈ GW := gw_in (List.mem_of_getElem? (i := 442) (by decide +kernel)) rfl
theorem i_443 : Cond.methodLink RX6 470 yX1_areCrossed ∈ GW := gw_in (List.mem_of_getElem? (i := 443) (by decide +kernel)) rfl
theorem i_444 : Cond.instanceMethod yX1_areCrossed ∈ GW := gw_in (List.mem_of_getElem? (i := 444) (by decide +kernel)) rfl
theorem i_445 : Cond.selects RX1 yX1_areCrossed yX1_areCrossed ∈ GW := gw_in (List.mem_of_getElem? (i := 445) (by decide +kernel)) rfl
theorem i_446 : Cond.code yX1_areCrossed cX1_areCrossed 4 (some .boolean) ∈ GW := gw_in (List.mem_of_getElem? (i := 446) (by decide +kernel)) rfl
theorem i_447 : Cond.methodLink RX6 325 yX6_soundCodes ∈ GW := gw_in (List.mem_of_getElem? (i := 447) (by decide +kernel)) rfl
theorem i_449 : Cond.instanceMethod yX6_soundCodes ∈ GW := gw_in (List.mem_of_getElem? (i := 449) (by decide +kernel)) rfl
theorem i_450 : Cond.code yX6_soundCodes cX6_soundCodes 3 (some .int) ∈ GW := gw_in (List.mem_of_getElem? (i := 450) (by decide +kernel)) rfl
theorem i_451 : Cond.methodLink RX6 282 yX6_isSound ∈ GW := gw_in (List.mem_of_getElem? (i := 451) (by decide +kernel)) rfl
theorem i_453 : Cond.instanceMethod yX6_isSound ∈ GW := gw_in (List.mem_of_getElem? (i := 453) (by decide +kernel)) rfl
theorem i_454 : Cond.code yX6_isSound cX6_isSound 2 (some .boolean) ∈ GW := gw_in (List.mem_of_getElem? (i := 454) (by decide +kernel)) rfl
theorem i_455 : Cond.methodLink RX6 328 yX6_freeCodes ∈ GW := gw_in (List.mem_of_getElem? (i := 455) (by decide +kernel)) rfl
theorem i_457 : Cond.instanceMethod yX6_freeCodes ∈ GW := gw_in (List.mem_of_getElem? (i := 457) (by decide +kernel)) rfl
theorem i_458 : Cond.code yX6_freeCodes cX6_freeCodes 3 (some .int) ∈ GW := gw_in (List.mem_of_getElem? (i := 458) (by decide +kernel)) rfl
theorem i_459 : Cond.methodLink RX6 291 yX6_isFree ∈ GW := gw_in (List.mem_of_getElem? (i := 459) (by decide +kernel)) rfl
theorem i_461 : Cond.instanceMethod yX6_isFree ∈ GW := gw_in (List.mem_of_getElem? (i := 461) (by decide +kernel)) rfl
theorem i_462 : Cond.code yX6_isFree cX6_isFree 2 (some .boolean) ∈ GW := gw_in (List.mem_of_getElem? (i := 462) (by decide +kernel)) rfl
theorem i_463 : Cond.methodLink RX6 458 yX6_reasonByKeys ∈ GW := gw_in (List.mem_of_getElem? (i := 463) (by decide +kernel)) rfl
theorem i_465 : Cond.instanceMethod yX6_reasonByKeys ∈ GW := gw_in (List.mem_of_getElem? (i := 465) (by decide +kernel)) rfl
theorem i_466 : Cond.code yX6_reasonByKeys cX6_reasonByKeys 9 (some .int) ∈ GW := gw_in (List.mem_of_getElem? (i := 466) (by decide +kernel)) rfl
theorem i_467 : Cond.methodLink RX6 464 yX1_liesUnder ∈ GW := gw_in (List.mem_of_getElem? (i := 467) (by decide +kernel)) rfl
theorem i_468 : Cond.instanceMethod yX1_liesUnder ∈ GW := gw_in (List.mem_of_getElem? (i := 468) (by decide +kernel)) rfl
theorem i_469 : Cond.selects RX1 yX1_liesUnder yX1_liesUnder ∈ GW := gw_in (List.mem_of_getElem? (i := 469) (by decide +kernel)) rfl
theorem i_470 : Cond.code yX1_liesUnder cX1_liesUnder 3 (some .boolean) ∈ GW := gw_in (List.mem_of_getElem? (i := 470) (by decide +kernel)) rfl
theorem i_471 : Cond.classLink RX6 57 "java/lang/IllegalArgumentException" ∈ GW := gw_in (List.mem_of_getElem? (i := 471) (by decide +kernel)) rfl
theorem i_490 : Cond.classLink RL 23 "java/lang/IndexOutOfBoundsException" ∈ GW := gw_in (List.mem_of_getElem? (i := 490) (by decide +kernel)) rfl
theorem i_491 : Cond.methodLink RL 57 yX6_key ∈ GW := gw_in (List.mem_of_getElem? (i := 491) (by decide +kernel)) rfl
theorem i_492 : Cond.instanceMethod yX6_key ∈ GW := gw_in (List.mem_of_getElem? (i := 492) (by decide +kernel)) rfl
theorem i_493 : Cond.selects RX6 yX6_key yX6_key ∈ GW := gw_in (List.mem_of_getElem? (i := 493) (by decide +kernel)) rfl
theorem i_494 : Cond.code yX6_key cX6_key 4 (some .int) ∈ GW := gw_in (List.mem_of_getElem? (i := 494) (by decide +kernel)) rfl
theorem i_495 : Cond.methodLink RX6 83 yX6_isKey ∈ GW := gw_in (List.mem_of_getElem? (i := 495) (by decide +kernel)) rfl
theorem i_497 : Cond.instanceMethod yX6_isKey ∈ GW := gw_in (List.mem_of_getElem? (i := 497) (by decide +kernel)) rfl
theorem i_498 : Cond.code yX6_isKey cX6_isKey 2 (some .boolean) ∈ GW := gw_in (List.mem_of_getElem? (i := 498) (by decide +kernel)) rfl
theorem i_499 : Cond.classLink RX6 89 "java/lang/IndexOutOfBoundsException" ∈ GW := gw_in (List.mem_of_getElem? (i := 499) (by decide +kernel)) rfl
theorem i_515 : Cond.methodLink RX6 132 yX6_locksOpenedBy ∈ GW := gw_in (List.mem_of_getElem? (i := 515) (by decide +kernel)) rfl
theorem i_517 : Cond.instanceMethod yX6_locksOpenedBy ∈ GW := gw_in (List.mem_of_getElem? (i := 517) (by decide +kernel)) rfl
theorem i_518 : Cond.code yX6_locksOpenedBy cX6_locksOpenedBy 4 (some .int) ∈ GW := gw_in (List.mem_of_getElem? (i := 518) (by decide +kernel)) rfl
theorem i_519 : Cond.methodLink RX6 415 yX6_opens ∈ GW := gw_in (List.mem_of_getElem? (i := 519) (by decide +kernel)) rfl
theorem i_521 : Cond.instanceMethod yX6_opens ∈ GW := gw_in (List.mem_of_getElem? (i := 521) (by decide +kernel)) rfl
theorem i_522 : Cond.code yX6_opens cX6_opens 4 (some .boolean) ∈ GW := gw_in (List.mem_of_getElem? (i := 522) (by decide +kernel)) rfl
theorem i_523 : Cond.methodLink RX6 467 yX1_isUnderOrLike ∈ GW := gw_in (List.mem_of_getElem? (i := 523) (by decide +kernel)) rfl
theorem i_524 : Cond.instanceMethod yX1_isUnderOrLike ∈ GW := gw_in (List.mem_of_getElem? (i := 524) (by decide +kernel)) rfl
theorem i_525 : Cond.selects RX1 yX1_isUnderOrLike yX1_isUnderOrLike ∈ GW := gw_in (List.mem_of_getElem? (i := 525) (by decide +kernel)) rfl
theorem i_526 : Cond.code yX1_isUnderOrLike cX1_isUnderOrLike 3 (some .boolean) ∈ GW := gw_in (List.mem_of_getElem? (i := 526) (by decide +kernel)) rfl
theorem i_527 : Cond.methodLink RX6 249 yX6_keysOver ∈ GW := gw_in (List.mem_of_getElem? (i := 527) (by decide +kernel)) rfl
theorem i_529 : Cond.instanceMethod yX6_keysOver ∈ GW := gw_in (List.mem_of_getElem? (i := 529) (by decide +kernel)) rfl
theorem i_530 : Cond.code yX6_keysOver cX6_keysOver 4 (some .int) ∈ GW := gw_in (List.mem_of_getElem? (i := 530) (by decide +kernel)) rfl
theorem i_531 : Cond.methodLink RX6 252 yX6_keysUnder ∈ GW := gw_in (List.mem_of_getElem? (i := 531) (by decide +kernel)) rfl
theorem i_533 : Cond.instanceMethod yX6_keysUnder ∈ GW := gw_in (List.mem_of_getElem? (i := 533) (by decide +kernel)) rfl
theorem i_534 : Cond.code yX6_keysUnder cX6_keysUnder 4 (some .int) ∈ GW := gw_in (List.mem_of_getElem? (i := 534) (by decide +kernel)) rfl
theorem i_536 : Cond.constantLong RL 120 (100) ∈ GW := gw_in (List.mem_of_getElem? (i := 536) (by decide +kernel)) rfl
theorem i_537 : Cond.constantLong RL 122 (10) ∈ GW := gw_in (List.mem_of_getElem? (i := 537) (by decide +kernel)) rfl
theorem i_541 : Cond.methodLink RL 60 yX6_lock ∈ GW := gw_in (List.mem_of_getElem? (i := 541) (by decide +kernel)) rfl
theorem i_542 : Cond.instanceMethod yX6_lock ∈ GW := gw_in (List.mem_of_getElem? (i := 542) (by decide +kernel)) rfl
theorem i_543 : Cond.selects RX6 yX6_lock yX6_lock ∈ GW := gw_in (List.mem_of_getElem? (i := 543) (by decide +kernel)) rfl
theorem i_544 : Cond.code yX6_lock cX6_lock 4 (some .int) ∈ GW := gw_in (List.mem_of_getElem? (i := 544) (by decide +kernel)) rfl
theorem i_547 : Cond.methodLink RX6 166 yX6_keysOpening ∈ GW := gw_in (List.mem_of_getElem? (i := 547) (by decide +kernel)) rfl
theorem i_549 : Cond.instanceMethod yX6_keysOpening ∈ GW := gw_in (List.mem_of_getElem? (i := 549) (by decide +kernel)) rfl
theorem i_550 : Cond.code yX6_keysOpening cX6_keysOpening 4 (some .int) ∈ GW := gw_in (List.mem_of_getElem? (i := 550) (by decide +kernel)) rfl
theorem i_551 : Cond.methodLink RX6 266 yX6_whoCouldOpen ∈ GW := gw_in (List.mem_of_getElem? (i := 551) (by decide +kernel)) rfl
theorem i_553 : Cond.instanceMethod yX6_whoCouldOpen ∈ GW := gw_in (List.mem_of_getElem? (i := 553) (by decide +kernel)) rfl
theorem i_554 : Cond.code yX6_whoCouldOpen cX6_whoCouldOpen 5 (some .int) ∈ GW := gw_in (List.mem_of_getElem? (i := 554) (by decide +kernel)) rfl
theorem i_558 : Cond.methodLink RL 63 yX6_person ∈ GW := gw_in (List.mem_of_getElem? (i := 558) (by decide +kernel)) rfl
theorem i_559 : Cond.instanceMethod yX6_person ∈ GW := gw_in (List.mem_of_getElem? (i := 559) (by decide +kernel)) rfl
theorem i_560 : Cond.selects RX6 yX6_person yX6_person ∈ GW := gw_in (List.mem_of_getElem? (i := 560) (by decide +kernel)) rfl
theorem i_561 : Cond.code yX6_person cX6_person 3 (some .int) ∈ GW := gw_in (List.mem_of_getElem? (i := 561) (by decide +kernel)) rfl
theorem i_562 : Cond.methodLink RX6 54 yX6_isPerson ∈ GW := gw_in (List.mem_of_getElem? (i := 562) (by decide +kernel)) rfl
theorem i_563 : Cond.static yX6_isPerson ∈ GW := gw_in (List.mem_of_getElem? (i := 563) (by decide +kernel)) rfl
theorem i_564 : Cond.code yX6_isPerson cX6_isPerson 1 (some .boolean) ∈ GW := gw_in (List.mem_of_getElem? (i := 564) (by decide +kernel)) rfl
theorem i_566 : Cond.methodLink RX6 271 yX6_keysOf ∈ GW := gw_in (List.mem_of_getElem? (i := 566) (by decide +kernel)) rfl
theorem i_568 : Cond.instanceMethod yX6_keysOf ∈ GW := gw_in (List.mem_of_getElem? (i := 568) (by decide +kernel)) rfl
theorem i_569 : Cond.code yX6_keysOf cX6_keysOf 4 (some .int) ∈ GW := gw_in (List.mem_of_getElem? (i := 569) (by decide +kernel)) rfl
theorem i_570 : Cond.methodLink RX6 274 yX6_locksFor ∈ GW := gw_in (List.mem_of_getElem? (i := 570) (by decide +kernel)) rfl
theorem i_572 : Cond.instanceMethod yX6_locksFor ∈ GW := gw_in (List.mem_of_getElem? (i := 572) (by decide +kernel)) rfl
theorem i_573 : Cond.code yX6_locksFor cX6_locksFor 4 (some .int) ∈ GW := gw_in (List.mem_of_getElem? (i := 573) (by decide +kernel)) rfl
theorem i_575 : Cond.methodLink RL 215 yL_call ∈ GW := gw_in (List.mem_of_getElem? (i := 575) (by decide +kernel)) rfl
theorem i_576 : Cond.static yL_call ∈ GW := gw_in (List.mem_of_getElem? (i := 576) (by decide +kernel)) rfl
theorem i_577 : Cond.code yL_call cL_call 4 (some .int) ∈ GW := gw_in (List.mem_of_getElem? (i := 577) (by decide +kernel)) rfl
theorem i_581 : Cond.methodLink RL 10 yX6_cut ∈ GW := gw_in (List.mem_of_getElem? (i := 581) (by decide +kernel)) rfl
theorem i_582 : Cond.instanceMethod yX6_cut ∈ GW := gw_in (List.mem_of_getElem? (i := 582) (by decide +kernel)) rfl
theorem i_583 : Cond.selects RX6 yX6_cut yX6_cut ∈ GW := gw_in (List.mem_of_getElem? (i := 583) (by decide +kernel)) rfl
theorem i_584 : Cond.code yX6_cut cX6_cut 3 (some .int) ∈ GW := gw_in (List.mem_of_getElem? (i := 584) (by decide +kernel)) rfl
theorem i_585 : Cond.methodLink RX6 50 yX6_isCode ∈ GW := gw_in (List.mem_of_getElem? (i := 585) (by decide +kernel)) rfl
theorem i_586 : Cond.static yX6_isCode ∈ GW := gw_in (List.mem_of_getElem? (i := 586) (by decide +kernel)) rfl
theorem i_587 : Cond.code yX6_isCode cX6_isCode 1 (some .boolean) ∈ GW := gw_in (List.mem_of_getElem? (i := 587) (by decide +kernel)) rfl
theorem i_589 : Cond.methodLink RX6 64 yX6_reasonAgainstCut ∈ GW := gw_in (List.mem_of_getElem? (i := 589) (by decide +kernel)) rfl
theorem i_591 : Cond.instanceMethod yX6_reasonAgainstCut ∈ GW := gw_in (List.mem_of_getElem? (i := 591) (by decide +kernel)) rfl
theorem i_592 : Cond.code yX6_reasonAgainstCut cX6_reasonAgainstCut 2 (some .int) ∈ GW := gw_in (List.mem_of_getElem? (i := 592) (by decide +kernel)) rfl
theorem i_594 : Cond.methodLink RX6 73 yX6_save ∈ GW := gw_in (List.mem_of_getElem? (i := 594) (by decide +kernel)) rfl
theorem i_596 : Cond.instanceMethod yX6_save ∈ GW := gw_in (List.mem_of_getElem? (i := 596) (by decide +kernel)) rfl
theorem i_597 : Cond.code yX6_save cX6_save 1 none ∈ GW := gw_in (List.mem_of_getElem? (i := 597) (by decide +kernel)) rfl
theorem i_598 : Cond.methodLink RX6 76 yX6_addKey ∈ GW := gw_in (List.mem_of_getElem? (i := 598) (by decide +kernel)) rfl
theorem i_600 : Cond.instanceMethod yX6_addKey ∈ GW := gw_in (List.mem_of_getElem? (i := 600) (by decide +kernel)) rfl
theorem i_601 : Cond.code yX6_addKey cX6_addKey 3 none ∈ GW := gw_in (List.mem_of_getElem? (i := 601) (by decide +kernel)) rfl
theorem i_602 : Cond.methodLink RX6 409 yX2_startWith ∈ GW := gw_in (List.mem_of_getElem? (i := 602) (by decide +kernel)) rfl
theorem i_603 : Cond.instanceMethod yX2_startWith ∈ GW := gw_in (List.mem_of_getElem? (i := 603) (by decide +kernel)) rfl
theorem i_604 : Cond.selects RX2 yX2_startWith yX2_startWith ∈ GW := gw_in (List.mem_of_getElem? (i := 604) (by decide +kernel)) rfl
theorem i_605 : Cond.code yX2_startWith cX2_startWith 3 none ∈ GW := gw_in (List.mem_of_getElem? (i := 605) (by decide +kernel)) rfl
theorem i_609 : Cond.methodLink RL 20 yX6_deepen ∈ GW := gw_in (List.mem_of_getElem? (i := 609) (by decide +kernel)) rfl
theorem i_610 : Cond.instanceMethod yX6_deepen ∈ GW := gw_in (List.mem_of_getElem? (i := 610) (by decide +kernel)) rfl
theorem i_611 : Cond.selects RX6 yX6_deepen yX6_deepen ∈ GW := gw_in (List.mem_of_getElem? (i := 611) (by decide +kernel)) rfl
theorem i_612 : Cond.code yX6_deepen cX6_deepen 3 (some .int) ∈ GW := gw_in (List.mem_of_getElem? (i := 612) (by decide +kernel)) rfl
theorem i_613 : Cond.methodLink RX6 86 yX6_isNotch ∈ GW := gw_in (List.mem_of_getElem? (i := 613) (by decide +kernel)) rfl
theorem i_614 : Cond.static yX6_isNotch ∈ GW := gw_in (List.mem_of_getElem? (i := 614) (by decide +kernel)) rfl
theorem i_615 : Cond.code yX6_isNotch cX6_isNotch 1 (some .boolean) ∈ GW := gw_in (List.mem_of_getElem? (i := 615) (by decide +kernel)) rfl
theorem i_617 : Cond.methodLink RX6 94 yX6_reasonAgainstDeeper ∈ GW := gw_in (List.mem_of_getElem? (i := 617) (by decide +kernel)) rfl
theorem i_619 : Cond.instanceMethod yX6_reasonAgainstDeeper ∈ GW := gw_in (List.mem_of_getElem? (i := 619) (by decide +kernel)) rfl
theorem i_620 : Cond.code yX6_reasonAgainstDeeper cX6_reasonAgainstDeeper 5 (some .int) ∈ GW := gw_in (List.mem_of_getElem? (i := 620) (by decide +kernel)) rfl
theorem i_621 : Cond.methodLink RX6 461 yX1_depthOf ∈ GW := gw_in (List.mem_of_getElem? (i := 621) (by decide +kernel)) rfl
theorem i_622 : Cond.fieldLink RX6 412 "NotchedKeys" "NOTCH_WEIGHTS" "[I" ∈ GW := gw_in (List.mem_of_getElem? (i := 622) (by decide +kernel)) rfl
theorem i_624 : Cond.methodLink RX6 100 yX6_cutDeeper ∈ GW := gw_in (List.mem_of_getElem? (i := 624) (by decide +kernel)) rfl
theorem i_626 : Cond.instanceMethod yX6_cutDeeper ∈ GW := gw_in (List.mem_of_getElem? (i := 626) (by decide +kernel)) rfl
theorem i_627 : Cond.code yX6_cutDeeper cX6_cutDeeper 3 none ∈ GW := gw_in (List.mem_of_getElem? (i := 627) (by decide +kernel)) rfl
theorem i_631 : Cond.methodLink RL 25 yX6_retire ∈ GW := gw_in (List.mem_of_getElem? (i := 631) (by decide +kernel)) rfl
theorem i_632 : Cond.instanceMethod yX6_retire ∈ GW := gw_in (List.mem_of_getElem? (i := 632) (by decide +kernel)) rfl
theorem i_633 : Cond.selects RX6 yX6_retire yX6_retire ∈ GW := gw_in (List.mem_of_getElem? (i := 633) (by decide +kernel)) rfl
theorem i_634 : Cond.code yX6_retire cX6_retire 3 (some .int) ∈ GW := gw_in (List.mem_of_getElem? (i := 634) (by decide +kernel)) rfl
theorem i_635 : Cond.methodLink RX6 114 yX2_copyFrom ∈ GW := gw_in (List.mem_of_getElem? (i := 635) (by decide +kernel)) rfl
theorem i_639 : Cond.methodLink RL 29 yX6_give ∈ GW := gw_in (List.mem_of_getElem? (i := 639) (by decide +kernel)) rfl
theorem i_640 : Cond.instanceMethod yX6_give ∈ GW := gw_in (List.mem_of_getElem? (i := 640) (by decide +kernel)) rfl
theorem i_641 : Cond.selects RX6 yX6_give yX6_give ∈ GW := gw_in (List.mem_of_getElem? (i := 641) (by decide +kernel)) rfl
theorem i_642 : Cond.code yX6_give cX6_give 5 (some .int) ∈ GW := gw_in (List.mem_of_getElem? (i := 642) (by decide +kernel)) rfl
theorem i_647 : Cond.methodLink RL 32 yX6_lose ∈ GW := gw_in (List.mem_of_getElem? (i := 647) (by decide +kernel)) rfl
theorem i_648 : Cond.instanceMethod yX6_lose ∈ GW := gw_in (List.mem_of_getElem? (i := 648) (by decide +kernel)) rfl
theorem i_649 : Cond.selects RX6 yX6_lose yX6_lose ∈ GW := gw_in (List.mem_of_getElem? (i := 649) (by decide +kernel)) rfl
theorem i_650 : Cond.code yX6_lose cX6_lose 2 (some .int) ∈ GW := gw_in (List.mem_of_getElem? (i := 650) (by decide +kernel)) rfl
theorem i_652 : Cond.methodLink RX6 135 yJ6_bitCount_0f7a4 ∈ GW := gw_in (List.mem_of_getElem? (i := 652) (by decide +kernel)) rfl
theorem i_653 : Cond.static yJ6_bitCount_0f7a4 ∈ GW := gw_in (List.mem_of_getElem? (i := 653) (by decide +kernel)) rfl
theorem i_654 : Cond.code yJ6_bitCount_0f7a4 cJ6_bitCount_0f7a4 1 (some .int) ∈ GW := gw_in (List.mem_of_getElem? (i := 654) (by decide +kernel)) rfl
theorem i_655 : Cond.constant RJ6 265 (1431655765) ∈ GW := gw_in (List.mem_of_getElem? (i := 655) (by decide +kernel)) rfl
theorem i_656 : Cond.constant RJ6 266 (858993459) ∈ GW := gw_in (List.mem_of_getElem? (i := 656) (by decide +kernel)) rfl
theorem i_657 : Cond.constant RJ6 267 (252645135) ∈ GW := gw_in (List.mem_of_getElem? (i := 657) (by decide +kernel)) rfl
theorem i_661 : Cond.methodLink RL 35 yX6_find ∈ GW := gw_in (List.mem_of_getElem? (i := 661) (by decide +kernel)) rfl
theorem i_662 : Cond.instanceMethod yX6_find ∈ GW := gw_in (List.mem_of_getElem? (i := 662) (by decide +kernel)) rfl
theorem i_663 : Cond.selects RX6 yX6_find yX6_find ∈ GW := gw_in (List.mem_of_getElem? (i := 663) (by decide +kernel)) rfl
theorem i_664 : Cond.code yX6_find cX6_find 2 (some .int) ∈ GW := gw_in (List.mem_of_getElem? (i := 664) (by decide +kernel)) rfl
theorem i_669 : Cond.methodLink RL 38 yX6_ward ∈ GW := gw_in (List.mem_of_getElem? (i := 669) (by decide +kernel)) rfl
theorem i_670 : Cond.instanceMethod yX6_ward ∈ GW := gw_in (List.mem_of_getElem? (i := 670) (by decide +kernel)) rfl
theorem i_671 : Cond.selects RX6 yX6_ward yX6_ward ∈ GW := gw_in (List.mem_of_getElem? (i := 671) (by decide +kernel)) rfl
theorem i_672 : Cond.code yX6_ward cX6_ward 4 (some .int) ∈ GW := gw_in (List.mem_of_getElem? (i := 672) (by decide +kernel)) rfl
theorem i_677 : Cond.methodLink RL 41 yX6_guest ∈ GW := gw_in (List.mem_of_getElem? (i := 677) (by decide +kernel)) rfl
theorem i_678 : Cond.instanceMethod yX6_guest ∈ GW := gw_in (List.mem_of_getElem? (i := 678) (by decide +kernel)) rfl
theorem i_679 : Cond.selects RX6 yX6_guest yX6_guest ∈ GW := gw_in (List.mem_of_getElem? (i := 679) (by decide +kernel)) rfl
theorem i_680 : Cond.code yX6_guest cX6_guest 4 (some .int) ∈ GW := gw_in (List.mem_of_getElem? (i := 680) (by decide +kernel)) rfl
theorem i_685 : Cond.methodLink RL 44 yX6_take ∈ GW := gw_in (List.mem_of_getElem? (i := 685) (by decide +kernel)) rfl
theorem i_686 : Cond.instanceMethod yX6_take ∈ GW := gw_in (List.mem_of_getElem? (i := 686) (by decide +kernel)) rfl
theorem i_687 : Cond.selects RX6 yX6_take yX6_take ∈ GW := gw_in (List.mem_of_getElem? (i := 687) (by decide +kernel)) rfl
theorem i_688 : Cond.code yX6_take cX6_take 3 (some .int) ∈ GW := gw_in (List.mem_of_getElem? (i := 688) (by decide +kernel)) rfl
theorem i_689 : Cond.methodLink RX6 169 yX3_clear ∈ GW := gw_in (List.mem_of_getElem? (i := 689) (by decide +kernel)) rfl
theorem i_690 : Cond.instanceMethod yX3_clear ∈ GW := gw_in (List.mem_of_getElem? (i := 690) (by decide +kernel)) rfl
theorem i_691 : Cond.selects RX3 yX3_clear yX3_clear ∈ GW := gw_in (List.mem_of_getElem? (i := 691) (by decide +kernel)) rfl
theorem i_692 : Cond.code yX3_clear cX3_clear 1 none ∈ GW := gw_in (List.mem_of_getElem? (i := 692) (by decide +kernel)) rfl
theorem i_696 : Cond.methodLink RL 47 yX6_turn ∈ GW := gw_in (List.mem_of_getElem? (i := 696) (by decide +kernel)) rfl
theorem i_697 : Cond.instanceMethod yX6_turn ∈ GW := gw_in (List.mem_of_getElem? (i := 697) (by decide +kernel)) rfl
theorem i_698 : Cond.selects RX6 yX6_turn yX6_turn ∈ GW := gw_in (List.mem_of_getElem? (i := 698) (by decide +kernel)) rfl
theorem i_699 : Cond.code yX6_turn cX6_turn 3 (some .int) ∈ GW := gw_in (List.mem_of_getElem? (i := 699) (by decide +kernel)) rfl
theorem i_702 : Cond.methodLink RX6 176 yX6_tryKey ∈ GW := gw_in (List.mem_of_getElem? (i := 702) (by decide +kernel)) rfl
theorem i_704 : Cond.instanceMethod yX6_tryKey ∈ GW := gw_in (List.mem_of_getElem? (i := 704) (by decide +kernel)) rfl
theorem i_705 : Cond.code yX6_tryKey cX6_tryKey 6 (some .boolean) ∈ GW := gw_in (List.mem_of_getElem? (i := 705) (by decide +kernel)) rfl
theorem i_706 : Cond.methodLink RX6 359 yX6_codeBehindUse ∈ GW := gw_in (List.mem_of_getElem? (i := 706) (by decide +kernel)) rfl
theorem i_708 : Cond.instanceMethod yX6_codeBehindUse ∈ GW := gw_in (List.mem_of_getElem? (i := 708) (by decide +kernel)) rfl
theorem i_709 : Cond.code yX6_codeBehindUse cX6_codeBehindUse 4 (some .int) ∈ GW := gw_in (List.mem_of_getElem? (i := 709) (by decide +kernel)) rfl
theorem i_713 : Cond.methodLink RL 50 yX6_set ∈ GW := gw_in (List.mem_of_getElem? (i := 713) (by decide +kernel)) rfl
theorem i_714 : Cond.instanceMethod yX6_set ∈ GW := gw_in (List.mem_of_getElem? (i := 714) (by decide +kernel)) rfl
theorem i_715 : Cond.selects RX6 yX6_set yX6_set ∈ GW := gw_in (List.mem_of_getElem? (i := 715) (by decide +kernel)) rfl
theorem i_716 : Cond.code yX6_set cX6_set 4 (some .int) ∈ GW := gw_in (List.mem_of_getElem? (i := 716) (by decide +kernel)) rfl
theorem i_717 : Cond.methodLink RX6 180 yX6_isSetting ∈ GW := gw_in (List.mem_of_getElem? (i := 717) (by decide +kernel)) rfl
theorem i_718 : Cond.static yX6_isSetting ∈ GW := gw_in (List.mem_of_getElem? (i := 718) (by decide +kernel)) rfl
theorem i_719 : Cond.code yX6_isSetting cX6_isSetting 1 (some .boolean) ∈ GW := gw_in (List.mem_of_getElem? (i := 719) (by decide +kernel)) rfl
theorem i_721 : Cond.fieldLink RX6 185 "NotchedKeys" "LEAST_VALUES" "[I" ∈ GW := gw_in (List.mem_of_getElem? (i := 721) (by decide +kernel)) rfl
theorem i_723 : Cond.fieldLink RX6 189 "NotchedKeys" "GREATEST_VALUES" "[I" ∈ GW := gw_in (List.mem_of_getElem? (i := 723) (by decide +kernel)) rfl
theorem i_726 : Cond.methodLink RL 222 yL_keyDue ∈ GW := gw_in (List.mem_of_getElem? (i := 726) (by decide +kernel)) rfl
theorem i_727 : Cond.static yL_keyDue ∈ GW := gw_in (List.mem_of_getElem? (i := 727) (by decide +kernel)) rfl
theorem i_728 : Cond.code yL_keyDue cL_keyDue 8 (some .int) ∈ GW := gw_in (List.mem_of_getElem? (i := 728) (by decide +kernel)) rfl
theorem i_729 : Cond.methodLink RL 150 yL_whyNotCut ∈ GW := gw_in (List.mem_of_getElem? (i := 729) (by decide +kernel)) rfl
theorem i_730 : Cond.static yL_whyNotCut ∈ GW := gw_in (List.mem_of_getElem? (i := 730) (by decide +kernel)) rfl
theorem i_731 : Cond.code yL_whyNotCut cL_whyNotCut 3 (some .int) ∈ GW := gw_in (List.mem_of_getElem? (i := 731) (by decide +kernel)) rfl
theorem i_732 : Cond.methodLink RL 95 yL_isSound ∈ GW := gw_in (List.mem_of_getElem? (i := 732) (by decide +kernel)) rfl
theorem i_733 : Cond.static yL_isSound ∈ GW := gw_in (List.mem_of_getElem? (i := 733) (by decide +kernel)) rfl
theorem i_734 : Cond.code yL_isSound cL_isSound 5 (some .boolean) ∈ GW := gw_in (List.mem_of_getElem? (i := 734) (by decide +kernel)) rfl
theorem i_735 : Cond.methodLink RL 87 yL_digit ∈ GW := gw_in (List.mem_of_getElem? (i := 735) (by decide +kernel)) rfl
theorem i_736 : Cond.static yL_digit ∈ GW := gw_in (List.mem_of_getElem? (i := 736) (by decide +kernel)) rfl
theorem i_737 : Cond.code yL_digit cL_digit 4 (some .int) ∈ GW := gw_in (List.mem_of_getElem? (i := 737) (by decide +kernel)) rfl
theorem i_738 : Cond.methodLink RL 99 yL_clash ∈ GW := gw_in (List.mem_of_getElem? (i := 738) (by decide +kernel)) rfl
theorem i_739 : Cond.static yL_clash ∈ GW := gw_in (List.mem_of_getElem? (i := 739) (by decide +kernel)) rfl
theorem i_740 : Cond.code yL_clash cL_clash 7 (some .int) ∈ GW := gw_in (List.mem_of_getElem? (i := 740) (by decide +kernel)) rfl
theorem i_741 : Cond.methodLink RL 92 yL_lie ∈ GW := gw_in (List.mem_of_getElem? (i := 741) (by decide +kernel)) rfl
theorem i_742 : Cond.static yL_lie ∈ GW := gw_in (List.mem_of_getElem? (i := 742) (by decide +kernel)) rfl
theorem i_743 : Cond.code yL_lie cL_lie 5 (some .int) ∈ GW := gw_in (List.mem_of_getElem? (i := 743) (by decide +kernel)) rfl
theorem i_744 : Cond.methodLink RL 154 yL_levelOf ∈ GW := gw_in (List.mem_of_getElem? (i := 744) (by decide +kernel)) rfl
theorem i_745 : Cond.static yL_levelOf ∈ GW := gw_in (List.mem_of_getElem? (i := 745) (by decide +kernel)) rfl
theorem i_746 : Cond.code yL_levelOf cL_levelOf 1 (some .int) ∈ GW := gw_in (List.mem_of_getElem? (i := 746) (by decide +kernel)) rfl
theorem i_747 : Cond.methodLink RL 157 yL_whyNotDeeper ∈ GW := gw_in (List.mem_of_getElem? (i := 747) (by decide +kernel)) rfl
theorem i_748 : Cond.static yL_whyNotDeeper ∈ GW := gw_in (List.mem_of_getElem? (i := 748) (by decide +kernel)) rfl
theorem i_749 : Cond.code yL_whyNotDeeper cL_whyNotDeeper 5 (some .int) ∈ GW := gw_in (List.mem_of_getElem? (i := 749) (by decide +kernel)) rfl
theorem i_750 : Cond.methodLink RL 103 yL_step ∈ GW := gw_in (List.mem_of_getElem? (i := 750) (by decide +kernel)) rfl
theorem i_751 : Cond.static yL_step ∈ GW := gw_in (List.mem_of_getElem? (i := 751) (by decide +kernel)) rfl
theorem i_752 : Cond.code yL_step cL_step 1 (some .int) ∈ GW := gw_in (List.mem_of_getElem? (i := 752) (by decide +kernel)) rfl
theorem i_753 : Cond.methodLink RL 160 yL_turned ∈ GW := gw_in (List.mem_of_getElem? (i := 753) (by decide +kernel)) rfl
theorem i_754 : Cond.static yL_turned ∈ GW := gw_in (List.mem_of_getElem? (i := 754) (by decide +kernel)) rfl
theorem i_755 : Cond.code yL_turned cL_turned 8 (some .int) ∈ GW := gw_in (List.mem_of_getElem? (i := 755) (by decide +kernel)) rfl
theorem i_756 : Cond.methodLink RL 106 yL_opens ∈ GW := gw_in (List.mem_of_getElem? (i := 756) (by decide +kernel)) rfl
theorem i_757 : Cond.static yL_opens ∈ GW := gw_in (List.mem_of_getElem? (i := 757) (by decide +kernel)) rfl
theorem i_758 : Cond.code yL_opens cL_opens 5 (some .boolean) ∈ GW := gw_in (List.mem_of_getElem? (i := 758) (by decide +kernel)) rfl
theorem i_759 : Cond.methodLink RL 164 yL_locksOf ∈ GW := gw_in (List.mem_of_getElem? (i := 759) (by decide +kernel)) rfl
theorem i_760 : Cond.static yL_locksOf ∈ GW := gw_in (List.mem_of_getElem? (i := 760) (by decide +kernel)) rfl
theorem i_761 : Cond.code yL_locksOf cL_locksOf 4 (some .int) ∈ GW := gw_in (List.mem_of_getElem? (i := 761) (by decide +kernel)) rfl
theorem i_762 : Cond.methodLink RL 168 yL_ones ∈ GW := gw_in (List.mem_of_getElem? (i := 762) (by decide +kernel)) rfl
theorem i_763 : Cond.static yL_ones ∈ GW := gw_in (List.mem_of_getElem? (i := 763) (by decide +kernel)) rfl
theorem i_764 : Cond.code yL_ones cL_ones 3 (some .int) ∈ GW := gw_in (List.mem_of_getElem? (i := 764) (by decide +kernel)) rfl
theorem i_765 : Cond.methodLink RL 226 yL_lockDue ∈ GW := gw_in (List.mem_of_getElem? (i := 765) (by decide +kernel)) rfl
theorem i_766 : Cond.static yL_lockDue ∈ GW := gw_in (List.mem_of_getElem? (i := 766) (by decide +kernel)) rfl
theorem i_767 : Cond.code yL_lockDue cL_lockDue 9 (some .int) ∈ GW := gw_in (List.mem_of_getElem? (i := 767) (by decide +kernel)) rfl
theorem i_768 : Cond.methodLink RL 229 yL_isSo ∈ GW := gw_in (List.mem_of_getElem? (i := 768) (by decide +kernel)) rfl
theorem i_769 : Cond.static yL_isSo ∈ GW := gw_in (List.mem_of_getElem? (i := 769) (by decide +kernel)) rfl
theorem i_770 : Cond.code yL_isSo cL_isSo 13 (some .boolean) ∈ GW := gw_in (List.mem_of_getElem? (i := 770) (by decide +kernel)) rfl
theorem i_771 : Cond.methodLink RL 181 yL_areCounts ∈ GW := gw_in (List.mem_of_getElem? (i := 771) (by decide +kernel)) rfl
theorem i_772 : Cond.static yL_areCounts ∈ GW := gw_in (List.mem_of_getElem? (i := 772) (by decide +kernel)) rfl
theorem i_773 : Cond.code yL_areCounts cL_areCounts 11 (some .boolean) ∈ GW := gw_in (List.mem_of_getElem? (i := 773) (by decide +kernel)) rfl
theorem i_774 : Cond.methodLink RL 173 yX6_freeShare ∈ GW := gw_in (List.mem_of_getElem? (i := 774) (by decide +kernel)) rfl
theorem i_775 : Cond.instanceMethod yX6_freeShare ∈ GW := gw_in (List.mem_of_getElem? (i := 775) (by decide +kernel)) rfl
theorem i_776 : Cond.selects RX6 yX6_freeShare yX6_freeShare ∈ GW := gw_in (List.mem_of_getElem? (i := 776) (by decide +kernel)) rfl
theorem i_777 : Cond.code yX6_freeShare cX6_freeShare 2 (some .double) ∈ GW := gw_in (List.mem_of_getElem? (i := 777) (by decide +kernel)) rfl
theorem i_778 : Cond.methodLink RL 188 yL_isPerson ∈ GW := gw_in (List.mem_of_getElem? (i := 778) (by decide +kernel)) rfl
theorem i_779 : Cond.static yL_isPerson ∈ GW := gw_in (List.mem_of_getElem? (i := 779) (by decide +kernel)) rfl
theorem i_780 : Cond.code yL_isPerson cL_isPerson 8 (some .boolean) ∈ GW := gw_in (List.mem_of_getElem? (i := 780) (by decide +kernel)) rfl
theorem i_781 : Cond.methodLink RL 192 yL_isLock ∈ GW := gw_in (List.mem_of_getElem? (i := 781) (by decide +kernel)) rfl
theorem i_782 : Cond.static yL_isLock ∈ GW := gw_in (List.mem_of_getElem? (i := 782) (by decide +kernel)) rfl
theorem i_783 : Cond.code yL_isLock cL_isLock 9 (some .boolean) ∈ GW := gw_in (List.mem_of_getElem? (i := 783) (by decide +kernel)) rfl
theorem i_787 : Cond.methodLink RL 66 yX6_code ∈ GW := gw_in (List.mem_of_getElem? (i := 787) (by decide +kernel)) rfl
theorem i_788 : Cond.instanceMethod yX6_code ∈ GW := gw_in (List.mem_of_getElem? (i := 788) (by decide +kernel)) rfl
theorem i_789 : Cond.selects RX6 yX6_code yX6_code ∈ GW := gw_in (List.mem_of_getElem? (i := 789) (by decide +kernel)) rfl
theorem i_790 : Cond.code yX6_code cX6_code 3 (some .int) ∈ GW := gw_in (List.mem_of_getElem? (i := 790) (by decide +kernel)) rfl
theorem i_791 : Cond.methodLink RX6 285 yX6_soundCodesOver ∈ GW := gw_in (List.mem_of_getElem? (i := 791) (by decide +kernel)) rfl
theorem i_793 : Cond.instanceMethod yX6_soundCodesOver ∈ GW := gw_in (List.mem_of_getElem? (i := 793) (by decide +kernel)) rfl
theorem i_794 : Cond.code yX6_soundCodesOver cX6_soundCodesOver 4 (some .int) ∈ GW := gw_in (List.mem_of_getElem? (i := 794) (by decide +kernel)) rfl
theorem i_795 : Cond.methodLink RX6 288 yX6_soundCodesUnder ∈ GW := gw_in (List.mem_of_getElem? (i := 795) (by decide +kernel)) rfl
theorem i_797 : Cond.instanceMethod yX6_soundCodesUnder ∈ GW := gw_in (List.mem_of_getElem? (i := 797) (by decide +kernel)) rfl
theorem i_798 : Cond.code yX6_soundCodesUnder cX6_soundCodesUnder 4 (some .int) ∈ GW := gw_in (List.mem_of_getElem? (i := 798) (by decide +kernel)) rfl
theorem i_802 : Cond.methodLink RL 84 yX6_opener ∈ GW := gw_in (List.mem_of_getElem? (i := 802) (by decide +kernel)) rfl
theorem i_803 : Cond.instanceMethod yX6_opener ∈ GW := gw_in (List.mem_of_getElem? (i := 803) (by decide +kernel)) rfl
theorem i_804 : Cond.selects RX6 yX6_opener yX6_opener ∈ GW := gw_in (List.mem_of_getElem? (i := 804) (by decide +kernel)) rfl
theorem i_805 : Cond.code yX6_opener cX6_opener 5 (some .int) ∈ GW := gw_in (List.mem_of_getElem? (i := 805) (by decide +kernel)) rfl
theorem i_806 : Cond.methodLink RX6 349 yX6_hasAllLocks ∈ GW := gw_in (List.mem_of_getElem? (i := 806) (by decide +kernel)) rfl
theorem i_808 : Cond.instanceMethod yX6_hasAllLocks ∈ GW := gw_in (List.mem_of_getElem? (i := 808) (by decide +kernel)) rfl
theorem i_809 : Cond.code yX6_hasAllLocks cX6_hasAllLocks 3 (some .boolean) ∈ GW := gw_in (List.mem_of_getElem? (i := 809) (by decide +kernel)) rfl
theorem i_811 : Cond.methodLink RX6 354 yX6_opensAll ∈ GW := gw_in (List.mem_of_getElem? (i := 811) (by decide +kernel)) rfl
theorem i_813 : Cond.instanceMethod yX6_opensAll ∈ GW := gw_in (List.mem_of_getElem? (i := 813) (by decide +kernel)) rfl
theorem i_814 : Cond.code yX6_opensAll cX6_opensAll 4 (some .boolean) ∈ GW := gw_in (List.mem_of_getElem? (i := 814) (by decide +kernel)) rfl
theorem i_815 : Cond.methodLink RL 199 yL_isKey ∈ GW := gw_in (List.mem_of_getElem? (i := 815) (by decide +kernel)) rfl
theorem i_816 : Cond.static yL_isKey ∈ GW := gw_in (List.mem_of_getElem? (i := 816) (by decide +kernel)) rfl
theorem i_817 : Cond.code yL_isKey cL_isKey 9 (some .boolean) ∈ GW := gw_in (List.mem_of_getElem? (i := 817) (by decide +kernel)) rfl
theorem i_821 : Cond.methodLink RL 75 yX6_why ∈ GW := gw_in (List.mem_of_getElem? (i := 821) (by decide +kernel)) rfl
theorem i_822 : Cond.instanceMethod yX6_why ∈ GW := gw_in (List.mem_of_getElem? (i := 822) (by decide +kernel)) rfl
theorem i_823 : Cond.selects RX6 yX6_why yX6_why ∈ GW := gw_in (List.mem_of_getElem? (i := 823) (by decide +kernel)) rfl
theorem i_824 : Cond.code yX6_why cX6_why 3 (some .int) ∈ GW := gw_in (List.mem_of_getElem? (i := 824) (by decide +kernel)) rfl
theorem i_825 : Cond.methodLink RL 202 yL_isChosen ∈ GW := gw_in (List.mem_of_getElem? (i := 825) (by decide +kernel)) rfl
theorem i_826 : Cond.static yL_isChosen ∈ GW := gw_in (List.mem_of_getElem? (i := 826) (by decide +kernel)) rfl
theorem i_827 : Cond.code yL_isChosen cL_isChosen 8 (some .boolean) ∈ GW := gw_in (List.mem_of_getElem? (i := 827) (by decide +kernel)) rfl
theorem i_831 : Cond.methodLink RL 78 yX6_most ∈ GW := gw_in (List.mem_of_getElem? (i := 831) (by decide +kernel)) rfl
theorem i_832 : Cond.instanceMethod yX6_most ∈ GW := gw_in (List.mem_of_getElem? (i := 832) (by decide +kernel)) rfl
theorem i_833 : Cond.selects RX6 yX6_most yX6_most ∈ GW := gw_in (List.mem_of_getElem? (i := 833) (by decide +kernel)) rfl
theorem i_834 : Cond.code yX6_most cX6_most 2 (some .int) ∈ GW := gw_in (List.mem_of_getElem? (i := 834) (by decide +kernel)) rfl
theorem i_836 : Cond.methodLink RX6 335 yX6_findMost ∈ GW := gw_in (List.mem_of_getElem? (i := 836) (by decide +kernel)) rfl
theorem i_838 : Cond.instanceMethod yX6_findMost ∈ GW := gw_in (List.mem_of_getElem? (i := 838) (by decide +kernel)) rfl
theorem i_839 : Cond.code yX6_findMost cX6_findMost 4 none ∈ GW := gw_in (List.mem_of_getElem? (i := 839) (by decide +kernel)) rfl
theorem i_840 : Cond.methodLink RX6 477 yX0_findChains ∈ GW := gw_in (List.mem_of_getElem? (i := 840) (by decide +kernel)) rfl
theorem i_841 : Cond.instanceMethod yX0_findChains ∈ GW := gw_in (List.mem_of_getElem? (i := 841) (by decide +kernel)) rfl
theorem i_842 : Cond.selects RX0 yX0_findChains yX0_findChains ∈ GW := gw_in (List.mem_of_getElem? (i := 842) (by decide +kernel)) rfl
theorem i_843 : Cond.code yX0_findChains cX0_findChains 2 none ∈ GW := gw_in (List.mem_of_getElem? (i := 843) (by decide +kernel)) rfl
theorem i_844 : Cond.methodLink RX0 47 yJ7_fill_53178 ∈ GW := gw_in (List.mem_of_getElem? (i := 844) (by decide +kernel)) rfl
theorem i_845 : Cond.static yJ7_fill_53178 ∈ GW := gw_in (List.mem_of_getElem? (i := 845) (by decide +kernel)) rfl
theorem i_846 : Cond.code yJ7_fill_53178 cJ7_fill_53178 4 none ∈ GW := gw_in (List.mem_of_getElem? (i := 846) (by decide +kernel)) rfl
theorem i_847 : Cond.methodLink RX0 53 yX0_findNext ∈ GW := gw_in (List.mem_of_getElem? (i := 847) (by decide +kernel)) rfl
theorem i_849 : Cond.instanceMethod yX0_findNext ∈ GW := gw_in (List.mem_of_getElem? (i := 849) (by decide +kernel)) rfl
theorem i_850 : Cond.code yX0_findNext cX0_findNext 6 none ∈ GW := gw_in (List.mem_of_getElem? (i := 850) (by decide +kernel)) rfl
theorem i_851 : Cond.methodLink RX0 61 yX1_liesUnder ∈ GW := gw_in (List.mem_of_getElem? (i := 851) (by decide +kernel)) rfl
theorem i_852 : Cond.methodLink RX0 67 yX0_swapBack ∈ GW := gw_in (List.mem_of_getElem? (i := 852) (by decide +kernel)) rfl
theorem i_854 : Cond.instanceMethod yX0_swapBack ∈ GW := gw_in (List.mem_of_getElem? (i := 854) (by decide +kernel)) rfl
theorem i_855 : Cond.code yX0_swapBack cX0_swapBack 6 none ∈ GW := gw_in (List.mem_of_getElem? (i := 855) (by decide +kernel)) rfl
theorem i_856 : Cond.methodLink RX6 480 yX0_choose ∈ GW := gw_in (List.mem_of_getElem? (i := 856) (by decide +kernel)) rfl
theorem i_857 : Cond.instanceMethod yX0_choose ∈ GW := gw_in (List.mem_of_getElem? (i := 857) (by decide +kernel)) rfl
theorem i_858 : Cond.selects RX0 yX0_choose yX0_choose ∈ GW := gw_in (List.mem_of_getElem? (i := 858) (by decide +kernel)) rfl
theorem i_859 : Cond.code yX0_choose cX0_choose 2 none ∈ GW := gw_in (List.mem_of_getElem? (i := 859) (by decide +kernel)) rfl
theorem i_860 : Cond.methodLink RX0 73 yX0_leavesFullSet ∈ GW := gw_in (List.mem_of_getElem? (i := 860) (by decide +kernel)) rfl
theorem i_862 : Cond.instanceMethod yX0_leavesFullSet ∈ GW := gw_in (List.mem_of_getElem? (i := 862) (by decide +kernel)) rfl
theorem i_863 : Cond.code yX0_leavesFullSet cX0_leavesFullSet 5 (some .boolean) ∈ GW := gw_in (List.mem_of_getElem? (i := 863) (by decide +kernel)) rfl
theorem i_864 : Cond.methodLink RX0 80 yX1_areCrossed ∈ GW := gw_in (List.mem_of_getElem? (i := 864) (by decide +kernel)) rfl
theorem i_865 : Cond.methodLink RX0 83 yX0_leftFrom ∈ GW := gw_in (List.mem_of_getElem? (i := 865) (by decide +kernel)) rfl
theorem i_867 : Cond.instanceMethod yX0_leftFrom ∈ GW := gw_in (List.mem_of_getElem? (i := 867) (by decide +kernel)) rfl
theorem i_868 : Cond.code yX0_leftFrom cX0_leftFrom 4 (some .int) ∈ GW := gw_in (List.mem_of_getElem? (i := 868) (by decide +kernel)) rfl
theorem i_869 : Cond.methodLink RX0 87 yX0_canBeApart ∈ GW := gw_in (List.mem_of_getElem? (i := 869) (by decide +kernel)) rfl
theorem i_871 : Cond.instanceMethod yX0_canBeApart ∈ GW := gw_in (List.mem_of_getElem? (i := 871) (by decide +kernel)) rfl
theorem i_872 : Cond.code yX0_canBeApart cX0_canBeApart 7 (some .boolean) ∈ GW := gw_in (List.mem_of_getElem? (i := 872) (by decide +kernel)) rfl
theorem i_873 : Cond.methodLink RX0 77 yX0_add ∈ GW := gw_in (List.mem_of_getElem? (i := 873) (by decide +kernel)) rfl
theorem i_875 : Cond.instanceMethod yX0_add ∈ GW := gw_in (List.mem_of_getElem? (i := 875) (by decide +kernel)) rfl
theorem i_876 : Cond.code yX0_add cX0_add 3 none ∈ GW := gw_in (List.mem_of_getElem? (i := 876) (by decide +kernel)) rfl
theorem i_880 : Cond.methodLink RL 81 yX6_pick ∈ GW := gw_in (List.mem_of_getElem? (i := 880) (by decide +kernel)) rfl
theorem i_881 : Cond.instanceMethod yX6_pick ∈ GW := gw_in (List.mem_of_getElem? (i := 881) (by decide +kernel)) rfl
theorem i_882 : Cond.selects RX6 yX6_pick yX6_pick ∈ GW := gw_in (List.mem_of_getElem? (i := 882) (by decide +kernel)) rfl
theorem i_883 : Cond.code yX6_pick cX6_pick 2 (some .int) ∈ GW := gw_in (List.mem_of_getElem? (i := 883) (by decide +kernel)) rfl
end A4b
