theorem lkL_119 : Cond.methodLink RL 119 yX3_init ∈ gw := xg_r (i := 9) (by decide +kernel) rfl
theorem lkX3_1 : Cond.methodLink RX3 1 objectInit ∈ gw := xg_r (i := 12) (by decide +kernel) rfl
theorem lkX3_9 : Cond.methodLink RX3 9 yX1_init ∈ gw := xg_r (i := 17) (by decide +kernel) rfl
theorem lkX1_3 : Cond.methodLink RX1 3 objectInit ∈ gw := xg_r (i := 20) (by decide +kernel) rfl
theorem lkX3_21 : Cond.methodLink RX3 21 yX0_init ∈ gw := xg_r (i := 72) (by decide +kernel) rfl
theorem lkX0_1 : Cond.methodLink RX0 1 objectInit ∈ gw := xg_r (i := 75) (by decide +kernel) rfl
theorem lkX0_22 : Cond.methodLink RX0 22 yX1_init ∈ gw := xg_r (i := 78) (by decide +kernel) rfl
theorem lkX3_28 : Cond.methodLinkNest RX3 28 yX2_init "TernaryMatcher" ∈ xnw := xn_r (i := 92) (by decide +kernel) rfl
theorem lkX2_5 : Cond.methodLink RX2 5 objectInit ∈ gw := xg_r (i := 95) (by decide +kernel) rfl
theorem lkL_102 : Cond.methodLink RL 102 yX3_compact ∈ gw := xg_r (i := 143) (by decide +kernel) rfl
theorem lkX3_82 : Cond.methodLink RX3 82 yX3_rearrange ∈ gw := xg_r (i := 147) (by decide +kernel) rfl
theorem lkX3_201 : Cond.methodLink RX3 201 yX1_entriesOutOfShare ∈ gw := xg_r (i := 151) (by decide +kernel) rfl
theorem lkX1_53 : Cond.methodLink RX1 53 yX1_holdsEntry ∈ gw := xg_r (i := 155) (by decide +kernel) rfl
theorem lkX1_105 : Cond.methodLink RX1 105 yX1_firstSlotOfShare ∈ gw := xg_r (i := 159) (by decide +kernel) rfl
theorem lkX3_51 : Cond.methodLink RX3 51 yX0_record ∈ gw := xg_r (i := 162) (by decide +kernel) rfl
theorem lkX0_23 : Cond.methodLink RX0 23 yJ9_floorMod_7cf53 ∈ gw := xg_r (i := 166) (by decide +kernel) rfl
theorem lkX0_29 : Cond.methodLinkNest RX0 29 yX3_copyState "TernaryMatcher" ∈ xnw := xn_r (i := 169) (by decide +kernel) rfl
theorem lkX3_210 : Cond.methodLink RX3 210 yX1_copyFrom ∈ gw := xg_r (i := 172) (by decide +kernel) rfl
theorem lkX3_204 : Cond.methodLink RX3 204 yX1_moveIntoShares ∈ gw := xg_r (i := 176) (by decide +kernel) rfl
theorem lkX1_108 : Cond.methodLink RX1 108 yX1_moveToFront ∈ gw := xg_r (i := 180) (by decide +kernel) rfl
theorem lkX1_102 : Cond.methodLink RX1 102 yX1_moveEntry ∈ gw := xg_r (i := 184) (by decide +kernel) rfl
theorem lkX1_49 : Cond.methodLinkNest RX1 49 yX3_isSlot "TernaryMatcher" ∈ xnw := xn_r (i := 188) (by decide +kernel) rfl
theorem lkL_98 : Cond.methodLink RL 98 yX3_spread ∈ gw := xg_r (i := 191) (by decide +kernel) rfl
theorem lkX3_85 : Cond.methodLink RX3 85 yX1_entries ∈ gw := xg_r (i := 195) (by decide +kernel) rfl
theorem lkX1_56 : Cond.methodLink RX1 56 yX1_entriesInBank ∈ gw := xg_r (i := 199) (by decide +kernel) rfl
theorem lkL_69 : Cond.methodLink RL 69 yX3_search ∈ gw := xg_r (i := 203) (by decide +kernel) rfl
theorem lkX3_37 : Cond.methodLink RX3 37 yX3_isKey ∈ gw := xg_r (i := 207) (by decide +kernel) rfl
theorem lkX3_88 : Cond.methodLink RX3 88 yX1_slotFoundBy ∈ gw := xg_r (i := 210) (by decide +kernel) rfl
theorem lkX3_91 : Cond.methodLink RX3 91 yX1_countSearch ∈ gw := xg_r (i := 214) (by decide +kernel) rfl
theorem lkX1_119 : Cond.methodLink RX1 119 yX1_powerFor ∈ gw := xg_r (i := 218) (by decide +kernel) rfl
theorem lkX1_122 : Cond.methodLink RX1 122 yX1_commonMask ∈ gw := xg_r (i := 222) (by decide +kernel) rfl
theorem lkX1_128 : Cond.methodLink RX1 128 yX1_firstEntryOfBank ∈ gw := xg_r (i := 226) (by decide +kernel) rfl
theorem lkX1_125 : Cond.methodLink RX1 125 yX1_commonValue ∈ gw := xg_r (i := 230) (by decide +kernel) rfl
theorem lkX3_99 : Cond.methodLink RX3 99 yX1_told ∈ gw := xg_r (i := 234) (by decide +kernel) rfl
theorem lkL_126 : Cond.methodLink RL 126 yX3_addText ∈ gw := xg_r (i := 238) (by decide +kernel) rfl
theorem lkX3_110 : Cond.methodLink RX3 110 yX2_readRules ∈ gw := xg_r (i := 242) (by decide +kernel) rfl
theorem lkX2_37 : Cond.methodLink RX2 37 yX2_readEntry ∈ gw := xg_r (i := 246) (by decide +kernel) rfl
theorem lkX2_51 : Cond.methodLink RX2 51 yX2_sign ∈ gw := xg_r (i := 250) (by decide +kernel) rfl
theorem lkX2_41 : Cond.methodLink RX2 41 yX2_skip ∈ gw := xg_r (i := 254) (by decide +kernel) rfl
theorem lkX2_45 : Cond.methodLink RX2 45 yX2_readRank ∈ gw := xg_r (i := 258) (by decide +kernel) rfl
theorem lkX2_55 : Cond.methodLink RX2 55 yX2_digit ∈ gw := xg_r (i := 262) (by decide +kernel) rfl
theorem lkX2_48 : Cond.methodLink RX2 48 yX2_readAction ∈ gw := xg_r (i := 266) (by decide +kernel) rfl
theorem lkX3_47 : Cond.methodLink RX3 47 yX1_freeSlots ∈ gw := xg_r (i := 270) (by decide +kernel) rfl
theorem lkX1_60 : Cond.methodLink RX1 60 yX1_entries ∈ gw := xg_r (i := 274) (by decide +kernel) rfl
theorem lkX3_55 : Cond.methodLink RX3 55 yX1_addSingle ∈ gw := xg_r (i := 275) (by decide +kernel) rfl
theorem lkX1_64 : Cond.methodLink RX1 64 yX1_openSlot ∈ gw := xg_r (i := 279) (by decide +kernel) rfl
theorem lkX1_75 : Cond.methodLink RX1 75 yX1_lastSlotUpTo ∈ gw := xg_r (i := 283) (by decide +kernel) rfl
theorem lkX1_78 : Cond.methodLink RX1 78 yX1_firstSlotBeyond ∈ gw := xg_r (i := 287) (by decide +kernel) rfl
theorem lkX1_81 : Cond.methodLink RX1 81 yX1_placeBetween ∈ gw := xg_r (i := 291) (by decide +kernel) rfl
theorem lkX1_84 : Cond.methodLink RX1 84 yX1_movesUpFrom ∈ gw := xg_r (i := 295) (by decide +kernel) rfl
theorem lkX1_87 : Cond.methodLink RX1 87 yX1_movesDownFrom ∈ gw := xg_r (i := 299) (by decide +kernel) rfl
theorem lkX1_90 : Cond.methodLink RX1 90 yX1_moveUp ∈ gw := xg_r (i := 303) (by decide +kernel) rfl
theorem lkX1_94 : Cond.methodLink RX1 94 yX1_moveDown ∈ gw := xg_r (i := 307) (by decide +kernel) rfl
theorem lkX1_67 : Cond.methodLink RX1 67 yX1_fill ∈ gw := xg_r (i := 311) (by decide +kernel) rfl
theorem lkL_120 : Cond.methodLink RL 120 yX3_undo ∈ gw := xg_r (i := 315) (by decide +kernel) rfl
theorem lkX3_131 : Cond.methodLink RX3 131 yX0_takeLatestInto ∈ gw := xg_r (i := 319) (by decide +kernel) rfl
theorem lkL_132 : Cond.methodLink RL 132 yX3_keep ∈ gw := xg_r (i := 323) (by decide +kernel) rfl
theorem lkX3_134 : Cond.methodLink RX3 134 yX3_copyState ∈ gw := xg_r (i := 327) (by decide +kernel) rfl
theorem lkL_123 : Cond.methodLink RL 123 yX3_restore ∈ gw := xg_r (i := 328) (by decide +kernel) rfl
theorem lkL_13 : Cond.methodLink RL 13 yX3_total ∈ gw := xg_r (i := 332) (by decide +kernel) rfl
theorem lkX3_183 : Cond.methodLink RX3 183 yX1_rules ∈ gw := xg_r (i := 336) (by decide +kernel) rfl
theorem lkX3_198 : Cond.methodLink RX3 198 yX1_entriesNeverFound ∈ gw := xg_r (i := 340) (by decide +kernel) rfl
theorem lkX1_111 : Cond.methodLink RX1 111 yX1_slotFoundBy ∈ gw := xg_r (i := 344) (by decide +kernel) rfl
theorem lkX1_114 : Cond.methodLink RX1 114 yJ6_bitCount_0f7a4 ∈ gw := xg_r (i := 345) (by decide +kernel) rfl
theorem lkX3_177 : Cond.methodLink RX3 177 yX1_keysFinding ∈ gw := xg_r (i := 351) (by decide +kernel) rfl
theorem lkL_135 : Cond.methodLink RL 135 yL_cell ∈ gw := xg_r (i := 355) (by decide +kernel) rfl
theorem lkL_90 : Cond.methodLink RL 90 yL_seen ∈ gw := xg_r (i := 360) (by decide +kernel) rfl
theorem lkL_19 : Cond.methodLink RL 19 yX3_ruleIn ∈ gw := xg_r (i := 365) (by decide +kernel) rfl
theorem lkL_22 : Cond.methodLink RL 22 yX3_maskIn ∈ gw := xg_r (i := 369) (by decide +kernel) rfl
theorem lkL_25 : Cond.methodLink RL 25 yX3_valueIn ∈ gw := xg_r (i := 373) (by decide +kernel) rfl
theorem lkL_29 : Cond.methodLink RL 29 yX3_action ∈ gw := xg_r (i := 378) (by decide +kernel) rfl
theorem lkX3_150 : Cond.methodLink RX3 150 yX1_slotHolding ∈ gw := xg_r (i := 382) (by decide +kernel) rfl
theorem lkL_32 : Cond.methodLink RL 32 yX3_rank ∈ gw := xg_r (i := 386) (by decide +kernel) rfl
theorem lkL_35 : Cond.methodLink RL 35 yX3_hits ∈ gw := xg_r (i := 390) (by decide +kernel) rfl
theorem lkL_142 : Cond.methodLink RL 142 yL_isInOrder ∈ gw := xg_r (i := 394) (by decide +kernel) rfl
theorem lkL_38 : Cond.methodLink RL 38 yX3_parts ∈ gw := xg_r (i := 397) (by decide +kernel) rfl
theorem lkX3_70 : Cond.methodLink RX3 70 yX1_entriesOf ∈ gw := xg_r (i := 401) (by decide +kernel) rfl
theorem lkL_41 : Cond.methodLink RL 41 yX3_slotOf ∈ gw := xg_r (i := 405) (by decide +kernel) rfl
theorem lkL_146 : Cond.methodLink RL 146 yL_isCounted ∈ gw := xg_r (i := 409) (by decide +kernel) rfl
theorem lkL_47 : Cond.methodLink RL 47 yX3_keysFor ∈ gw := xg_r (i := 412) (by decide +kernel) rfl
theorem lkX3_171 : Cond.methodLink RX3 171 yX3_isSlot ∈ gw := xg_r (i := 416) (by decide +kernel) rfl
theorem lkL_50 : Cond.methodLink RL 50 yX3_find ∈ gw := xg_r (i := 417) (by decide +kernel) rfl
theorem lkL_53 : Cond.methodLink RL 53 yX3_power ∈ gw := xg_r (i := 421) (by decide +kernel) rfl
theorem lkX3_159 : Cond.methodLink RX3 159 yX1_powerFor ∈ gw := xg_r (i := 425) (by decide +kernel) rfl
theorem lkL_129 : Cond.methodLink RL 129 yL_refuses ∈ gw := xg_r (i := 426) (by decide +kernel) rfl
theorem lkL_94 : Cond.methodLink RL 94 yL_refusesAny ∈ gw := xg_r (i := 429) (by decide +kernel) rfl
theorem lkL_56 : Cond.methodLink RL 56 yX3_addRule ∈ gw := xg_r (i := 432) (by decide +kernel) rfl
theorem lkX3_41 : Cond.methodLink RX3 41 yX3_isRank ∈ gw := xg_r (i := 436) (by decide +kernel) rfl
theorem lkX3_44 : Cond.methodLink RX3 44 yX3_isAction ∈ gw := xg_r (i := 439) (by decide +kernel) rfl
theorem lkL_60 : Cond.methodLink RL 60 yX3_addRange ∈ gw := xg_r (i := 442) (by decide +kernel) rfl
theorem lkX3_59 : Cond.methodLink RX3 59 yX3_isRange ∈ gw := xg_r (i := 446) (by decide +kernel) rfl
theorem lkX3_63 : Cond.methodLink RX3 63 yX3_blocksOf ∈ gw := xg_r (i := 449) (by decide +kernel) rfl
theorem lkX3_207 : Cond.methodLink RX3 207 yX3_blockSize ∈ gw := xg_r (i := 452) (by decide +kernel) rfl
theorem lkX3_67 : Cond.methodLink RX3 67 yX1_addBlocks ∈ gw := xg_r (i := 455) (by decide +kernel) rfl
theorem lkX1_71 : Cond.methodLinkNest RX1 71 yX3_blockSize "TernaryMatcher" ∈ xnw := xn_r (i := 459) (by decide +kernel) rfl
theorem lkL_63 : Cond.methodLink RL 63 yX3_remove ∈ gw := xg_r (i := 460) (by decide +kernel) rfl
theorem lkX3_74 : Cond.methodLink RX3 74 yX1_dropEntriesOf ∈ gw := xg_r (i := 464) (by decide +kernel) rfl
theorem lkL_66 : Cond.methodLink RL 66 yX3_setPlacing ∈ gw := xg_r (i := 468) (by decide +kernel) rfl
theorem lkL_72 : Cond.methodLink RL 72 yX3_wouldMove ∈ gw := xg_r (i := 472) (by decide +kernel) rfl
theorem lkX3_180 : Cond.methodLink RX3 180 yX1_movesFor ∈ gw := xg_r (i := 476) (by decide +kernel) rfl
theorem lkX1_97 : Cond.methodLink RX1 97 yJ9_min_7cf53 ∈ gw := xg_r (i := 480) (by decide +kernel) rfl
theorem lkL_75 : Cond.methodLink RL 75 yX3_entriesFor ∈ gw := xg_r (i := 483) (by decide +kernel) rfl
theorem lkL_78 : Cond.methodLink RL 78 yX3_sortIn ∈ gw := xg_r (i := 487) (by decide +kernel) rfl
theorem lkX3_147 : Cond.methodLink RX3 147 yX3_sortOfMask ∈ gw := xg_r (i := 491) (by decide +kernel) rfl
theorem lkL_81 : Cond.methodLink RL 81 yX3_hiddenBy ∈ gw := xg_r (i := 494) (by decide +kernel) rfl
theorem lkX3_174 : Cond.methodLink RX3 174 yX1_slotHiding ∈ gw := xg_r (i := 498) (by decide +kernel) rfl
theorem lkL_84 : Cond.methodLink RL 84 yX3_filterMask ∈ gw := xg_r (i := 502) (by decide +kernel) rfl
theorem lkX3_162 : Cond.methodLink RX3 162 yX3_isBank ∈ gw := xg_r (i := 506) (by decide +kernel) rfl
theorem lkX3_165 : Cond.methodLink RX3 165 yX1_commonMask ∈ gw := xg_r (i := 509) (by decide +kernel) rfl
theorem lkL_87 : Cond.methodLink RL 87 yX3_filterValue ∈ gw := xg_r (i := 510) (by decide +kernel) rfl
theorem lkX3_168 : Cond.methodLink RX3 168 yX1_commonValue ∈ gw := xg_r (i := 514) (by decide +kernel) rfl
theorem lkL_139 : Cond.methodLink RL 139 yL_act ∈ gw := xg_r (i := 515) (by decide +kernel) rfl
theorem lkL_105 : Cond.methodLink RL 105 yL_adds ∈ gw := xg_r (i := 518) (by decide +kernel) rfl
theorem lkL_109 : Cond.methodLink RL 109 yL_addsRange ∈ gw := xg_r (i := 521) (by decide +kernel) rfl
theorem lkL_112 : Cond.methodLink RL 112 yL_rearranges ∈ gw := xg_r (i := 524) (by decide +kernel) rfl
theorem lkL_116 : Cond.methodLink RL 116 yL_searches ∈ gw := xg_r (i := 527) (by decide +kernel) rfl
theorem flX1_9 : Cond.fieldLink RX1 9 RX1 "ruleAt" "[I" ∈ gw := xg_r (i := 21) (by decide +kernel) rfl
theorem flX3_138 : Cond.fieldLinkNest RX3 138 RX1 "ruleAt" "[I" "TernaryMatcher" ∈ xnw := xn_r (i := 22) (by decide +kernel) rfl
theorem flX1_15 : Cond.fieldLink RX1 15 RX1 "partAt" "[I" ∈ gw := xg_r (i := 23) (by decide +kernel) rfl
theorem flX1_18 : Cond.fieldLink RX1 18 RX1 "maskAt" "[I" ∈ gw := xg_r (i := 24) (by decide +kernel) rfl
theorem flX3_141 : Cond.fieldLinkNest RX3 141 RX1 "maskAt" "[I" "TernaryMatcher" ∈ xnw := xn_r (i := 25) (by decide +kernel) rfl
theorem flX1_21 : Cond.fieldLink RX1 21 RX1 "valueAt" "[I" ∈ gw := xg_r (i := 26) (by decide +kernel) rfl
theorem flX3_144 : Cond.fieldLinkNest RX3 144 RX1 "valueAt" "[I" "TernaryMatcher" ∈ xnw := xn_r (i := 27) (by decide +kernel) rfl
theorem flX1_24 : Cond.fieldLink RX1 24 RX1 "rankAt" "[I" ∈ gw := xg_r (i := 28) (by decide +kernel) rfl
theorem flX3_153 : Cond.fieldLinkNest RX3 153 RX1 "rankAt" "[I" "TernaryMatcher" ∈ xnw := xn_r (i := 29) (by decide +kernel) rfl
theorem flX1_27 : Cond.fieldLink RX1 27 RX1 "actionAt" "[I" ∈ gw := xg_r (i := 30) (by decide +kernel) rfl
theorem flX3_95 : Cond.fieldLinkNest RX3 95 RX1 "actionAt" "[I" "TernaryMatcher" ∈ xnw := xn_r (i := 31) (by decide +kernel) rfl
theorem flX1_30 : Cond.fieldLink RX1 30 RX1 "hitsAt" "[I" ∈ gw := xg_r (i := 32) (by decide +kernel) rfl
theorem flX3_156 : Cond.fieldLinkNest RX3 156 RX1 "hitsAt" "[I" "TernaryMatcher" ∈ xnw := xn_r (i := 33) (by decide +kernel) rfl
theorem flX1_33 : Cond.fieldLink RX1 33 RX1 "placing" "I" ∈ gw := xg_r (i := 34) (by decide +kernel) rfl
theorem flX3_78 : Cond.fieldLinkNest RX3 78 RX1 "placing" "I" "TernaryMatcher" ∈ xnw := xn_r (i := 35) (by decide +kernel) rfl
theorem flX1_37 : Cond.fieldLink RX1 37 RX1 "rulesAdded" "I" ∈ gw := xg_r (i := 36) (by decide +kernel) rfl
theorem flX3_186 : Cond.fieldLinkNest RX3 186 RX1 "rulesAdded" "I" "TernaryMatcher" ∈ xnw := xn_r (i := 37) (by decide +kernel) rfl
theorem flX1_40 : Cond.fieldLink RX1 40 RX1 "entriesMoved" "I" ∈ gw := xg_r (i := 38) (by decide +kernel) rfl
theorem flX3_189 : Cond.fieldLinkNest RX3 189 RX1 "entriesMoved" "I" "TernaryMatcher" ∈ xnw := xn_r (i := 39) (by decide +kernel) rfl
theorem flX1_43 : Cond.fieldLink RX1 43 RX1 "searches" "I" ∈ gw := xg_r (i := 40) (by decide +kernel) rfl
theorem flX3_192 : Cond.fieldLinkNest RX3 192 RX1 "searches" "I" "TernaryMatcher" ∈ xnw := xn_r (i := 41) (by decide +kernel) rfl
theorem flX1_46 : Cond.fieldLink RX1 46 RX1 "powers" "I" ∈ gw := xg_r (i := 42) (by decide +kernel) rfl
theorem flX3_195 : Cond.fieldLinkNest RX3 195 RX1 "powers" "I" "TernaryMatcher" ∈ xnw := xn_r (i := 43) (by decide +kernel) rfl
theorem flX0_11 : Cond.fieldLink RX0 11 RX0 "states" "[LTernaryMatcher$Memory;" ∈ gw := xg_r (i := 79) (by decide +kernel) rfl
theorem flX0_15 : Cond.fieldLink RX0 15 RX0 "oldest" "I" ∈ gw := xg_r (i := 80) (by decide +kernel) rfl
theorem flX0_19 : Cond.fieldLink RX0 19 RX0 "count" "I" ∈ gw := xg_r (i := 81) (by decide +kernel) rfl
theorem flX3_128 : Cond.fieldLinkNest RX3 128 RX0 "count" "I" "TernaryMatcher" ∈ xnw := xn_r (i := 82) (by decide +kernel) rfl
theorem flX2_11 : Cond.fieldLink RX2 11 RX2 "signs" "[I" ∈ gw := xg_r (i := 96) (by decide +kernel) rfl
theorem flX2_15 : Cond.fieldLink RX2 15 RX2 "length" "I" ∈ gw := xg_r (i := 97) (by decide +kernel) rfl
theorem flX3_107 : Cond.fieldLinkNest RX3 107 RX2 "length" "I" "TernaryMatcher" ∈ xnw := xn_r (i := 98) (by decide +kernel) rfl
theorem flX2_19 : Cond.fieldLink RX2 19 RX2 "at" "I" ∈ gw := xg_r (i := 99) (by decide +kernel) rfl
theorem flX2_22 : Cond.fieldLink RX2 22 RX2 "rulesRead" "I" ∈ gw := xg_r (i := 100) (by decide +kernel) rfl
theorem flX3_113 : Cond.fieldLinkNest RX3 113 RX2 "rulesRead" "I" "TernaryMatcher" ∈ xnw := xn_r (i := 101) (by decide +kernel) rfl
theorem flX2_25 : Cond.fieldLink RX2 25 RX2 "masks" "[I" ∈ gw := xg_r (i := 102) (by decide +kernel) rfl
theorem flX3_119 : Cond.fieldLinkNest RX3 119 RX2 "masks" "[I" "TernaryMatcher" ∈ xnw := xn_r (i := 103) (by decide +kernel) rfl
theorem flX2_28 : Cond.fieldLink RX2 28 RX2 "values" "[I" ∈ gw := xg_r (i := 104) (by decide +kernel) rfl
theorem flX3_116 : Cond.fieldLinkNest RX3 116 RX2 "values" "[I" "TernaryMatcher" ∈ xnw := xn_r (i := 105) (by decide +kernel) rfl
theorem flX2_31 : Cond.fieldLink RX2 31 RX2 "ranks" "[I" ∈ gw := xg_r (i := 106) (by decide +kernel) rfl
theorem flX3_122 : Cond.fieldLinkNest RX3 122 RX2 "ranks" "[I" "TernaryMatcher" ∈ xnw := xn_r (i := 107) (by decide +kernel) rfl
theorem flX2_34 : Cond.fieldLink RX2 34 RX2 "actions" "[I" ∈ gw := xg_r (i := 108) (by decide +kernel) rfl
theorem flX3_125 : Cond.fieldLinkNest RX3 125 RX2 "actions" "[I" "TernaryMatcher" ∈ xnw := xn_r (i := 109) (by decide +kernel) rfl
theorem flX3_10 : Cond.fieldLink RX3 10 RX3 "memory" "LTernaryMatcher$Memory;" ∈ gw := xg_r (i := 127) (by decide +kernel) rfl
theorem flX3_16 : Cond.fieldLink RX3 16 RX3 "snapshot" "LTernaryMatcher$Memory;" ∈ gw := xg_r (i := 128) (by decide +kernel) rfl
theorem flX3_22 : Cond.fieldLink RX3 22 RX3 "history" "LTernaryMatcher$History;" ∈ gw := xg_r (i := 129) (by decide +kernel) rfl
theorem flX3_29 : Cond.fieldLink RX3 29 RX3 "text" "LTernaryMatcher$RuleText;" ∈ gw := xg_r (i := 130) (by decide +kernel) rfl
theorem flX3_33 : Cond.fieldLink RX3 33 RX3 "snapshotTaken" "Z" ∈ gw := xg_r (i := 131) (by decide +kernel) rfl
theorem iwX0 : ∀ w ∈ u_ws RX0 TX0 3, w ∈ gw := List.forall_mem_cons.mpr ⟨xg_r (i := 83) (by decide +kernel) rfl, List.forall_mem_cons.mpr ⟨xg_r (i := 85) (by decide +kernel) rfl, List.forall_mem_cons.mpr ⟨xg_r (i := 87) (by decide +kernel) rfl, fun _ h => absurd h List.not_mem_nil⟩⟩⟩
theorem iwX1 : ∀ w ∈ u_ws RX1 TX1 12, w ∈ gw := List.forall_mem_cons.mpr ⟨xg_r (i := 44) (by decide +kernel) rfl, List.forall_mem_cons.mpr ⟨xg_r (i := 46) (by decide +kernel) rfl, List.forall_mem_cons.mpr ⟨xg_r (i := 48) (by decide +kernel) rfl, List.forall_mem_cons.mpr ⟨xg_r (i := 50) (by decide +kernel) rfl, List.forall_mem_cons.mpr ⟨xg_r (i := 52) (by decide +kernel) rfl, List.forall_mem_cons.mpr ⟨xg_r (i := 54) (by decide +kernel) rfl, List.forall_mem_cons.mpr ⟨xg_r (i := 56) (by decide +kernel) rfl, List.forall_mem_cons.mpr ⟨xg_r (i := 58) (by decide +kernel) rfl, List.forall_mem_cons.mpr ⟨xg_r (i := 60) (by decide +kernel) rfl, List.forall_mem_cons.mpr ⟨xg_r (i := 62) (by decide +kernel) rfl, List.forall_mem_cons.mpr ⟨xg_r (i := 64) (by decide +kernel) rfl, List.forall_mem_cons.mpr ⟨xg_r (i := 66) (by decide +kernel) rfl, fun _ h => absurd h List.not_mem_nil⟩⟩⟩⟩⟩⟩⟩⟩⟩⟩⟩⟩
theorem iwX2 : ∀ w ∈ u_ws RX2 TX2 8, w ∈ gw := List.forall_mem_cons.mpr ⟨xg_r (i := 110) (by decide +kernel) rfl, List.forall_mem_cons.mpr ⟨xg_r (i := 112) (by decide +kernel) rfl, List.forall_mem_cons.mpr ⟨xg_r (i := 114) (by decide +kernel) rfl, List.forall_mem_cons.mpr ⟨xg_r (i := 116) (by decide +kernel) rfl, List.forall_mem_cons.mpr ⟨xg_r (i := 118) (by decide +kernel) rfl, List.forall_mem_cons.mpr ⟨xg_r (i := 120) (by decide +kernel) rfl, List.forall_mem_cons.mpr ⟨xg_r (i := 122) (by decide +kernel) rfl, List.forall_mem_cons.mpr ⟨xg_r (i := 124) (by decide +kernel) rfl, fun _ h => absurd h List.not_mem_nil⟩⟩⟩⟩⟩⟩⟩⟩
theorem iwX3 : ∀ w ∈ u_ws RX3 TX3 5, w ∈ gw := List.forall_mem_cons.mpr ⟨xg_r (i := 132) (by decide +kernel) rfl, List.forall_mem_cons.mpr ⟨xg_r (i := 134) (by decide +kernel) rfl, List.forall_mem_cons.mpr ⟨xg_r (i := 136) (by decide +kernel) rfl, List.forall_mem_cons.mpr ⟨xg_r (i := 138) (by decide +kernel) rfl, List.forall_mem_cons.mpr ⟨xg_r (i := 140) (by decide +kernel) rfl, fun _ h => absurd h List.not_mem_nil⟩⟩⟩⟩⟩
