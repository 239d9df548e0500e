def mX3_addRule : xMI := (yX3_addRule, cX3_addRule, 5, (some .int), 5)
theorem fX3_addRule : xCal mX3_addRule 4 := ⟨xg_r (i := 435) (by decide +kernel) rfl, xi_X3, by decide +kernel, by decide +kernel, by decide⟩
theorem vX3_addRule : xVir mX3_addRule := ⟨xg_r (i := 433) (by decide +kernel) rfl, xg_r (i := 434) (by decide +kernel) rfl⟩
def mX3_isRank : xMI := (yX3_isRank, cX3_isRank, 1, (some .boolean), 0)
theorem fX3_isRank : xCal mX3_isRank 1 := ⟨xg_r (i := 438) (by decide +kernel) rfl, xi_X3, by decide +kernel, by decide +kernel, by decide⟩
theorem sX3_isRank : xSta mX3_isRank := xg_r (i := 437) (by decide +kernel) rfl
def mX3_isAction : xMI := (yX3_isAction, cX3_isAction, 1, (some .boolean), 0)
theorem fX3_isAction : xCal mX3_isAction 1 := ⟨xg_r (i := 441) (by decide +kernel) rfl, xi_X3, by decide +kernel, by decide +kernel, by decide⟩
theorem sX3_isAction : xSta mX3_isAction := xg_r (i := 440) (by decide +kernel) rfl
def mX3_addRange : xMI := (yX3_addRange, cX3_addRange, 5, (some .int), 5)
theorem fX3_addRange : xCal mX3_addRange 4 := ⟨xg_r (i := 445) (by decide +kernel) rfl, xi_X3, by decide +kernel, by decide +kernel, by decide⟩
theorem vX3_addRange : xVir mX3_addRange := ⟨xg_r (i := 443) (by decide +kernel) rfl, xg_r (i := 444) (by decide +kernel) rfl⟩
def mX3_isRange : xMI := (yX3_isRange, cX3_isRange, 2, (some .boolean), 1)
theorem fX3_isRange : xCal mX3_isRange 2 := ⟨xg_r (i := 448) (by decide +kernel) rfl, xi_X3, by decide +kernel, by decide +kernel, by decide⟩
theorem sX3_isRange : xSta mX3_isRange := xg_r (i := 447) (by decide +kernel) rfl
def mX3_blocksOf : xMI := (yX3_blocksOf, cX3_blocksOf, 4, (some .int), 1)
theorem fX3_blocksOf : xCal mX3_blocksOf 2 := ⟨xg_r (i := 451) (by decide +kernel) rfl, xi_X3, by decide +kernel, by decide +kernel, by decide⟩
theorem sX3_blocksOf : xSta mX3_blocksOf := xg_r (i := 450) (by decide +kernel) rfl
def mX3_blockSize : xMI := (yX3_blockSize, cX3_blockSize, 4, (some .int), 0)
theorem fX3_blockSize : xCal mX3_blockSize 2 := ⟨xg_r (i := 454) (by decide +kernel) rfl, xi_X3, by decide +kernel, by decide +kernel, by decide⟩
theorem sX3_blockSize : xSta mX3_blockSize := xg_r (i := 453) (by decide +kernel) rfl
def mX1_addBlocks : xMI := (yX1_addBlocks, cX1_addBlocks, 9, (some .int), 4)
theorem fX1_addBlocks : xCal mX1_addBlocks 4 := ⟨xg_r (i := 458) (by decide +kernel) rfl, xi_X1, by decide +kernel, by decide +kernel, by decide⟩
theorem vX1_addBlocks : xVir mX1_addBlocks := ⟨xg_r (i := 456) (by decide +kernel) rfl, xg_r (i := 457) (by decide +kernel) rfl⟩
def mX3_remove : xMI := (yX3_remove, cX3_remove, 3, (some .int), 3)
theorem fX3_remove : xCal mX3_remove 1 := ⟨xg_r (i := 463) (by decide +kernel) rfl, xi_X3, by decide +kernel, by decide +kernel, by decide⟩
theorem vX3_remove : xVir mX3_remove := ⟨xg_r (i := 461) (by decide +kernel) rfl, xg_r (i := 462) (by decide +kernel) rfl⟩
def mX1_dropEntriesOf : xMI := (yX1_dropEntriesOf, cX1_dropEntriesOf, 3, none, 0)
theorem fX1_dropEntriesOf : xCal mX1_dropEntriesOf 1 := ⟨xg_r (i := 467) (by decide +kernel) rfl, xi_X1, by decide +kernel, by decide +kernel, by decide⟩
theorem vX1_dropEntriesOf : xVir mX1_dropEntriesOf := ⟨xg_r (i := 465) (by decide +kernel) rfl, xg_r (i := 466) (by decide +kernel) rfl⟩
def mX3_setPlacing : xMI := (yX3_setPlacing, cX3_setPlacing, 3, (some .int), 3)
theorem fX3_setPlacing : xCal mX3_setPlacing 1 := ⟨xg_r (i := 471) (by decide +kernel) rfl, xi_X3, by decide +kernel, by decide +kernel, by decide⟩
theorem vX3_setPlacing : xVir mX3_setPlacing := ⟨xg_r (i := 469) (by decide +kernel) rfl, xg_r (i := 470) (by decide +kernel) rfl⟩
def mX3_wouldMove : xMI := (yX3_wouldMove, cX3_wouldMove, 2, (some .int), 4)
theorem fX3_wouldMove : xCal mX3_wouldMove 1 := ⟨xg_r (i := 475) (by decide +kernel) rfl, xi_X3, by decide +kernel, by decide +kernel, by decide⟩
theorem vX3_wouldMove : xVir mX3_wouldMove := ⟨xg_r (i := 473) (by decide +kernel) rfl, xg_r (i := 474) (by decide +kernel) rfl⟩
def mX1_movesFor : xMI := (yX1_movesFor, cX1_movesFor, 4, (some .int), 2)
theorem fX1_movesFor : xCal mX1_movesFor 1 := ⟨xg_r (i := 479) (by decide +kernel) rfl, xi_X1, by decide +kernel, by decide +kernel, by decide⟩
theorem vX1_movesFor : xVir mX1_movesFor := ⟨xg_r (i := 477) (by decide +kernel) rfl, xg_r (i := 478) (by decide +kernel) rfl⟩
def mJ9_min_7cf53 : xMI := (yJ9_min_7cf53, cJ9_min_7cf53, 2, (some .int), 0)
theorem fJ9_min_7cf53 : xCal mJ9_min_7cf53 2 := ⟨xg_r (i := 482) (by decide +kernel) rfl, xi_J9, by decide +kernel, by decide +kernel, by decide⟩
theorem sJ9_min_7cf53 : xSta mJ9_min_7cf53 := xg_r (i := 481) (by decide +kernel) rfl
def mX3_entriesFor : xMI := (yX3_entriesFor, cX3_entriesFor, 3, (some .int), 2)
theorem fX3_entriesFor : xCal mX3_entriesFor 2 := ⟨xg_r (i := 486) (by decide +kernel) rfl, xi_X3, by decide +kernel, by decide +kernel, by decide⟩
theorem vX3_entriesFor : xVir mX3_entriesFor := ⟨xg_r (i := 484) (by decide +kernel) rfl, xg_r (i := 485) (by decide +kernel) rfl⟩
def mX3_sortIn : xMI := (yX3_sortIn, cX3_sortIn, 3, (some .int), 2)
theorem fX3_sortIn : xCal mX3_sortIn 1 := ⟨xg_r (i := 490) (by decide +kernel) rfl, xi_X3, by decide +kernel, by decide +kernel, by decide⟩
theorem vX3_sortIn : xVir mX3_sortIn := ⟨xg_r (i := 488) (by decide +kernel) rfl, xg_r (i := 489) (by decide +kernel) rfl⟩
def mX3_sortOfMask : xMI := (yX3_sortOfMask, cX3_sortOfMask, 2, (some .int), 0)
theorem fX3_sortOfMask : xCal mX3_sortOfMask 1 := ⟨xg_r (i := 493) (by decide +kernel) rfl, xi_X3, by decide +kernel, by decide +kernel, by decide⟩
theorem sX3_sortOfMask : xSta mX3_sortOfMask := xg_r (i := 492) (by decide +kernel) rfl
def mX3_hiddenBy : xMI := (yX3_hiddenBy, cX3_hiddenBy, 3, (some .int), 2)
theorem fX3_hiddenBy : xCal mX3_hiddenBy 1 := ⟨xg_r (i := 497) (by decide +kernel) rfl, xi_X3, by decide +kernel, by decide +kernel, by decide⟩
theorem vX3_hiddenBy : xVir mX3_hiddenBy := ⟨xg_r (i := 495) (by decide +kernel) rfl, xg_r (i := 496) (by decide +kernel) rfl⟩
def mX1_slotHiding : xMI := (yX1_slotHiding, cX1_slotHiding, 5, (some .int), 1)
theorem fX1_slotHiding : xCal mX1_slotHiding 1 := ⟨xg_r (i := 501) (by decide +kernel) rfl, xi_X1, by decide +kernel, by decide +kernel, by decide⟩
theorem vX1_slotHiding : xVir mX1_slotHiding := ⟨xg_r (i := 499) (by decide +kernel) rfl, xg_r (i := 500) (by decide +kernel) rfl⟩
def mX3_filterMask : xMI := (yX3_filterMask, cX3_filterMask, 2, (some .int), 3)
theorem fX3_filterMask : xCal mX3_filterMask 1 := ⟨xg_r (i := 505) (by decide +kernel) rfl, xi_X3, by decide +kernel, by decide +kernel, by decide⟩
theorem vX3_filterMask : xVir mX3_filterMask := ⟨xg_r (i := 503) (by decide +kernel) rfl, xg_r (i := 504) (by decide +kernel) rfl⟩
def mX3_isBank : xMI := (yX3_isBank, cX3_isBank, 1, (some .boolean), 0)
theorem fX3_isBank : xCal mX3_isBank 1 := ⟨xg_r (i := 508) (by decide +kernel) rfl, xi_X3, by decide +kernel, by decide +kernel, by decide⟩
theorem sX3_isBank : xSta mX3_isBank := xg_r (i := 507) (by decide +kernel) rfl
def mX3_filterValue : xMI := (yX3_filterValue, cX3_filterValue, 2, (some .int), 4)
theorem fX3_filterValue : xCal mX3_filterValue 1 := ⟨xg_r (i := 513) (by decide +kernel) rfl, xi_X3, by decide +kernel, by decide +kernel, by decide⟩
theorem vX3_filterValue : xVir mX3_filterValue := ⟨xg_r (i := 511) (by decide +kernel) rfl, xg_r (i := 512) (by decide +kernel) rfl⟩
def mL_act : xMI := (yL_act, cL_act, 7, (some .int), 8)
theorem fL_act : xCal mL_act 2 := ⟨xg_r (i := 517) (by decide +kernel) rfl, xi_L, by decide +kernel, by decide +kernel, by decide⟩
theorem sL_act : xSta mL_act := xg_r (i := 516) (by decide +kernel) rfl
def mL_adds : xMI := (yL_adds, cL_adds, 7, (some .int), 6)
theorem fL_adds : xCal mL_adds 2 := ⟨xg_r (i := 520) (by decide +kernel) rfl, xi_L, by decide +kernel, by decide +kernel, by decide⟩
theorem sL_adds : xSta mL_adds := xg_r (i := 519) (by decide +kernel) rfl
def mL_addsRange : xMI := (yL_addsRange, cL_addsRange, 7, (some .int), 6)
theorem fL_addsRange : xCal mL_addsRange 2 := ⟨xg_r (i := 523) (by decide +kernel) rfl, xi_L, by decide +kernel, by decide +kernel, by decide⟩
theorem sL_addsRange : xSta mL_addsRange := xg_r (i := 522) (by decide +kernel) rfl
def mL_rearranges : xMI := (yL_rearranges, cL_rearranges, 7, (some .int), 6)
theorem fL_rearranges : xCal mL_rearranges 2 := ⟨xg_r (i := 526) (by decide +kernel) rfl, xi_L, by decide +kernel, by decide +kernel, by decide⟩
theorem sL_rearranges : xSta mL_rearranges := xg_r (i := 525) (by decide +kernel) rfl
def mL_searches : xMI := (yL_searches, cL_searches, 8, (some .int), 7)
theorem fL_searches : xCal mL_searches 2 := ⟨xg_r (i := 529) (by decide +kernel) rfl, xi_L, by decide +kernel, by decide +kernel, by decide⟩
theorem sL_searches : xSta mL_searches := xg_r (i := 528) (by decide +kernel) rfl
