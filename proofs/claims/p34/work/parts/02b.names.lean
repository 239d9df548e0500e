def mL_cell : xMI := (yL_cell, cL_cell, 2, (some .int), 0)
theorem fL_cell : xCal mL_cell 2 := ⟨xg_r (i := 357) (by decide +kernel) rfl, xi_L, by decide +kernel, by decide +kernel, by decide⟩
theorem sL_cell : xSta mL_cell := xg_r (i := 356) (by decide +kernel) rfl
def mL_seen : xMI := (yL_seen, cL_seen, 5, (some .long), 5)
theorem fL_seen : xCal mL_seen 1 := ⟨xg_r (i := 362) (by decide +kernel) rfl, xi_L, by decide +kernel, by decide +kernel, by decide⟩
theorem sL_seen : xSta mL_seen := xg_r (i := 361) (by decide +kernel) rfl
def mX3_ruleIn : xMI := (yX3_ruleIn, cX3_ruleIn, 2, (some .int), 2)
theorem fX3_ruleIn : xCal mX3_ruleIn 1 := ⟨xg_r (i := 368) (by decide +kernel) rfl, xi_X3, by decide +kernel, by decide +kernel, by decide⟩
theorem vX3_ruleIn : xVir mX3_ruleIn := ⟨xg_r (i := 366) (by decide +kernel) rfl, xg_r (i := 367) (by decide +kernel) rfl⟩
def mX3_maskIn : xMI := (yX3_maskIn, cX3_maskIn, 2, (some .int), 2)
theorem fX3_maskIn : xCal mX3_maskIn 1 := ⟨xg_r (i := 372) (by decide +kernel) rfl, xi_X3, by decide +kernel, by decide +kernel, by decide⟩
theorem vX3_maskIn : xVir mX3_maskIn := ⟨xg_r (i := 370) (by decide +kernel) rfl, xg_r (i := 371) (by decide +kernel) rfl⟩
def mX3_valueIn : xMI := (yX3_valueIn, cX3_valueIn, 2, (some .int), 2)
theorem fX3_valueIn : xCal mX3_valueIn 1 := ⟨xg_r (i := 376) (by decide +kernel) rfl, xi_X3, by decide +kernel, by decide +kernel, by decide⟩
theorem vX3_valueIn : xVir mX3_valueIn := ⟨xg_r (i := 374) (by decide +kernel) rfl, xg_r (i := 375) (by decide +kernel) rfl⟩
def mX3_action : xMI := (yX3_action, cX3_action, 2, (some .int), 2)
theorem fX3_action : xCal mX3_action 1 := ⟨xg_r (i := 381) (by decide +kernel) rfl, xi_X3, by decide +kernel, by decide +kernel, by decide⟩
theorem vX3_action : xVir mX3_action := ⟨xg_r (i := 379) (by decide +kernel) rfl, xg_r (i := 380) (by decide +kernel) rfl⟩
def mX1_slotHolding : xMI := (yX1_slotHolding, cX1_slotHolding, 4, (some .int), 1)
theorem fX1_slotHolding : xCal mX1_slotHolding 2 := ⟨xg_r (i := 385) (by decide +kernel) rfl, xi_X1, by decide +kernel, by decide +kernel, by decide⟩
theorem vX1_slotHolding : xVir mX1_slotHolding := ⟨xg_r (i := 383) (by decide +kernel) rfl, xg_r (i := 384) (by decide +kernel) rfl⟩
def mX3_rank : xMI := (yX3_rank, cX3_rank, 2, (some .int), 2)
theorem fX3_rank : xCal mX3_rank 1 := ⟨xg_r (i := 389) (by decide +kernel) rfl, xi_X3, by decide +kernel, by decide +kernel, by decide⟩
theorem vX3_rank : xVir mX3_rank := ⟨xg_r (i := 387) (by decide +kernel) rfl, xg_r (i := 388) (by decide +kernel) rfl⟩
def mX3_hits : xMI := (yX3_hits, cX3_hits, 2, (some .int), 2)
theorem fX3_hits : xCal mX3_hits 1 := ⟨xg_r (i := 393) (by decide +kernel) rfl, xi_X3, by decide +kernel, by decide +kernel, by decide⟩
theorem vX3_hits : xVir mX3_hits := ⟨xg_r (i := 391) (by decide +kernel) rfl, xg_r (i := 392) (by decide +kernel) rfl⟩
def mL_isInOrder : xMI := (yL_isInOrder, cL_isInOrder, 12, (some .boolean), 5)
theorem fL_isInOrder : xCal mL_isInOrder 1 := ⟨xg_r (i := 396) (by decide +kernel) rfl, xi_L, by decide +kernel, by decide +kernel, by decide⟩
theorem sL_isInOrder : xSta mL_isInOrder := xg_r (i := 395) (by decide +kernel) rfl
def mX3_parts : xMI := (yX3_parts, cX3_parts, 3, (some .int), 2)
theorem fX3_parts : xCal mX3_parts 1 := ⟨xg_r (i := 400) (by decide +kernel) rfl, xi_X3, by decide +kernel, by decide +kernel, by decide⟩
theorem vX3_parts : xVir mX3_parts := ⟨xg_r (i := 398) (by decide +kernel) rfl, xg_r (i := 399) (by decide +kernel) rfl⟩
