def mX1_entriesOf : xMI := (yX1_entriesOf, cX1_entriesOf, 4, (some .int), 1)
theorem fX1_entriesOf : xCal mX1_entriesOf 1 := ⟨xg_r (i := 404) (by decide +kernel) rfl, xi_X1, by decide +kernel, by decide +kernel, by decide⟩
theorem vX1_entriesOf : xVir mX1_entriesOf := ⟨xg_r (i := 402) (by decide +kernel) rfl, xg_r (i := 403) (by decide +kernel) rfl⟩
def mX3_slotOf : xMI := (yX3_slotOf, cX3_slotOf, 4, (some .int), 2)
theorem fX3_slotOf : xCal mX3_slotOf 2 := ⟨xg_r (i := 408) (by decide +kernel) rfl, xi_X3, by decide +kernel, by decide +kernel, by decide⟩
theorem vX3_slotOf : xVir mX3_slotOf := ⟨xg_r (i := 406) (by decide +kernel) rfl, xg_r (i := 407) (by decide +kernel) rfl⟩
def mL_isCounted : xMI := (yL_isCounted, cL_isCounted, 7, (some .boolean), 6)
theorem fL_isCounted : xCal mL_isCounted 2 := ⟨xg_r (i := 411) (by decide +kernel) rfl, xi_L, by decide +kernel, by decide +kernel, by decide⟩
theorem sL_isCounted : xSta mL_isCounted := xg_r (i := 410) (by decide +kernel) rfl
def mX3_keysFor : xMI := (yX3_keysFor, cX3_keysFor, 2, (some .int), 3)
theorem fX3_keysFor : xCal mX3_keysFor 1 := ⟨xg_r (i := 415) (by decide +kernel) rfl, xi_X3, by decide +kernel, by decide +kernel, by decide⟩
theorem vX3_keysFor : xVir mX3_keysFor := ⟨xg_r (i := 413) (by decide +kernel) rfl, xg_r (i := 414) (by decide +kernel) rfl⟩
def mX3_find : xMI := (yX3_find, cX3_find, 3, (some .int), 2)
theorem fX3_find : xCal mX3_find 1 := ⟨xg_r (i := 420) (by decide +kernel) rfl, xi_X3, by decide +kernel, by decide +kernel, by decide⟩
theorem vX3_find : xVir mX3_find := ⟨xg_r (i := 418) (by decide +kernel) rfl, xg_r (i := 419) (by decide +kernel) rfl⟩
def mX3_power : xMI := (yX3_power, cX3_power, 2, (some .int), 5)
theorem fX3_power : xCal mX3_power 1 := ⟨xg_r (i := 424) (by decide +kernel) rfl, xi_X3, by decide +kernel, by decide +kernel, by decide⟩
theorem vX3_power : xVir mX3_power := ⟨xg_r (i := 422) (by decide +kernel) rfl, xg_r (i := 423) (by decide +kernel) rfl⟩
def mL_refuses : xMI := (yL_refuses, cL_refuses, 5, (some .boolean), 8)
theorem fL_refuses : xCal mL_refuses 2 := ⟨xg_r (i := 428) (by decide +kernel) rfl, xi_L, by decide +kernel, by decide +kernel, by decide⟩
theorem sL_refuses : xSta mL_refuses := xg_r (i := 427) (by decide +kernel) rfl
