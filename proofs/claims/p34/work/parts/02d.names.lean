def mL_refusesAny : xMI := (yL_refusesAny, cL_refusesAny, 8, (some .boolean), 7)
theorem fL_refusesAny : xCal mL_refusesAny 2 := ⟨xg_r (i := 431) rfl rfl, xi_L, by decide +kernel, by decide +kernel, by decide⟩
theorem sL_refusesAny : xSta mL_refusesAny := xg_r (i := 430) (by decide +kernel) rfl
