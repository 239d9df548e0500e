/-! ===== the fresh objects ===== -/
def s0 : aO := ((fun _ => eR, fun _ => 0), none, [], (0, fun _ => -1))
def M0 : xM := fun k j => if k = 17 ∨ k = 25 ∨ k = 33 ∨ k = 41 ∨ k = 49 ∨ k = 57 then iniF 32 j else 0
theorem M0_z {k : Nat} (h : ¬ (k = 17 ∨ k = 25 ∨ k = 33 ∨ k = 41 ∨ k = 49 ∨ k = 57)) (j : Nat) : M0 k j = 0 := if_neg h
theorem M0_RC : RC M0 s0 := by
  refine ⟨?_, Or.inl ⟨rfl, rfl⟩, ⟨0, 0, by decide, by decide, rfl, rfl, rfl⟩, 0, by decide, rfl, ?_⟩
  · show (cA M0 16, sc (M0 16)) = (fun _ => eR, fun _ => 0)
    congr 1
    · refine cA_ext (fun t ht => cA_free ?_) (fun _ _ => rfl)
      show iniF 32 t = -1
      exact if_pos ht
    · funext j
      unfold sc
      split <;> rfl
  · show (0, fun _ => (-1 : Int32)) = _
    congr 1
theorem M0_RM : RM M0 s0 := by
  refine ⟨?_, Or.inl ⟨rfl, rfl⟩, ⟨0, by decide, rfl, rfl⟩, 0, by decide, rfl, ?_⟩
  · show (nA M0, nG M0) = (fun _ => eR, fun _ => 0)
    congr 1
    · exact mA_ext (fun t _ => mA_free rfl) (fun _ _ => rfl)
    · funext j
      unfold nG
      split <;> rfl
  · show (0, fun _ => (-1 : Int32)) = _
    congr 1
theorem s0_wf : WfO s0 0 := by
  have hz : ∀ t, aoc (fun _ => eR) t = false := fun t => aoc_eR (A := fun _ => eR) rfl
  refine ⟨⟨0, Nat.le_refl _, rfl, ?_, fun _ _ => rfl, fun _ _ => rfl, fun t ht => ?_, fun t u ht => ?_⟩, fun x hx => ?_, fun x hx => ?_, by decide⟩
  · intro t u _ ht
    have : aoc (fun _ => eR) t = true := ht
    rw [hz] at this
    cases this
  · have : aoc (fun _ => eR) t = true := ht
    rw [hz] at this
    cases this
  · have : aoc (fun _ => eR) t = true := ht
    rw [hz] at this
    cases this
  · cases hx
  · cases hx
