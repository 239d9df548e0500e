/-! ===== TernaryMatcher.isSlot ===== -/
theorem k_isSlot (U : xP) (M : xM) (x : Int32) : xMetI U mX3_isSlot [.inl x] M (fun r M' => r = bI (ixB x 32) ∧ M' = M) := by
  refine xMetI.of (ty := .boolean) (L := [some (.inl x)]) fX3_isSlot rfl rfl (Nat.le_of_ble_eq_true rfl) (fun G hN hO hR => ?_)
  have hN : G.2.2.2.2.2.2.2.2.2.2.1 = 1 := hN
  have hO : xOK U G RX3 cX3_isSlot 0 := hO
  refine x_iload_n hO dX3_isSlot_0 rfl rfl ?_
  refine x_if_lt (tgt := 14) hO dX3_isSlot_1 (by decide) (fun c => ?_) (fun c => ?_)
  · refine x_iconst (v := nI 0) hO dX3_isSlot_14 rfl ?_
    refine x_iret hO hR dX3_isSlot_15 rfl ?_
    exact ⟨bI_f (ixB_lo c), rfl⟩
  · refine x_iload_n hO dX3_isSlot_4 rfl rfl ?_
    refine x_bipush (v := nI 32) hO dX3_isSlot_5 rfl ?_
    refine x_icmp_ge (tgt := 14) hO dX3_isSlot_7 (by decide) (fun c2 => ?_) (fun c2 => ?_)
    · refine x_iconst (v := nI 0) hO dX3_isSlot_14 rfl ?_
      refine x_iret hO hR dX3_isSlot_15 rfl ?_
      exact ⟨bI_f (ixB_hi c2), rfl⟩
    · refine x_iconst (v := nI 1) hO dX3_isSlot_10 rfl ?_
      refine x_goto (tgt := 15) hO dX3_isSlot_11 (by decide) ?_
      refine x_iret hO hR dX3_isSlot_15 rfl ?_
      exact ⟨bI_t (ixB_in c c2), rfl⟩
/-! ===== Memory.holdsEntry ===== -/
theorem k_holdsEntry (U : xP) (M : xM) (x : Int32) : xMetI U mX1_holdsEntry [.inr 16, .inl x] M (fun r M' => r = bI (ixB x 32 && aoc (cA M 16) x.toNatClampNeg) ∧ M' = M) := by
  refine xMetI.of (ty := .boolean) (L := [some (.inr 16), some (.inl x)]) fX1_holdsEntry rfl rfl (Nat.le_of_ble_eq_true rfl) (fun G hN hO hR => ?_)
  have hN : G.2.2.2.2.2.2.2.2.2.2.1 = 2 := hN
  have hO : xOK U G RX1 cX1_holdsEntry 0 := hO
  refine x_iload_n hO dX1_holdsEntry_0 rfl rfl ?_
  refine x_if_lt (tgt := 24) hO dX1_holdsEntry_1 (by decide) (fun c => ?_) (fun c => ?_)
  · refine x_iconst (v := nI 0) hO dX1_holdsEntry_24 rfl ?_
    refine x_iret hO hR dX1_holdsEntry_25 rfl ?_
    exact ⟨bI_f (by rw [ixB_lo c]; rfl), rfl⟩
  · refine x_iload_n hO dX1_holdsEntry_4 rfl rfl ?_
    refine x_bipush (v := nI 32) hO dX1_holdsEntry_5 rfl ?_
    refine x_icmp_ge (tgt := 24) hO dX1_holdsEntry_7 (by decide) (fun c2 => ?_) (fun c2 => ?_)
    · refine x_iconst (v := nI 0) hO dX1_holdsEntry_24 rfl ?_
      refine x_iret hO hR dX1_holdsEntry_25 rfl ?_
      exact ⟨bI_f (by rw [ixB_hi c2]; rfl), rfl⟩
    · obtain ⟨j, hj, rfl⟩ := ixB_e (by decide) (ixB_in c c2)
      have hc : (nI j).toNatClampNeg = j := nI_clamp (by omega)
      refine x_aload_n hO dX1_holdsEntry_10 rfl rfl ?_
      refine x_getR (T := TX1) (j := 0) hO dX1_holdsEntry_11 flX1_9 (by decide) rfl rfl (by decide) rfl rfl ?_
      refine x_iload_n hO dX1_holdsEntry_14 rfl rfl ?_
      refine x_iald hO (by decide) rfl (by decide) (rfl) (hj) dX1_holdsEntry_15 ?_
      refine x_iconst (v := (-1 : Int32)) hO dX1_holdsEntry_16 rfl ?_
      refine x_icmp_eq (tgt := 24) hO dX1_holdsEntry_17 (by decide) (fun c3 => ?_) (fun c3 => ?_)
      · refine x_iconst (v := nI 0) hO dX1_holdsEntry_24 rfl ?_
        refine x_iret hO hR dX1_holdsEntry_25 rfl ?_
        exact ⟨bI_f (by rw [hc, cA_oc]; simp [occ, c3]), rfl⟩
      · refine x_iconst (v := nI 1) hO dX1_holdsEntry_20 rfl ?_
        refine x_goto (tgt := 25) hO dX1_holdsEntry_21 (by decide) ?_
        refine x_iret hO hR dX1_holdsEntry_25 rfl ?_
        exact ⟨bI_t (by rw [ixB_n hj (by decide), hc, cA_oc]; simp [occ, c3, hj]), rfl⟩
theorem k_holds {U : xP} (M : xM) {i : Nat} (hi : i < 32) : xMetI U mX1_holdsEntry [.inr 16, .inl (nI i)] M (fun r M' => r = bI (aoc (cA M 16) i) ∧ M' = M) := by
  have h := k_holdsEntry U M (nI i)
  rw [ixB_n hi (by decide), nI_clamp (by omega)] at h
  simpa using h
theorem k_told (U : xP) (M : xM) {k : Nat} (hk : xk k) (hs : xsh k = .inl 32) (x : Int32) : xMetI U mX1_told [.inr 16, .inr k, .inl x] M (fun r M' => r = (if ixB x 32 then (if aoc (cA M 16) x.toNatClampNeg then M k x.toNatClampNeg else -4) else -1) ∧ M' = M) := by
  refine xMetI.of (ty := .int) (L := [some (.inr 16), some (.inr k), some (.inl x)]) fX1_told rfl rfl (Nat.le_of_ble_eq_true rfl) (fun G hN hO hR => ?_)
  have hN : G.2.2.2.2.2.2.2.2.2.2.1 = 3 := hN
  have hO : xOK U G RX1 cX1_told 1 := hO
  refine x_iload_n hO dX1_told_0 rfl rfl ?_
  refine x_callSN1 hO (k_isSlot U M x) dX1_told_1 lkX1_49 fX3_isSlot sX3_isSlot rfl rfl (by decide) (Nat.le_of_ble_eq_true rfl) ?_
  refine x_if_eq (tgt := 13) hO dX1_told_4 (by decide) (fun c => ?_) (fun c => ?_)
  · refine x_iconst (v := (-1 : Int32)) hO dX1_told_13 rfl ?_
    refine x_iret hO hR dX1_told_14 rfl ?_
    exact ⟨by rw [bI_0 c]; rfl, rfl⟩
  · obtain ⟨j, hj, rfl⟩ := ixB_e (by decide) (bI_1 c)
    have hc : (nI j).toNatClampNeg = j := nI_clamp (by omega)
    refine x_iload_n hO dX1_told_7 rfl rfl ?_
    refine x_aload_n hO dX1_told_8 rfl rfl ?_
    refine x_alen hO hk hs dX1_told_9 ?_
    refine x_icmp_lt (tgt := 15) hO dX1_told_10 (by decide) (fun c2 => ?_) (fun c2 => ?_)
    · refine x_aload_n hO dX1_told_15 rfl rfl ?_
      refine x_iload_n hO dX1_told_16 rfl rfl ?_
      refine x_callV1 hO (k_holds M hj) dX1_told_17 lkX1_53 fX1_holdsEntry vX1_holdsEntry (by decide) rfl rfl rfl rfl rfl (by decide) (Nat.le_of_ble_eq_true rfl) ?_
      refine x_if_eq (tgt := 29) hO dX1_told_20 (by decide) (fun c3 => ?_) (fun c3 => ?_)
      · refine x_bipush (v := (-4 : Int32)) hO dX1_told_29 rfl ?_
        refine x_iret hO hR dX1_told_31 rfl ?_
        exact ⟨by rw [ixB_n hj (by decide), hc, bI_0 c3]; rfl, rfl⟩
      · refine x_aload_n hO dX1_told_23 rfl rfl ?_
        refine x_iload_n hO dX1_told_24 rfl rfl ?_
        refine x_iald hO hk hs (by decide) rfl hj dX1_told_25 ?_
        refine x_goto (tgt := 31) hO dX1_told_26 (by decide) ?_
        refine x_iret hO hR dX1_told_31 rfl ?_
        exact ⟨by rw [ixB_n hj (by decide), hc, bI_1 c3]; rfl, rfl⟩
    · exact absurd (nI_lt hj (by decide)) c2
