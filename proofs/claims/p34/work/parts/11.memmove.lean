/-! ===== moves for a rank, places ===== -/
theorem xm_gap : ∀ b, b < 33 → ∀ p, p < 33 → ((nI b - xm p ≤ nI 1) ↔ b ≤ p) := by decide +kernel
theorem xm_mid : ∀ b, b < 33 → ∀ p, p < b → (xm p + nI b) / nI 2 = nI ((p + b - 1) / 2) := by decide +kernel
theorem xm_inc (p : Nat) : xm p + nI 1 = nI p := by
  cases p with
  | zero => rfl
  | succ p => exact nI_add p 1
/-- the least slot behind the ranks up to r; the least slot of a greater one -/
def aP (A : aR) (r : Int32) : Nat := nL (pUp A r) 32
def aB (A : aR) (r : Int32) : Nat := nF (pBy A r) 0 32
theorem aP_le (A : aR) (r : Int32) : aP A r ≤ 32 := nL_le 32
theorem aB_le (A : aR) (r : Int32) : aB A r ≤ 32 := by have := (nF_le (P := pBy A r) 32 0).2; exact this
theorem aMu_le {A : aR} {f : Nat} (h : aMu A f ≠ 33) : f + aMu A f < 32 ∧ aoc A (f + aMu A f) = false ∧ ∀ j, f ≤ j → j < f + aMu A f → aoc A j = true := by
  unfold aMu at h ⊢
  have a := nF_le (P := pFr A) (32 - f) f
  split at h
  · rename_i q
    rw [if_pos q]
    have y := nF_yes (P := pFr A) (32 - f) f (by omega)
    have e : f + (nF (pFr A) f (32 - f) - f) = nF (pFr A) f (32 - f) := by omega
    rw [e]
    refine ⟨q, by simpa [pFr] using y, fun j h1 h2 => by simpa [pFr] using nF_no (P := pFr A) (32 - f) f j h1 h2⟩
  · exact absurd rfl h
theorem aMu_33 (A : aR) (f : Nat) : aMu A f ≤ 33 := by
  unfold aMu
  have a := nF_le (P := pFr A) (32 - f) f
  split <;> omega
theorem aMd_33 (A : aR) {k : Nat} (hk : k ≤ 32) : aMd A k ≤ 33 := by
  unfold aMd
  split <;> omega
theorem aMd_le {A : aR} {k : Nat} (hk : k ≤ 32) (h : aMd A k ≠ 33) : aMd A k < k ∧ aoc A (k - 1 - aMd A k) = false ∧ ∀ j, k - 1 - aMd A k < j → j < k → aoc A j = true := by
  unfold aMd at h ⊢
  have a := nL_le (P := pFr A) k
  split at h
  · exact absurd rfl h
  · rename_i q
    rw [if_neg q]
    obtain ⟨j0, e⟩ : ∃ j0, nL (pFr A) k = j0 + 1 := ⟨nL (pFr A) k - 1, by omega⟩
    have y := nL_yes e
    rw [e] at a ⊢
    have e2 : k - 1 - (k - (j0 + 1)) = j0 := by omega
    rw [e2]
    refine ⟨by omega, by simpa [pFr] using y, fun j h1 h2 => by simpa [pFr] using nL_no (P := pFr A) (n := k) (by rw [e]; omega) h2⟩
/-- how many entries are moved for one of the rank r -/
def oM (A : aR) (r : Int32) : Nat := if aP A r < aB A r then 0 else min (aMu A (aB A r)) (aMd A (aP A r))
theorem k_movesFor (U : xP) (M : xM) (x : Int32) : xMetI U mX1_movesFor [.inr 16, .inl x] M (fun r M' => r = nI (oM (cA M 16) x) ∧ M' = M) := by
  refine xMetI.of (ty := .int) (L := [some (.inr 16), some (.inl x), none, none]) fX1_movesFor rfl rfl (Nat.le_of_ble_eq_true rfl) (fun G hN hO hR => ?_)
  have hN : G.2.2.2.2.2.2.2.2.2.2.1 = 4 := hN
  have hO : xOK U G RX1 cX1_movesFor 2 := hO
  unfold oM at hR
  refine x_aload_n hO dX1_movesFor_0 rfl rfl ?_
  refine x_iload_n hO dX1_movesFor_1 rfl rfl ?_
  refine x_callV1 hO (k_lastSlotUpTo U M x) dX1_movesFor_2 lkX1_75 fX1_lastSlotUpTo vX1_lastSlotUpTo (by decide) rfl rfl rfl rfl rfl (by decide) (Nat.le_of_ble_eq_true rfl) ?_
  refine x_istore_n (n := 4) hO dX1_movesFor_5 rfl rfl (by decide) hN ?_
  refine x_aload_n hO dX1_movesFor_6 rfl rfl ?_
  refine x_iload_n hO dX1_movesFor_7 rfl rfl ?_
  refine x_callV1 hO (k_firstSlotBeyond U M x) dX1_movesFor_8 lkX1_78 fX1_firstSlotBeyond vX1_firstSlotBeyond (by decide) rfl rfl rfl rfl rfl (by decide) (Nat.le_of_ble_eq_true rfl) ?_
  refine x_istore_n (n := 4) hO dX1_movesFor_11 rfl rfl (by decide) hN ?_
  refine x_iload_n hO dX1_movesFor_12 rfl rfl ?_
  refine x_iload_n hO dX1_movesFor_13 rfl rfl ?_
  refine x_isub hO dX1_movesFor_14 ?_
  refine x_iconst (v := nI 1) hO dX1_movesFor_15 rfl ?_
  have h1 := aP_le (cA M 16) x
  have h2 := aB_le (cA M 16) x
  change XW U G _ _ [.inl (nI 1), .inl (nI (aB (cA M 16) x) - xm (aP (cA M 16) x))] M
  refine x_icmp_le (tgt := 21) hO dX1_movesFor_16 (by decide) (fun c => ?_) (fun c => ?_)
  · have q : aB (cA M 16) x ≤ aP (cA M 16) x := (xm_gap _ (by omega) _ (by omega)).mp c
    rw [if_neg (by omega)] at hR
    refine x_aload_n hO dX1_movesFor_21 rfl rfl ?_
    refine x_iload_n hO dX1_movesFor_22 rfl rfl ?_
    refine x_callV1 hO (k_movesUpFrom U M h2) dX1_movesFor_23 lkX1_84 fX1_movesUpFrom vX1_movesUpFrom (by decide) rfl rfl rfl rfl rfl (by decide) (Nat.le_of_ble_eq_true rfl) ?_
    refine x_aload_n hO dX1_movesFor_26 rfl rfl ?_
    refine x_iload_n hO dX1_movesFor_27 rfl rfl ?_
    refine x_callV1 hO (k_movesDownFrom U M h1) dX1_movesFor_28 lkX1_87 fX1_movesDownFrom vX1_movesDownFrom (by decide) rfl rfl rfl rfl rfl (by decide) (Nat.le_of_ble_eq_true rfl) ?_
    refine x_callS1 hO (k_min U M _ _ (by have := aMu_33 (cA M 16) (aB (cA M 16) x); omega) (by have := aMd_33 (cA M 16) h1; omega)) dX1_movesFor_31 lkX1_97 fJ9_min_7cf53 sJ9_min_7cf53 rfl rfl (by decide) (Nat.le_of_ble_eq_true rfl) ?_
    refine x_iret hO hR dX1_movesFor_34 rfl ?_
    exact ⟨rfl, rfl⟩
  · have q : aP (cA M 16) x < aB (cA M 16) x := by
      rcases Nat.lt_or_ge (aP (cA M 16) x) (aB (cA M 16) x) with q | q
      · exact q
      · exact absurd ((xm_gap _ (by omega) _ (by omega)).mpr q) c
    rw [if_pos q] at hR
    refine x_iconst (v := nI 0) hO dX1_movesFor_19 rfl ?_
    refine x_iret hO hR dX1_movesFor_20 rfl ?_
    exact ⟨rfl, rfl⟩
/-- the slot between p - 1 and b by the placing rule P -/
def aPl (P : Int32) (p b : Nat) : Nat := if P = 0 then p else if P = nI 1 then (p + b - 1) / 2 else b - 1
theorem k_placeBetween (U : xP) (M : xM) {p b : Nat} (hb : b ≤ 32) (hp : p < b) : xMetI U mX1_placeBetween [.inr 16, .inl (xm p), .inl (nI b)] M (fun r M' => r = nI (aPl (M 16 7) p b) ∧ M' = M) := by
  refine xMetI.of (ty := .int) (L := [some (.inr 16), some (.inl (xm p)), some (.inl (nI b))]) fX1_placeBetween rfl rfl (Nat.le_of_ble_eq_true rfl) (fun G hN hO hR => ?_)
  have hN : G.2.2.2.2.2.2.2.2.2.2.1 = 3 := hN
  have hO : xOK U G RX1 cX1_placeBetween 0 := hO
  unfold aPl at hR
  refine x_aload_n hO dX1_placeBetween_0 rfl rfl ?_
  refine x_getI (T := TX1) (j := 7) hO dX1_placeBetween_1 flX1_33 (by decide) rfl rfl (by decide) rfl rfl ?_
  refine x_if_ne (tgt := 11) hO dX1_placeBetween_4 (by decide) (fun c => ?_) (fun c => ?_)
  · refine x_aload_n hO dX1_placeBetween_11 rfl rfl ?_
    refine x_getI (T := TX1) (j := 7) hO dX1_placeBetween_12 flX1_33 (by decide) rfl rfl (by decide) rfl rfl ?_
    refine x_iconst (v := nI 1) hO dX1_placeBetween_15 rfl ?_
    rw [if_neg c] at hR
    refine x_icmp_ne (tgt := 27) hO dX1_placeBetween_16 (by decide) (fun c2 => ?_) (fun c2 => ?_)
    · refine x_iload_n hO dX1_placeBetween_27 rfl rfl ?_
      refine x_iconst (v := nI 1) hO dX1_placeBetween_28 rfl ?_
      refine x_isub hO dX1_placeBetween_29 ?_
      rw [if_neg c2] at hR
      rw [pk_sub (by omega)]
      refine x_iret hO hR dX1_placeBetween_30 rfl ?_
      exact ⟨rfl, rfl⟩
    · refine x_iload_n hO dX1_placeBetween_19 rfl rfl ?_
      refine x_iload_n hO dX1_placeBetween_20 rfl rfl ?_
      refine x_iadd hO dX1_placeBetween_21 ?_
      refine x_iconst (v := nI 2) hO dX1_placeBetween_22 rfl ?_
      refine x_idiv hO dX1_placeBetween_23 (by decide) ?_
      refine x_goto (tgt := 30) hO dX1_placeBetween_24 (by decide) ?_
      rw [if_pos c2] at hR
      rw [xm_mid b (by omega) p hp]
      refine x_iret hO hR dX1_placeBetween_30 rfl ?_
      exact ⟨rfl, rfl⟩
  · refine x_iload_n hO dX1_placeBetween_7 rfl rfl ?_
    refine x_iconst (v := nI 1) hO dX1_placeBetween_8 rfl ?_
    refine x_iadd hO dX1_placeBetween_9 ?_
    rw [xm_inc]
    rw [if_pos c] at hR
    refine x_iret hO hR dX1_placeBetween_10 rfl ?_
    exact ⟨rfl, rfl⟩
/-! ===== shares ===== -/
/-- the slot of the entry with the place p, of n shares -/
def aTg (n p : Nat) : Nat := if n = 0 then p else 32 * p / n
theorem aTg_lt {n p : Nat} (hp : p < n ∨ (n = 0 ∧ p < 32)) : aTg n p < 32 := by
  unfold aTg
  split
  · omega
  · rename_i q
    exact (Nat.div_lt_iff_lt_mul (by omega)).mpr (by omega)
theorem k_firstSlotOfShare (U : xP) (M : xM) {p n : Nat} (hp : p ≤ 32) (hn : n ≤ 32) : xMetI U mX1_firstSlotOfShare [.inl (nI p), .inl (nI n)] M (fun r M' => r = nI (aTg n p) ∧ M' = M) := by
  refine xMetI.of (ty := .int) (L := [some (.inl (nI p)), some (.inl (nI n))]) fX1_firstSlotOfShare rfl rfl (Nat.le_of_ble_eq_true rfl) (fun G hN hO hR => ?_)
  have hN : G.2.2.2.2.2.2.2.2.2.2.1 = 2 := hN
  have hO : xOK U G RX1 cX1_firstSlotOfShare 0 := hO
  unfold aTg at hR
  refine x_iload_n hO dX1_firstSlotOfShare_0 rfl rfl ?_
  refine x_if_le (tgt := 13) hO dX1_firstSlotOfShare_1 (by decide) (fun c => ?_) (fun c => ?_)
  · have q : n = 0 := by have := (nI_leI (b := 0) (by omega) (by decide)).mp c; omega
    rw [if_pos q] at hR
    refine x_iload_n hO dX1_firstSlotOfShare_13 rfl rfl ?_
    refine x_iret hO hR dX1_firstSlotOfShare_14 rfl ?_
    exact ⟨rfl, rfl⟩
  · have q : ¬ n = 0 := by rintro rfl; exact c (Int32.le_refl _)
    rw [if_neg q] at hR
    have q0 : ¬ nI n = 0 := fun z => q ((nI_eq (b := 0) (by omega) (by decide)).mp z)
    refine x_bipush (v := nI 32) hO dX1_firstSlotOfShare_4 rfl ?_
    refine x_iload_n hO dX1_firstSlotOfShare_6 rfl rfl ?_
    refine x_imul hO dX1_firstSlotOfShare_7 ?_
    refine x_iload_n hO dX1_firstSlotOfShare_8 rfl rfl ?_
    refine x_idiv hO dX1_firstSlotOfShare_9 (q0) ?_
    rw [pk_mul, pk_div (by omega) (by omega) (by omega)]
    refine x_goto (tgt := 14) hO dX1_firstSlotOfShare_10 (by decide) ?_
    refine x_iret hO hR dX1_firstSlotOfShare_14 rfl ?_
    exact ⟨rfl, rfl⟩
/-- the entry in the slot s would be in another slot, with n shares -/
def pOut (A : aR) (n s : Nat) : Bool := aoc A s && !(s == aTg n (nC (aoc A) s))
theorem k_entriesOutOfShare (U : xP) (M : xM) {n : Nat} (hn : n ≤ 32) : xMetI U mX1_entriesOutOfShare [.inr 16, .inl (nI n)] M (fun r M' => r = nI (nC (pOut (cA M 16) n) 32) ∧ M' = M) := by
  refine xMetI.of (ty := .int) (L := [some (.inr 16), some (.inl (nI n)), none, none, none]) fX1_entriesOutOfShare rfl rfl (Nat.le_of_ble_eq_true rfl) (fun G hN hO hR => ?_)
  have hN : G.2.2.2.2.2.2.2.2.2.2.1 = 5 := hN
  have hO : xOK U G RX1 cX1_entriesOutOfShare 1 := hO
  refine x_iconst (v := nI 0) hO dX1_entriesOutOfShare_0 rfl ?_
  refine x_istore_n (n := 5) hO dX1_entriesOutOfShare_1 rfl rfl (by decide) hN ?_
  refine x_iconst (v := nI 0) hO dX1_entriesOutOfShare_2 rfl ?_
  refine x_istore_n (n := 5) hO dX1_entriesOutOfShare_3 rfl rfl (by decide) hN ?_
  refine x_iconst (v := nI 0) hO dX1_entriesOutOfShare_4 rfl ?_
  refine x_istore (n := 5) hO dX1_entriesOutOfShare_5 rfl (by decide) hN ?_
  refine upd_ind (P := fun i _ => XW U G 7 [some (.inr 16), some (.inl (nI n)), some (.inl (nI (nC (aoc (cA M 16)) i))), some (.inl (nI (nC (pOut (cA M 16) n) i))), some (.inl (nI i))] [] M) 32 ?_ ?_ 32 0 rfl
  · refine x_iload hO dX1_entriesOutOfShare_7 rfl ?_
    refine x_bipush (v := nI 32) hO dX1_entriesOutOfShare_9 rfl ?_
    refine x_icmp_ge (tgt := 45) hO dX1_entriesOutOfShare_11 (by decide) (fun c => ?_) (fun c => ?_)
    · refine x_iload_n hO dX1_entriesOutOfShare_45 rfl rfl ?_
      refine x_iret hO hR dX1_entriesOutOfShare_46 rfl ?_
      exact ⟨rfl, rfl⟩
    · exact absurd (Int32.le_refl _) c
  · intro i d hd ih
    have hi : i < 32 := by omega
    refine x_iload hO dX1_entriesOutOfShare_7 rfl ?_
    refine x_bipush (v := nI 32) hO dX1_entriesOutOfShare_9 rfl ?_
    refine x_icmp_ge (tgt := 45) hO dX1_entriesOutOfShare_11 (by decide) (fun c => ?_) (fun c => ?_)
    · exact absurd c (nI_ge hi (by decide))
    · refine x_aload_n hO dX1_entriesOutOfShare_14 rfl rfl ?_
      refine x_iload hO dX1_entriesOutOfShare_15 rfl ?_
      refine x_callV1 hO (k_holds M hi) dX1_entriesOutOfShare_17 lkX1_53 fX1_holdsEntry vX1_holdsEntry (by decide) rfl rfl rfl rfl rfl (by decide) (Nat.le_of_ble_eq_true rfl) ?_
      refine x_if_eq (tgt := 39) hO dX1_entriesOutOfShare_20 (by decide) (fun c2 => ?_) (fun c2 => ?_)
      · refine x_iinc hO dX1_entriesOutOfShare_39 rfl (by first | exact xinc_n _ | rfl) rfl hN ?_
        refine x_goto (tgt := 7) hO dX1_entriesOutOfShare_42 (by decide) ?_
        rw [nC_f (bI_0 c2), nC_f (P := pOut (cA M 16) n) (by simp [pOut, bI_0 c2])] at ih
        exact ih
      · have hc := nC_le (aoc (cA M 16)) i
        have ht : aTg n (nC (aoc (cA M 16)) i) < 2 ^ 31 := by
          unfold aTg
          split
          · omega
          · have := Nat.div_le_self (32 * nC (aoc (cA M 16)) i) n
            omega
        rw [nC_t (bI_1 c2)] at ih
        refine x_iload hO dX1_entriesOutOfShare_23 rfl ?_
        refine x_iload_n hO dX1_entriesOutOfShare_25 rfl rfl ?_
        refine x_iload_n hO dX1_entriesOutOfShare_26 rfl rfl ?_
        refine x_callS1 hO (k_firstSlotOfShare U M (by omega) hn) dX1_entriesOutOfShare_27 lkX1_105 fX1_firstSlotOfShare sX1_firstSlotOfShare rfl rfl (by decide) (Nat.le_of_ble_eq_true rfl) ?_
        refine x_icmp_eq (tgt := 36) hO dX1_entriesOutOfShare_30 (by decide) (fun c3 => ?_) (fun c3 => ?_)
        · rw [nC_f (P := pOut (cA M 16) n) (by unfold pOut; rw [bI_1 c2, beq_iff_eq.mpr ((nI_eq (by omega) ht).mp c3)]; rfl)] at ih
          refine x_iinc hO dX1_entriesOutOfShare_36 rfl (by first | exact xinc_n _ | rfl) rfl hN ?_
          refine x_iinc hO dX1_entriesOutOfShare_39 rfl (by first | exact xinc_n _ | rfl) rfl hN ?_
          refine x_goto (tgt := 7) hO dX1_entriesOutOfShare_42 (by decide) ?_
          exact ih
        · have q : ¬ i = aTg n (nC (aoc (cA M 16)) i) := fun q => c3 ((nI_eq (by omega) ht).mpr q)
          rw [nC_t (P := pOut (cA M 16) n) (by simp [pOut, bI_1 c2, q])] at ih
          refine x_iinc hO dX1_entriesOutOfShare_33 rfl (by first | exact xinc_n _ | rfl) rfl hN ?_
          refine x_iinc hO dX1_entriesOutOfShare_36 rfl (by first | exact xinc_n _ | rfl) rfl hN ?_
          refine x_iinc hO dX1_entriesOutOfShare_39 rfl (by first | exact xinc_n _ | rfl) rfl hN ?_
          refine x_goto (tgt := 7) hO dX1_entriesOutOfShare_42 (by decide) ?_
          exact ih
