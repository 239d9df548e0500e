/-! ===== Memory.openSlot, addSingle ===== -/
theorem nC_full {P : Nat → Bool} : ∀ {n : Nat}, (∀ i, i < n → P i = true) → nC P n = n
  | 0, _ => rfl
  | n + 1, h => by rw [nC_t (h n (by omega)), nC_full (n := n) (fun i hi => h i (by omega))]
/-- there is room -/
theorem aFree_ex {A : aR} (h : aCnt A < 32) : ∃ s, s < 32 ∧ aoc A s = false := by
  rcases Classical.em (∃ s, s < 32 ∧ aoc A s = false) with q | q
  · exact q
  · have e : aCnt A = 32 := nC_full (fun i hi => by
      cases e : aoc A i with
      | true => rfl
      | false => exact absurd ⟨i, hi, e⟩ q)
    omega
theorem oM_free {A : aR} (h : aCnt A < 32) {p b : Nat} (hp : p ≤ 32) (hb : b ≤ p) : ¬ (aMu A b = 33 ∧ aMd A p = 33) := by
  obtain ⟨s, hs, hf⟩ := aFree_ex h
  have h1 := aMu_33 A b
  have h2 := aMd_33 A hp
  rintro ⟨e1, e2⟩
  rcases Nat.lt_or_ge s b with q | q
  · unfold aMd at e2
    split at e2
    · rename_i z
      have := nL_no (P := pFr A) (n := p) (j := s) (by omega) (by omega)
      simp [pFr, hf] at this
    · omega
  · unfold aMu at e1
    have a := nF_le (P := pFr A) (32 - b) b
    split at e1
    · omega
    · have := nF_no (P := pFr A) (32 - b) b s q (by omega)
      simp [pFr, hf] at this
/-- the slot for a new entry of the rank r, by the placing rule P; the rows when room has been made -/
def oS (A : aR) (P r : Int32) : Nat := if aP A r < aB A r then aPl P (aP A r) (aB A r) else if aMu A (aB A r) ≤ aMd A (aP A r) then aB A r else aP A r - 1
def oA (A : aR) (r : Int32) : aR := if aP A r < aB A r then A else if aMu A (aB A r) ≤ aMd A (aP A r) then aUp A (aB A r) (aMu A (aB A r)) 0 else aDn A (aP A r - 1) (aMd A (aP A r)) (aMd A (aP A r))
theorem aPl_lt {P : Int32} {p b : Nat} (hb : b ≤ 32) (h : p < b) : p ≤ aPl P p b ∧ aPl P p b < b := by
  unfold aPl
  split
  · omega
  · split <;> omega
theorem oS_lt {A : aR} (P r : Int32) (h : aCnt A < 32) : oS A P r < 32 := by
  unfold oS
  have h1 := aP_le A r
  have h2 := aB_le A r
  split
  · rename_i q
    have := aPl_lt (P := P) h2 q
    omega
  · rename_i q
    have h3 := oM_free h h1 (Nat.not_lt.mp q)
    split
    · rename_i z
      have := (aMu_le (A := A) (f := aB A r) (by have := aMd_33 A h1; omega)).1
      omega
    · rename_i z
      have h4 := aMu_33 A (aB A r)
      have := (aMd_le (A := A) h1 (by omega)).1
      omega
theorem k_openSlot (U : xP) (M : xM) (x : Int32) (h : aCnt (cA M 16) < 32) : xMetI U mX1_openSlot [.inr 16, .inl x] M (fun r M' => r = nI (oS (cA M 16) (M 16 7) x) ∧ mSt M M' (oA (cA M 16) x) (upd (M 16) 9 (M 16 9 + nI (oM (cA M 16) x)))) := by
  refine xMetI.of (ty := .int) (L := [some (.inr 16), some (.inl x), none, none, none, none]) fX1_openSlot rfl rfl (Nat.le_of_ble_eq_true rfl) (fun G hN hO hR => ?_)
  have hN : G.2.2.2.2.2.2.2.2.2.2.1 = 6 := hN
  have hO : xOK U G RX1 cX1_openSlot 3 := hO
  have h1 := aP_le (cA M 16) x
  have h2 := aB_le (cA M 16) x
  unfold oS oA oM at hR
  refine x_aload_n hO dX1_openSlot_0 rfl rfl ?_
  refine x_iload_n hO dX1_openSlot_1 rfl rfl ?_
  refine x_callV1 hO (k_lastSlotUpTo U M x) dX1_openSlot_2 lkX1_75 fX1_lastSlotUpTo vX1_lastSlotUpTo (by decide) rfl rfl rfl rfl rfl (by decide) (Nat.le_of_ble_eq_true rfl) ?_
  refine x_istore_n (n := 6) hO dX1_openSlot_5 rfl rfl (by decide) hN ?_
  refine x_aload_n hO dX1_openSlot_6 rfl rfl ?_
  refine x_iload_n hO dX1_openSlot_7 rfl rfl ?_
  refine x_callV1 hO (k_firstSlotBeyond U M x) dX1_openSlot_8 lkX1_78 fX1_firstSlotBeyond vX1_firstSlotBeyond (by decide) rfl rfl rfl rfl rfl (by decide) (Nat.le_of_ble_eq_true rfl) ?_
  refine x_istore_n (n := 6) hO dX1_openSlot_11 rfl rfl (by decide) hN ?_
  refine x_iload_n hO dX1_openSlot_12 rfl rfl ?_
  refine x_iload_n hO dX1_openSlot_13 rfl rfl ?_
  refine x_isub hO dX1_openSlot_14 ?_
  refine x_iconst (v := nI 1) hO dX1_openSlot_15 rfl ?_
  change XW U G _ _ [.inl (nI 1), .inl (nI (aB (cA M 16) x) - xm (aP (cA M 16) x))] M
  refine x_icmp_le (tgt := 26) hO dX1_openSlot_16 (by decide) (fun c => ?_) (fun c => ?_)
  · have q : aB (cA M 16) x ≤ aP (cA M 16) x := (xm_gap _ (by omega) _ (by omega)).mp c
    simp only [if_neg (show ¬ aP (cA M 16) x < aB (cA M 16) x by omega)] at hR
    have h3 := oM_free h h1 q
    have u3 := aMu_33 (cA M 16) (aB (cA M 16) x)
    have d3 := aMd_33 (cA M 16) h1
    refine x_aload_n hO dX1_openSlot_26 rfl rfl ?_
    refine x_iload_n hO dX1_openSlot_27 rfl rfl ?_
    refine x_callV1 hO (k_movesUpFrom U M h2) dX1_openSlot_28 lkX1_84 fX1_movesUpFrom vX1_movesUpFrom (by decide) rfl rfl rfl rfl rfl (by decide) (Nat.le_of_ble_eq_true rfl) ?_
    refine x_istore (n := 6) hO dX1_openSlot_31 rfl (by decide) hN ?_
    refine x_aload_n hO dX1_openSlot_33 rfl rfl ?_
    refine x_iload_n hO dX1_openSlot_34 rfl rfl ?_
    refine x_callV1 hO (k_movesDownFrom U M h1) dX1_openSlot_35 lkX1_87 fX1_movesDownFrom vX1_movesDownFrom (by decide) rfl rfl rfl rfl rfl (by decide) (Nat.le_of_ble_eq_true rfl) ?_
    refine x_istore (n := 6) hO dX1_openSlot_38 rfl (by decide) hN ?_
    refine x_iload hO dX1_openSlot_40 rfl ?_
    refine x_bipush (v := nI 33) hO dX1_openSlot_42 rfl ?_
    have fin : XW U G 56 [some (.inr 16), some (.inl x), some (.inl (xm (aP (cA M 16) x))), some (.inl (nI (aB (cA M 16) x))), some (.inl (nI (aMu (cA M 16) (aB (cA M 16) x)))), some (.inl (nI (aMd (cA M 16) (aP (cA M 16) x))))] [] M := by
      refine x_iload hO dX1_openSlot_56 rfl ?_
      refine x_iload hO dX1_openSlot_58 rfl ?_
      refine x_icmp_gt (tgt := 72) hO dX1_openSlot_60 (by decide) (fun c2 => ?_) (fun c2 => ?_)
      · have q2 : ¬ aMu (cA M 16) (aB (cA M 16) x) ≤ aMd (cA M 16) (aP (cA M 16) x) := by have := (nI_ltI (by omega) (by omega)).mp c2; omega
        simp only [if_neg q2] at hR
        obtain ⟨l, hl⟩ : ∃ l, aP (cA M 16) x = l + 1 := ⟨aP (cA M 16) x - 1, by have := (aMd_le (A := cA M 16) h1 (by omega)).1; omega⟩
        have hd := (aMd_le (A := cA M 16) h1 (by omega)).1
        rw [hl] at hR hd ⊢
        rw [xm_s]
        simp only [Nat.add_sub_cancel] at hR
        refine x_aload_n hO dX1_openSlot_72 rfl rfl ?_
        refine x_iload_n hO dX1_openSlot_73 rfl rfl ?_
        refine x_iload hO dX1_openSlot_74 rfl ?_
        refine x_callVv hO (k_moveDown U M (l := l) (n := aMd (cA M 16) (l + 1)) (by omega) (by omega)) dX1_openSlot_76 lkX1_94 fX1_moveDown vX1_moveDown (by decide) rfl rfl rfl rfl rfl (by decide) (Nat.le_of_ble_eq_true rfl) (fun M' h5 => ?_)
        refine x_iload_n hO dX1_openSlot_79 rfl rfl ?_
        refine x_iret hO hR dX1_openSlot_80 rfl ?_
        refine ⟨rfl, ?_⟩
        rw [Nat.min_eq_right (by rw [hl] at q2; omega)]
        exact h5
      · have q2 : aMu (cA M 16) (aB (cA M 16) x) ≤ aMd (cA M 16) (aP (cA M 16) x) := Nat.not_lt.mp (fun z => c2 ((nI_ltI (by omega) (by omega)).mpr z))
        simp only [if_pos q2] at hR
        have hu := (aMu_le (A := cA M 16) (f := aB (cA M 16) x) (by omega)).1
        refine x_aload_n hO dX1_openSlot_63 rfl rfl ?_
        refine x_iload_n hO dX1_openSlot_64 rfl rfl ?_
        refine x_iload hO dX1_openSlot_65 rfl ?_
        refine x_callVv hO (k_moveUp U M (b := aB (cA M 16) x) (n := aMu (cA M 16) (aB (cA M 16) x)) (by omega)) dX1_openSlot_67 lkX1_90 fX1_moveUp vX1_moveUp (by decide) rfl rfl rfl rfl rfl (by decide) (Nat.le_of_ble_eq_true rfl) (fun M' h5 => ?_)
        refine x_iload_n hO dX1_openSlot_70 rfl rfl ?_
        refine x_iret hO hR dX1_openSlot_71 rfl ?_
        refine ⟨rfl, ?_⟩
        rw [Nat.min_eq_left q2]
        exact h5
    refine x_icmp_ne (tgt := 56) hO dX1_openSlot_44 (by decide) (fun c1 => ?_) (fun c1 => ?_)
    · exact fin
    · refine x_iload hO dX1_openSlot_47 rfl ?_
      refine x_bipush (v := nI 33) hO dX1_openSlot_49 rfl ?_
      refine x_icmp_ne (tgt := 56) hO dX1_openSlot_51 (by decide) (fun c2 => ?_) (fun c2 => ?_)
      · exact fin
      · have e1 := (nI_eq (by omega) (by decide)).mp c1
        have e2 := (nI_eq (by omega) (by decide)).mp c2
        omega
  · have q : aP (cA M 16) x < aB (cA M 16) x := by
      rcases Nat.lt_or_ge (aP (cA M 16) x) (aB (cA M 16) x) with q | q
      · exact q
      · exact absurd ((xm_gap _ (by omega) _ (by omega)).mpr q) c
    simp only [if_pos q] at hR
    refine x_aload_n hO dX1_openSlot_19 rfl rfl ?_
    refine x_iload_n hO dX1_openSlot_20 rfl rfl ?_
    refine x_iload_n hO dX1_openSlot_21 rfl rfl ?_
    refine x_callV1 hO (k_placeBetween U M h2 q) dX1_openSlot_22 lkX1_81 fX1_placeBetween vX1_placeBetween (by decide) rfl rfl rfl rfl rfl (by decide) (Nat.le_of_ble_eq_true rfl) ?_
    refine x_iret hO hR dX1_openSlot_25 rfl ?_
    refine ⟨rfl, ?_⟩
    have e : upd (M 16) 9 (M 16 9 + nI 0) = M 16 := by
      funext j
      unfold upd
      split
      · rename_i z
        rw [z]
        exact Int32.add_zero _
      · rfl
    rw [e]
    exact mSt.rf M
/-- the rows with a new one of the rank r -/
def aAdd (A : aR) (P r : Int32) (row : Nat → Int32) : aR := fun s => if s = oS A P r then row else oA A r s
theorem k_addSingle (U : xP) (M : xM) (v m k a : Int32) (h : aCnt (cA M 16) < 32) (hr : M 16 8 ≠ -1) : xMetI U mX1_addSingle [.inr 16, .inl v, .inl m, .inl k, .inl a] M (fun r M' => r = M 16 8 ∧ mSt M M' (aAdd (cA M 16) (M 16 7) k (rowOf (M 16 8) 0 m v k a)) (upd (upd (M 16) 8 (M 16 8 + nI 1)) 9 (M 16 9 + nI (oM (cA M 16) k)))) := by
  refine xMetI.of (ty := .int) (L := [some (.inr 16), some (.inl v), some (.inl m), some (.inl k), some (.inl a), none]) fX1_addSingle rfl rfl (Nat.le_of_ble_eq_true rfl) (fun G hN hO hR => ?_)
  have hN : G.2.2.2.2.2.2.2.2.2.2.1 = 6 := hN
  have hO : xOK U G RX1 cX1_addSingle 4 := hO
  refine x_aload_n hO dX1_addSingle_0 rfl rfl ?_
  refine x_getI (T := TX1) (j := 8) hO dX1_addSingle_1 flX1_37 (by decide) rfl rfl (by decide) rfl rfl ?_
  refine x_istore (n := 6) hO dX1_addSingle_4 rfl (by decide) hN ?_
  refine x_aload_n hO dX1_addSingle_6 rfl rfl ?_
  refine x_dup hO dX1_addSingle_7 ?_
  refine x_getI (T := TX1) (j := 8) hO dX1_addSingle_8 flX1_37 (by decide) rfl rfl (by decide) rfl rfl ?_
  refine x_iconst (v := nI 1) hO dX1_addSingle_11 rfl ?_
  refine x_iadd hO dX1_addSingle_12 ?_
  refine x_put (T := TX1) (j := 8) (ty := .int) hO dX1_addSingle_13 flX1_37 (by decide) rfl rfl (by decide) rfl rfl rfl (by decide +kernel) rfl rfl ?_
  refine x_aload_n hO dX1_addSingle_16 rfl rfl ?_
  refine x_aload_n hO dX1_addSingle_17 rfl rfl ?_
  refine x_iload_n hO dX1_addSingle_18 rfl rfl ?_
  have h1 := mSt.num (M := M) 8 (by decide) (M 16 8 + nI 1)
  generalize xset M 16 8 (M 16 8 + nI 1) = M1 at h1 ⊢
  have e9 : M1 16 9 = M 16 9 := by rw [h1.2.1]; rfl
  have e7 : M1 16 7 = M 16 7 := by rw [h1.2.1]; rfl
  refine x_callV hO (k_openSlot U M1 k (by rw [h1.1]; exact h)) dX1_addSingle_19 lkX1_64 fX1_openSlot vX1_openSlot (by decide) rfl rfl rfl rfl rfl (by decide) (Nat.le_of_ble_eq_true rfl) (fun r M' h2 => ?_)
  obtain ⟨rfl, h2⟩ := h2
  have h3 := mSt.tr h1 h2
  rw [h1.1, e7, e9, h1.2.1] at *
  refine x_iload hO dX1_addSingle_22 rfl ?_
  refine x_iconst (v := nI 0) hO dX1_addSingle_24 rfl ?_
  refine x_iload_n hO dX1_addSingle_25 rfl rfl ?_
  refine x_iload_n hO dX1_addSingle_26 rfl rfl ?_
  refine x_iload_n hO dX1_addSingle_27 rfl rfl ?_
  refine x_iload hO dX1_addSingle_28 rfl ?_
  refine x_callVv hO (k_fill U M' (j := oS (cA M 16) (M 16 7) k) (oS_lt _ _ h) (M 16 8) (nI 0) m v k a hr) dX1_addSingle_30 lkX1_67 fX1_fill vX1_fill (by decide) rfl rfl rfl rfl rfl (by decide) (Nat.le_of_ble_eq_true rfl) (fun M' h4 => ?_)
  refine x_iload hO dX1_addSingle_33 rfl ?_
  refine x_iret hO hR dX1_addSingle_35 rfl ?_
  refine ⟨rfl, ?_⟩
  have h5 := mSt.tr h3 h4
  rw [h3.1, h3.2.1] at h5
  exact h5
/-! ===== the small checks of TernaryMatcher ===== -/
theorem k_isBank (U : xP) (M : xM) (x : Int32) : xMetI U mX3_isBank [.inl x] M (fun r M' => r = bI (ixB x 4) ∧ M' = M) := by
  refine xMetI.of (ty := .boolean) (L := [some (.inl x)]) fX3_isBank rfl rfl (Nat.le_of_ble_eq_true rfl) (fun G hN hO hR => ?_)
  have hN : G.2.2.2.2.2.2.2.2.2.2.1 = 1 := hN
  have hO : xOK U G RX3 cX3_isBank 0 := hO
  refine x_iload_n hO dX3_isBank_0 rfl rfl ?_
  refine x_if_lt (tgt := 13) hO dX3_isBank_1 (by decide) (fun c => ?_) (fun c => ?_)
  · refine x_iconst (v := nI 0) hO dX3_isBank_13 rfl ?_
    refine x_iret hO hR dX3_isBank_14 rfl ?_
    exact ⟨bI_f (ixB_lo c), rfl⟩
  · refine x_iload_n hO dX3_isBank_4 rfl rfl ?_
    refine x_iconst (v := nI 4) hO dX3_isBank_5 rfl ?_
    refine x_icmp_ge (tgt := 13) hO dX3_isBank_6 (by decide) (fun c2 => ?_) (fun c2 => ?_)
    · refine x_iconst (v := nI 0) hO dX3_isBank_13 rfl ?_
      refine x_iret hO hR dX3_isBank_14 rfl ?_
      exact ⟨bI_f (ixB_hi c2), rfl⟩
    · refine x_iconst (v := nI 1) hO dX3_isBank_9 rfl ?_
      refine x_goto (tgt := 14) hO dX3_isBank_10 (by decide) ?_
      refine x_iret hO hR dX3_isBank_14 rfl ?_
      exact ⟨bI_t (ixB_in c c2), rfl⟩
theorem k_isKey (U : xP) (M : xM) (x : Int32) : xMetI U mX3_isKey [.inl x] M (fun r M' => r = bI (ixB x 256) ∧ M' = M) := by
  refine xMetI.of (ty := .boolean) (L := [some (.inl x)]) fX3_isKey rfl rfl (Nat.le_of_ble_eq_true rfl) (fun G hN hO hR => ?_)
  have hN : G.2.2.2.2.2.2.2.2.2.2.1 = 1 := hN
  have hO : xOK U G RX3 cX3_isKey 0 := hO
  refine x_iload_n hO dX3_isKey_0 rfl rfl ?_
  refine x_if_lt (tgt := 15) hO dX3_isKey_1 (by decide) (fun c => ?_) (fun c => ?_)
  · refine x_iconst (v := nI 0) hO dX3_isKey_15 rfl ?_
    refine x_iret hO hR dX3_isKey_16 rfl ?_
    exact ⟨bI_f (ixB_lo c), rfl⟩
  · refine x_iload_n hO dX3_isKey_4 rfl rfl ?_
    refine x_sipush (v := nI 256) hO dX3_isKey_5 rfl ?_
    refine x_icmp_ge (tgt := 15) hO dX3_isKey_8 (by decide) (fun c2 => ?_) (fun c2 => ?_)
    · refine x_iconst (v := nI 0) hO dX3_isKey_15 rfl ?_
      refine x_iret hO hR dX3_isKey_16 rfl ?_
      exact ⟨bI_f (ixB_hi c2), rfl⟩
    · refine x_iconst (v := nI 1) hO dX3_isKey_11 rfl ?_
      refine x_goto (tgt := 16) hO dX3_isKey_12 (by decide) ?_
      refine x_iret hO hR dX3_isKey_16 rfl ?_
      exact ⟨bI_t (ixB_in c c2), rfl⟩
theorem k_isRank (U : xP) (M : xM) (x : Int32) : xMetI U mX3_isRank [.inl x] M (fun r M' => r = bI (ixB x 100) ∧ M' = M) := by
  refine xMetI.of (ty := .boolean) (L := [some (.inl x)]) fX3_isRank rfl rfl (Nat.le_of_ble_eq_true rfl) (fun G hN hO hR => ?_)
  have hN : G.2.2.2.2.2.2.2.2.2.2.1 = 1 := hN
  have hO : xOK U G RX3 cX3_isRank 0 := hO
  refine x_iload_n hO dX3_isRank_0 rfl rfl ?_
  refine x_if_lt (tgt := 14) hO dX3_isRank_1 (by decide) (fun c => ?_) (fun c => ?_)
  · refine x_iconst (v := nI 0) hO dX3_isRank_14 rfl ?_
    refine x_iret hO hR dX3_isRank_15 rfl ?_
    exact ⟨bI_f (ixB_lo c), rfl⟩
  · refine x_iload_n hO dX3_isRank_4 rfl rfl ?_
    refine x_bipush (v := nI 100) hO dX3_isRank_5 rfl ?_
    refine x_icmp_ge (tgt := 14) hO dX3_isRank_7 (by decide) (fun c2 => ?_) (fun c2 => ?_)
    · refine x_iconst (v := nI 0) hO dX3_isRank_14 rfl ?_
      refine x_iret hO hR dX3_isRank_15 rfl ?_
      exact ⟨bI_f (ixB_hi c2), rfl⟩
    · refine x_iconst (v := nI 1) hO dX3_isRank_10 rfl ?_
      refine x_goto (tgt := 15) hO dX3_isRank_11 (by decide) ?_
      refine x_iret hO hR dX3_isRank_15 rfl ?_
      exact ⟨bI_t (ixB_in c c2), rfl⟩
theorem k_isAction (U : xP) (M : xM) (x : Int32) : xMetI U mX3_isAction [.inl x] M (fun r M' => r = bI (ixB x 10) ∧ M' = M) := by
  refine xMetI.of (ty := .boolean) (L := [some (.inl x)]) fX3_isAction rfl rfl (Nat.le_of_ble_eq_true rfl) (fun G hN hO hR => ?_)
  have hN : G.2.2.2.2.2.2.2.2.2.2.1 = 1 := hN
  have hO : xOK U G RX3 cX3_isAction 0 := hO
  refine x_iload_n hO dX3_isAction_0 rfl rfl ?_
  refine x_if_lt (tgt := 14) hO dX3_isAction_1 (by decide) (fun c => ?_) (fun c => ?_)
  · refine x_iconst (v := nI 0) hO dX3_isAction_14 rfl ?_
    refine x_iret hO hR dX3_isAction_15 rfl ?_
    exact ⟨bI_f (ixB_lo c), rfl⟩
  · refine x_iload_n hO dX3_isAction_4 rfl rfl ?_
    refine x_bipush (v := nI 10) hO dX3_isAction_5 rfl ?_
    refine x_icmp_ge (tgt := 14) hO dX3_isAction_7 (by decide) (fun c2 => ?_) (fun c2 => ?_)
    · refine x_iconst (v := nI 0) hO dX3_isAction_14 rfl ?_
      refine x_iret hO hR dX3_isAction_15 rfl ?_
      exact ⟨bI_f (ixB_hi c2), rfl⟩
    · refine x_iconst (v := nI 1) hO dX3_isAction_10 rfl ?_
      refine x_goto (tgt := 15) hO dX3_isAction_11 (by decide) ?_
      refine x_iret hO hR dX3_isAction_15 rfl ?_
      exact ⟨bI_t (ixB_in c c2), rfl⟩
def rgB (x y : Int32) : Bool := ixB x 256 && ixB y 256 && decide (x ≤ y)
theorem k_isRange (U : xP) (M : xM) (x y : Int32) : xMetI U mX3_isRange [.inl x, .inl y] M (fun r M' => r = bI (rgB x y) ∧ M' = M) := by
  refine xMetI.of (ty := .boolean) (L := [some (.inl x), some (.inl y)]) fX3_isRange rfl rfl (Nat.le_of_ble_eq_true rfl) (fun G hN hO hR => ?_)
  have hN : G.2.2.2.2.2.2.2.2.2.2.1 = 2 := hN
  have hO : xOK U G RX3 cX3_isRange 1 := hO
  refine x_iload_n hO dX3_isRange_0 rfl rfl ?_
  refine x_callS1 hO (k_isKey U M x) dX3_isRange_1 lkX3_37 fX3_isKey sX3_isKey rfl rfl (by decide) (Nat.le_of_ble_eq_true rfl) ?_
  refine x_if_eq (tgt := 23) hO dX3_isRange_4 (by decide) (fun c => ?_) (fun c => ?_)
  · refine x_iconst (v := nI 0) hO dX3_isRange_23 rfl ?_
    refine x_iret hO hR dX3_isRange_24 rfl ?_
    exact ⟨bI_f (by simp [rgB, bI_0 c]), rfl⟩
  · refine x_iload_n hO dX3_isRange_7 rfl rfl ?_
    refine x_callS1 hO (k_isKey U M y) dX3_isRange_8 lkX3_37 fX3_isKey sX3_isKey rfl rfl (by decide) (Nat.le_of_ble_eq_true rfl) ?_
    refine x_if_eq (tgt := 23) hO dX3_isRange_11 (by decide) (fun c2 => ?_) (fun c2 => ?_)
    · refine x_iconst (v := nI 0) hO dX3_isRange_23 rfl ?_
      refine x_iret hO hR dX3_isRange_24 rfl ?_
      exact ⟨bI_f (by simp [rgB, bI_0 c2]), rfl⟩
    · refine x_iload_n hO dX3_isRange_14 rfl rfl ?_
      refine x_iload_n hO dX3_isRange_15 rfl rfl ?_
      refine x_icmp_gt (tgt := 23) hO dX3_isRange_16 (by decide) (fun c3 => ?_) (fun c3 => ?_)
      · refine x_iconst (v := nI 0) hO dX3_isRange_23 rfl ?_
        refine x_iret hO hR dX3_isRange_24 rfl ?_
        exact ⟨bI_f (by simp [rgB, Int32.not_le.mpr c3]), rfl⟩
      · refine x_iconst (v := nI 1) hO dX3_isRange_19 rfl ?_
        refine x_goto (tgt := 24) hO dX3_isRange_20 (by decide) ?_
        refine x_iret hO hR dX3_isRange_24 rfl ?_
        exact ⟨bI_t (by simp [rgB, bI_1 c, bI_1 c2, Int32.not_lt.mp c3]), rfl⟩
/-- the sort of a mask -/
def aSo (m : Int32) : Int32 := if m = nI 255 then nI 0 else if (nI 255 - m) &&& ((nI 255 - m) + nI 1) = 0 then nI 1 else nI 2
theorem k_sortOfMask (U : xP) (M : xM) (x : Int32) : xMetI U mX3_sortOfMask [.inl x] M (fun r M' => r = aSo x ∧ M' = M) := by
  refine xMetI.of (ty := .int) (L := [some (.inl x), none]) fX3_sortOfMask rfl rfl (Nat.le_of_ble_eq_true rfl) (fun G hN hO hR => ?_)
  have hN : G.2.2.2.2.2.2.2.2.2.2.1 = 2 := hN
  have hO : xOK U G RX3 cX3_sortOfMask 0 := hO
  unfold aSo at hR
  refine x_iload_n hO dX3_sortOfMask_0 rfl rfl ?_
  refine x_sipush (v := nI 255) hO dX3_sortOfMask_1 rfl ?_
  refine x_icmp_ne (tgt := 9) hO dX3_sortOfMask_4 (by decide) (fun c => ?_) (fun c => ?_)
  · rw [if_neg c] at hR
    refine x_sipush (v := nI 255) hO dX3_sortOfMask_9 rfl ?_
    refine x_iload_n hO dX3_sortOfMask_12 rfl rfl ?_
    refine x_isub hO dX3_sortOfMask_13 ?_
    refine x_istore_n (n := 2) hO dX3_sortOfMask_14 rfl rfl (by decide) hN ?_
    refine x_iload_n hO dX3_sortOfMask_15 rfl rfl ?_
    refine x_iload_n hO dX3_sortOfMask_16 rfl rfl ?_
    refine x_iconst (v := nI 1) hO dX3_sortOfMask_17 rfl ?_
    refine x_iadd hO dX3_sortOfMask_18 ?_
    refine x_iand hO dX3_sortOfMask_19 ?_
    refine x_if_ne (tgt := 27) hO dX3_sortOfMask_20 (by decide) (fun c2 => ?_) (fun c2 => ?_)
    · rw [if_neg c2] at hR
      refine x_iconst (v := nI 2) hO dX3_sortOfMask_27 rfl ?_
      refine x_iret hO hR dX3_sortOfMask_28 rfl ?_
      exact ⟨rfl, rfl⟩
    · rw [if_pos c2] at hR
      refine x_iconst (v := nI 1) hO dX3_sortOfMask_23 rfl ?_
      refine x_goto (tgt := 28) hO dX3_sortOfMask_24 (by decide) ?_
      refine x_iret hO hR dX3_sortOfMask_28 rfl ?_
      exact ⟨rfl, rfl⟩
  · rw [if_pos c] at hR
    refine x_iconst (v := nI 0) hO dX3_sortOfMask_7 rfl ?_
    refine x_iret hO hR dX3_sortOfMask_8 rfl ?_
    exact ⟨rfl, rfl⟩
/-! ===== blocks ===== -/
/-- the size of a block that begins with f and has s keys already, at most d times twice as many -/
def bsz (f h : Nat) : Nat → Nat → Nat
  | s, 0 => s
  | s, d + 1 => if f % (2 * s) = 0 ∧ f + 2 * s - 1 ≤ h then bsz f h (2 * s) d else s
def bS (f h : Nat) : Nat := bsz f h 1 8
theorem bsz_le (f h : Nat) : ∀ d s, s ≤ bsz f h s d ∧ bsz f h s d ≤ s * 2 ^ d
  | 0, s => by simp [bsz]
  | d + 1, s => by
    have := bsz_le f h d (2 * s)
    have e : s * 2 ^ (d + 1) = 2 * s * 2 ^ d := by rw [Nat.pow_succ]; ac_rfl
    have e2 : s ≤ s * 2 ^ (d + 1) := Nat.le_mul_of_pos_right _ (Nat.pow_pos (by decide))
    simp only [bsz]
    split <;> omega
theorem bS_le (f h : Nat) : 1 ≤ bS f h ∧ bS f h ≤ 256 := bsz_le f h 8 1
theorem pow_lt31 {k : Nat} (h : k ≤ 9) : 2 ^ k ≤ 512 := Nat.pow_le_pow_right (n := 2) (by decide) h
theorem k_blockSize (U : xP) (M : xM) {f h : Nat} (hf : f < 512) (hh : h < 256) : xMetI U mX3_blockSize [.inl (nI f), .inl (nI h)] M (fun r M' => r = nI (bS f h) ∧ M' = M) := by
  refine xMetI.of (ty := .int) (L := [some (.inl (nI f)), some (.inl (nI h)), none, none]) fX3_blockSize rfl rfl (Nat.le_of_ble_eq_true rfl) (fun G hN hO hR => ?_)
  have hN : G.2.2.2.2.2.2.2.2.2.2.1 = 4 := hN
  have hO : xOK U G RX3 cX3_blockSize 0 := hO
  generalize hg : bS f h = g at hR
  refine x_iconst (v := nI 1) hO dX3_blockSize_0 rfl ?_
  refine x_istore_n (n := 4) hO dX3_blockSize_1 rfl rfl (by decide) hN ?_
  refine x_iconst (v := nI 2) hO dX3_blockSize_2 rfl ?_
  refine x_istore_n (n := 4) hO dX3_blockSize_3 rfl rfl (by decide) hN ?_
  refine upd_ind (P := fun k d => bsz f h (2 ^ k) d = g → XW U G 4 [some (.inl (nI f)), some (.inl (nI h)), some (.inl (nI (2 ^ k))), some (.inl (nI (2 ^ k * 2)))] [] M) 8 ?_ ?_ 8 0 rfl hg
  · intro hg
    refine x_iload_n hO dX3_blockSize_4 rfl rfl ?_
    refine x_sipush (v := nI 256) hO dX3_blockSize_5 rfl ?_
    refine x_icmp_gt (tgt := 39) hO dX3_blockSize_8 (by decide) (fun c => ?_) (fun c => ?_)
    · refine x_iload_n hO dX3_blockSize_39 rfl rfl ?_
      refine x_iret hO hR dX3_blockSize_40 rfl ?_
      exact ⟨by rw [← hg]; rfl, rfl⟩
    · exact absurd (nI_lt (by decide) (by decide)) c
  · intro k d hd ih hg
    have hk := pow_lt31 (k := k + 1) (by omega)
    have hk0 : 0 < 2 ^ k := Nat.pow_pos (by decide)
    have hk2 : 2 ^ (k + 1) = 2 ^ k * 2 := Nat.pow_succ ..
    have hk8 : 2 ^ (k + 1) ≤ 256 := by have := Nat.pow_le_pow_right (n := 2) (by decide) (show k + 1 ≤ 8 by omega); omega
    simp only [bsz] at hg
    refine x_iload_n hO dX3_blockSize_4 rfl rfl ?_
    refine x_sipush (v := nI 256) hO dX3_blockSize_5 rfl ?_
    refine x_icmp_gt (tgt := 39) hO dX3_blockSize_8 (by decide) (fun c => ?_) (fun c => ?_)
    · exact absurd c (nI_nlt (by omega) (by omega))
    · refine x_iload_n hO dX3_blockSize_11 rfl rfl ?_
      refine x_iload_n hO dX3_blockSize_12 rfl rfl ?_
      refine x_iconst (v := nI 1) hO dX3_blockSize_13 rfl ?_
      refine x_isub hO dX3_blockSize_14 ?_
      rw [pk_sub (by omega)]
      refine x_iand hO dX3_blockSize_15 ?_
      rw [pk_andN (by omega) (k + 1) (by rw [pk_tn (by omega)]; omega)]
      have em : f % 2 ^ (k + 1) < 512 := by have := Nat.mod_lt f (show 0 < 2 ^ (k + 1) by omega); omega
      rw [hk2] at em ⊢
      rw [show 2 * 2 ^ k = 2 ^ k * 2 from Nat.mul_comm ..] at hg
      refine x_if_ne (tgt := 28) hO dX3_blockSize_16 (by decide) (fun c2 => ?_) (fun c2 => ?_)
      · refine x_iload_n hO dX3_blockSize_28 rfl rfl ?_
        refine x_iret hO hR dX3_blockSize_29 rfl ?_
        exact ⟨by rw [← hg, if_neg (fun z => c2 (by rw [z.1]; rfl))], rfl⟩
      · have q : f % (2 ^ k * 2) = 0 := (nI_eq (b := 0) (by omega) (by decide)).mp c2
        refine x_iload_n hO dX3_blockSize_19 rfl rfl ?_
        refine x_iload_n hO dX3_blockSize_20 rfl rfl ?_
        refine x_iadd hO dX3_blockSize_21 ?_
        rw [nI_add]
        refine x_iconst (v := nI 1) hO dX3_blockSize_22 rfl ?_
        refine x_isub hO dX3_blockSize_23 ?_
        rw [pk_sub (by omega)]
        refine x_iload_n hO dX3_blockSize_24 rfl rfl ?_
        refine x_icmp_le (tgt := 30) hO dX3_blockSize_25 (by decide) (fun c3 => ?_) (fun c3 => ?_)
        · have q3 : f + 2 ^ k * 2 - 1 ≤ h := (nI_leI (by omega) (by omega)).mp c3
          rw [if_pos ⟨q, q3⟩] at hg
          refine x_iload_n hO dX3_blockSize_30 rfl rfl ?_
          refine x_istore_n (n := 4) hO dX3_blockSize_31 rfl rfl (by decide) hN ?_
          refine x_iload_n hO dX3_blockSize_32 rfl rfl ?_
          refine x_iconst (v := nI 2) hO dX3_blockSize_33 rfl ?_
          refine x_imul hO dX3_blockSize_34 ?_
          rw [pk_mul]
          refine x_istore_n (n := 4) hO dX3_blockSize_35 rfl rfl (by decide) hN ?_
          refine x_goto (tgt := 4) hO dX3_blockSize_36 (by decide) ?_
          rw [hk2] at ih
          exact ih hg
        · have q3 : ¬ f + 2 ^ k * 2 - 1 ≤ h := fun z => c3 ((nI_leI (by omega) (by omega)).mpr z)
          refine x_iload_n hO dX3_blockSize_28 rfl rfl ?_
          refine x_iret hO hR dX3_blockSize_29 rfl ?_
          exact ⟨by rw [← hg, if_neg (fun z => q3 z.2)], rfl⟩
/-- how many blocks from f to h, at most d -/
def bCn (h : Nat) : Nat → Nat → Nat
  | _, 0 => 0
  | f, d + 1 => if h < f then 0 else bCn h (f + bS f h) d + 1
/-- the place of the first key behind k blocks from f on -/
theorem bsz_fit (f h : Nat) : ∀ d s, f + s - 1 ≤ h → f + bsz f h s d - 1 ≤ h
  | 0, s, q => q
  | d + 1, s, q => by
    simp only [bsz]
    split
    · rename_i z
      exact bsz_fit f h d (2 * s) z.2
    · exact q
theorem bS_fit {f h : Nat} (q : f ≤ h) : f + bS f h ≤ h + 1 := by
  have := bsz_fit f h 8 1 (by omega)
  have := (bS_le f h).1
  unfold bS at *
  omega
theorem k_blocksOf (U : xP) (M : xM) {f h : Nat} (hf : f < 256) (hh : h < 256) : xMetI U mX3_blocksOf [.inl (nI f), .inl (nI h)] M (fun r M' => r = nI (bCn h f 14) ∧ M' = M) := by
  refine xMetI.of (ty := .int) (L := [some (.inl (nI f)), some (.inl (nI h)), none, none]) fX3_blocksOf rfl rfl (Nat.le_of_ble_eq_true rfl) (fun G hN hO hR => ?_)
  have hN : G.2.2.2.2.2.2.2.2.2.2.1 = 4 := hN
  have hO : xOK U G RX3 cX3_blocksOf 1 := hO
  generalize hg : bCn h f 14 = g at hR
  refine x_iload_n hO dX3_blocksOf_0 rfl rfl ?_
  refine x_istore_n (n := 4) hO dX3_blocksOf_1 rfl rfl (by decide) hN ?_
  refine x_iconst (v := nI 0) hO dX3_blocksOf_2 rfl ?_
  refine x_istore_n (n := 4) hO dX3_blocksOf_3 rfl rfl (by decide) hN ?_
  refine upd_ind (P := fun i d => ∀ f1, f1 ≤ 256 → i + bCn h f1 d = g → XW U G 4 [some (.inl (nI f)), some (.inl (nI h)), some (.inl (nI f1)), some (.inl (nI i))] [] M) 14 ?_ ?_ 14 0 rfl f (by omega) (by omega)
  · intro f1 hf1 hg
    refine x_iload_n hO dX3_blocksOf_4 rfl rfl ?_
    refine x_bipush (v := nI 14) hO dX3_blocksOf_5 rfl ?_
    refine x_icmp_ge (tgt := 31) hO dX3_blocksOf_7 (by decide) (fun c => ?_) (fun c => ?_)
    · refine x_bipush (v := nI 14) hO dX3_blocksOf_31 rfl ?_
      refine x_iret hO hR dX3_blocksOf_33 rfl ?_
      exact ⟨by rw [← hg]; rfl, rfl⟩
    · exact absurd (Int32.le_refl _) c
  · intro i d hd ih f1 hf1 hg
    simp only [bCn] at hg
    refine x_iload_n hO dX3_blocksOf_4 rfl rfl ?_
    refine x_bipush (v := nI 14) hO dX3_blocksOf_5 rfl ?_
    refine x_icmp_ge (tgt := 31) hO dX3_blocksOf_7 (by decide) (fun c => ?_) (fun c => ?_)
    · exact absurd c (nI_ge (by omega) (by decide))
    · refine x_iload_n hO dX3_blocksOf_10 rfl rfl ?_
      refine x_iload_n hO dX3_blocksOf_11 rfl rfl ?_
      refine x_icmp_le (tgt := 17) hO dX3_blocksOf_12 (by decide) (fun c2 => ?_) (fun c2 => ?_)
      · have q : f1 ≤ h := (nI_leI (by omega) (by omega)).mp c2
        have q2 := bS_fit q
        rw [if_neg (by omega)] at hg
        refine x_iload_n hO dX3_blocksOf_17 rfl rfl ?_
        refine x_iload_n hO dX3_blocksOf_18 rfl rfl ?_
        refine x_iload_n hO dX3_blocksOf_19 rfl rfl ?_
        refine x_callS1 hO (k_blockSize U M (f := f1) (h := h) (by omega) hh) dX3_blocksOf_20 lkX3_207 fX3_blockSize sX3_blockSize rfl rfl (by decide) (Nat.le_of_ble_eq_true rfl) ?_
        refine x_iadd hO dX3_blocksOf_23 ?_
        rw [nI_add]
        refine x_istore_n (n := 4) hO dX3_blocksOf_24 rfl rfl (by decide) hN ?_
        refine x_iinc hO dX3_blocksOf_25 rfl (by first | exact xinc_n _ | rfl) rfl hN ?_
        refine x_goto (tgt := 4) hO dX3_blocksOf_28 (by decide) ?_
        exact ih _ (by omega) (by omega)
      · have q : ¬ f1 ≤ h := fun z => c2 ((nI_leI (by omega) (by omega)).mpr z)
        rw [if_pos (by omega)] at hg
        refine x_iload_n hO dX3_blocksOf_15 rfl rfl ?_
        refine x_iret hO hR dX3_blocksOf_16 rfl ?_
        exact ⟨by rw [← hg]; rfl, rfl⟩
