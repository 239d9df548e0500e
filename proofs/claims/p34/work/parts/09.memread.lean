/-! ===== what is asked of a memory's rows ===== -/
theorem nC_add (P : Nat → Bool) (m : Nat) : ∀ n, nC P (m + n) = nC P m + nC (fun i => P (m + i)) n
  | 0 => rfl
  | n + 1 => by
    have := nC_add P m n
    rw [show m + (n + 1) = (m + n) + 1 from rfl]
    simp only [nC, this]
    omega
abbrev aR : Type := Nat → Nat → Int32
def aBank (A : aR) (b : Nat) : Nat := nC (fun i => aoc A (b * 8 + i)) 8
def aCnt (A : aR) : Nat := nC (aoc A) 32
theorem aCnt_s (A : aR) (b : Nat) : nC (aoc A) ((b + 1) * 8) = nC (aoc A) (b * 8) + aBank A b := by
  rw [show (b + 1) * 8 = b * 8 + 8 from by omega, nC_add]
  rfl
def pP0 (A : aR) (s : Nat) : Bool := aoc A s && (A s 1 == 0)
def pRule (A : aR) (r : Int32) (s : Nat) : Bool := aoc A s && (A s 0 == r)
def pPart (A : aR) (r q : Int32) (s : Nat) : Bool := aoc A s && (A s 0 == r && A s 1 == q)
def pUp (A : aR) (r : Int32) (s : Nat) : Bool := aoc A s && decide (A s 4 ≤ r)
def pBy (A : aR) (r : Int32) (s : Nat) : Bool := aoc A s && decide (r < A s 4)
def pKey (A : aR) (k : Int32) (s : Nat) : Bool := aoc A s && (k &&& A s 2 == A s 3)
/-- a slot, or -1 -/
def aN (f : Nat) : Int32 := if f < 32 then nI f else -1
def aFd (A : aR) (k : Int32) : Nat := nF (pKey A k) 0 32
theorem k_entriesInBank (U : xP) (M : xM) {b : Nat} (hb : b < 4) : xMetI U mX1_entriesInBank [.inr 16, .inl (nI b)] M (fun r M' => r = nI (aBank (cA M 16) b) ∧ M' = M) := by
  refine xMetI.of (ty := .int) (L := [some (.inr 16), some (.inl (nI b)), none, none]) fX1_entriesInBank rfl rfl (Nat.le_of_ble_eq_true rfl) (fun G hN hO hR => ?_)
  have hN : G.2.2.2.2.2.2.2.2.2.2.1 = 4 := hN
  have hO : xOK U G RX1 cX1_entriesInBank 1 := hO
  refine x_iconst (v := nI 0) hO dX1_entriesInBank_0 rfl ?_
  refine x_istore_n (n := 4) hO dX1_entriesInBank_1 rfl rfl (by decide) hN ?_
  refine x_iconst (v := nI 0) hO dX1_entriesInBank_2 rfl ?_
  refine x_istore_n (n := 4) hO dX1_entriesInBank_3 rfl rfl (by decide) hN ?_
  refine upd_ind (P := fun i _ => XW U G 4 [some (.inr 16), some (.inl (nI b)), some (.inl (nI (nC (fun i => aoc (cA M 16) (b * 8 + i)) i))), some (.inl (nI i))] [] M) 8 ?_ ?_ 8 0 rfl
  · refine x_iload_n hO dX1_entriesInBank_4 rfl rfl ?_
    refine x_bipush (v := nI 8) hO dX1_entriesInBank_5 rfl ?_
    refine x_icmp_ge (tgt := 32) hO dX1_entriesInBank_7 (by decide) (fun c => ?_) (fun c => ?_)
    · refine x_iload_n hO dX1_entriesInBank_32 rfl rfl ?_
      refine x_iret hO hR dX1_entriesInBank_33 rfl ?_
      exact ⟨rfl, rfl⟩
    · exact absurd (Int32.le_refl _) c
  · intro i d hd ih
    refine x_iload_n hO dX1_entriesInBank_4 rfl rfl ?_
    refine x_bipush (v := nI 8) hO dX1_entriesInBank_5 rfl ?_
    refine x_icmp_ge (tgt := 32) hO dX1_entriesInBank_7 (by decide) (fun c => ?_) (fun c => ?_)
    · exact absurd c (nI_ge (by omega) (by decide))
    · refine x_aload_n hO dX1_entriesInBank_10 rfl rfl ?_
      refine x_iload_n hO dX1_entriesInBank_11 rfl rfl ?_
      refine x_bipush (v := nI 8) hO dX1_entriesInBank_12 rfl ?_
      refine x_imul hO dX1_entriesInBank_14 ?_
      refine x_iload_n hO dX1_entriesInBank_15 rfl rfl ?_
      refine x_iadd hO dX1_entriesInBank_16 ?_
      rw [pk_mul, nI_add]
      refine x_callV1 hO (k_holds M (i := b * 8 + i) (by omega)) dX1_entriesInBank_17 lkX1_53 fX1_holdsEntry vX1_holdsEntry (by decide) rfl rfl rfl rfl rfl (by decide) (Nat.le_of_ble_eq_true rfl) ?_
      refine x_if_eq (tgt := 26) hO dX1_entriesInBank_20 (by decide) (fun c2 => ?_) (fun c2 => ?_)
      · refine x_iinc hO dX1_entriesInBank_26 rfl (by first | exact xinc_n _ | rfl) rfl hN ?_
        refine x_goto (tgt := 4) hO dX1_entriesInBank_29 (by decide) ?_
        rw [nC_f (P := fun i => aoc (cA M 16) (b * 8 + i)) (bI_0 c2)] at ih
        exact ih
      · refine x_iinc hO dX1_entriesInBank_23 rfl (by first | exact xinc_n _ | rfl) rfl hN ?_
        refine x_iinc hO dX1_entriesInBank_26 rfl (by first | exact xinc_n _ | rfl) rfl hN ?_
        refine x_goto (tgt := 4) hO dX1_entriesInBank_29 (by decide) ?_
        rw [nC_t (P := fun i => aoc (cA M 16) (b * 8 + i)) (bI_1 c2)] at ih
        exact ih
theorem k_entries (U : xP) (M : xM) : xMetI U mX1_entries [.inr 16] M (fun r M' => r = nI (aCnt (cA M 16)) ∧ M' = M) := by
  refine xMetI.of (ty := .int) (L := [some (.inr 16), none, none]) fX1_entries rfl rfl (Nat.le_of_ble_eq_true rfl) (fun G hN hO hR => ?_)
  have hN : G.2.2.2.2.2.2.2.2.2.2.1 = 3 := hN
  have hO : xOK U G RX1 cX1_entries 2 := hO
  refine x_iconst (v := nI 0) hO dX1_entries_0 rfl ?_
  refine x_istore_n (n := 3) hO dX1_entries_1 rfl rfl (by decide) hN ?_
  refine x_iconst (v := nI 0) hO dX1_entries_2 rfl ?_
  refine x_istore_n (n := 3) hO dX1_entries_3 rfl rfl (by decide) hN ?_
  refine upd_ind (P := fun i _ => XW U G 4 [some (.inr 16), some (.inl (nI (nC (aoc (cA M 16)) (i * 8)))), some (.inl (nI i))] [] M) 4 ?_ ?_ 4 0 rfl
  · refine x_iload_n hO dX1_entries_4 rfl rfl ?_
    refine x_iconst (v := nI 4) hO dX1_entries_5 rfl ?_
    refine x_icmp_ge (tgt := 23) hO dX1_entries_6 (by decide) (fun c => ?_) (fun c => ?_)
    · refine x_iload_n hO dX1_entries_23 rfl rfl ?_
      refine x_iret hO hR dX1_entries_24 rfl ?_
      exact ⟨rfl, rfl⟩
    · exact absurd (Int32.le_refl _) c
  · intro i d hd ih
    refine x_iload_n hO dX1_entries_4 rfl rfl ?_
    refine x_iconst (v := nI 4) hO dX1_entries_5 rfl ?_
    refine x_icmp_ge (tgt := 23) hO dX1_entries_6 (by decide) (fun c => ?_) (fun c => ?_)
    · exact absurd c (nI_ge (by omega) (by decide))
    · refine x_iload_n hO dX1_entries_9 rfl rfl ?_
      refine x_aload_n hO dX1_entries_10 rfl rfl ?_
      refine x_iload_n hO dX1_entries_11 rfl rfl ?_
      refine x_callV1 hO (k_entriesInBank U M (b := i) (by omega)) dX1_entries_12 lkX1_56 fX1_entriesInBank vX1_entriesInBank (by decide) rfl rfl rfl rfl rfl (by decide) (Nat.le_of_ble_eq_true rfl) ?_
      refine x_iadd hO dX1_entries_15 ?_
      rw [nI_add, ← aCnt_s]
      refine x_istore_n (n := 3) hO dX1_entries_16 rfl rfl (by decide) hN ?_
      refine x_iinc hO dX1_entries_17 rfl (by first | exact xinc_n _ | rfl) rfl hN ?_
      refine x_goto (tgt := 4) hO dX1_entries_20 (by decide) ?_
      exact ih
theorem aCnt_le (A : aR) : aCnt A ≤ 32 := nC_le _ _
theorem k_freeSlots (U : xP) (M : xM) : xMetI U mX1_freeSlots [.inr 16] M (fun r M' => r = nI (32 - aCnt (cA M 16)) ∧ M' = M) := by
  refine xMetI.of (ty := .int) (L := [some (.inr 16)]) fX1_freeSlots rfl rfl (Nat.le_of_ble_eq_true rfl) (fun G hN hO hR => ?_)
  have hN : G.2.2.2.2.2.2.2.2.2.2.1 = 1 := hN
  have hO : xOK U G RX1 cX1_freeSlots 3 := hO
  refine x_bipush (v := nI 32) hO dX1_freeSlots_0 rfl ?_
  refine x_aload_n hO dX1_freeSlots_2 rfl rfl ?_
  refine x_callV1 hO (k_entries U M) dX1_freeSlots_3 lkX1_60 fX1_entries vX1_entries (by decide) rfl rfl rfl rfl rfl (by decide) (Nat.le_of_ble_eq_true rfl) ?_
  refine x_isub hO dX1_freeSlots_6 ?_
  rw [pk_sub (aCnt_le _)]
  refine x_iret hO hR dX1_freeSlots_7 rfl ?_
  exact ⟨rfl, rfl⟩
theorem k_rules (U : xP) (M : xM) : xMetI U mX1_rules [.inr 16] M (fun r M' => r = nI (nC (pP0 (cA M 16)) 32) ∧ M' = M) := by
  refine xMetI.of (ty := .int) (L := [some (.inr 16), none, none]) fX1_rules rfl rfl (Nat.le_of_ble_eq_true rfl) (fun G hN hO hR => ?_)
  have hN : G.2.2.2.2.2.2.2.2.2.2.1 = 3 := hN
  have hO : xOK U G RX1 cX1_rules 1 := hO
  refine x_iconst (v := nI 0) hO dX1_rules_0 rfl ?_
  refine x_istore_n (n := 3) hO dX1_rules_1 rfl rfl (by decide) hN ?_
  refine x_iconst (v := nI 0) hO dX1_rules_2 rfl ?_
  refine x_istore_n (n := 3) hO dX1_rules_3 rfl rfl (by decide) hN ?_
  refine upd_ind (P := fun i _ => XW U G 4 [some (.inr 16), some (.inl (nI (nC (pP0 (cA M 16)) i))), some (.inl (nI i))] [] M) 32 ?_ ?_ 32 0 rfl
  · refine x_iload_n hO dX1_rules_4 rfl rfl ?_
    refine x_bipush (v := nI 32) hO dX1_rules_5 rfl ?_
    refine x_icmp_ge (tgt := 36) hO dX1_rules_7 (by decide) (fun c => ?_) (fun c => ?_)
    · refine x_iload_n hO dX1_rules_36 rfl rfl ?_
      refine x_iret hO hR dX1_rules_37 rfl ?_
      exact ⟨rfl, rfl⟩
    · exact absurd (Int32.le_refl _) c
  · intro i d hd ih
    have hi : i < 32 := by omega
    refine x_iload_n hO dX1_rules_4 rfl rfl ?_
    refine x_bipush (v := nI 32) hO dX1_rules_5 rfl ?_
    refine x_icmp_ge (tgt := 36) hO dX1_rules_7 (by decide) (fun c => ?_) (fun c => ?_)
    · exact absurd c (nI_ge hi (by decide))
    · refine x_aload_n hO dX1_rules_10 rfl rfl ?_
      refine x_iload_n hO dX1_rules_11 rfl rfl ?_
      refine x_callV1 hO (k_holds M hi) dX1_rules_12 lkX1_53 fX1_holdsEntry vX1_holdsEntry (by decide) rfl rfl rfl rfl rfl (by decide) (Nat.le_of_ble_eq_true rfl) ?_
      refine x_if_eq (tgt := 30) hO dX1_rules_15 (by decide) (fun c2 => ?_) (fun c2 => ?_)
      · refine x_iinc hO dX1_rules_30 rfl (by first | exact xinc_n _ | rfl) rfl hN ?_
        refine x_goto (tgt := 4) hO dX1_rules_33 (by decide) ?_
        rw [nC_f (by simp [pP0, bI_0 c2])] at ih
        exact ih
      · have e : M 18 i = cA M 16 i 1 := cA_in (w := 1) (bI_1 c2) (by decide)
        refine x_aload_n hO dX1_rules_18 rfl rfl ?_
        refine x_getR (T := TX1) (j := 1) hO dX1_rules_19 flX1_15 (by decide) rfl rfl (by decide) rfl rfl ?_
        refine x_iload_n hO dX1_rules_22 rfl rfl ?_
        refine x_iald hO (by decide) rfl (by decide) (rfl) (hi) dX1_rules_23 ?_
        refine x_if_ne (tgt := 30) hO dX1_rules_24 (by decide) (fun c3 => ?_) (fun c3 => ?_)
        · refine x_iinc hO dX1_rules_30 rfl (by first | exact xinc_n _ | rfl) rfl hN ?_
          refine x_goto (tgt := 4) hO dX1_rules_33 (by decide) ?_
          rw [nC_f (by rw [e] at c3; simp [pP0, c3])] at ih
          exact ih
        · refine x_iinc hO dX1_rules_27 rfl (by first | exact xinc_n _ | rfl) rfl hN ?_
          refine x_iinc hO dX1_rules_30 rfl (by first | exact xinc_n _ | rfl) rfl hN ?_
          refine x_goto (tgt := 4) hO dX1_rules_33 (by decide) ?_
          rw [nC_t (by rw [e] at c3; simp [pP0, bI_1 c2, c3])] at ih
          exact ih
theorem k_entriesOf (U : xP) (M : xM) (x : Int32) : xMetI U mX1_entriesOf [.inr 16, .inl x] M (fun r M' => r = nI (nC (pRule (cA M 16) x) 32) ∧ M' = M) := by
  refine xMetI.of (ty := .int) (L := [some (.inr 16), some (.inl x), none, none]) fX1_entriesOf rfl rfl (Nat.le_of_ble_eq_true rfl) (fun G hN hO hR => ?_)
  have hN : G.2.2.2.2.2.2.2.2.2.2.1 = 4 := hN
  have hO : xOK U G RX1 cX1_entriesOf 1 := hO
  refine x_iconst (v := nI 0) hO dX1_entriesOf_0 rfl ?_
  refine x_istore_n (n := 4) hO dX1_entriesOf_1 rfl rfl (by decide) hN ?_
  refine x_iconst (v := nI 0) hO dX1_entriesOf_2 rfl ?_
  refine x_istore_n (n := 4) hO dX1_entriesOf_3 rfl rfl (by decide) hN ?_
  refine upd_ind (P := fun i _ => XW U G 4 [some (.inr 16), some (.inl x), some (.inl (nI (nC (pRule (cA M 16) x) i))), some (.inl (nI i))] [] M) 32 ?_ ?_ 32 0 rfl
  · refine x_iload_n hO dX1_entriesOf_4 rfl rfl ?_
    refine x_bipush (v := nI 32) hO dX1_entriesOf_5 rfl ?_
    refine x_icmp_ge (tgt := 37) hO dX1_entriesOf_7 (by decide) (fun c => ?_) (fun c => ?_)
    · refine x_iload_n hO dX1_entriesOf_37 rfl rfl ?_
      refine x_iret hO hR dX1_entriesOf_38 rfl ?_
      exact ⟨rfl, rfl⟩
    · exact absurd (Int32.le_refl _) c
  · intro i d hd ih
    have hi : i < 32 := by omega
    refine x_iload_n hO dX1_entriesOf_4 rfl rfl ?_
    refine x_bipush (v := nI 32) hO dX1_entriesOf_5 rfl ?_
    refine x_icmp_ge (tgt := 37) hO dX1_entriesOf_7 (by decide) (fun c => ?_) (fun c => ?_)
    · exact absurd c (nI_ge hi (by decide))
    · refine x_aload_n hO dX1_entriesOf_10 rfl rfl ?_
      refine x_iload_n hO dX1_entriesOf_11 rfl rfl ?_
      refine x_callV1 hO (k_holds M hi) dX1_entriesOf_12 lkX1_53 fX1_holdsEntry vX1_holdsEntry (by decide) rfl rfl rfl rfl rfl (by decide) (Nat.le_of_ble_eq_true rfl) ?_
      refine x_if_eq (tgt := 31) hO dX1_entriesOf_15 (by decide) (fun c2 => ?_) (fun c2 => ?_)
      · refine x_iinc hO dX1_entriesOf_31 rfl (by first | exact xinc_n _ | rfl) rfl hN ?_
        refine x_goto (tgt := 4) hO dX1_entriesOf_34 (by decide) ?_
        rw [nC_f (by simp [pRule, bI_0 c2])] at ih
        exact ih
      · have e : M 17 i = cA M 16 i 0 := cA_in (w := 0) (bI_1 c2) (by decide)
        refine x_aload_n hO dX1_entriesOf_18 rfl rfl ?_
        refine x_getR (T := TX1) (j := 0) hO dX1_entriesOf_19 flX1_9 (by decide) rfl rfl (by decide) rfl rfl ?_
        refine x_iload_n hO dX1_entriesOf_22 rfl rfl ?_
        refine x_iald hO (by decide) rfl (by decide) (rfl) (hi) dX1_entriesOf_23 ?_
        refine x_iload_n hO dX1_entriesOf_24 rfl rfl ?_
        refine x_icmp_ne (tgt := 31) hO dX1_entriesOf_25 (by decide) (fun c3 => ?_) (fun c3 => ?_)
        · refine x_iinc hO dX1_entriesOf_31 rfl (by first | exact xinc_n _ | rfl) rfl hN ?_
          refine x_goto (tgt := 4) hO dX1_entriesOf_34 (by decide) ?_
          rw [nC_f (by rw [e] at c3; simp [pRule, c3])] at ih
          exact ih
        · refine x_iinc hO dX1_entriesOf_28 rfl (by first | exact xinc_n _ | rfl) rfl hN ?_
          refine x_iinc hO dX1_entriesOf_31 rfl (by first | exact xinc_n _ | rfl) rfl hN ?_
          refine x_goto (tgt := 4) hO dX1_entriesOf_34 (by decide) ?_
          rw [nC_t (by rw [e] at c3; simp [pRule, bI_1 c2, c3])] at ih
          exact ih
theorem k_slotHolding (U : xP) (M : xM) (x y : Int32) : xMetI U mX1_slotHolding [.inr 16, .inl x, .inl y] M (fun r M' => r = aN (nF (pPart (cA M 16) x y) 0 32) ∧ M' = M) := by
  refine xMetI.of (ty := .int) (L := [some (.inr 16), some (.inl x), some (.inl y), none]) fX1_slotHolding rfl rfl (Nat.le_of_ble_eq_true rfl) (fun G hN hO hR => ?_)
  have hN : G.2.2.2.2.2.2.2.2.2.2.1 = 4 := hN
  have hO : xOK U G RX1 cX1_slotHolding 1 := hO
  generalize hf : nF (pPart (cA M 16) x y) 0 32 = f at hR
  refine x_iconst (v := nI 0) hO dX1_slotHolding_0 rfl ?_
  refine x_istore_n (n := 4) hO dX1_slotHolding_1 rfl rfl (by decide) hN ?_
  refine upd_ind (P := fun i d => nF (pPart (cA M 16) x y) i d = f → XW U G 2 [some (.inr 16), some (.inl x), some (.inl y), some (.inl (nI i))] [] M) 32 ?_ ?_ 32 0 rfl hf
  · intro hf
    refine x_iload_n hO dX1_slotHolding_2 rfl rfl ?_
    refine x_bipush (v := nI 32) hO dX1_slotHolding_3 rfl ?_
    refine x_icmp_ge (tgt := 44) hO dX1_slotHolding_5 (by decide) (fun c => ?_) (fun c => ?_)
    · refine x_iconst (v := (-1 : Int32)) hO dX1_slotHolding_44 rfl ?_
      refine x_iret hO hR dX1_slotHolding_45 rfl ?_
      exact ⟨by rw [← hf]; rfl, rfl⟩
    · exact absurd (Int32.le_refl _) c
  · intro i d hd ih hf
    have hi : i < 32 := by omega
    refine x_iload_n hO dX1_slotHolding_2 rfl rfl ?_
    refine x_bipush (v := nI 32) hO dX1_slotHolding_3 rfl ?_
    refine x_icmp_ge (tgt := 44) hO dX1_slotHolding_5 (by decide) (fun c => ?_) (fun c => ?_)
    · exact absurd c (nI_ge hi (by decide))
    · refine x_aload_n hO dX1_slotHolding_8 rfl rfl ?_
      refine x_iload_n hO dX1_slotHolding_9 rfl rfl ?_
      refine x_callV1 hO (k_holds M hi) dX1_slotHolding_10 lkX1_53 fX1_holdsEntry vX1_holdsEntry (by decide) rfl rfl rfl rfl rfl (by decide) (Nat.le_of_ble_eq_true rfl) ?_
      refine x_if_eq (tgt := 38) hO dX1_slotHolding_13 (by decide) (fun c2 => ?_) (fun c2 => ?_)
      · refine x_iinc hO dX1_slotHolding_38 rfl (by first | exact xinc_n _ | rfl) rfl hN ?_
        refine x_goto (tgt := 2) hO dX1_slotHolding_41 (by decide) ?_
        exact ih (by rw [← hf, nF_f (by simp [pPart, bI_0 c2])])
      · have e : M 17 i = cA M 16 i 0 := cA_in (w := 0) (bI_1 c2) (by decide)
        have e1 : M 18 i = cA M 16 i 1 := cA_in (w := 1) (bI_1 c2) (by decide)
        refine x_aload_n hO dX1_slotHolding_16 rfl rfl ?_
        refine x_getR (T := TX1) (j := 0) hO dX1_slotHolding_17 flX1_9 (by decide) rfl rfl (by decide) rfl rfl ?_
        refine x_iload_n hO dX1_slotHolding_20 rfl rfl ?_
        refine x_iald hO (by decide) rfl (by decide) (rfl) (hi) dX1_slotHolding_21 ?_
        refine x_iload_n hO dX1_slotHolding_22 rfl rfl ?_
        refine x_icmp_ne (tgt := 38) hO dX1_slotHolding_23 (by decide) (fun c3 => ?_) (fun c3 => ?_)
        · refine x_iinc hO dX1_slotHolding_38 rfl (by first | exact xinc_n _ | rfl) rfl hN ?_
          refine x_goto (tgt := 2) hO dX1_slotHolding_41 (by decide) ?_
          exact ih (by rw [← hf, nF_f (by rw [e] at c3; simp [pPart, c3])])
        · refine x_aload_n hO dX1_slotHolding_26 rfl rfl ?_
          refine x_getR (T := TX1) (j := 1) hO dX1_slotHolding_27 flX1_15 (by decide) rfl rfl (by decide) rfl rfl ?_
          refine x_iload_n hO dX1_slotHolding_30 rfl rfl ?_
          refine x_iald hO (by decide) rfl (by decide) (rfl) (hi) dX1_slotHolding_31 ?_
          refine x_iload_n hO dX1_slotHolding_32 rfl rfl ?_
          refine x_icmp_ne (tgt := 38) hO dX1_slotHolding_33 (by decide) (fun c4 => ?_) (fun c4 => ?_)
          · refine x_iinc hO dX1_slotHolding_38 rfl (by first | exact xinc_n _ | rfl) rfl hN ?_
            refine x_goto (tgt := 2) hO dX1_slotHolding_41 (by decide) ?_
            exact ih (by rw [← hf, nF_f (by rw [e1] at c4; simp [pPart, c4])])
          · refine x_iload_n hO dX1_slotHolding_36 rfl rfl ?_
            refine x_iret hO hR dX1_slotHolding_37 rfl ?_
            exact ⟨by rw [← hf, nF_t (by rw [e] at c3; rw [e1] at c4; simp [pPart, bI_1 c2, c3, c4])]; simp [aN, hi], rfl⟩
theorem k_lastSlotUpTo (U : xP) (M : xM) (x : Int32) : xMetI U mX1_lastSlotUpTo [.inr 16, .inl x] M (fun r M' => r = xm (nL (pUp (cA M 16) x) 32) ∧ M' = M) := by
  refine xMetI.of (ty := .int) (L := [some (.inr 16), some (.inl x), none]) fX1_lastSlotUpTo rfl rfl (Nat.le_of_ble_eq_true rfl) (fun G hN hO hR => ?_)
  have hN : G.2.2.2.2.2.2.2.2.2.2.1 = 3 := hN
  have hO : xOK U G RX1 cX1_lastSlotUpTo 1 := hO
  generalize hf : nL (pUp (cA M 16) x) 32 = f at hR
  refine x_bipush (v := nI 31) hO dX1_lastSlotUpTo_0 rfl ?_
  refine x_istore_n (n := 3) hO dX1_lastSlotUpTo_2 rfl rfl (by decide) hN ?_
  have loop : ∀ k, k ≤ 32 → nL (pUp (cA M 16) x) k = f → XW U G 3 [some (.inr 16), some (.inl x), some (.inl (xm k))] [] M := by
    intro k
    induction k with
    | zero =>
      intro _ hf
      refine x_iload_n hO dX1_lastSlotUpTo_3 rfl rfl ?_
      refine x_if_lt (tgt := 33) hO dX1_lastSlotUpTo_4 (by decide) (fun c => ?_) (fun c => ?_)
      · refine x_iconst (v := (-1 : Int32)) hO dX1_lastSlotUpTo_33 rfl ?_
        refine x_iret hO hR dX1_lastSlotUpTo_34 rfl ?_
        exact ⟨by rw [← hf]; rfl, rfl⟩
      · exact absurd (by decide) c
    | succ i ih =>
      intro hi hf
      have hi : i < 32 := by omega
      refine x_iload_n hO dX1_lastSlotUpTo_3 rfl rfl ?_
      refine x_if_lt (tgt := 33) hO dX1_lastSlotUpTo_4 (by decide) (fun c => ?_) (fun c => ?_)
      · exact absurd c (nI_pos (by omega))
      · refine x_aload_n hO dX1_lastSlotUpTo_7 rfl rfl ?_
        refine x_iload_n hO dX1_lastSlotUpTo_8 rfl rfl ?_
        refine x_callV1 hO (k_holds M hi) dX1_lastSlotUpTo_9 lkX1_53 fX1_holdsEntry vX1_holdsEntry (by decide) rfl rfl rfl rfl rfl (by decide) (Nat.le_of_ble_eq_true rfl) ?_
        refine x_if_eq (tgt := 27) hO dX1_lastSlotUpTo_12 (by decide) (fun c2 => ?_) (fun c2 => ?_)
        · refine x_iinc hO dX1_lastSlotUpTo_27 rfl (xm_dec i) rfl hN ?_
          refine x_goto (tgt := 3) hO dX1_lastSlotUpTo_30 (by decide) ?_
          exact ih (by omega) (by rw [← hf, nL_f (by simp [pUp, bI_0 c2])])
        · have e : M 21 i = cA M 16 i 4 := cA_in (w := 4) (bI_1 c2) (by decide)
          refine x_aload_n hO dX1_lastSlotUpTo_15 rfl rfl ?_
          refine x_getR (T := TX1) (j := 4) hO dX1_lastSlotUpTo_16 flX1_24 (by decide) rfl rfl (by decide) rfl rfl ?_
          refine x_iload_n hO dX1_lastSlotUpTo_19 rfl rfl ?_
          refine x_iald hO (by decide) rfl (by decide) (rfl) (hi) dX1_lastSlotUpTo_20 ?_
          refine x_iload_n hO dX1_lastSlotUpTo_21 rfl rfl ?_
          refine x_icmp_gt (tgt := 27) hO dX1_lastSlotUpTo_22 (by decide) (fun c3 => ?_) (fun c3 => ?_)
          · refine x_iinc hO dX1_lastSlotUpTo_27 rfl (xm_dec i) rfl hN ?_
            refine x_goto (tgt := 3) hO dX1_lastSlotUpTo_30 (by decide) ?_
            exact ih (by omega) (by rw [← hf, nL_f (by rw [e] at c3; simp [pUp, Int32.not_le.mpr c3])])
          · refine x_iload_n hO dX1_lastSlotUpTo_25 rfl rfl ?_
            refine x_iret hO hR dX1_lastSlotUpTo_26 rfl ?_
            exact ⟨by rw [← hf, nL_t (by rw [e] at c3; simp [pUp, bI_1 c2, Int32.not_lt.mp c3])], rfl⟩
  exact loop 32 (Nat.le_refl _) hf
theorem k_firstSlotBeyond (U : xP) (M : xM) (x : Int32) : xMetI U mX1_firstSlotBeyond [.inr 16, .inl x] M (fun r M' => r = nI (nF (pBy (cA M 16) x) 0 32) ∧ M' = M) := by
  refine xMetI.of (ty := .int) (L := [some (.inr 16), some (.inl x), none]) fX1_firstSlotBeyond rfl rfl (Nat.le_of_ble_eq_true rfl) (fun G hN hO hR => ?_)
  have hN : G.2.2.2.2.2.2.2.2.2.2.1 = 3 := hN
  have hO : xOK U G RX1 cX1_firstSlotBeyond 1 := hO
  generalize hf : nF (pBy (cA M 16) x) 0 32 = f at hR
  refine x_iconst (v := nI 0) hO dX1_firstSlotBeyond_0 rfl ?_
  refine x_istore_n (n := 3) hO dX1_firstSlotBeyond_1 rfl rfl (by decide) hN ?_
  refine upd_ind (P := fun i d => nF (pBy (cA M 16) x) i d = f → XW U G 2 [some (.inr 16), some (.inl x), some (.inl (nI i))] [] M) 32 ?_ ?_ 32 0 rfl hf
  · intro hf
    refine x_iload_n hO dX1_firstSlotBeyond_2 rfl rfl ?_
    refine x_bipush (v := nI 32) hO dX1_firstSlotBeyond_3 rfl ?_
    refine x_icmp_ge (tgt := 34) hO dX1_firstSlotBeyond_5 (by decide) (fun c => ?_) (fun c => ?_)
    · refine x_bipush (v := nI 32) hO dX1_firstSlotBeyond_34 rfl ?_
      refine x_iret hO hR dX1_firstSlotBeyond_36 rfl ?_
      exact ⟨by rw [← hf]; rfl, rfl⟩
    · exact absurd (Int32.le_refl _) c
  · intro i d hd ih hf
    have hi : i < 32 := by omega
    refine x_iload_n hO dX1_firstSlotBeyond_2 rfl rfl ?_
    refine x_bipush (v := nI 32) hO dX1_firstSlotBeyond_3 rfl ?_
    refine x_icmp_ge (tgt := 34) hO dX1_firstSlotBeyond_5 (by decide) (fun c => ?_) (fun c => ?_)
    · exact absurd c (nI_ge hi (by decide))
    · refine x_aload_n hO dX1_firstSlotBeyond_8 rfl rfl ?_
      refine x_iload_n hO dX1_firstSlotBeyond_9 rfl rfl ?_
      refine x_callV1 hO (k_holds M hi) dX1_firstSlotBeyond_10 lkX1_53 fX1_holdsEntry vX1_holdsEntry (by decide) rfl rfl rfl rfl rfl (by decide) (Nat.le_of_ble_eq_true rfl) ?_
      refine x_if_eq (tgt := 28) hO dX1_firstSlotBeyond_13 (by decide) (fun c2 => ?_) (fun c2 => ?_)
      · refine x_iinc hO dX1_firstSlotBeyond_28 rfl (by first | exact xinc_n _ | rfl) rfl hN ?_
        refine x_goto (tgt := 2) hO dX1_firstSlotBeyond_31 (by decide) ?_
        exact ih (by rw [← hf, nF_f (by simp [pBy, bI_0 c2])])
      · have e : M 21 i = cA M 16 i 4 := cA_in (w := 4) (bI_1 c2) (by decide)
        refine x_aload_n hO dX1_firstSlotBeyond_16 rfl rfl ?_
        refine x_getR (T := TX1) (j := 4) hO dX1_firstSlotBeyond_17 flX1_24 (by decide) rfl rfl (by decide) rfl rfl ?_
        refine x_iload_n hO dX1_firstSlotBeyond_20 rfl rfl ?_
        refine x_iald hO (by decide) rfl (by decide) (rfl) (hi) dX1_firstSlotBeyond_21 ?_
        refine x_iload_n hO dX1_firstSlotBeyond_22 rfl rfl ?_
        refine x_icmp_le (tgt := 28) hO dX1_firstSlotBeyond_23 (by decide) (fun c3 => ?_) (fun c3 => ?_)
        · refine x_iinc hO dX1_firstSlotBeyond_28 rfl (by first | exact xinc_n _ | rfl) rfl hN ?_
          refine x_goto (tgt := 2) hO dX1_firstSlotBeyond_31 (by decide) ?_
          exact ih (by rw [← hf, nF_f (by rw [e] at c3; simp [pBy, Int32.not_lt.mpr c3])])
        · refine x_iload_n hO dX1_firstSlotBeyond_26 rfl rfl ?_
          refine x_iret hO hR dX1_firstSlotBeyond_27 rfl ?_
          exact ⟨by rw [← hf, nF_t (by rw [e] at c3; simp [pBy, bI_1 c2, Int32.not_le.mp c3])], rfl⟩
def pFr (A : aR) (s : Nat) : Bool := !aoc A s
/-- how many moves to the next slots from f on; 33 if there is no way -/
def aMu (A : aR) (f : Nat) : Nat := if nF (pFr A) f (32 - f) < 32 then nF (pFr A) f (32 - f) - f else 33
/-- how many moves to the previous slots from k - 1 down; 33 if there is no way -/
def aMd (A : aR) (k : Nat) : Nat := if nL (pFr A) k = 0 then 33 else k - nL (pFr A) k
theorem k_movesUpFrom (U : xP) (M : xM) {f : Nat} (hfl : f ≤ 32) : xMetI U mX1_movesUpFrom [.inr 16, .inl (nI f)] M (fun r M' => r = nI (aMu (cA M 16) f) ∧ M' = M) := by
  refine xMetI.of (ty := .int) (L := [some (.inr 16), some (.inl (nI f)), none]) fX1_movesUpFrom rfl rfl (Nat.le_of_ble_eq_true rfl) (fun G hN hO hR => ?_)
  have hN : G.2.2.2.2.2.2.2.2.2.2.1 = 3 := hN
  have hO : xOK U G RX1 cX1_movesUpFrom 1 := hO
  generalize hg : nF (pFr (cA M 16)) f (32 - f) = g
  have hgs : aMu (cA M 16) f = if g < 32 then g - f else 33 := by unfold aMu; rw [hg]
  rw [hgs] at hR
  clear hgs
  refine x_iload_n hO dX1_movesUpFrom_0 rfl rfl ?_
  refine x_istore_n (n := 3) hO dX1_movesUpFrom_1 rfl rfl (by decide) hN ?_
  refine upd_ind (P := fun i d => f ≤ i → nF (pFr (cA M 16)) i d = g → XW U G 2 [some (.inr 16), some (.inl (nI f)), some (.inl (nI i))] [] M) 32 ?_ ?_ (32 - f) f (by omega) (Nat.le_refl _) hg
  · intro _ hg
    refine x_iload_n hO dX1_movesUpFrom_2 rfl rfl ?_
    refine x_bipush (v := nI 32) hO dX1_movesUpFrom_3 rfl ?_
    refine x_icmp_ge (tgt := 26) hO dX1_movesUpFrom_5 (by decide) (fun c => ?_) (fun c => ?_)
    · refine x_bipush (v := nI 33) hO dX1_movesUpFrom_26 rfl ?_
      refine x_iret hO hR dX1_movesUpFrom_28 rfl ?_
      exact ⟨by rw [← hg]; rfl, rfl⟩
    · exact absurd (Int32.le_refl _) c
  · intro i d hd ih hfi hg
    have hi : i < 32 := by omega
    refine x_iload_n hO dX1_movesUpFrom_2 rfl rfl ?_
    refine x_bipush (v := nI 32) hO dX1_movesUpFrom_3 rfl ?_
    refine x_icmp_ge (tgt := 26) hO dX1_movesUpFrom_5 (by decide) (fun c => ?_) (fun c => ?_)
    · exact absurd c (nI_ge hi (by decide))
    · refine x_aload_n hO dX1_movesUpFrom_8 rfl rfl ?_
      refine x_iload_n hO dX1_movesUpFrom_9 rfl rfl ?_
      refine x_callV1 hO (k_holds M hi) dX1_movesUpFrom_10 lkX1_53 fX1_holdsEntry vX1_holdsEntry (by decide) rfl rfl rfl rfl rfl (by decide) (Nat.le_of_ble_eq_true rfl) ?_
      refine x_if_ne (tgt := 20) hO dX1_movesUpFrom_13 (by decide) (fun c2 => ?_) (fun c2 => ?_)
      · refine x_iinc hO dX1_movesUpFrom_20 rfl (by first | exact xinc_n _ | rfl) rfl hN ?_
        refine x_goto (tgt := 2) hO dX1_movesUpFrom_23 (by decide) ?_
        exact ih (by omega) (by rw [← hg, nF_f (by simp [pFr, bI_1 c2])])
      · refine x_iload_n hO dX1_movesUpFrom_16 rfl rfl ?_
        refine x_iload_n hO dX1_movesUpFrom_17 rfl rfl ?_
        refine x_isub hO dX1_movesUpFrom_18 ?_
        rw [pk_sub hfi]
        refine x_iret hO hR dX1_movesUpFrom_19 rfl ?_
        exact ⟨by rw [← hg, nF_t (by simp [pFr, bI_0 c2])]; simp [hi], rfl⟩
theorem xm_sub {a b : Nat} (h : b ≤ a) (hb : 0 < b) : xm a - xm b = nI (a - b) := by
  obtain ⟨b, rfl⟩ : ∃ c, b = c + 1 := ⟨b - 1, by omega⟩
  obtain ⟨a, rfl⟩ : ∃ c, a = c + 1 := ⟨a - 1, by omega⟩
  rw [xm_s, xm_s, pk_sub (by omega)]
  congr 1
  omega
theorem k_movesDownFrom (U : xP) (M : xM) {k : Nat} (hkl : k ≤ 32) : xMetI U mX1_movesDownFrom [.inr 16, .inl (xm k)] M (fun r M' => r = nI (aMd (cA M 16) k) ∧ M' = M) := by
  refine xMetI.of (ty := .int) (L := [some (.inr 16), some (.inl (xm k)), none]) fX1_movesDownFrom rfl rfl (Nat.le_of_ble_eq_true rfl) (fun G hN hO hR => ?_)
  have hN : G.2.2.2.2.2.2.2.2.2.2.1 = 3 := hN
  have hO : xOK U G RX1 cX1_movesDownFrom 1 := hO
  generalize hg : nL (pFr (cA M 16)) k = g
  have hgs : aMd (cA M 16) k = if g = 0 then 33 else k - g := by unfold aMd; rw [hg]
  rw [hgs] at hR
  clear hgs
  refine x_iload_n hO dX1_movesDownFrom_0 rfl rfl ?_
  refine x_istore_n (n := 3) hO dX1_movesDownFrom_1 rfl rfl (by decide) hN ?_
  have loop : ∀ i, i ≤ k → nL (pFr (cA M 16)) i = g → XW U G 2 [some (.inr 16), some (.inl (xm k)), some (.inl (xm i))] [] M := by
    intro i
    induction i with
    | zero =>
      intro _ hg
      refine x_iload_n hO dX1_movesDownFrom_2 rfl rfl ?_
      refine x_if_lt (tgt := 24) hO dX1_movesDownFrom_3 (by decide) (fun c => ?_) (fun c => ?_)
      · refine x_bipush (v := nI 33) hO dX1_movesDownFrom_24 rfl ?_
        refine x_iret hO hR dX1_movesDownFrom_26 rfl ?_
        exact ⟨by rw [← hg]; rfl, rfl⟩
      · exact absurd (by decide) c
    | succ i ih =>
      intro hik hg
      have hi : i < 32 := by omega
      refine x_iload_n hO dX1_movesDownFrom_2 rfl rfl ?_
      refine x_if_lt (tgt := 24) hO dX1_movesDownFrom_3 (by decide) (fun c => ?_) (fun c => ?_)
      · exact absurd c (nI_pos (by omega))
      · refine x_aload_n hO dX1_movesDownFrom_6 rfl rfl ?_
        refine x_iload_n hO dX1_movesDownFrom_7 rfl rfl ?_
        refine x_callV1 hO (k_holds M hi) dX1_movesDownFrom_8 lkX1_53 fX1_holdsEntry vX1_holdsEntry (by decide) rfl rfl rfl rfl rfl (by decide) (Nat.le_of_ble_eq_true rfl) ?_
        refine x_if_ne (tgt := 18) hO dX1_movesDownFrom_11 (by decide) (fun c2 => ?_) (fun c2 => ?_)
        · refine x_iinc hO dX1_movesDownFrom_18 rfl (xm_dec i) rfl hN ?_
          refine x_goto (tgt := 2) hO dX1_movesDownFrom_21 (by decide) ?_
          exact ih (by omega) (by rw [← hg, nL_f (by simp [pFr, bI_1 c2])])
        · refine x_iload_n hO dX1_movesDownFrom_14 rfl rfl ?_
          refine x_iload_n hO dX1_movesDownFrom_15 rfl rfl ?_
          refine x_isub hO dX1_movesDownFrom_16 ?_
          rw [xm_sub hik (by omega)]
          refine x_iret hO hR dX1_movesDownFrom_17 rfl ?_
          exact ⟨by rw [← hg, nL_t (by simp [pFr, bI_0 c2])]; simp, rfl⟩
  exact loop k (Nat.le_refl _) hg
