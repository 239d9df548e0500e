/-! ===== numbers ===== -/
theorem xinc_n (i : Nat) : nI i + Int32.ofInt 1 = nI (i + 1) := nI_1 i
theorem xdec_n (i : Nat) : nI (i + 1) + Int32.ofInt (-1) = nI i := pk_m1 i
theorem xi_lt0 {x : Int32} : x < 0 ↔ x.toInt < 0 := Int32.lt_iff_toInt_lt
/-- what isSlot, isKey and their like ask: a number from 0 to n - 1 -/
theorem xi_range {x : Int32} {n : Nat} (hn : n < 2 ^ 31) : (¬ x < 0 ∧ x < nI n) ↔ ∃ j : Nat, j < n ∧ x = nI j := by
  constructor
  · rintro ⟨h1, h2⟩
    obtain ⟨j, hj, rfl⟩ := nI_of h1
    exact ⟨j, (nI_ltI hj hn).mp h2, rfl⟩
  · rintro ⟨j, hj, rfl⟩
    exact ⟨nI_pos (by omega), (nI_ltI (by omega) hn).mpr hj⟩
/-- a truth as the machine has it -/
def bI (b : Bool) : Int32 := if b then 1 else 0
theorem bI_ne (b : Bool) : bI b = 0 ↔ b = false := by cases b <;> decide
theorem bI_nar (b : Bool) : narrow .boolean (.int (bI b)) = .int (bI b) := by cases b <;> rfl
/-- an index of 0 to n - 1 -/
def ixB (x : Int32) (n : Nat) : Bool := decide (¬ x < 0 ∧ x < nI n)
theorem ixB_n {j n : Nat} (h : j < n) (hn : n < 2 ^ 31) : ixB (nI j) n = true := decide_eq_true ((xi_range hn).mpr ⟨j, h, rfl⟩)
theorem ixB_e {x : Int32} {n : Nat} (hn : n < 2 ^ 31) (h : ixB x n = true) : ∃ j : Nat, j < n ∧ x = nI j := (xi_range hn).mp (of_decide_eq_true h)
/-! ===== TernaryMatcher.isSlot, isBank, isKey, isRank, isAction ===== -/
theorem k_isSlot (U : xP) (M : xM) (x : Int32) : xMetI U mX3_isSlot [.inl x] M (fun r M' => r = bI (ixB x 32) ∧ M' = M) := by
  refine xMetI.of (ty := .boolean) (L := [some (.inl x)]) fX3_isSlot rfl rfl (Nat.le_of_ble_eq_true rfl) (fun G hN hO hR => ?_)
  have hN : G.2.2.2.2.2.2.2.2.2.2.1 = 1 := hN
  have hO : xOK U G RX3 cX3_isSlot 0 := hO
  refine x_iload_n hO dX3_isSlot_0 rfl rfl ?_
  refine x_if_lt (tgt := 14) hO dX3_isSlot_1 (by decide) (fun c => ?_) (fun c => ?_)
  · refine x_iconst (v := nI 0) hO dX3_isSlot_14 rfl ?_
    refine x_iret hO hR dX3_isSlot_15 rfl ?_
    exact ⟨by simp [bI, ixB, c, nI_0], rfl⟩
  · refine x_iload_n hO dX3_isSlot_4 rfl rfl ?_
    refine x_bipush (v := nI 32) hO dX3_isSlot_5 rfl ?_
    refine x_icmp_ge (tgt := 14) hO dX3_isSlot_7 (by decide) (fun c2 => ?_) (fun c2 => ?_)
    · refine x_iconst (v := nI 0) hO dX3_isSlot_14 rfl ?_
      refine x_iret hO hR dX3_isSlot_15 rfl ?_
      exact ⟨by simp [bI, ixB, c, c2, nI_0, Int32.not_lt.mpr c2], rfl⟩
    · refine x_iconst (v := nI 1) hO dX3_isSlot_10 rfl ?_
      refine x_goto (tgt := 15) hO dX3_isSlot_11 (by decide) ?_
      refine x_iret hO hR dX3_isSlot_15 rfl ?_
      exact ⟨by simp [bI, ixB, c, Int32.not_le.mp c2]; rfl, rfl⟩
/-! ===== Memory.holdsEntry ===== -/
/-- the slot s of the memory at the cell b holds an entry -/
def occ (M : xM) (b s : Nat) : Bool := decide (s < 32) && !(M (b + 1) s == -1)
theorem k_holdsEntry (U : xP) (M : xM) (x : Int32) : xMetI U mX1_holdsEntry [.inr 16, .inl x] M (fun r M' => r = bI (ixB x 32 && occ M 16 x.toNatClampNeg) ∧ M' = M) := by
  refine xMetI.of (ty := .boolean) (L := [some (.inr 16), some (.inl x)]) fX1_holdsEntry rfl rfl (Nat.le_of_ble_eq_true rfl) (fun G hN hO hR => ?_)
  have hN : G.2.2.2.2.2.2.2.2.2.2.1 = 2 := hN
  have hO : xOK U G RX1 cX1_holdsEntry 0 := hO
  refine x_iload_n hO dX1_holdsEntry_0 rfl rfl ?_
  refine x_if_lt (tgt := 24) hO dX1_holdsEntry_1 (by decide) (fun c => ?_) (fun c => ?_)
  · refine x_iconst (v := nI 0) hO dX1_holdsEntry_24 rfl ?_
    refine x_iret hO hR dX1_holdsEntry_25 rfl ?_
    exact ⟨by simp [bI, ixB, c, nI_0], rfl⟩
  · refine x_iload_n hO dX1_holdsEntry_4 rfl rfl ?_
    refine x_bipush (v := nI 32) hO dX1_holdsEntry_5 rfl ?_
    refine x_icmp_ge (tgt := 24) hO dX1_holdsEntry_7 (by decide) (fun c2 => ?_) (fun c2 => ?_)
    · refine x_iconst (v := nI 0) hO dX1_holdsEntry_24 rfl ?_
      refine x_iret hO hR dX1_holdsEntry_25 rfl ?_
      exact ⟨by simp [bI, ixB, c, c2, nI_0, Int32.not_lt.mpr c2], rfl⟩
    · obtain ⟨j, hj, rfl⟩ := (xi_range (n := 32) (by decide)).mp ⟨c, Int32.not_le.mp c2⟩
      have hc : (nI j).toNatClampNeg = j := nI_clamp (by omega)
      refine x_aload_n hO dX1_holdsEntry_10 rfl rfl ?_
      refine x_getR (T := TX1) (j := 0) hO dX1_holdsEntry_11 flX1_9 (by decide) rfl rfl (by decide) rfl rfl ?_
      refine x_iload_n hO dX1_holdsEntry_14 rfl rfl ?_
      refine x_iald hO (by decide) rfl (by decide) (rfl) (hj) dX1_holdsEntry_15 ?_
      refine x_iconst (v := (-1 : Int32)) hO dX1_holdsEntry_16 rfl ?_
      refine x_icmp_eq (tgt := 24) hO dX1_holdsEntry_17 (by decide) (fun c3 => ?_) (fun c3 => ?_)
      · refine x_iconst (v := nI 0) hO dX1_holdsEntry_24 rfl ?_
        refine x_iret hO hR dX1_holdsEntry_25 rfl ?_
        exact ⟨by simp [hc, occ, c3, bI, nI_0], rfl⟩
      · refine x_iconst (v := nI 1) hO dX1_holdsEntry_20 rfl ?_
        refine x_goto (tgt := 25) hO dX1_holdsEntry_21 (by decide) ?_
        refine x_iret hO hR dX1_holdsEntry_25 rfl ?_
        exact ⟨by rw [ixB_n hj (by decide), hc]; simp [occ, c3, bI, hj]; rfl, rfl⟩
