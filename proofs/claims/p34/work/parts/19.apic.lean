/-! ===== TernaryMatcher's methods, against the document's state ===== -/
theorem ixB_c {x : Int32} {n : Nat} (hn : n < 2 ^ 31) (h : ixB x n = true) : x = nI x.toNatClampNeg ∧ x.toNatClampNeg < n := by
  obtain ⟨j, hj, rfl⟩ := ixB_e hn h
  rw [nI_clamp (by omega)]
  exact ⟨rfl, hj⟩
theorem rgB_c {x y : Int32} (h : rgB x y = true) : x = nI x.toNatClampNeg ∧ y = nI y.toNatClampNeg ∧ x.toNatClampNeg < 256 ∧ y.toNatClampNeg < 256 ∧ x.toNatClampNeg ≤ y.toNatClampNeg := by
  simp only [rgB, Bool.and_eq_true, decide_eq_true_eq] at h
  obtain ⟨⟨h1, h2⟩, h3⟩ := h
  obtain ⟨a1, a2⟩ := ixB_c (by decide) h1
  obtain ⟨b1, b2⟩ := ixB_c (by decide) h2
  refine ⟨a1, b1, a2, b2, ?_⟩
  rw [a1, b1] at h3
  exact (nI_leI (by omega) (by omega)).mp h3
/-- what a call answers and leaves -/
def poC (M : xM) (R : Int32 × aO) : Int32 → xM → Prop := fun r M' => r = R.1 ∧ RC M' R.2 ∧ frC M M'
theorem frC.rf (M : xM) : frC M M := fun _ _ _ => rfl
theorem kc_addRule (U : xP) (M : xM) {s : aO} (h : RC M s) (hr : s.1.2 1 ≠ -1) (v m k a : Int32) : xMetI U mX3_addRule [.inr 0, .inl v, .inl m, .inl k, .inl a] M (poC M (o_addRule s v m k a)) := by
  refine xMetI.of (ty := .int) (L := [some (.inr 0), some (.inl v), some (.inl m), some (.inl k), some (.inl a)]) fX3_addRule rfl rfl (Nat.le_of_ble_eq_true rfl) (fun G hN hO hR => ?_)
  have hN : G.2.2.2.2.2.2.2.2.2.2.1 = 5 := hN
  have hO : xOK U G RX3 cX3_addRule 5 := hO
  unfold o_addRule argB at hR
  have bad : (ixB v 256 && (ixB m 256 && (ixB k 100 && ixB a 10))) = false → XW U G 29 [some (.inr 0), some (.inl v), some (.inl m), some (.inl k), some (.inl a)] [] M := by
    intro hb
    rw [hb] at hR
    refine x_bipush (v := (-2 : Int32)) hO dX3_addRule_29 rfl ?_
    refine x_iret hO hR dX3_addRule_31 rfl ?_
    exact ⟨rfl, h, frC.rf M⟩
  refine x_iload_n hO dX3_addRule_0 rfl rfl ?_
  refine x_callS1 hO (k_isKey U M v) dX3_addRule_1 lkX3_37 fX3_isKey sX3_isKey rfl rfl (by decide) (Nat.le_of_ble_eq_true rfl) ?_
  refine x_if_eq (tgt := 29) hO dX3_addRule_4 (by decide) (fun c1 => ?_) (fun c1 => ?_)
  · exact bad (by simp [bI_0 c1])
  · refine x_iload_n hO dX3_addRule_7 rfl rfl ?_
    refine x_callS1 hO (k_isKey U M m) dX3_addRule_8 lkX3_37 fX3_isKey sX3_isKey rfl rfl (by decide) (Nat.le_of_ble_eq_true rfl) ?_
    refine x_if_eq (tgt := 29) hO dX3_addRule_11 (by decide) (fun c2 => ?_) (fun c2 => ?_)
    · exact bad (by simp [bI_0 c2])
    · refine x_iload_n hO dX3_addRule_14 rfl rfl ?_
      refine x_callS1 hO (k_isRank U M k) dX3_addRule_15 lkX3_41 fX3_isRank sX3_isRank rfl rfl (by decide) (Nat.le_of_ble_eq_true rfl) ?_
      refine x_if_eq (tgt := 29) hO dX3_addRule_18 (by decide) (fun c3 => ?_) (fun c3 => ?_)
      · exact bad (by simp [bI_0 c3])
      · refine x_iload hO dX3_addRule_21 rfl ?_
        refine x_callS1 hO (k_isAction U M a) dX3_addRule_23 lkX3_44 fX3_isAction sX3_isAction rfl rfl (by decide) (Nat.le_of_ble_eq_true rfl) ?_
        refine x_if_ne (tgt := 32) hO dX3_addRule_26 (by decide) (fun c4 => ?_) (fun c4 => ?_)
        · rw [bI_1 c1, bI_1 c2, bI_1 c3, bI_1 c4] at hR
          simp only [Bool.and_self, if_true] at hR
          refine x_aload_n hO dX3_addRule_32 rfl rfl ?_
          refine x_getR (T := TX3) (j := 0) hO dX3_addRule_33 flX3_10 (by decide) rfl rfl (by decide) rfl rfl ?_
          refine x_callV1 hO (k_freeSlots U M) dX3_addRule_36 lkX3_47 fX1_freeSlots vX1_freeSlots (by decide) rfl rfl rfl rfl rfl (by decide) (Nat.le_of_ble_eq_true rfl) ?_
          have hle := aCnt_le s.1.1
          rw [h.rows]
          refine x_if_ne (tgt := 45) hO dX3_addRule_39 (by decide) (fun c5 => ?_) (fun c5 => ?_)
          · have q : ¬ aCnt s.1.1 = 32 := fun z => c5 (by rw [z]; rfl)
            rw [if_neg q] at hR
            refine x_aload_n hO dX3_addRule_45 rfl rfl ?_
            refine x_getR (T := TX3) (j := 2) hO dX3_addRule_46 flX3_22 (by decide) rfl rfl (by decide) rfl rfl ?_
            refine x_aload_n hO dX3_addRule_49 rfl rfl ?_
            refine x_getR (T := TX3) (j := 0) hO dX3_addRule_50 flX3_10 (by decide) rfl rfl (by decide) rfl rfl ?_
            refine x_callVv hO (k_rec U M h) dX3_addRule_53 lkX3_51 fX0_record vX0_record (by decide) rfl rfl rfl rfl rfl (by decide) (Nat.le_of_ble_eq_true rfl) (fun M1 h1 => ?_)
            obtain ⟨r1, f1, e16, -, -⟩ := h1
            refine x_aload_n hO dX3_addRule_56 rfl rfl ?_
            refine x_getR (T := TX3) (j := 0) hO dX3_addRule_57 flX3_10 (by decide) rfl rfl (by decide) rfl rfl ?_
            refine x_iload_n hO dX3_addRule_60 rfl rfl ?_
            refine x_iload_n hO dX3_addRule_61 rfl rfl ?_
            refine x_iload_n hO dX3_addRule_62 rfl rfl ?_
            refine x_iload hO dX3_addRule_63 rfl ?_
            have hlt : aCnt (cA M1 16) < 32 := by rw [r1.rows]; show aCnt s.1.1 < 32; omega
            refine x_callV hO (k_addSingle U M1 v m k a hlt (by rw [show M1 16 8 = s.1.2 1 from r1.num (j := 1) (by decide)]; exact hr)) dX3_addRule_65 lkX3_55 fX1_addSingle vX1_addSingle (by decide) rfl rfl rfl rfl rfl (by decide) (Nat.le_of_ble_eq_true rfl) (fun r M2 h2 => ?_)
            obtain ⟨rfl, h2⟩ := h2
            obtain ⟨r2, f2⟩ := r1.mem h2
            refine x_iret hO hR dX3_addRule_68 rfl ?_
            rw [sc_9, sc_8, r1.rows, r1.nums] at r2
            rw [show M1 16 7 = s.1.2 0 from r1.num (j := 0) (by decide), show M1 16 8 = s.1.2 1 from r1.num (j := 1) (by decide), show M1 16 9 = s.1.2 2 from r1.num (j := 2) (by decide)] at r2
            exact ⟨r1.num (j := 1) (by decide), r2, f1.tr f2⟩
          · have q : aCnt s.1.1 = 32 := by have := (nI_eq (b := 0) (by omega) (by decide)).mp c5; omega
            rw [if_pos q] at hR
            refine x_bipush (v := (-3 : Int32)) hO dX3_addRule_42 rfl ?_
            refine x_iret hO hR dX3_addRule_44 rfl ?_
            exact ⟨rfl, h, frC.rf M⟩
        · exact bad (by simp [bI_0 c4])
theorem kc_addRange (U : xP) (M : xM) {s : aO} (h : RC M s) (hr : s.1.2 1 ≠ -1) (x y k a : Int32) : xMetI U mX3_addRange [.inr 0, .inl x, .inl y, .inl k, .inl a] M (poC M (o_addRange s x y k a)) := by
  refine xMetI.of (ty := .int) (L := [some (.inr 0), some (.inl x), some (.inl y), some (.inl k), some (.inl a)]) fX3_addRange rfl rfl (Nat.le_of_ble_eq_true rfl) (fun G hN hO hR => ?_)
  have hN : G.2.2.2.2.2.2.2.2.2.2.1 = 5 := hN
  have hO : xOK U G RX3 cX3_addRange 5 := hO
  unfold o_addRange at hR
  have bad : (rgB x y && (ixB k 100 && ixB a 10)) = false → XW U G 23 [some (.inr 0), some (.inl x), some (.inl y), some (.inl k), some (.inl a)] [] M := by
    intro hb
    rw [hb] at hR
    refine x_bipush (v := (-2 : Int32)) hO dX3_addRange_23 rfl ?_
    refine x_iret hO hR dX3_addRange_25 rfl ?_
    exact ⟨rfl, h, frC.rf M⟩
  refine x_iload_n hO dX3_addRange_0 rfl rfl ?_
  refine x_iload_n hO dX3_addRange_1 rfl rfl ?_
  refine x_callS1 hO (k_isRange U M x y) dX3_addRange_2 lkX3_59 fX3_isRange sX3_isRange rfl rfl (by decide) (Nat.le_of_ble_eq_true rfl) ?_
  refine x_if_eq (tgt := 23) hO dX3_addRange_5 (by decide) (fun c1 => ?_) (fun c1 => ?_)
  · exact bad (by simp [bI_0 c1])
  · refine x_iload_n hO dX3_addRange_8 rfl rfl ?_
    refine x_callS1 hO (k_isRank U M k) dX3_addRange_9 lkX3_41 fX3_isRank sX3_isRank rfl rfl (by decide) (Nat.le_of_ble_eq_true rfl) ?_
    refine x_if_eq (tgt := 23) hO dX3_addRange_12 (by decide) (fun c3 => ?_) (fun c3 => ?_)
    · exact bad (by simp [bI_0 c3])
    · refine x_iload hO dX3_addRange_15 rfl ?_
      refine x_callS1 hO (k_isAction U M a) dX3_addRange_17 lkX3_44 fX3_isAction sX3_isAction rfl rfl (by decide) (Nat.le_of_ble_eq_true rfl) ?_
      refine x_if_ne (tgt := 26) hO dX3_addRange_20 (by decide) (fun c4 => ?_) (fun c4 => ?_)
      · rw [bI_1 c1, bI_1 c3, bI_1 c4] at hR
        simp only [Bool.and_self, if_true] at hR
        obtain ⟨ex, ey, lx, ly, lxy⟩ := rgB_c (bI_1 c1)
        generalize x.toNatClampNeg = f at *
        generalize y.toNatClampNeg = g at *
        subst ex
        subst ey
        have hle := aCnt_le s.1.1
        refine x_aload_n hO dX3_addRange_26 rfl rfl ?_
        refine x_getR (T := TX3) (j := 0) hO dX3_addRange_27 flX3_10 (by decide) rfl rfl (by decide) rfl rfl ?_
        refine x_callV1 hO (k_freeSlots U M) dX3_addRange_30 lkX3_47 fX1_freeSlots vX1_freeSlots (by decide) rfl rfl rfl rfl rfl (by decide) (Nat.le_of_ble_eq_true rfl) ?_
        rw [h.rows]
        refine x_iload_n hO dX3_addRange_33 rfl rfl ?_
        refine x_iload_n hO dX3_addRange_34 rfl rfl ?_
        refine x_callS1 hO (k_blocksOf U M lx ly) dX3_addRange_35 lkX3_63 fX3_blocksOf sX3_blocksOf rfl rfl (by decide) (Nat.le_of_ble_eq_true rfl) ?_
        have hb14 : bCn g f 14 ≤ 14 := by
          have : ∀ (d f : Nat), bCn g f d ≤ d := by
            intro d
            induction d with
            | zero => intro f; exact Nat.le_refl _
            | succ d ih => intro f; simp only [bCn]; split
                           · omega
                           · have := ih (f + bS f g); omega
          exact this 14 f
        refine x_icmp_ge (tgt := 44) hO dX3_addRange_38 (by decide) (fun c5 => ?_) (fun c5 => ?_)
        · have q : ¬ 32 - aCnt s.1.1 < bCn g f 14 := by have := (nI_leI (by omega) (by omega)).mp c5; omega
          rw [if_neg q] at hR
          refine x_aload_n hO dX3_addRange_44 rfl rfl ?_
          refine x_getR (T := TX3) (j := 2) hO dX3_addRange_45 flX3_22 (by decide) rfl rfl (by decide) rfl rfl ?_
          refine x_aload_n hO dX3_addRange_48 rfl rfl ?_
          refine x_getR (T := TX3) (j := 0) hO dX3_addRange_49 flX3_10 (by decide) rfl rfl (by decide) rfl rfl ?_
          refine x_callVv hO (k_rec U M h) dX3_addRange_52 lkX3_51 fX0_record vX0_record (by decide) rfl rfl rfl rfl rfl (by decide) (Nat.le_of_ble_eq_true rfl) (fun M1 h1 => ?_)
          obtain ⟨r1, f1, e16, -, -⟩ := h1
          refine x_aload_n hO dX3_addRange_55 rfl rfl ?_
          refine x_getR (T := TX3) (j := 0) hO dX3_addRange_56 flX3_10 (by decide) rfl rfl (by decide) rfl rfl ?_
          refine x_iload_n hO dX3_addRange_59 rfl rfl ?_
          refine x_iload_n hO dX3_addRange_60 rfl rfl ?_
          refine x_iload_n hO dX3_addRange_61 rfl rfl ?_
          refine x_iload hO dX3_addRange_62 rfl ?_
          have hlt : aCnt (cA M1 16) + bCn g f 14 ≤ 32 := by rw [r1.rows]; show aCnt s.1.1 + _ ≤ 32; omega
          refine x_callV hO (k_addBlocks U M1 lx ly k a hlt (by rw [show M1 16 8 = s.1.2 1 from r1.num (j := 1) (by decide)]; exact hr)) dX3_addRange_64 lkX3_67 fX1_addBlocks vX1_addBlocks (by decide) rfl rfl rfl rfl rfl (by decide) (Nat.le_of_ble_eq_true rfl) (fun r M2 h2 => ?_)
          obtain ⟨rfl, h2⟩ := h2
          obtain ⟨r2, f2⟩ := r1.mem h2
          refine x_iret hO hR dX3_addRange_67 rfl ?_
          rw [sc_9, sc_8, r1.rows, r1.nums] at r2
          rw [show M1 16 7 = s.1.2 0 from r1.num (j := 0) (by decide), show M1 16 8 = s.1.2 1 from r1.num (j := 1) (by decide), show M1 16 9 = s.1.2 2 from r1.num (j := 2) (by decide)] at r2
          exact ⟨r1.num (j := 1) (by decide), r2, f1.tr f2⟩
        · have q : 32 - aCnt s.1.1 < bCn g f 14 := Nat.not_le.mp (fun z => c5 ((nI_leI (by omega) (by omega)).mpr z))
          rw [if_pos q] at hR
          refine x_bipush (v := (-3 : Int32)) hO dX3_addRange_41 rfl ?_
          refine x_iret hO hR dX3_addRange_43 rfl ?_
          exact ⟨rfl, h, frC.rf M⟩
      · exact bad (by simp [bI_0 c4])
theorem kc_remove (U : xP) (M : xM) {s : aO} (h : RC M s) (x : Int32) : xMetI U mX3_remove [.inr 0, .inl x] M (poC M (o_remove s x)) := by
  refine xMetI.of (ty := .int) (L := [some (.inr 0), some (.inl x), none]) fX3_remove rfl rfl (Nat.le_of_ble_eq_true rfl) (fun G hN hO hR => ?_)
  have hN : G.2.2.2.2.2.2.2.2.2.2.1 = 3 := hN
  have hO : xOK U G RX3 cX3_remove 3 := hO
  unfold o_remove at hR
  have hle := nC_le (pRule s.1.1 x) 32
  refine x_aload_n hO dX3_remove_0 rfl rfl ?_
  refine x_getR (T := TX3) (j := 0) hO dX3_remove_1 flX3_10 (by decide) rfl rfl (by decide) rfl rfl ?_
  refine x_iload_n hO dX3_remove_4 rfl rfl ?_
  refine x_callV1 hO (k_entriesOf U M x) dX3_remove_5 lkX3_70 fX1_entriesOf vX1_entriesOf (by decide) rfl rfl rfl rfl rfl (by decide) (Nat.le_of_ble_eq_true rfl) ?_
  rw [h.rows]
  generalize nC (pRule s.1.1 x) 32 = n at *
  refine x_istore_n (n := 3) hO dX3_remove_8 rfl rfl (by decide) hN ?_
  refine x_iload_n hO dX3_remove_9 rfl rfl ?_
  refine x_if_ne (tgt := 15) hO dX3_remove_10 (by decide) (fun c => ?_) (fun c => ?_)
  · have q : ¬ n = 0 := fun z => c (by rw [z]; rfl)
    rw [if_neg q] at hR
    refine x_aload_n hO dX3_remove_15 rfl rfl ?_
    refine x_getR (T := TX3) (j := 2) hO dX3_remove_16 flX3_22 (by decide) rfl rfl (by decide) rfl rfl ?_
    refine x_aload_n hO dX3_remove_19 rfl rfl ?_
    refine x_getR (T := TX3) (j := 0) hO dX3_remove_20 flX3_10 (by decide) rfl rfl (by decide) rfl rfl ?_
    refine x_callVv hO (k_rec U M h) dX3_remove_23 lkX3_51 fX0_record vX0_record (by decide) rfl rfl rfl rfl rfl (by decide) (Nat.le_of_ble_eq_true rfl) (fun M1 h1 => ?_)
    obtain ⟨r1, f1, e16, -, -⟩ := h1
    refine x_aload_n hO dX3_remove_26 rfl rfl ?_
    refine x_getR (T := TX3) (j := 0) hO dX3_remove_27 flX3_10 (by decide) rfl rfl (by decide) rfl rfl ?_
    refine x_iload_n hO dX3_remove_30 rfl rfl ?_
    refine x_callVv hO (k_dropEntriesOf U M1 x) dX3_remove_31 lkX3_74 fX1_dropEntriesOf vX1_dropEntriesOf (by decide) rfl rfl rfl rfl rfl (by decide) (Nat.le_of_ble_eq_true rfl) (fun M2 h2 => ?_)
    obtain ⟨r2, f2⟩ := r1.mem h2
    refine x_iload_n hO dX3_remove_34 rfl rfl ?_
    refine x_iret hO hR dX3_remove_35 rfl ?_
    rw [r1.rows, r1.nums] at r2
    exact ⟨rfl, r2, f1.tr f2⟩
  · have q : n = 0 := (nI_eq (b := 0) (by omega) (by decide)).mp c
    rw [if_pos q] at hR
    refine x_iconst (v := (-1 : Int32)) hO dX3_remove_13 rfl ?_
    refine x_iret hO hR dX3_remove_14 rfl ?_
    exact ⟨rfl, h, frC.rf M⟩
theorem kc_setPlacing (U : xP) (M : xM) {s : aO} (h : RC M s) (x : Int32) : xMetI U mX3_setPlacing [.inr 0, .inl x] M (poC M (o_setPlacing s x)) := by
  refine xMetI.of (ty := .int) (L := [some (.inr 0), some (.inl x), none]) fX3_setPlacing rfl rfl (Nat.le_of_ble_eq_true rfl) (fun G hN hO hR => ?_)
  have hN : G.2.2.2.2.2.2.2.2.2.2.1 = 3 := hN
  have hO : xOK U G RX3 cX3_setPlacing 3 := hO
  unfold o_setPlacing at hR
  have e7 : M 16 7 = s.1.2 0 := h.num (j := 0) (by decide)
  have bad : ixB x 3 = false → XW U G 9 [some (.inr 0), some (.inl x), none] [] M := by
    intro hb
    rw [hb] at hR
    refine x_bipush (v := (-2 : Int32)) hO dX3_setPlacing_9 rfl ?_
    refine x_iret hO hR dX3_setPlacing_11 rfl ?_
    exact ⟨rfl, h, frC.rf M⟩
  refine x_iload_n hO dX3_setPlacing_0 rfl rfl ?_
  refine x_if_lt (tgt := 9) hO dX3_setPlacing_1 (by decide) (fun c => ?_) (fun c => ?_)
  · exact bad (ixB_lo c)
  · refine x_iload_n hO dX3_setPlacing_4 rfl rfl ?_
    refine x_iconst (v := nI 3) hO dX3_setPlacing_5 rfl ?_
    refine x_icmp_lt (tgt := 12) hO dX3_setPlacing_6 (by decide) (fun c2 => ?_) (fun c2 => ?_)
    · have hi : ixB x 3 = true := decide_eq_true ⟨c, c2⟩
      rw [hi] at hR
      simp only [if_true] at hR
      refine x_aload_n hO dX3_setPlacing_12 rfl rfl ?_
      refine x_getR (T := TX3) (j := 0) hO dX3_setPlacing_13 flX3_10 (by decide) rfl rfl (by decide) rfl rfl ?_
      refine x_getNI (T := TX1) (j := 7) hO dX3_setPlacing_16 flX3_78 (by decide) rfl rfl (by decide) rfl rfl ?_
      rw [e7]
      refine x_istore_n (n := 3) hO dX3_setPlacing_19 rfl rfl (by decide) hN ?_
      refine x_iload_n hO dX3_setPlacing_20 rfl rfl ?_
      refine x_iload_n hO dX3_setPlacing_21 rfl rfl ?_
      refine x_icmp_ne (tgt := 28) hO dX3_setPlacing_22 (by decide) (fun c3 => ?_) (fun c3 => ?_)
      · rw [if_neg c3] at hR
        refine x_aload_n hO dX3_setPlacing_28 rfl rfl ?_
        refine x_getR (T := TX3) (j := 2) hO dX3_setPlacing_29 flX3_22 (by decide) rfl rfl (by decide) rfl rfl ?_
        refine x_aload_n hO dX3_setPlacing_32 rfl rfl ?_
        refine x_getR (T := TX3) (j := 0) hO dX3_setPlacing_33 flX3_10 (by decide) rfl rfl (by decide) rfl rfl ?_
        refine x_callVv hO (k_rec U M h) dX3_setPlacing_36 lkX3_51 fX0_record vX0_record (by decide) rfl rfl rfl rfl rfl (by decide) (Nat.le_of_ble_eq_true rfl) (fun M1 h1 => ?_)
        obtain ⟨r1, f1, e16, -, -⟩ := h1
        refine x_aload_n hO dX3_setPlacing_39 rfl rfl ?_
        refine x_getR (T := TX3) (j := 0) hO dX3_setPlacing_40 flX3_10 (by decide) rfl rfl (by decide) rfl rfl ?_
        refine x_iload_n hO dX3_setPlacing_43 rfl rfl ?_
        refine x_putN (T := TX1) (j := 7) (ty := .int) hO dX3_setPlacing_44 flX3_78 (by decide) rfl rfl (by decide) rfl rfl rfl (by decide +kernel) rfl rfl ?_
        have h2 := mSt.num (M := M1) 7 (by decide) x
        obtain ⟨r2, f2⟩ := r1.mem h2
        refine x_iload_n hO dX3_setPlacing_47 rfl rfl ?_
        refine x_iret hO hR dX3_setPlacing_48 rfl ?_
        rw [r1.rows, sc_7, r1.nums] at r2
        exact ⟨rfl, r2, f1.tr f2⟩
      · rw [if_pos c3] at hR
        refine x_bipush (v := (-4 : Int32)) hO dX3_setPlacing_25 rfl ?_
        refine x_iret hO hR dX3_setPlacing_27 rfl ?_
        exact ⟨rfl, h, frC.rf M⟩
    · exact bad (ixB_hi (Int32.not_lt.mp c2))
theorem kc_rearrange (U : xP) (M : xM) {s : aO} (h : RC M s) {n : Nat} (hn : n ≤ 32) (hc : aCnt s.1.1 ≤ n) : xMetI U mX3_rearrange [.inr 0, .inl (nI n)] M (poC M (o_re s n)) := by
  refine xMetI.of (ty := .int) (L := [some (.inr 0), some (.inl (nI n)), none]) fX3_rearrange rfl rfl (Nat.le_of_ble_eq_true rfl) (fun G hN hO hR => ?_)
  have hN : G.2.2.2.2.2.2.2.2.2.2.1 = 3 := hN
  have hO : xOK U G RX3 cX3_rearrange 4 := hO
  unfold o_re at hR
  have hle := nC_le (pOut s.1.1 n) 32
  refine x_aload_n hO dX3_rearrange_0 rfl rfl ?_
  refine x_getR (T := TX3) (j := 0) hO dX3_rearrange_1 flX3_10 (by decide) rfl rfl (by decide) rfl rfl ?_
  refine x_iload_n hO dX3_rearrange_4 rfl rfl ?_
  refine x_callV1 hO (k_entriesOutOfShare U M hn) dX3_rearrange_5 lkX3_201 fX1_entriesOutOfShare vX1_entriesOutOfShare (by decide) rfl rfl rfl rfl rfl (by decide) (Nat.le_of_ble_eq_true rfl) ?_
  rw [h.rows]
  generalize nC (pOut s.1.1 n) 32 = v at *
  refine x_istore_n (n := 3) hO dX3_rearrange_8 rfl rfl (by decide) hN ?_
  refine x_iload_n hO dX3_rearrange_9 rfl rfl ?_
  refine x_if_ne (tgt := 16) hO dX3_rearrange_10 (by decide) (fun c => ?_) (fun c => ?_)
  · have q : ¬ v = 0 := fun z => c (by rw [z]; rfl)
    rw [if_neg q] at hR
    refine x_aload_n hO dX3_rearrange_16 rfl rfl ?_
    refine x_getR (T := TX3) (j := 2) hO dX3_rearrange_17 flX3_22 (by decide) rfl rfl (by decide) rfl rfl ?_
    refine x_aload_n hO dX3_rearrange_20 rfl rfl ?_
    refine x_getR (T := TX3) (j := 0) hO dX3_rearrange_21 flX3_10 (by decide) rfl rfl (by decide) rfl rfl ?_
    refine x_callVv hO (k_rec U M h) dX3_rearrange_24 lkX3_51 fX0_record vX0_record (by decide) rfl rfl rfl rfl rfl (by decide) (Nat.le_of_ble_eq_true rfl) (fun M1 h1 => ?_)
    obtain ⟨r1, f1, e16, -, -⟩ := h1
    refine x_aload_n hO dX3_rearrange_27 rfl rfl ?_
    refine x_getR (T := TX3) (j := 0) hO dX3_rearrange_28 flX3_10 (by decide) rfl rfl (by decide) rfl rfl ?_
    refine x_iload_n hO dX3_rearrange_31 rfl rfl ?_
    refine x_callVv hO (k_moveIntoShares U M1 hn (by rw [r1.rows]; exact hc)) dX3_rearrange_32 lkX3_204 fX1_moveIntoShares vX1_moveIntoShares (by decide) rfl rfl rfl rfl rfl (by decide) (Nat.le_of_ble_eq_true rfl) (fun M2 h2 => ?_)
    obtain ⟨B, hB, h2⟩ := h2
    rw [r1.rows] at hB
    have hB : B = aSp s.1.1 n := hB.eq hn
    subst hB
    obtain ⟨r2, f2⟩ := r1.mem h2
    have e9 : M2 16 9 = s.1.2 2 := by rw [h2.2.1]; exact r1.num (j := 2) (by decide)
    refine x_aload_n hO dX3_rearrange_35 rfl rfl ?_
    refine x_getR (T := TX3) (j := 0) hO dX3_rearrange_36 flX3_10 (by decide) rfl rfl (by decide) rfl rfl ?_
    refine x_dup hO dX3_rearrange_39 ?_
    refine x_getNI (T := TX1) (j := 9) hO dX3_rearrange_40 flX3_189 (by decide) rfl rfl (by decide) rfl rfl ?_
    rw [e9]
    refine x_iload_n hO dX3_rearrange_43 rfl rfl ?_
    refine x_iadd hO dX3_rearrange_44 ?_
    refine x_putN (T := TX1) (j := 9) (ty := .int) hO dX3_rearrange_45 flX3_189 (by decide) rfl rfl (by decide) rfl rfl rfl (by decide +kernel) rfl rfl ?_
    have h3 := mSt.num (M := M2) 9 (by decide) (s.1.2 2 + nI v)
    obtain ⟨r3, f3⟩ := r2.mem h3
    refine x_iload_n hO dX3_rearrange_48 rfl rfl ?_
    refine x_iret hO hR dX3_rearrange_49 rfl ?_
    rw [sc_9, r2.rows, r2.nums] at r3
    have e : sc (M1 16) = s.1.2 := r1.nums
    refine ⟨rfl, ?_, (f1.tr f2).tr f3⟩
    have r4 : RC (xset M2 16 9 (s.1.2 2 + nI v)) (oCur (oRec s) (aSp s.1.1 n, upd (sc (M1 16)) 2 (s.1.2 2 + nI v))) := r3
    rw [e] at r4
    exact r4
  · have q : v = 0 := (nI_eq (b := 0) (by omega) (by decide)).mp c
    rw [if_pos q] at hR
    refine x_bipush (v := (-4 : Int32)) hO dX3_rearrange_13 rfl ?_
    refine x_iret hO hR dX3_rearrange_15 rfl ?_
    exact ⟨rfl, h, frC.rf M⟩
theorem kc_compact (U : xP) (M : xM) {s : aO} (h : RC M s) : xMetI U mX3_compact [.inr 0] M (poC M (o_re s 32)) := by
  refine xMetI.of (ty := .int) (L := [some (.inr 0)]) fX3_compact rfl rfl (Nat.le_of_ble_eq_true rfl) (fun G hN hO hR => ?_)
  have hN : G.2.2.2.2.2.2.2.2.2.2.1 = 1 := hN
  have hO : xOK U G RX3 cX3_compact 5 := hO
  refine x_aload_n hO dX3_compact_0 rfl rfl ?_
  refine x_bipush (v := nI 32) hO dX3_compact_1 rfl ?_
  refine x_callV hO (kc_rearrange U M h (n := 32) (by decide) (aCnt_le _)) dX3_compact_3 lkX3_82 fX3_rearrange vX3_rearrange (by decide) rfl rfl rfl rfl rfl (by decide) (Nat.le_of_ble_eq_true rfl) (fun r M1 h1 => ?_)
  refine x_iret hO hR dX3_compact_6 rfl ?_
  exact h1
theorem kc_spread (U : xP) (M : xM) {s : aO} (h : RC M s) : xMetI U mX3_spread [.inr 0] M (poC M (o_re s (aCnt s.1.1))) := by
  refine xMetI.of (ty := .int) (L := [some (.inr 0)]) fX3_spread rfl rfl (Nat.le_of_ble_eq_true rfl) (fun G hN hO hR => ?_)
  have hN : G.2.2.2.2.2.2.2.2.2.2.1 = 1 := hN
  have hO : xOK U G RX3 cX3_spread 5 := hO
  refine x_aload_n hO dX3_spread_0 rfl rfl ?_
  refine x_aload_n hO dX3_spread_1 rfl rfl ?_
  refine x_getR (T := TX3) (j := 0) hO dX3_spread_2 flX3_10 (by decide) rfl rfl (by decide) rfl rfl ?_
  refine x_callV1 hO (k_entries U M) dX3_spread_5 lkX3_85 fX1_entries vX1_entries (by decide) rfl rfl rfl rfl rfl (by decide) (Nat.le_of_ble_eq_true rfl) ?_
  rw [h.rows]
  refine x_callV hO (kc_rearrange U M h (n := aCnt s.1.1) (aCnt_le _) (Nat.le_refl _)) dX3_spread_8 lkX3_82 fX3_rearrange vX3_rearrange (by decide) rfl rfl rfl rfl rfl (by decide) (Nat.le_of_ble_eq_true rfl) (fun r M1 h1 => ?_)
  refine x_iret hO hR dX3_spread_11 rfl ?_
  exact h1
theorem aN_lt {f : Nat} (h : f < 32) : aN f = nI f := if_pos h
theorem aN_ge {f : Nat} (h : ¬ f < 32) : aN f = -1 := if_neg h
theorem aN_m1 {f : Nat} : aN f = -1 ↔ ¬ f < 32 := by
  constructor
  · intro h q
    rw [aN_lt q] at h
    exact absurd (by rw [h]; decide) (nI_pos (n := f) (by omega))
  · exact aN_ge
theorem aFd_oc {A : aR} {x : Int32} (h : aFd A x < 32) : aoc A (aFd A x) = true := by
  have := nF_yes (P := pKey A x) 32 0 (by unfold aFd at h; omega)
  simp only [pKey, Bool.and_eq_true] at this
  exact this.1
theorem kc_search (U : xP) (M : xM) {s : aO} (h : RC M s) (x : Int32) : xMetI U mX3_search [.inr 0, .inl x] M (poC M (o_search s x)) := by
  refine xMetI.of (ty := .int) (L := [some (.inr 0), some (.inl x), none]) fX3_search rfl rfl (Nat.le_of_ble_eq_true rfl) (fun G hN hO hR => ?_)
  have hN : G.2.2.2.2.2.2.2.2.2.2.1 = 3 := hN
  have hO : xOK U G RX3 cX3_search 6 := hO
  unfold o_search at hR
  refine x_iload_n hO dX3_search_0 rfl rfl ?_
  refine x_callS1 hO (k_isKey U M x) dX3_search_1 lkX3_37 fX3_isKey sX3_isKey rfl rfl (by decide) (Nat.le_of_ble_eq_true rfl) ?_
  refine x_if_ne (tgt := 10) hO dX3_search_4 (by decide) (fun c => ?_) (fun c => ?_)
  · rw [bI_1 c] at hR
    simp only [if_true] at hR
    refine x_aload_n hO dX3_search_10 rfl rfl ?_
    refine x_getR (T := TX3) (j := 0) hO dX3_search_11 flX3_10 (by decide) rfl rfl (by decide) rfl rfl ?_
    refine x_iload_n hO dX3_search_14 rfl rfl ?_
    refine x_callV1 hO (k_slotFoundBy U M x) dX3_search_15 lkX3_88 fX1_slotFoundBy vX1_slotFoundBy (by decide) rfl rfl rfl rfl rfl (by decide) (Nat.le_of_ble_eq_true rfl) ?_
    rw [h.rows]
    refine x_istore_n (n := 3) hO dX3_search_18 rfl rfl (by decide) hN ?_
    refine x_iload_n hO dX3_search_19 rfl rfl ?_
    refine x_iconst (v := (-1 : Int32)) hO dX3_search_20 rfl ?_
    refine x_icmp_ne (tgt := 27) hO dX3_search_21 (by decide) (fun c2 => ?_) (fun c2 => ?_)
    · have q : aFd s.1.1 x < 32 := by
        rcases Nat.lt_or_ge (aFd s.1.1 x) 32 with q | q
        · exact q
        · exact absurd (aN_ge (by omega)) c2
      have ho := aFd_oc q
      rw [if_pos q] at hR
      rw [aN_lt q]
      generalize aFd s.1.1 x = f at *
      refine x_aload_n hO dX3_search_27 rfl rfl ?_
      refine x_getR (T := TX3) (j := 2) hO dX3_search_28 flX3_22 (by decide) rfl rfl (by decide) rfl rfl ?_
      refine x_aload_n hO dX3_search_31 rfl rfl ?_
      refine x_getR (T := TX3) (j := 0) hO dX3_search_32 flX3_10 (by decide) rfl rfl (by decide) rfl rfl ?_
      refine x_callVv hO (k_rec U M h) dX3_search_35 lkX3_51 fX0_record vX0_record (by decide) rfl rfl rfl rfl rfl (by decide) (Nat.le_of_ble_eq_true rfl) (fun M1 h1 => ?_)
      obtain ⟨r1, f1, e16, -, -⟩ := h1
      refine x_aload_n hO dX3_search_38 rfl rfl ?_
      refine x_getR (T := TX3) (j := 0) hO dX3_search_39 flX3_10 (by decide) rfl rfl (by decide) rfl rfl ?_
      refine x_iload_n hO dX3_search_42 rfl rfl ?_
      refine x_iload_n hO dX3_search_43 rfl rfl ?_
      have ho1 : aoc (cA M1 16) f = true := by rw [r1.rows]; exact ho
      refine x_callVv hO (k_countSearch U M1 x q ho1) dX3_search_44 lkX3_91 fX1_countSearch vX1_countSearch (by decide) rfl rfl rfl rfl rfl (by decide) (Nat.le_of_ble_eq_true rfl) (fun M2 h2 => ?_)
      obtain ⟨r2, f2⟩ := r1.mem h2
      refine x_aload_n hO dX3_search_47 rfl rfl ?_
      refine x_getR (T := TX3) (j := 0) hO dX3_search_48 flX3_10 (by decide) rfl rfl (by decide) rfl rfl ?_
      refine x_aload_n hO dX3_search_51 rfl rfl ?_
      refine x_getR (T := TX3) (j := 0) hO dX3_search_52 flX3_10 (by decide) rfl rfl (by decide) rfl rfl ?_
      refine x_getNR (T := TX1) (j := 5) hO dX3_search_55 flX3_95 (by decide) rfl rfl (by decide) rfl rfl ?_
      refine x_iload_n hO dX3_search_58 rfl rfl ?_
      refine x_callV1 hO (k_told U M2 (k := 22) (by decide) rfl (nI f)) dX3_search_59 lkX3_99 fX1_told vX1_told (by decide) rfl rfl rfl rfl rfl (by decide) (Nat.le_of_ble_eq_true rfl) ?_
      have ho2 : aoc (cA M2 16) f = true := by
        rw [h2.1]
        unfold aoc aHt
        rw [if_neg (fun z => absurd z.1 (by decide))]
        exact ho1
      have e5 : M2 22 f = s.1.1 f 5 := by
        have := cA_in (M := M2) (b := 16) (w := 5) ho2 (by decide)
        rw [h2.1] at this
        unfold aHt at this
        rw [if_neg (fun z => absurd z.1 (by decide)), r1.rows] at this
        exact this
      rw [ixB_n q (by decide), nI_clamp (by omega), ho2, if_pos rfl, if_pos rfl, e5]
      refine x_iret hO hR dX3_search_62 rfl ?_
      rw [sc_11, sc_10, r1.rows, r1.nums] at r2
      rw [show M1 16 10 = s.1.2 3 from r1.num (j := 3) (by decide), show M1 16 11 = s.1.2 4 from r1.num (j := 4) (by decide)] at r2
      exact ⟨rfl, r2, f1.tr f2⟩
    · have q : ¬ aFd s.1.1 x < 32 := aN_m1.mp c2
      rw [if_neg q] at hR
      refine x_bipush (v := (-4 : Int32)) hO dX3_search_24 rfl ?_
      refine x_iret hO hR dX3_search_26 rfl ?_
      exact ⟨rfl, h, frC.rf M⟩
  · rw [bI_0 c] at hR
    refine x_bipush (v := (-2 : Int32)) hO dX3_search_7 rfl ?_
    refine x_iret hO hR dX3_search_9 rfl ?_
    exact ⟨rfl, h, frC.rf M⟩
/-! ===== texts, history ===== -/
theorem RC.txt {M : xM} {s : aO} (h : RC M s) : ∃ n : Nat, n ≤ 60 ∧ M 3 1 = nI n ∧ s.2.2.2.1 = n ∧ s.2.2.2.2 = sg (M 4) n := by
  obtain ⟨-, -, -, n, h8, h9, h10⟩ := h
  exact ⟨n, h8, h9, by rw [h10], by rw [h10]⟩
/-- only the text's cells change -/
theorem RC.text {M M' : xM} {s : aO} {n : Nat} (h : RC M s) (hk : ∀ k, k ≠ 3 → k ≠ 4 → k ≠ 5 → k ≠ 6 → k ≠ 7 → k ≠ 8 → M' k = M k) (hn : n ≤ 60) (h31 : M' 3 1 = nI n) {t : tT} (ht : sg (M' 4) n = t) : RC M' (oTxt s (n, t)) ∧ frC M M' := by
  obtain ⟨h1, h2, ⟨o, c, h3, h4, h5, h6, h7⟩, -⟩ := h
  have e : ∀ k, 9 ≤ k → M' k = M k := fun k a => hk k (by omega) (by omega) (by omega) (by omega) (by omega) (by omega)
  have eb : ∀ i, stC M' (hb o i) = stC M (hb o i) := fun i => stC_fr (fun k a _ => e k (by unfold hb at a; omega))
  have e1 : M' 1 = M 1 := hk 1 (by decide) (by decide) (by decide) (by decide) (by decide) (by decide)
  refine ⟨⟨?_, ?_, ⟨o, c, h3, h4, by rw [e1]; exact h5, by rw [e1]; exact h6, ?_⟩, n, hn, h31, by rw [ht]; rfl⟩, fun k a _ => e k a⟩
  · rw [stC_fr (M := M) (M' := M') (b := 16) (fun k a _ => e k (by omega))]
    exact h1
  · rw [hk 0 (by decide) (by decide) (by decide) (by decide) (by decide) (by decide), stC_fr (M := M) (M' := M') (b := 24) (fun k a _ => e k (by omega))]
    exact h2
  · simp only [eb]
    exact h7
theorem sg_upd (T : tT) (n : Nat) (x : Int32) : sg (upd T n x) (n + 1) = upd (sg T n) n x := by
  funext p
  unfold sg
  simp only [upd_at]
  by_cases e : p = n
  · subst e
    simp
  · have : p < n + 1 ↔ p < n := by omega
    simp only [this, if_neg e]
theorem sg_sg (T : tT) (n p : Nat) : sg (sg T n) n p = sg T n p := by
  unfold sg
  split <;> rfl
theorem rE_sg (T : tT) (n p : Nat) : rE (sg T n) n p = rE T n p := by
  unfold rE
  simp only [sg_sg]
theorem rK_sg (T : tT) (n p : Nat) : rK (sg T n) n p = rK T n p := by
  unfold rK
  simp only [sg_sg]
theorem rOK_sg (T : tT) (n p : Nat) : rOK (sg T n) n p = rOK T n p := by
  unfold rOK
  simp only [sg_sg, rE_sg, rK_sg]
theorem rEnd_sg (T : tT) (n p : Nat) : rEnd (sg T n) n p = rEnd T n p := by
  unfold rEnd
  simp only [sg_sg, rE_sg, rK_sg]
theorem tx_sg (T : tT) (n : Nat) : ∀ (d p i : Nat), tx (sg T n) n d p i = tx T n d p i
  | 0, _, _ => rfl
  | d + 1, p, i => by
    simp only [tx, sg_sg, rOK_sg, rEnd_sg, tx_sg T n d]
theorem tB_sg (T : tT) (n : Nat) : ∀ i, tB (sg T n) n i = tB T n i
  | 0 => rfl
  | i + 1 => by simp only [tB, tB_sg T n i, rEnd_sg]
theorem eM_sg (T : tT) {n p : Nat} : ∀ {i : Nat}, p + i ≤ n → eM (sg T n) p i = eM T p i
  | 0, _ => rfl
  | i + 1, h => by simp only [eM, eM_sg T (n := n) (p := p) (i := i) (by omega), sg_in (T := T) (show p + i < n by omega)]
theorem eV_sg (T : tT) {n p : Nat} : ∀ {i : Nat}, p + i ≤ n → eV (sg T n) p i = eV T p i
  | 0, _ => rfl
  | i + 1, h => by simp only [eV, eV_sg T (n := n) (p := p) (i := i) (by omega), sg_in (T := T) (show p + i < n by omega)]
theorem rRank_sg (T : tT) {n p : Nat} (h : rOK T n p = true) : rRank (sg T n) n p = rRank T n p := by
  obtain ⟨-, h2⟩ := rOK_end h
  unfold rRank
  rw [sg_sg]
  split
  · rename_i q
    rw [sg_in (isD_lt q), sg_in (by omega)]
  · rw [sg_in (by omega)]
theorem rAct_sg (T : tT) {n p : Nat} (h : rOK T n p = true) : rAct (sg T n) n p = rAct T n p := by
  obtain ⟨-, h2⟩ := rOK_end h
  unfold rAct
  rw [rK_sg, sg_in (by omega)]
/-- the rules that were read are good -/
theorem tx_ok {T : tT} {n : Nat} : ∀ (d i : Nat), (tx T n d (tB T n i) i).1 = true → i ≤ (tx T n d (tB T n i) i).2.2 ∧ (tx T n d (tB T n i) i).2.2 ≤ i + d ∧ ∀ j, i ≤ j → j < (tx T n d (tB T n i) i).2.2 → rOK T n (tB T n j) = true
  | 0, i, h => by simp [tx] at h
  | d + 1, i, h => by
    simp only [tx] at h ⊢
    by_cases q : rOK T n (tB T n i) = true
    · simp only [q, if_true] at h ⊢
      by_cases q2 : rEnd T n (tB T n i) = n
      · simp only [q2, if_true] at h ⊢
        refine ⟨by omega, by omega, fun j h1 h2 => ?_⟩
        obtain rfl : j = i := by omega
        exact q
      · simp only [q2, if_false] at h ⊢
        by_cases q3 : sg T n (rEnd T n (tB T n i)) = nI 59
        · simp only [q3, if_true] at h ⊢
          have ih := tx_ok (T := T) (n := n) d (i + 1) h
          have e : tB T n (i + 1) = rEnd T n (tB T n i) + 1 := rfl
          rw [e] at ih
          refine ⟨by omega, by omega, fun j h1 h2 => ?_⟩
          rcases Nat.lt_or_ge i j with z | z
          · exact ih.2.2 j z h2
          · obtain rfl : j = i := by omega
            exact q
        · simp only [q3, if_false] at h
          exact absurd h (by simp)
    · simp only [q] at h
      exact absurd h (by simp)
theorem nI_m1 {n : Nat} (h : n < 2 ^ 31) : nI n ≠ -1 := by
  intro z
  exact absurd (by rw [z]; decide) (nI_pos h)
theorem tx_le {T : tT} {n : Nat} : ∀ (d p i : Nat), p ≤ n → (tx T n d p i).2.1 ≤ n
  | 0, p, i, h => h
  | d + 1, p, i, h => by
    have e := rEnd_le T h
    simp only [tx]
    split
    · split
      · exact e
      · split
        · rename_i q
          have := sg_lt q (by decide)
          exact tx_le d _ _ (by omega)
        · exact e
    · exact e
theorem kc_addText (U : xP) (M : xM) {s : aO} (h : RC M s) {a : Nat} (ha : s.1.2 1 = nI a) (ha2 : a < 100000) : xMetI U mX3_addText [.inr 0] M (poC M (o_addText s)) := by
  refine xMetI.of (ty := .int) (L := [some (.inr 0), none, none, none]) fX3_addText rfl rfl (Nat.le_of_ble_eq_true rfl) (fun G hN hO hR => ?_)
  have hN : G.2.2.2.2.2.2.2.2.2.2.1 = 4 := hN
  have hO : xOK U G RX3 cX3_addText 5 := hO
  unfold o_addText at hR
  obtain ⟨n, hn, h31, e1, e2⟩ := h.txt
  rw [e1, e2, tx_sg] at hR
  have hle := aCnt_le s.1.1
  have hok := tx_ok (T := M 4) (n := n) 5 0
  rw [show tB (M 4) n 0 = 0 from rfl] at hok
  refine x_aload_n hO dX3_addText_0 rfl rfl ?_
  refine x_getR (T := TX3) (j := 3) hO dX3_addText_1 flX3_29 (by decide) rfl rfl (by decide) rfl rfl ?_
  refine x_callV hO (k_readRules U M h31 hn) dX3_addText_4 lkX3_110 fX2_readRules vX2_readRules (by decide) rfl rfl rfl rfl rfl (by decide) (Nat.le_of_ble_eq_true rfl) (fun r M1 h1 => ?_)
  obtain ⟨rfl, d1, g31, gk⟩ := h1
  have g4 : M1 4 = M 4 := gk 4 (by decide) (by decide) (by decide) (by decide) (by decide)
  obtain ⟨r0, f1⟩ := h.text (M' := M1) (fun k k3 _ k5 k6 k7 k8 => gk k k3 k5 k6 k7 k8) hn g31 (t := sg (M 4) n) (by rw [g4])
  have r1 : RC M1 s := by
    have e : oTxt s (n, sg (M 4) n) = s := by
      obtain ⟨s1, s2, s3, s4, s5⟩ := s
      simp only [oTxt] at *
      rw [e1, e2]
    rw [e] at r0
    exact r0
  clear r0
  have hle2 : (tx (M 4) n 5 0 0).2.1 < 2 ^ 31 := by
    have := tx_le (T := M 4) (n := n) 5 0 0 (Nat.zero_le _)
    omega
  generalize hT : M 4 = T at *
  generalize hg : tx T n 5 0 0 = g at *
  refine x_istore_n (n := 4) hO dX3_addText_7 rfl rfl (by decide) hN ?_
  refine x_iload_n hO dX3_addText_8 rfl rfl ?_
  refine x_iconst (v := (-1 : Int32)) hO dX3_addText_9 rfl ?_
  by_cases q : g.1 = true
  · rw [if_pos q] at hR ⊢
    obtain ⟨g33, dat⟩ := d1 q
    obtain ⟨-, l5, ok⟩ := hok q
    generalize g.2.2 = m at *
    refine x_icmp_eq (tgt := 18) hO dX3_addText_10 (by decide) (fun c => ?_) (fun c => ?_)
    · refine x_aload_n hO dX3_addText_18 rfl rfl ?_
      refine x_getR (T := TX3) (j := 3) hO dX3_addText_19 flX3_29 (by decide) rfl rfl (by decide) rfl rfl ?_
      refine x_getNI (T := TX2) (j := 3) hO dX3_addText_22 flX3_113 (by decide) rfl rfl (by decide) rfl rfl ?_
      rw [g33]
      refine x_istore_n (n := 4) hO dX3_addText_25 rfl rfl (by decide) hN ?_
      refine x_aload_n hO dX3_addText_26 rfl rfl ?_
      refine x_getR (T := TX3) (j := 0) hO dX3_addText_27 flX3_10 (by decide) rfl rfl (by decide) rfl rfl ?_
      refine x_callV1 hO (k_freeSlots U M1) dX3_addText_30 lkX3_47 fX1_freeSlots vX1_freeSlots (by decide) rfl rfl rfl rfl rfl (by decide) (Nat.le_of_ble_eq_true rfl) ?_
      rw [r1.rows]
      refine x_iload_n hO dX3_addText_33 rfl rfl ?_
      refine x_icmp_ge (tgt := 40) hO dX3_addText_34 (by decide) (fun c2 => ?_) (fun c2 => ?_)
      · have q2 : ¬ 32 - aCnt s.1.1 < m := by have := (nI_leI (by omega) (by omega)).mp c2; omega
        rw [if_neg q2] at hR
        refine x_aload_n hO dX3_addText_40 rfl rfl ?_
        refine x_getR (T := TX3) (j := 2) hO dX3_addText_41 flX3_22 (by decide) rfl rfl (by decide) rfl rfl ?_
        refine x_aload_n hO dX3_addText_44 rfl rfl ?_
        refine x_getR (T := TX3) (j := 0) hO dX3_addText_45 flX3_10 (by decide) rfl rfl (by decide) rfl rfl ?_
        refine x_callVv hO (k_rec U M1 r1) dX3_addText_48 lkX3_51 fX0_record vX0_record (by decide) rfl rfl rfl rfl rfl (by decide) (Nat.le_of_ble_eq_true rfl) (fun M2 h2 => ?_)
        obtain ⟨r2, f2, e16, -, etxt⟩ := h2
        have dat2 : tDat T n m M2 := fun j hj => by
          rw [etxt 5 (by decide) (by decide), etxt 6 (by decide) (by decide), etxt 7 (by decide) (by decide), etxt 8 (by decide) (by decide)]
          exact dat j hj
        refine x_iconst (v := nI 0) hO dX3_addText_51 rfl ?_
        refine x_istore_n (n := 4) hO dX3_addText_52 rfl rfl (by decide) hN ?_
        have hcnt : ∀ i, i ≤ m → aCnt (txtS s.1 (sg T n) n i).1 = aCnt s.1.1 + i ∧ (txtS s.1 (sg T n) n i).2 1 = nI (a + i) := by
          intro i
          induction i with
          | zero => intro _; exact ⟨rfl, ha⟩
          | succ i ih =>
            intro hi
            obtain ⟨i1, i2⟩ := ih (by omega)
            simp only [txtS, addS]
            refine ⟨?_, ?_⟩
            · rw [aCnt_add _ _ (by omega) ?_, i1]
              · rfl
              · show (txtS s.1 (sg T n) n i).2 1 ≠ -1
                rw [i2]
                intro z
                exact absurd (by rw [z]; decide) (nI_pos (n := a + i) (by omega))
            · rw [upd_at, if_neg (by decide), upd_at, if_pos rfl, i2, nI_add]
              rfl
        refine upd_ind (P := fun i d => ∀ M3, RC M3 (oCur (oRec s) (txtS s.1 (sg T n) n i)) → frC M1 M3 → (∀ k, 3 ≤ k → k ≤ 8 → M3 k = M2 k) → XW U G 53 [some (.inr 0), some (.inl (-1)), some (.inl (nI m)), some (.inl (nI i))] [] M3) m ?_ ?_ m 0 (by omega) M2 r2 f2 (fun _ _ _ => rfl)
        · intro M3 r3 f3 _
          refine x_iload_n hO dX3_addText_53 rfl rfl ?_
          refine x_iload_n hO dX3_addText_54 rfl rfl ?_
          refine x_icmp_ge (tgt := 113) hO dX3_addText_55 (by decide) (fun c3 => ?_) (fun c3 => ?_)
          · refine x_iload_n hO dX3_addText_113 rfl rfl ?_
            refine x_iret hO hR dX3_addText_114 rfl ?_
            exact ⟨rfl, r3, f1.tr f3⟩
          · exact absurd (Int32.le_refl _) c3
        · intro i d hd ih M3 r3 f3 e3
          have him : i < m := by omega
          obtain ⟨i1, i2⟩ := hcnt i (by omega)
          obtain ⟨j1, j2⟩ := rOK_end (ok i (Nat.zero_le _) him)
          have k12 := rK_12 T n (tB T n i)
          obtain ⟨t5, t6, t7, t8⟩ := dat2 i him
          refine x_iload_n hO dX3_addText_53 rfl rfl ?_
          refine x_iload_n hO dX3_addText_54 rfl rfl ?_
          refine x_icmp_ge (tgt := 113) hO dX3_addText_55 (by decide) (fun c3 => ?_) (fun c3 => ?_)
          · exact absurd c3 (nI_ge him (by omega))
          · refine x_iload_n hO dX3_addText_58 rfl rfl ?_
            refine x_iconst (v := nI 5) hO dX3_addText_59 rfl ?_
            refine x_icmp_ge (tgt := 113) hO dX3_addText_60 (by decide) (fun c4 => ?_) (fun c4 => ?_)
            · exact absurd c4 (nI_ge (by omega) (by decide))
            · have hi5 : i < 5 := by omega
              refine x_aload_n hO dX3_addText_63 rfl rfl ?_
              refine x_getR (T := TX3) (j := 0) hO dX3_addText_64 flX3_10 (by decide) rfl rfl (by decide) rfl rfl ?_
              refine x_aload_n hO dX3_addText_67 rfl rfl ?_
              refine x_getR (T := TX3) (j := 3) hO dX3_addText_68 flX3_29 (by decide) rfl rfl (by decide) rfl rfl ?_
              refine x_getNR (T := TX2) (j := 5) hO dX3_addText_71 flX3_116 (by decide) rfl rfl (by decide) rfl rfl ?_
              refine x_iload_n hO dX3_addText_74 rfl rfl ?_
              refine x_iald hO (by decide) rfl (by decide) (rfl) (hi5) dX3_addText_75 ?_
              refine x_aload_n hO dX3_addText_76 rfl rfl ?_
              refine x_getR (T := TX3) (j := 3) hO dX3_addText_77 flX3_29 (by decide) rfl rfl (by decide) rfl rfl ?_
              refine x_getNR (T := TX2) (j := 4) hO dX3_addText_80 flX3_119 (by decide) rfl rfl (by decide) rfl rfl ?_
              refine x_iload_n hO dX3_addText_83 rfl rfl ?_
              refine x_iald hO (by decide) rfl (by decide) (rfl) (hi5) dX3_addText_84 ?_
              refine x_aload_n hO dX3_addText_85 rfl rfl ?_
              refine x_getR (T := TX3) (j := 3) hO dX3_addText_86 flX3_29 (by decide) rfl rfl (by decide) rfl rfl ?_
              refine x_getNR (T := TX2) (j := 6) hO dX3_addText_89 flX3_122 (by decide) rfl rfl (by decide) rfl rfl ?_
              refine x_iload_n hO dX3_addText_92 rfl rfl ?_
              refine x_iald hO (by decide) rfl (by decide) (rfl) (hi5) dX3_addText_93 ?_
              refine x_aload_n hO dX3_addText_94 rfl rfl ?_
              refine x_getR (T := TX3) (j := 3) hO dX3_addText_95 flX3_29 (by decide) rfl rfl (by decide) rfl rfl ?_
              refine x_getNR (T := TX2) (j := 7) hO dX3_addText_98 flX3_125 (by decide) rfl rfl (by decide) rfl rfl ?_
              refine x_iload_n hO dX3_addText_101 rfl rfl ?_
              refine x_iald hO (by decide) rfl (by decide) (rfl) (hi5) dX3_addText_102 ?_
              rw [e3 5 (by decide) (by decide), e3 6 (by decide) (by decide), e3 7 (by decide) (by decide), e3 8 (by decide) (by decide), t5, t6, t7, t8]
              have hlt : aCnt (cA M3 16) < 32 := by rw [r3.rows]; show aCnt (txtS s.1 (sg T n) n i).1 < 32; omega
              have hrn : M3 16 8 ≠ -1 := by
                rw [show M3 16 8 = nI (a + i) from (r3.num (j := 1) (by decide)).trans i2]
                intro z
                exact absurd (by rw [z]; decide) (nI_pos (n := a + i) (by omega))
              refine x_callV hO (k_addSingle U M3 _ _ _ _ hlt hrn) dX3_addText_103 lkX3_55 fX1_addSingle vX1_addSingle (by decide) rfl rfl rfl rfl rfl (by decide) (Nat.le_of_ble_eq_true rfl) (fun r M4 h4 => ?_)
              obtain ⟨-, h4⟩ := h4
              obtain ⟨r4, f4⟩ := r3.mem h4
              rw [sc_9, sc_8, r3.rows, r3.nums] at r4
              rw [show M3 16 7 = (txtS s.1 (sg T n) n i).2 0 from r3.num (j := 0) (by decide), show M3 16 8 = (txtS s.1 (sg T n) n i).2 1 from r3.num (j := 1) (by decide), show M3 16 9 = (txtS s.1 (sg T n) n i).2 2 from r3.num (j := 2) (by decide)] at r4
              refine x_pop hO dX3_addText_106 ?_
              refine x_iinc hO dX3_addText_107 rfl (by first | exact xinc_n _ | rfl) rfl hN ?_
              refine x_goto (tgt := 53) hO dX3_addText_110 (by decide) ?_
              refine ih M4 ?_ (f3.tr f4) (fun k a b => by rw [h4.2.2 k (by omega), e3 k a b])
              show RC M4 (oCur (oRec s) (addS (txtS s.1 (sg T n) n i) (nI (eV (sg T n) (tB (sg T n) n i) 8)) (nI (eM (sg T n) (tB (sg T n) n i) 8)) (rRank (sg T n) n (tB (sg T n) n i)) (rAct (sg T n) n (tB (sg T n) n i))))
              have ok1 := ok i (Nat.zero_le _) him
              rw [tB_sg, eV_sg T (by omega), eM_sg T (by omega), rRank_sg T ok1, rAct_sg T ok1]
              exact r4
      · have q2 : 32 - aCnt s.1.1 < m := Nat.not_le.mp (fun z => c2 ((nI_leI (by omega) (by omega)).mpr z))
        rw [if_pos q2] at hR
        refine x_bipush (v := (-3 : Int32)) hO dX3_addText_37 rfl ?_
        refine x_iret hO hR dX3_addText_39 rfl ?_
        exact ⟨rfl, r1, f1⟩
    · exact absurd rfl c
  · rw [if_neg q] at hR ⊢
    refine x_icmp_eq (tgt := 18) hO dX3_addText_10 (by decide) (fun c => ?_) (fun c => ?_)
    · exact absurd c (nI_m1 hle2)
    · refine x_bipush (v := (-100 : Int32)) hO dX3_addText_13 rfl ?_
      change XW U G _ _ [.inl (-100)] M1
      refine x_iload_n hO dX3_addText_15 rfl rfl ?_
      refine x_isub hO dX3_addText_16 ?_
      refine x_iret hO hR dX3_addText_17 rfl ?_
      exact ⟨rfl, r1, f1⟩
