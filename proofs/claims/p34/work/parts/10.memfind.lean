theorem k_min (U : xP) (M : xM) (a b : Nat) (ha : a < 2 ^ 31) (hb : b < 2 ^ 31) : xMetI U mJ9_min_7cf53 [.inl (nI a), .inl (nI b)] M (fun r M' => r = nI (min a b) ∧ M' = M) := by
  refine xMetI.of (ty := .int) (L := [some (.inl (nI a)), some (.inl (nI b))]) fJ9_min_7cf53 rfl rfl (Nat.le_of_ble_eq_true rfl) (fun G hN hO hR => ?_)
  have hN : G.2.2.2.2.2.2.2.2.2.2.1 = 2 := hN
  have hO : xOK U G RJ9 cJ9_min_7cf53 0 := hO
  refine x_iload_n hO dJ9_min_7cf53_0 rfl rfl ?_
  refine x_iload_n hO dJ9_min_7cf53_1 rfl rfl ?_
  refine x_icmp_gt (tgt := 9) hO dJ9_min_7cf53_2 (by decide) (fun c => ?_) (fun c => ?_)
  · refine x_iload_n hO dJ9_min_7cf53_9 rfl rfl ?_
    refine x_iret hO hR dJ9_min_7cf53_10 rfl ?_
    exact ⟨by rw [Nat.min_eq_right (Nat.le_of_lt ((nI_ltI hb ha).mp c))], rfl⟩
  · refine x_iload_n hO dJ9_min_7cf53_5 rfl rfl ?_
    refine x_goto (tgt := 10) hO dJ9_min_7cf53_6 (by decide) ?_
    refine x_iret hO hR dJ9_min_7cf53_10 rfl ?_
    exact ⟨by rw [Nat.min_eq_left (Nat.not_lt.mp (fun q => c ((nI_ltI hb ha).mpr q)))], rfl⟩
theorem k_slotFoundBy (U : xP) (M : xM) (x : Int32) : xMetI U mX1_slotFoundBy [.inr 16, .inl x] M (fun r M' => r = aN (aFd (cA M 16) x) ∧ M' = M) := by
  refine xMetI.of (ty := .int) (L := [some (.inr 16), some (.inl x), none]) fX1_slotFoundBy rfl rfl (Nat.le_of_ble_eq_true rfl) (fun G hN hO hR => ?_)
  have hN : G.2.2.2.2.2.2.2.2.2.2.1 = 3 := hN
  have hO : xOK U G RX1 cX1_slotFoundBy 1 := hO
  generalize hf : aFd (cA M 16) x = f at hR
  refine x_iconst (v := nI 0) hO dX1_slotFoundBy_0 rfl ?_
  refine x_istore_n (n := 3) hO dX1_slotFoundBy_1 rfl rfl (by decide) hN ?_
  refine upd_ind (P := fun i d => nF (pKey (cA M 16) x) i d = f → XW U G 2 [some (.inr 16), some (.inl x), some (.inl (nI i))] [] M) 32 ?_ ?_ 32 0 rfl hf
  · intro hf
    refine x_iload_n hO dX1_slotFoundBy_2 rfl rfl ?_
    refine x_bipush (v := nI 32) hO dX1_slotFoundBy_3 rfl ?_
    refine x_icmp_ge (tgt := 41) hO dX1_slotFoundBy_5 (by decide) (fun c => ?_) (fun c => ?_)
    · refine x_iconst (v := (-1 : Int32)) hO dX1_slotFoundBy_41 rfl ?_
      refine x_iret hO hR dX1_slotFoundBy_42 rfl ?_
      exact ⟨by rw [← hf]; rfl, rfl⟩
    · exact absurd (Int32.le_refl _) c
  · intro i d hd ih hf
    have hi : i < 32 := by omega
    refine x_iload_n hO dX1_slotFoundBy_2 rfl rfl ?_
    refine x_bipush (v := nI 32) hO dX1_slotFoundBy_3 rfl ?_
    refine x_icmp_ge (tgt := 41) hO dX1_slotFoundBy_5 (by decide) (fun c => ?_) (fun c => ?_)
    · exact absurd c (nI_ge hi (by decide))
    · refine x_aload_n hO dX1_slotFoundBy_8 rfl rfl ?_
      refine x_iload_n hO dX1_slotFoundBy_9 rfl rfl ?_
      refine x_callV1 hO (k_holds M hi) dX1_slotFoundBy_10 lkX1_53 fX1_holdsEntry vX1_holdsEntry (by decide) rfl rfl rfl rfl rfl (by decide) (Nat.le_of_ble_eq_true rfl) ?_
      refine x_if_eq (tgt := 35) hO dX1_slotFoundBy_13 (by decide) (fun c2 => ?_) (fun c2 => ?_)
      · refine x_iinc hO dX1_slotFoundBy_35 rfl (by first | exact xinc_n _ | rfl) rfl hN ?_
        refine x_goto (tgt := 2) hO dX1_slotFoundBy_38 (by decide) ?_
        exact ih (by rw [← hf, nF_f (by simp [pKey, bI_0 c2])])
      · have e : M 19 i = cA M 16 i 2 := cA_in (w := 2) (bI_1 c2) (by decide)
        have e1 : M 20 i = cA M 16 i 3 := cA_in (w := 3) (bI_1 c2) (by decide)
        refine x_iload_n hO dX1_slotFoundBy_16 rfl rfl ?_
        refine x_aload_n hO dX1_slotFoundBy_17 rfl rfl ?_
        refine x_getR (T := TX1) (j := 2) hO dX1_slotFoundBy_18 flX1_18 (by decide) rfl rfl (by decide) rfl rfl ?_
        refine x_iload_n hO dX1_slotFoundBy_21 rfl rfl ?_
        refine x_iald hO (by decide) rfl (by decide) (rfl) (hi) dX1_slotFoundBy_22 ?_
        refine x_iand hO dX1_slotFoundBy_23 ?_
        refine x_aload_n hO dX1_slotFoundBy_24 rfl rfl ?_
        refine x_getR (T := TX1) (j := 3) hO dX1_slotFoundBy_25 flX1_21 (by decide) rfl rfl (by decide) rfl rfl ?_
        refine x_iload_n hO dX1_slotFoundBy_28 rfl rfl ?_
        refine x_iald hO (by decide) rfl (by decide) (rfl) (hi) dX1_slotFoundBy_29 ?_
        rw [e, e1]
        refine x_icmp_ne (tgt := 35) hO dX1_slotFoundBy_30 (by decide) (fun c3 => ?_) (fun c3 => ?_)
        · refine x_iinc hO dX1_slotFoundBy_35 rfl (by first | exact xinc_n _ | rfl) rfl hN ?_
          refine x_goto (tgt := 2) hO dX1_slotFoundBy_38 (by decide) ?_
          exact ih (by rw [← hf, nF_f (by simp [pKey, c3])])
        · refine x_iload_n hO dX1_slotFoundBy_33 rfl rfl ?_
          refine x_iret hO hR dX1_slotFoundBy_34 rfl ?_
          exact ⟨by rw [← hf, nF_t (by simp [pKey, bI_1 c2, c3])]; simp [aN, hi], rfl⟩
/-- the keys that the slot x finds, -1: that find none -/
def aKs (A : aR) (x : Int32) (n : Nat) : Nat := nC (fun k => aN (aFd A (nI k)) == x) n
theorem k_keysFinding (U : xP) (M : xM) (x : Int32) : xMetI U mX1_keysFinding [.inr 16, .inl x] M (fun r M' => r = nI (aKs (cA M 16) x 256) ∧ M' = M) := by
  refine xMetI.of (ty := .int) (L := [some (.inr 16), some (.inl x), none, none]) fX1_keysFinding rfl rfl (Nat.le_of_ble_eq_true rfl) (fun G hN hO hR => ?_)
  have hN : G.2.2.2.2.2.2.2.2.2.2.1 = 4 := hN
  have hO : xOK U G RX1 cX1_keysFinding 2 := hO
  refine x_iconst (v := nI 0) hO dX1_keysFinding_0 rfl ?_
  refine x_istore_n (n := 4) hO dX1_keysFinding_1 rfl rfl (by decide) hN ?_
  refine x_iconst (v := nI 0) hO dX1_keysFinding_2 rfl ?_
  refine x_istore_n (n := 4) hO dX1_keysFinding_3 rfl rfl (by decide) hN ?_
  refine upd_ind (P := fun i _ => XW U G 4 [some (.inr 16), some (.inl x), some (.inl (nI (aKs (cA M 16) x i))), some (.inl (nI i))] [] M) 256 ?_ ?_ 256 0 rfl
  · refine x_iload_n hO dX1_keysFinding_4 rfl rfl ?_
    refine x_sipush (v := nI 256) hO dX1_keysFinding_5 rfl ?_
    refine x_icmp_ge (tgt := 29) hO dX1_keysFinding_8 (by decide) (fun c => ?_) (fun c => ?_)
    · refine x_iload_n hO dX1_keysFinding_29 rfl rfl ?_
      refine x_iret hO hR dX1_keysFinding_30 rfl ?_
      exact ⟨rfl, rfl⟩
    · exact absurd (Int32.le_refl _) c
  · intro i d hd ih
    have hi : i < 256 := by omega
    refine x_iload_n hO dX1_keysFinding_4 rfl rfl ?_
    refine x_sipush (v := nI 256) hO dX1_keysFinding_5 rfl ?_
    refine x_icmp_ge (tgt := 29) hO dX1_keysFinding_8 (by decide) (fun c => ?_) (fun c => ?_)
    · exact absurd c (nI_ge hi (by decide))
    · refine x_aload_n hO dX1_keysFinding_11 rfl rfl ?_
      refine x_iload_n hO dX1_keysFinding_12 rfl rfl ?_
      refine x_callV1 hO (k_slotFoundBy U M (nI i)) dX1_keysFinding_13 lkX1_111 fX1_slotFoundBy vX1_slotFoundBy (by decide) rfl rfl rfl rfl rfl (by decide) (Nat.le_of_ble_eq_true rfl) ?_
      refine x_iload_n hO dX1_keysFinding_16 rfl rfl ?_
      refine x_icmp_ne (tgt := 23) hO dX1_keysFinding_17 (by decide) (fun c2 => ?_) (fun c2 => ?_)
      · refine x_iinc hO dX1_keysFinding_23 rfl (by first | exact xinc_n _ | rfl) rfl hN ?_
        refine x_goto (tgt := 4) hO dX1_keysFinding_26 (by decide) ?_
        have e : aKs (cA M 16) x (i + 1) = aKs (cA M 16) x i := nC_f (by simp [c2])
        rw [e] at ih
        exact ih
      · refine x_iinc hO dX1_keysFinding_20 rfl (by first | exact xinc_n _ | rfl) rfl hN ?_
        refine x_iinc hO dX1_keysFinding_23 rfl (by first | exact xinc_n _ | rfl) rfl hN ?_
        refine x_goto (tgt := 4) hO dX1_keysFinding_26 (by decide) ?_
        have e : aKs (cA M 16) x (i + 1) = aKs (cA M 16) x i + 1 := nC_t (by simp [c2])
        rw [e] at ih
        exact ih
/-- a shift to the right with zeros, as the machine does it -/
def us (x : Int32) (n : Nat) : Int32 := (x.toUInt32 >>> ((nI n).toUInt32 &&& Int32.toUInt32 31)).toInt32
def bcI (x : Int32) : Int32 :=
  let a := x - (us x 1 &&& 1431655765)
  let b := (a &&& 858993459) + (us a 2 &&& 858993459)
  let c := (b + us b 4) &&& 252645135
  let d := c + us c 8
  let e := d + us d 16
  e &&& nI 63
theorem k_bitCount (U : xP) (M : xM) (x : Int32) : xMetI U mJ6_bitCount_0f7a4 [.inl x] M (fun r M' => r = bcI x ∧ M' = M) := by
  refine xMetI.of (ty := .int) (L := [some (.inl x)]) fJ6_bitCount_0f7a4 rfl rfl (Nat.le_of_ble_eq_true rfl) (fun G hN hO hR => ?_)
  have hN : G.2.2.2.2.2.2.2.2.2.2.1 = 1 := hN
  have hO : xOK U G RJ6 cJ6_bitCount_0f7a4 0 := hO
  refine x_iload_n hO dJ6_bitCount_0f7a4_0 rfl rfl ?_
  refine x_iload_n hO dJ6_bitCount_0f7a4_1 rfl rfl ?_
  refine x_iconst (v := nI 1) hO dJ6_bitCount_0f7a4_2 rfl ?_
  refine x_iushr hO dJ6_bitCount_0f7a4_3 rfl ?_
  refine x_ldcw (v := (1431655765 : Int32)) hO (xg_r (i := 348) (by decide +kernel) rfl) dJ6_bitCount_0f7a4_4 ?_
  refine x_iand hO dJ6_bitCount_0f7a4_7 ?_
  refine x_isub hO dJ6_bitCount_0f7a4_8 ?_
  refine x_istore_n (n := 1) hO dJ6_bitCount_0f7a4_9 rfl rfl (by decide) hN ?_
  refine x_iload_n hO dJ6_bitCount_0f7a4_10 rfl rfl ?_
  refine x_ldcw (v := (858993459 : Int32)) hO (xg_r (i := 349) (by decide +kernel) rfl) dJ6_bitCount_0f7a4_11 ?_
  refine x_iand hO dJ6_bitCount_0f7a4_14 ?_
  refine x_iload_n hO dJ6_bitCount_0f7a4_15 rfl rfl ?_
  refine x_iconst (v := nI 2) hO dJ6_bitCount_0f7a4_16 rfl ?_
  refine x_iushr hO dJ6_bitCount_0f7a4_17 rfl ?_
  refine x_ldcw (v := (858993459 : Int32)) hO (xg_r (i := 349) (by decide +kernel) rfl) dJ6_bitCount_0f7a4_18 ?_
  refine x_iand hO dJ6_bitCount_0f7a4_21 ?_
  refine x_iadd hO dJ6_bitCount_0f7a4_22 ?_
  refine x_istore_n (n := 1) hO dJ6_bitCount_0f7a4_23 rfl rfl (by decide) hN ?_
  refine x_iload_n hO dJ6_bitCount_0f7a4_24 rfl rfl ?_
  refine x_iload_n hO dJ6_bitCount_0f7a4_25 rfl rfl ?_
  refine x_iconst (v := nI 4) hO dJ6_bitCount_0f7a4_26 rfl ?_
  refine x_iushr hO dJ6_bitCount_0f7a4_27 rfl ?_
  refine x_iadd hO dJ6_bitCount_0f7a4_28 ?_
  refine x_ldcw (v := (252645135 : Int32)) hO (xg_r (i := 350) (by decide +kernel) rfl) dJ6_bitCount_0f7a4_29 ?_
  refine x_iand hO dJ6_bitCount_0f7a4_32 ?_
  refine x_istore_n (n := 1) hO dJ6_bitCount_0f7a4_33 rfl rfl (by decide) hN ?_
  refine x_iload_n hO dJ6_bitCount_0f7a4_34 rfl rfl ?_
  refine x_iload_n hO dJ6_bitCount_0f7a4_35 rfl rfl ?_
  refine x_bipush (v := nI 8) hO dJ6_bitCount_0f7a4_36 rfl ?_
  refine x_iushr hO dJ6_bitCount_0f7a4_38 rfl ?_
  refine x_iadd hO dJ6_bitCount_0f7a4_39 ?_
  refine x_istore_n (n := 1) hO dJ6_bitCount_0f7a4_40 rfl rfl (by decide) hN ?_
  refine x_iload_n hO dJ6_bitCount_0f7a4_41 rfl rfl ?_
  refine x_iload_n hO dJ6_bitCount_0f7a4_42 rfl rfl ?_
  refine x_bipush (v := nI 16) hO dJ6_bitCount_0f7a4_43 rfl ?_
  refine x_iushr hO dJ6_bitCount_0f7a4_45 rfl ?_
  refine x_iadd hO dJ6_bitCount_0f7a4_46 ?_
  refine x_istore_n (n := 1) hO dJ6_bitCount_0f7a4_47 rfl rfl (by decide) hN ?_
  refine x_iload_n hO dJ6_bitCount_0f7a4_48 rfl rfl ?_
  refine x_bipush (v := nI 63) hO dJ6_bitCount_0f7a4_49 rfl ?_
  refine x_iand hO dJ6_bitCount_0f7a4_51 ?_
  refine x_iret hO hR dJ6_bitCount_0f7a4_52 rfl ?_
  exact ⟨rfl, rfl⟩
/-- the slots that the keys below k find, as bits -/
def aFB (A : aR) : Nat → Int32
  | 0 => nI 0
  | k + 1 => if aFd A (nI k) < 32 then aFB A k ||| (nI 1 <<< (nI (aFd A (nI k)) &&& 31)) else aFB A k
theorem k_entriesNeverFound (U : xP) (M : xM) : xMetI U mX1_entriesNeverFound [.inr 16] M (fun r M' => r = nI (aCnt (cA M 16)) - bcI (aFB (cA M 16) 256) ∧ M' = M) := by
  refine xMetI.of (ty := .int) (L := [some (.inr 16), none, none, none]) fX1_entriesNeverFound rfl rfl (Nat.le_of_ble_eq_true rfl) (fun G hN hO hR => ?_)
  have hN : G.2.2.2.2.2.2.2.2.2.2.1 = 4 := hN
  have hO : xOK U G RX1 cX1_entriesNeverFound 3 := hO
  refine x_iconst (v := nI 0) hO dX1_entriesNeverFound_0 rfl ?_
  refine x_istore_n (n := 4) hO dX1_entriesNeverFound_1 rfl rfl (by decide) hN ?_
  refine x_iconst (v := nI 0) hO dX1_entriesNeverFound_2 rfl ?_
  refine x_istore_n (n := 4) hO dX1_entriesNeverFound_3 rfl rfl (by decide) hN ?_
  refine upd_ind (P := fun i _ => ∀ o, XW U G 4 [some (.inr 16), some (.inl (aFB (cA M 16) i)), some (.inl (nI i)), o] [] M) 256 ?_ ?_ 256 0 rfl _
  · intro o
    refine x_iload_n hO dX1_entriesNeverFound_4 rfl rfl ?_
    refine x_sipush (v := nI 256) hO dX1_entriesNeverFound_5 rfl ?_
    refine x_icmp_ge (tgt := 34) hO dX1_entriesNeverFound_8 (by decide) (fun c => ?_) (fun c => ?_)
    · refine x_aload_n hO dX1_entriesNeverFound_34 rfl rfl ?_
      refine x_callV1 hO (k_entries U M) dX1_entriesNeverFound_35 lkX1_60 fX1_entries vX1_entries (by decide) rfl rfl rfl rfl rfl (by decide) (Nat.le_of_ble_eq_true rfl) ?_
      refine x_iload_n hO dX1_entriesNeverFound_38 rfl rfl ?_
      refine x_callS1 hO (k_bitCount U M _) dX1_entriesNeverFound_39 lkX1_114 fJ6_bitCount_0f7a4 sJ6_bitCount_0f7a4 rfl rfl (by decide) (Nat.le_of_ble_eq_true rfl) ?_
      refine x_isub hO dX1_entriesNeverFound_42 ?_
      refine x_iret hO hR dX1_entriesNeverFound_43 rfl ?_
      exact ⟨rfl, rfl⟩
    · exact absurd (Int32.le_refl _) c
  · intro i d hd ih o
    have hi : i < 256 := by omega
    refine x_iload_n hO dX1_entriesNeverFound_4 rfl rfl ?_
    refine x_sipush (v := nI 256) hO dX1_entriesNeverFound_5 rfl ?_
    refine x_icmp_ge (tgt := 34) hO dX1_entriesNeverFound_8 (by decide) (fun c => ?_) (fun c => ?_)
    · exact absurd c (nI_ge hi (by decide))
    · refine x_aload_n hO dX1_entriesNeverFound_11 rfl rfl ?_
      refine x_iload_n hO dX1_entriesNeverFound_12 rfl rfl ?_
      refine x_callV1 hO (k_slotFoundBy U M (nI i)) dX1_entriesNeverFound_13 lkX1_111 fX1_slotFoundBy vX1_slotFoundBy (by decide) rfl rfl rfl rfl rfl (by decide) (Nat.le_of_ble_eq_true rfl) ?_
      refine x_istore_n (n := 4) hO dX1_entriesNeverFound_16 rfl rfl (by decide) hN ?_
      refine x_iload_n hO dX1_entriesNeverFound_17 rfl rfl ?_
      refine x_iconst (v := (-1 : Int32)) hO dX1_entriesNeverFound_18 rfl ?_
      have ih := ih (some (.inl (aN (aFd (cA M 16) (nI i)))))
      simp only [aFB] at ih
      refine x_icmp_eq (tgt := 28) hO dX1_entriesNeverFound_19 (by decide) (fun c2 => ?_) (fun c2 => ?_)
      · refine x_iinc hO dX1_entriesNeverFound_28 rfl (by first | exact xinc_n _ | rfl) rfl hN ?_
        refine x_goto (tgt := 4) hO dX1_entriesNeverFound_31 (by decide) ?_
        rw [if_neg (fun q => by rw [aN, if_pos q] at c2; exact absurd (by rw [c2]; decide) (nI_pos (n := aFd (cA M 16) (nI i)) (by omega)))] at ih
        exact ih
      · have q : aFd (cA M 16) (nI i) < 32 := by
          rcases Nat.lt_or_ge (aFd (cA M 16) (nI i)) 32 with q | q
          · exact q
          · exact absurd (by rw [aN, if_neg (by omega)]) c2
        have e : aN (aFd (cA M 16) (nI i)) = nI (aFd (cA M 16) (nI i)) := by rw [aN, if_pos q]
        rw [if_pos q] at ih
        rw [e] at ih ⊢
        refine x_iload_n hO dX1_entriesNeverFound_22 rfl rfl ?_
        refine x_iconst (v := nI 1) hO dX1_entriesNeverFound_23 rfl ?_
        refine x_iload_n hO dX1_entriesNeverFound_24 rfl rfl ?_
        refine x_ishl hO dX1_entriesNeverFound_25 ?_
        refine x_ior hO dX1_entriesNeverFound_26 ?_
        refine x_istore_n (n := 4) hO dX1_entriesNeverFound_27 rfl rfl (by decide) hN ?_
        refine x_iinc hO dX1_entriesNeverFound_28 rfl (by first | exact xinc_n _ | rfl) rfl hN ?_
        refine x_goto (tgt := 4) hO dX1_entriesNeverFound_31 (by decide) ?_
        exact ih
/-- an entry of the mask m and the value v is hidden by the one in the slot s -/
def pHid (A : aR) (m v : Int32) (s : Nat) : Bool := aoc A s && ((A s 2 &&& m) == A s 2 && (v &&& A s 2) == A s 3)
def aHid (A : aR) (j : Nat) : Int32 := if nF (pHid A (A j 2) (A j 3)) 0 j < j then nI (nF (pHid A (A j 2) (A j 3)) 0 j) else -1
theorem k_slotHiding (U : xP) (M : xM) {j : Nat} (hj : j < 32) : xMetI U mX1_slotHiding [.inr 16, .inl (nI j)] M (fun r M' => r = (if aoc (cA M 16) j then aHid (cA M 16) j else -1) ∧ M' = M) := by
  refine xMetI.of (ty := .int) (L := [some (.inr 16), some (.inl (nI j)), none, none, none]) fX1_slotHiding rfl rfl (Nat.le_of_ble_eq_true rfl) (fun G hN hO hR => ?_)
  have hN : G.2.2.2.2.2.2.2.2.2.2.1 = 5 := hN
  have hO : xOK U G RX1 cX1_slotHiding 1 := hO
  refine x_aload_n hO dX1_slotHiding_0 rfl rfl ?_
  refine x_iload_n hO dX1_slotHiding_1 rfl rfl ?_
  refine x_callV1 hO (k_holds M hj) dX1_slotHiding_2 lkX1_53 fX1_holdsEntry vX1_holdsEntry (by decide) rfl rfl rfl rfl rfl (by decide) (Nat.le_of_ble_eq_true rfl) ?_
  refine x_if_ne (tgt := 10) hO dX1_slotHiding_5 (by decide) (fun c => ?_) (fun c => ?_)
  · have h0 := bI_1 c
    have e2 : M 19 j = cA M 16 j 2 := cA_in (w := 2) h0 (by decide)
    have e3 : M 20 j = cA M 16 j 3 := cA_in (w := 3) h0 (by decide)
    rw [h0] at hR
    simp only [if_true, aHid] at hR
    refine x_aload_n hO dX1_slotHiding_10 rfl rfl ?_
    refine x_getR (T := TX1) (j := 2) hO dX1_slotHiding_11 flX1_18 (by decide) rfl rfl (by decide) rfl rfl ?_
    refine x_iload_n hO dX1_slotHiding_14 rfl rfl ?_
    refine x_iald hO (by decide) rfl (by decide) (rfl) (hj) dX1_slotHiding_15 ?_
    refine x_istore_n (n := 5) hO dX1_slotHiding_16 rfl rfl (by decide) hN ?_
    rw [e2]
    refine x_aload_n hO dX1_slotHiding_17 rfl rfl ?_
    refine x_getR (T := TX1) (j := 3) hO dX1_slotHiding_18 flX1_21 (by decide) rfl rfl (by decide) rfl rfl ?_
    refine x_iload_n hO dX1_slotHiding_21 rfl rfl ?_
    refine x_iald hO (by decide) rfl (by decide) (rfl) (hj) dX1_slotHiding_22 ?_
    refine x_istore_n (n := 5) hO dX1_slotHiding_23 rfl rfl (by decide) hN ?_
    refine x_iconst (v := nI 0) hO dX1_slotHiding_24 rfl ?_
    refine x_istore (n := 5) hO dX1_slotHiding_25 rfl (by decide) hN ?_
    rw [e3]
    generalize cA M 16 j 2 = mm at hR ⊢
    generalize cA M 16 j 3 = vv at hR ⊢
    generalize hf : nF (pHid (cA M 16) mm vv) 0 j = f at hR
    refine upd_ind (P := fun i d => nF (pHid (cA M 16) mm vv) i d = f → XW U G 27 [some (.inr 16), some (.inl (nI j)), some (.inl mm), some (.inl vv), some (.inl (nI i))] [] M) j ?_ ?_ j 0 (by omega) hf
    · intro hf
      refine x_iload hO dX1_slotHiding_27 rfl ?_
      refine x_iload_n hO dX1_slotHiding_29 rfl rfl ?_
      refine x_icmp_ge (tgt := 89) hO dX1_slotHiding_30 (by decide) (fun c1 => ?_) (fun c1 => ?_)
      · refine x_iconst (v := (-1 : Int32)) hO dX1_slotHiding_89 rfl ?_
        refine x_iret hO hR dX1_slotHiding_90 rfl ?_
        exact ⟨by rw [← hf]; simp [nF], rfl⟩
      · exact absurd (Int32.le_refl _) c1
    · intro i d hd ih hf
      have hi : i < 32 := by omega
      refine x_iload hO dX1_slotHiding_27 rfl ?_
      refine x_iload_n hO dX1_slotHiding_29 rfl rfl ?_
      refine x_icmp_ge (tgt := 89) hO dX1_slotHiding_30 (by decide) (fun c1 => ?_) (fun c1 => ?_)
      · exact absurd c1 (nI_ge (by omega) (by omega))
      · refine x_aload_n hO dX1_slotHiding_33 rfl rfl ?_
        refine x_iload hO dX1_slotHiding_34 rfl ?_
        refine x_callV1 hO (k_holds M hi) dX1_slotHiding_36 lkX1_53 fX1_holdsEntry vX1_holdsEntry (by decide) rfl rfl rfl rfl rfl (by decide) (Nat.le_of_ble_eq_true rfl) ?_
        refine x_if_eq (tgt := 83) hO dX1_slotHiding_39 (by decide) (fun c2 => ?_) (fun c2 => ?_)
        · refine x_iinc hO dX1_slotHiding_83 rfl (by first | exact xinc_n _ | rfl) rfl hN ?_
          refine x_goto (tgt := 27) hO dX1_slotHiding_86 (by decide) ?_
          exact ih (by rw [← hf, nF_f (by simp [pHid, bI_0 c2])])
        · have e : M 19 i = cA M 16 i 2 := cA_in (w := 2) (bI_1 c2) (by decide)
          have e1 : M 20 i = cA M 16 i 3 := cA_in (w := 3) (bI_1 c2) (by decide)
          refine x_aload_n hO dX1_slotHiding_42 rfl rfl ?_
          refine x_getR (T := TX1) (j := 2) hO dX1_slotHiding_43 flX1_18 (by decide) rfl rfl (by decide) rfl rfl ?_
          refine x_iload hO dX1_slotHiding_46 rfl ?_
          refine x_iald hO (by decide) rfl (by decide) (rfl) (hi) dX1_slotHiding_48 ?_
          refine x_iload_n hO dX1_slotHiding_49 rfl rfl ?_
          refine x_iand hO dX1_slotHiding_50 ?_
          refine x_aload_n hO dX1_slotHiding_51 rfl rfl ?_
          refine x_getR (T := TX1) (j := 2) hO dX1_slotHiding_52 flX1_18 (by decide) rfl rfl (by decide) rfl rfl ?_
          refine x_iload hO dX1_slotHiding_55 rfl ?_
          refine x_iald hO (by decide) rfl (by decide) (rfl) (hi) dX1_slotHiding_57 ?_
          rw [e]
          refine x_icmp_ne (tgt := 83) hO dX1_slotHiding_58 (by decide) (fun c3 => ?_) (fun c3 => ?_)
          · refine x_iinc hO dX1_slotHiding_83 rfl (by first | exact xinc_n _ | rfl) rfl hN ?_
            refine x_goto (tgt := 27) hO dX1_slotHiding_86 (by decide) ?_
            exact ih (by rw [← hf, nF_f (by simp [pHid, c3])])
          · refine x_iload_n hO dX1_slotHiding_61 rfl rfl ?_
            refine x_aload_n hO dX1_slotHiding_62 rfl rfl ?_
            refine x_getR (T := TX1) (j := 2) hO dX1_slotHiding_63 flX1_18 (by decide) rfl rfl (by decide) rfl rfl ?_
            refine x_iload hO dX1_slotHiding_66 rfl ?_
            refine x_iald hO (by decide) rfl (by decide) (rfl) (hi) dX1_slotHiding_68 ?_
            refine x_iand hO dX1_slotHiding_69 ?_
            refine x_aload_n hO dX1_slotHiding_70 rfl rfl ?_
            refine x_getR (T := TX1) (j := 3) hO dX1_slotHiding_71 flX1_21 (by decide) rfl rfl (by decide) rfl rfl ?_
            refine x_iload hO dX1_slotHiding_74 rfl ?_
            refine x_iald hO (by decide) rfl (by decide) (rfl) (hi) dX1_slotHiding_76 ?_
            rw [e, e1]
            refine x_icmp_ne (tgt := 83) hO dX1_slotHiding_77 (by decide) (fun c4 => ?_) (fun c4 => ?_)
            · refine x_iinc hO dX1_slotHiding_83 rfl (by first | exact xinc_n _ | rfl) rfl hN ?_
              refine x_goto (tgt := 27) hO dX1_slotHiding_86 (by decide) ?_
              exact ih (by rw [← hf, nF_f (by simp [pHid, c4])])
            · refine x_iload hO dX1_slotHiding_80 rfl ?_
              refine x_iret hO hR dX1_slotHiding_82 rfl ?_
              have hij : i < j := by omega
              exact ⟨by rw [← hf, nF_t (by simp [pHid, bI_1 c2, c3, c4])]; simp [hij], rfl⟩
  · refine x_iconst (v := (-1 : Int32)) hO dX1_slotHiding_8 rfl ?_
    refine x_iret hO hR dX1_slotHiding_9 rfl ?_
    exact ⟨by rw [bI_0 c]; rfl, rfl⟩
/-! ===== banks ===== -/
def aFE (A : aR) (b : Nat) : Nat := nF (fun i => aoc A (b * 8 + i)) 0 8
theorem k_firstEntryOfBank (U : xP) (M : xM) {b : Nat} (hb : b < 4) : xMetI U mX1_firstEntryOfBank [.inr 16, .inl (nI b)] M (fun r M' => r = (if aFE (cA M 16) b < 8 then nI (b * 8 + aFE (cA M 16) b) else -1) ∧ M' = M) := by
  refine xMetI.of (ty := .int) (L := [some (.inr 16), some (.inl (nI b)), none]) fX1_firstEntryOfBank rfl rfl (Nat.le_of_ble_eq_true rfl) (fun G hN hO hR => ?_)
  have hN : G.2.2.2.2.2.2.2.2.2.2.1 = 3 := hN
  have hO : xOK U G RX1 cX1_firstEntryOfBank 1 := hO
  generalize hf : aFE (cA M 16) b = f at hR
  refine x_iconst (v := nI 0) hO dX1_firstEntryOfBank_0 rfl ?_
  refine x_istore_n (n := 3) hO dX1_firstEntryOfBank_1 rfl rfl (by decide) hN ?_
  refine upd_ind (P := fun i d => nF (fun i => aoc (cA M 16) (b * 8 + i)) i d = f → XW U G 2 [some (.inr 16), some (.inl (nI b)), some (.inl (nI i))] [] M) 8 ?_ ?_ 8 0 rfl hf
  · intro hf
    refine x_iload_n hO dX1_firstEntryOfBank_2 rfl rfl ?_
    refine x_bipush (v := nI 8) hO dX1_firstEntryOfBank_3 rfl ?_
    refine x_icmp_ge (tgt := 34) hO dX1_firstEntryOfBank_5 (by decide) (fun c => ?_) (fun c => ?_)
    · refine x_iconst (v := (-1 : Int32)) hO dX1_firstEntryOfBank_34 rfl ?_
      refine x_iret hO hR dX1_firstEntryOfBank_35 rfl ?_
      exact ⟨by rw [← hf]; rfl, rfl⟩
    · exact absurd (Int32.le_refl _) c
  · intro i d hd ih hf
    have hi : i < 8 := by omega
    refine x_iload_n hO dX1_firstEntryOfBank_2 rfl rfl ?_
    refine x_bipush (v := nI 8) hO dX1_firstEntryOfBank_3 rfl ?_
    refine x_icmp_ge (tgt := 34) hO dX1_firstEntryOfBank_5 (by decide) (fun c => ?_) (fun c => ?_)
    · exact absurd c (nI_ge hi (by decide))
    · refine x_aload_n hO dX1_firstEntryOfBank_8 rfl rfl ?_
      refine x_iload_n hO dX1_firstEntryOfBank_9 rfl rfl ?_
      refine x_bipush (v := nI 8) hO dX1_firstEntryOfBank_10 rfl ?_
      refine x_imul hO dX1_firstEntryOfBank_12 ?_
      refine x_iload_n hO dX1_firstEntryOfBank_13 rfl rfl ?_
      refine x_iadd hO dX1_firstEntryOfBank_14 ?_
      rw [pk_mul, nI_add]
      refine x_callV1 hO (k_holds M (i := b * 8 + i) (by omega)) dX1_firstEntryOfBank_15 lkX1_53 fX1_holdsEntry vX1_holdsEntry (by decide) rfl rfl rfl rfl rfl (by decide) (Nat.le_of_ble_eq_true rfl) ?_
      refine x_if_eq (tgt := 28) hO dX1_firstEntryOfBank_18 (by decide) (fun c2 => ?_) (fun c2 => ?_)
      · refine x_iinc hO dX1_firstEntryOfBank_28 rfl (by first | exact xinc_n _ | rfl) rfl hN ?_
        refine x_goto (tgt := 2) hO dX1_firstEntryOfBank_31 (by decide) ?_
        exact ih (by rw [← hf, nF_f (P := fun i => aoc (cA M 16) (b * 8 + i)) (bI_0 c2)])
      · refine x_iload_n hO dX1_firstEntryOfBank_21 rfl rfl ?_
        refine x_bipush (v := nI 8) hO dX1_firstEntryOfBank_22 rfl ?_
        refine x_imul hO dX1_firstEntryOfBank_24 ?_
        refine x_iload_n hO dX1_firstEntryOfBank_25 rfl rfl ?_
        refine x_iadd hO dX1_firstEntryOfBank_26 ?_
        rw [pk_mul, nI_add]
        refine x_iret hO hR dX1_firstEntryOfBank_27 rfl ?_
        exact ⟨by rw [← hf, nF_t (P := fun i => aoc (cA M 16) (b * 8 + i)) (bI_1 c2)]; simp [hi], rfl⟩
/-- the bits in which all entries of the bank b's first i slots agree with the slot f -/
def aCM (A : aR) (b f : Nat) : Nat → Int32
  | 0 => A f 2
  | i + 1 => if aoc A (b * 8 + i) then aCM A b f i &&& (A (b * 8 + i) 2 &&& ((A (b * 8 + i) 3 ^^^ A f 3) ^^^ (-1))) else aCM A b f i
def aFM (A : aR) (b : Nat) : Int32 := if aFE A b < 8 then aCM A b (b * 8 + aFE A b) 8 else 0
def aFV (A : aR) (b : Nat) : Int32 := if aFE A b < 8 then A (b * 8 + aFE A b) 3 &&& aFM A b else 0
theorem aFE_oc {A : aR} {b : Nat} (h : aFE A b < 8) : aoc A (b * 8 + aFE A b) = true := nF_yes (P := fun i => aoc A (b * 8 + i)) 8 0 (by show aFE A b < 0 + 8; omega)
theorem k_commonMask (U : xP) (M : xM) {b : Nat} (hb : b < 4) : xMetI U mX1_commonMask [.inr 16, .inl (nI b)] M (fun r M' => r = aFM (cA M 16) b ∧ M' = M) := by
  refine xMetI.of (ty := .int) (L := [some (.inr 16), some (.inl (nI b)), none, none, none, none]) fX1_commonMask rfl rfl (Nat.le_of_ble_eq_true rfl) (fun G hN hO hR => ?_)
  have hN : G.2.2.2.2.2.2.2.2.2.2.1 = 6 := hN
  have hO : xOK U G RX1 cX1_commonMask 2 := hO
  unfold aFM at hR
  refine x_aload_n hO dX1_commonMask_0 rfl rfl ?_
  refine x_iload_n hO dX1_commonMask_1 rfl rfl ?_
  refine x_callV1 hO (k_firstEntryOfBank U M hb) dX1_commonMask_2 lkX1_128 fX1_firstEntryOfBank vX1_firstEntryOfBank (by decide) rfl rfl rfl rfl rfl (by decide) (Nat.le_of_ble_eq_true rfl) ?_
  rcases Nat.lt_or_ge (aFE (cA M 16) b) 8 with hq | hq
  · have h0 := aFE_oc hq
    have hf32 : b * 8 + aFE (cA M 16) b < 32 := by omega
    rw [if_pos hq] at hR ⊢
    generalize hfe : b * 8 + aFE (cA M 16) b = f at *
    have e2 : M 19 f = cA M 16 f 2 := cA_in (w := 2) h0 (by decide)
    have e3 : M 20 f = cA M 16 f 3 := cA_in (w := 3) h0 (by decide)
    refine x_istore_n (n := 6) hO dX1_commonMask_5 rfl rfl (by decide) hN ?_
    refine x_iload_n hO dX1_commonMask_6 rfl rfl ?_
    refine x_callSN1 hO (k_isSlot U M (nI f)) dX1_commonMask_7 lkX1_49 fX3_isSlot sX3_isSlot rfl rfl (by decide) (Nat.le_of_ble_eq_true rfl) ?_
    rw [ixB_n hf32 (by decide)]
    refine x_if_ne (tgt := 15) hO dX1_commonMask_10 (by decide) (fun c => ?_) (fun c => ?_)
    · refine x_aload_n hO dX1_commonMask_15 rfl rfl ?_
      refine x_getR (T := TX1) (j := 2) hO dX1_commonMask_16 flX1_18 (by decide) rfl rfl (by decide) rfl rfl ?_
      refine x_iload_n hO dX1_commonMask_19 rfl rfl ?_
      refine x_iald hO (by decide) rfl (by decide) (rfl) (hf32) dX1_commonMask_20 ?_
      refine x_istore_n (n := 6) hO dX1_commonMask_21 rfl rfl (by decide) hN ?_
      refine x_iconst (v := nI 0) hO dX1_commonMask_22 rfl ?_
      refine x_istore (n := 6) hO dX1_commonMask_23 rfl (by decide) hN ?_
      rw [e2]
      refine upd_ind (P := fun i _ => ∀ o, XW U G 25 [some (.inr 16), some (.inl (nI b)), some (.inl (nI f)), some (.inl (aCM (cA M 16) b f i)), some (.inl (nI i)), o] [] M) 8 ?_ ?_ 8 0 rfl _
      · intro o
        refine x_iload hO dX1_commonMask_25 rfl ?_
        refine x_bipush (v := nI 8) hO dX1_commonMask_27 rfl ?_
        refine x_icmp_ge (tgt := 83) hO dX1_commonMask_29 (by decide) (fun c1 => ?_) (fun c1 => ?_)
        · refine x_iload_n hO dX1_commonMask_83 rfl rfl ?_
          refine x_iret hO hR dX1_commonMask_84 rfl ?_
          exact ⟨rfl, rfl⟩
        · exact absurd (Int32.le_refl _) c1
      · intro i d hd ih o
        have hi : i < 8 := by omega
        have hi32 : b * 8 + i < 32 := by omega
        refine x_iload hO dX1_commonMask_25 rfl ?_
        refine x_bipush (v := nI 8) hO dX1_commonMask_27 rfl ?_
        refine x_icmp_ge (tgt := 83) hO dX1_commonMask_29 (by decide) (fun c1 => ?_) (fun c1 => ?_)
        · exact absurd c1 (nI_ge hi (by decide))
        · refine x_iload_n hO dX1_commonMask_32 rfl rfl ?_
          refine x_bipush (v := nI 8) hO dX1_commonMask_33 rfl ?_
          refine x_imul hO dX1_commonMask_35 ?_
          refine x_iload hO dX1_commonMask_36 rfl ?_
          refine x_iadd hO dX1_commonMask_38 ?_
          rw [pk_mul, nI_add]
          refine x_istore (n := 6) hO dX1_commonMask_39 rfl (by decide) hN ?_
          refine x_aload_n hO dX1_commonMask_41 rfl rfl ?_
          refine x_iload hO dX1_commonMask_42 rfl ?_
          refine x_callV1 hO (k_holds M hi32) dX1_commonMask_44 lkX1_53 fX1_holdsEntry vX1_holdsEntry (by decide) rfl rfl rfl rfl rfl (by decide) (Nat.le_of_ble_eq_true rfl) ?_
          have ih := ih (some (.inl (nI (b * 8 + i))))
          simp only [aCM] at ih
          refine x_if_eq (tgt := 77) hO dX1_commonMask_47 (by decide) (fun c2 => ?_) (fun c2 => ?_)
          · rw [bI_0 c2] at ih
            refine x_iinc hO dX1_commonMask_77 rfl (by first | exact xinc_n _ | rfl) rfl hN ?_
            refine x_goto (tgt := 25) hO dX1_commonMask_80 (by decide) ?_
            exact ih
          · have e : M 19 (b * 8 + i) = cA M 16 (b * 8 + i) 2 := cA_in (w := 2) (bI_1 c2) (by decide)
            have e1 : M 20 (b * 8 + i) = cA M 16 (b * 8 + i) 3 := cA_in (w := 3) (bI_1 c2) (by decide)
            rw [bI_1 c2] at ih
            refine x_iload_n hO dX1_commonMask_50 rfl rfl ?_
            refine x_aload_n hO dX1_commonMask_51 rfl rfl ?_
            refine x_getR (T := TX1) (j := 2) hO dX1_commonMask_52 flX1_18 (by decide) rfl rfl (by decide) rfl rfl ?_
            refine x_iload hO dX1_commonMask_55 rfl ?_
            refine x_iald hO (by decide) rfl (by decide) (rfl) (hi32) dX1_commonMask_57 ?_
            refine x_aload_n hO dX1_commonMask_58 rfl rfl ?_
            refine x_getR (T := TX1) (j := 3) hO dX1_commonMask_59 flX1_21 (by decide) rfl rfl (by decide) rfl rfl ?_
            refine x_iload hO dX1_commonMask_62 rfl ?_
            refine x_iald hO (by decide) rfl (by decide) (rfl) (hi32) dX1_commonMask_64 ?_
            refine x_aload_n hO dX1_commonMask_65 rfl rfl ?_
            refine x_getR (T := TX1) (j := 3) hO dX1_commonMask_66 flX1_21 (by decide) rfl rfl (by decide) rfl rfl ?_
            refine x_iload_n hO dX1_commonMask_69 rfl rfl ?_
            refine x_iald hO (by decide) rfl (by decide) (rfl) (hf32) dX1_commonMask_70 ?_
            refine x_ixor hO dX1_commonMask_71 ?_
            refine x_iconst (v := (-1 : Int32)) hO dX1_commonMask_72 rfl ?_
            refine x_ixor hO dX1_commonMask_73 ?_
            refine x_iand hO dX1_commonMask_74 ?_
            refine x_iand hO dX1_commonMask_75 ?_
            rw [e, e1, e3]
            refine x_istore_n (n := 6) hO dX1_commonMask_76 rfl rfl (by decide) hN ?_
            refine x_iinc hO dX1_commonMask_77 rfl (by first | exact xinc_n _ | rfl) rfl hN ?_
            refine x_goto (tgt := 25) hO dX1_commonMask_80 (by decide) ?_
            exact ih
    · exact absurd c (by decide)
  · rw [if_neg (by omega)] at hR ⊢
    refine x_istore_n (n := 6) hO dX1_commonMask_5 rfl rfl (by decide) hN ?_
    refine x_iload_n hO dX1_commonMask_6 rfl rfl ?_
    refine x_callSN1 hO (k_isSlot U M (-1)) dX1_commonMask_7 lkX1_49 fX3_isSlot sX3_isSlot rfl rfl (by decide) (Nat.le_of_ble_eq_true rfl) ?_
    refine x_if_ne (tgt := 15) hO dX1_commonMask_10 (by decide) (fun c => ?_) (fun c => ?_)
    · exact absurd rfl c
    · refine x_iconst (v := nI 0) hO dX1_commonMask_13 rfl ?_
      refine x_iret hO hR dX1_commonMask_14 rfl ?_
      exact ⟨rfl, rfl⟩
theorem k_commonValue (U : xP) (M : xM) {b : Nat} (hb : b < 4) : xMetI U mX1_commonValue [.inr 16, .inl (nI b)] M (fun r M' => r = aFV (cA M 16) b ∧ M' = M) := by
  refine xMetI.of (ty := .int) (L := [some (.inr 16), some (.inl (nI b)), none]) fX1_commonValue rfl rfl (Nat.le_of_ble_eq_true rfl) (fun G hN hO hR => ?_)
  have hN : G.2.2.2.2.2.2.2.2.2.2.1 = 3 := hN
  have hO : xOK U G RX1 cX1_commonValue 3 := hO
  unfold aFV at hR
  refine x_aload_n hO dX1_commonValue_0 rfl rfl ?_
  refine x_iload_n hO dX1_commonValue_1 rfl rfl ?_
  refine x_callV1 hO (k_firstEntryOfBank U M hb) dX1_commonValue_2 lkX1_128 fX1_firstEntryOfBank vX1_firstEntryOfBank (by decide) rfl rfl rfl rfl rfl (by decide) (Nat.le_of_ble_eq_true rfl) ?_
  rcases Nat.lt_or_ge (aFE (cA M 16) b) 8 with hq | hq
  · have h0 := aFE_oc hq
    have hf32 : b * 8 + aFE (cA M 16) b < 32 := by omega
    rw [if_pos hq] at hR ⊢
    have e3 : M 20 (b * 8 + aFE (cA M 16) b) = cA M 16 (b * 8 + aFE (cA M 16) b) 3 := cA_in (w := 3) h0 (by decide)
    rw [← e3] at hR
    refine x_istore_n (n := 3) hO dX1_commonValue_5 rfl rfl (by decide) hN ?_
    refine x_iload_n hO dX1_commonValue_6 rfl rfl ?_
    refine x_callSN1 hO (k_isSlot U M (nI (b * 8 + aFE (cA M 16) b))) dX1_commonValue_7 lkX1_49 fX3_isSlot sX3_isSlot rfl rfl (by decide) (Nat.le_of_ble_eq_true rfl) ?_
    rw [ixB_n hf32 (by decide)]
    refine x_if_eq (tgt := 28) hO dX1_commonValue_10 (by decide) (fun c => ?_) (fun c => ?_)
    · exact absurd c (by decide)
    · refine x_aload_n hO dX1_commonValue_13 rfl rfl ?_
      refine x_getR (T := TX1) (j := 3) hO dX1_commonValue_14 flX1_21 (by decide) rfl rfl (by decide) rfl rfl ?_
      refine x_iload_n hO dX1_commonValue_17 rfl rfl ?_
      refine x_iald hO (by decide) rfl (by decide) (rfl) (hf32) dX1_commonValue_18 ?_
      refine x_aload_n hO dX1_commonValue_19 rfl rfl ?_
      refine x_iload_n hO dX1_commonValue_20 rfl rfl ?_
      refine x_callV1 hO (k_commonMask U M hb) dX1_commonValue_21 lkX1_122 fX1_commonMask vX1_commonMask (by decide) rfl rfl rfl rfl rfl (by decide) (Nat.le_of_ble_eq_true rfl) ?_
      refine x_iand hO dX1_commonValue_24 ?_
      refine x_goto (tgt := 29) hO dX1_commonValue_25 (by decide) ?_
      refine x_iret hO hR dX1_commonValue_29 rfl ?_
      exact ⟨rfl, rfl⟩
  · rw [if_neg (by omega)] at hR ⊢
    refine x_istore_n (n := 3) hO dX1_commonValue_5 rfl rfl (by decide) hN ?_
    refine x_iload_n hO dX1_commonValue_6 rfl rfl ?_
    refine x_callSN1 hO (k_isSlot U M (-1)) dX1_commonValue_7 lkX1_49 fX3_isSlot sX3_isSlot rfl rfl (by decide) (Nat.le_of_ble_eq_true rfl) ?_
    refine x_if_eq (tgt := 28) hO dX1_commonValue_10 (by decide) (fun c => ?_) (fun c => ?_)
    · refine x_iconst (v := nI 0) hO dX1_commonValue_28 rfl ?_
      refine x_iret hO hR dX1_commonValue_29 rfl ?_
      exact ⟨rfl, rfl⟩
    · exact absurd rfl c
def aPw (A : aR) (k : Int32) : Nat → Nat
  | 0 => 0
  | b + 1 => if (k &&& aFM A b) = aFV A b then aPw A k b + aBank A b else aPw A k b
theorem k_powerFor (U : xP) (M : xM) (x : Int32) : xMetI U mX1_powerFor [.inr 16, .inl x] M (fun r M' => r = nI (aPw (cA M 16) x 4) ∧ M' = M) := by
  refine xMetI.of (ty := .int) (L := [some (.inr 16), some (.inl x), none, none]) fX1_powerFor rfl rfl (Nat.le_of_ble_eq_true rfl) (fun G hN hO hR => ?_)
  have hN : G.2.2.2.2.2.2.2.2.2.2.1 = 4 := hN
  have hO : xOK U G RX1 cX1_powerFor 4 := hO
  refine x_iconst (v := nI 0) hO dX1_powerFor_0 rfl ?_
  refine x_istore_n (n := 4) hO dX1_powerFor_1 rfl rfl (by decide) hN ?_
  refine x_iconst (v := nI 0) hO dX1_powerFor_2 rfl ?_
  refine x_istore_n (n := 4) hO dX1_powerFor_3 rfl rfl (by decide) hN ?_
  refine upd_ind (P := fun i _ => XW U G 4 [some (.inr 16), some (.inl x), some (.inl (nI (aPw (cA M 16) x i))), some (.inl (nI i))] [] M) 4 ?_ ?_ 4 0 rfl
  · refine x_iload_n hO dX1_powerFor_4 rfl rfl ?_
    refine x_iconst (v := nI 4) hO dX1_powerFor_5 rfl ?_
    refine x_icmp_ge (tgt := 38) hO dX1_powerFor_6 (by decide) (fun c => ?_) (fun c => ?_)
    · refine x_iload_n hO dX1_powerFor_38 rfl rfl ?_
      refine x_iret hO hR dX1_powerFor_39 rfl ?_
      exact ⟨rfl, rfl⟩
    · exact absurd (Int32.le_refl _) c
  · intro i d hd ih
    have hi : i < 4 := by omega
    refine x_iload_n hO dX1_powerFor_4 rfl rfl ?_
    refine x_iconst (v := nI 4) hO dX1_powerFor_5 rfl ?_
    refine x_icmp_ge (tgt := 38) hO dX1_powerFor_6 (by decide) (fun c => ?_) (fun c => ?_)
    · exact absurd c (nI_ge hi (by decide))
    · refine x_iload_n hO dX1_powerFor_9 rfl rfl ?_
      refine x_aload_n hO dX1_powerFor_10 rfl rfl ?_
      refine x_iload_n hO dX1_powerFor_11 rfl rfl ?_
      refine x_callV1 hO (k_commonMask U M hi) dX1_powerFor_12 lkX1_122 fX1_commonMask vX1_commonMask (by decide) rfl rfl rfl rfl rfl (by decide) (Nat.le_of_ble_eq_true rfl) ?_
      refine x_iand hO dX1_powerFor_15 ?_
      refine x_aload_n hO dX1_powerFor_16 rfl rfl ?_
      refine x_iload_n hO dX1_powerFor_17 rfl rfl ?_
      refine x_callV1 hO (k_commonValue U M hi) dX1_powerFor_18 lkX1_125 fX1_commonValue vX1_commonValue (by decide) rfl rfl rfl rfl rfl (by decide) (Nat.le_of_ble_eq_true rfl) ?_
      simp only [aPw] at ih
      refine x_icmp_ne (tgt := 32) hO dX1_powerFor_21 (by decide) (fun c2 => ?_) (fun c2 => ?_)
      · rw [if_neg c2] at ih
        refine x_iinc hO dX1_powerFor_32 rfl (by first | exact xinc_n _ | rfl) rfl hN ?_
        refine x_goto (tgt := 4) hO dX1_powerFor_35 (by decide) ?_
        exact ih
      · rw [if_pos c2] at ih
        refine x_iload_n hO dX1_powerFor_24 rfl rfl ?_
        refine x_aload_n hO dX1_powerFor_25 rfl rfl ?_
        refine x_iload_n hO dX1_powerFor_26 rfl rfl ?_
        refine x_callV1 hO (k_entriesInBank U M hi) dX1_powerFor_27 lkX1_56 fX1_entriesInBank vX1_entriesInBank (by decide) rfl rfl rfl rfl rfl (by decide) (Nat.le_of_ble_eq_true rfl) ?_
        refine x_iadd hO dX1_powerFor_30 ?_
        rw [nI_add]
        refine x_istore_n (n := 4) hO dX1_powerFor_31 rfl rfl (by decide) hN ?_
        refine x_iinc hO dX1_powerFor_32 rfl (by first | exact xinc_n _ | rfl) rfl hN ?_
        refine x_goto (tgt := 4) hO dX1_powerFor_35 (by decide) ?_
        exact ih
