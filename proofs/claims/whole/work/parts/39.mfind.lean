/-! ===== keys and slots ===== -/
theorem m_matches (U : xP) (M : xM) {i : Nat} (hi : i < 32) (x : Int32) : xMetI U mX4_matches [.inr 9, .inl (nI i), .inl x] M (fun r M' => r = bI (pKey (nA M) x i) ∧ M' = M) := by
  refine xMetI.of (ty := .boolean) (L := [some (.inr 9), some (.inl (nI i)), some (.inl x)]) fX4_matches rfl rfl (Nat.le_of_ble_eq_true rfl) (fun G hN hO hR => ?_)
  have hN : G.2.2.2.2.2.2.2.2.2.2.1 = 3 := hN
  have hO : xOK U G RX4 cX4_matches 1 := hO
  refine x_aload_n hO dX4_matches_0 rfl rfl ?_
  refine x_iload_n hO dX4_matches_1 rfl rfl ?_
  refine x_callV1 hO (m_isFree U M hi) dX4_matches_2 lkX4_51 fX4_isFree vX4_isFree (by decide) rfl rfl rfl rfl rfl (by decide) (Nat.le_of_ble_eq_true rfl) ?_
  refine x_if_ne (tgt := 29) hO dX4_matches_5 (by decide) (fun c => ?_) (fun c => ?_)
  · have e : aoc (nA M) i = false := by simpa using bI_1 c
    refine x_iconst (v := nI 0) hO dX4_matches_29 rfl ?_
    refine x_iret hO hR dX4_matches_30 rfl ?_
    exact ⟨bI_f (by simp [pKey, e]), rfl⟩
  · have e : aoc (nA M) i = true := by simpa using bI_0 c
    refine x_iload_n hO dX4_matches_8 rfl rfl ?_
    refine x_aload_n hO dX4_matches_9 rfl rfl ?_
    refine x_iload_n hO dX4_matches_10 rfl rfl ?_
    refine x_iconst (v := nI 2) hO dX4_matches_11 rfl ?_
    refine x_callV1 hO (m_at U M e (w := 2) (by decide) (by decide)) dX4_matches_12 lkX4_55 fX4_at vX4_at (by decide) rfl rfl rfl rfl rfl (by decide) (Nat.le_of_ble_eq_true rfl) ?_
    refine x_iand hO dX4_matches_15 ?_
    refine x_aload_n hO dX4_matches_16 rfl rfl ?_
    refine x_iload_n hO dX4_matches_17 rfl rfl ?_
    refine x_iconst (v := nI 3) hO dX4_matches_18 rfl ?_
    refine x_callV1 hO (m_at U M e (w := 3) (by decide) (by decide)) dX4_matches_19 lkX4_55 fX4_at vX4_at (by decide) rfl rfl rfl rfl rfl (by decide) (Nat.le_of_ble_eq_true rfl) ?_
    refine x_icmp_ne (tgt := 29) hO dX4_matches_22 (by decide) (fun c2 => ?_) (fun c2 => ?_)
    · refine x_iconst (v := nI 0) hO dX4_matches_29 rfl ?_
      refine x_iret hO hR dX4_matches_30 rfl ?_
      exact ⟨bI_f (by simp [pKey, c2]), rfl⟩
    · refine x_iconst (v := nI 1) hO dX4_matches_25 rfl ?_
      refine x_goto (tgt := 30) hO dX4_matches_26 (by decide) ?_
      refine x_iret hO hR dX4_matches_30 rfl ?_
      exact ⟨bI_t (by simp [pKey, e, c2]), rfl⟩
theorem m_slotFor (U : xP) (M : xM) (x : Int32) : xMetI U mX4_slotFor [.inr 9, .inl x] M (fun r M' => r = nI (aFd (nA M) x) ∧ M' = M) := by
  refine xMetI.of (ty := .int) (L := [some (.inr 9), some (.inl x), none]) fX4_slotFor rfl rfl (Nat.le_of_ble_eq_true rfl) (fun G hN hO hR => ?_)
  have hN : G.2.2.2.2.2.2.2.2.2.2.1 = 3 := hN
  have hO : xOK U G RX4 cX4_slotFor 2 := hO
  generalize hf : aFd (nA M) x = f at hR
  refine x_iconst (v := nI 0) hO dX4_slotFor_0 rfl ?_
  refine x_istore_n (n := 3) hO dX4_slotFor_1 rfl rfl (by decide) hN ?_
  refine upd_ind (P := fun i d => nF (pKey (nA M) x) i d = f → XW U G 2 [some (.inr 9), some (.inl x), some (.inl (nI i))] [] M) 32 ?_ ?_ 32 0 rfl hf
  · intro hf
    refine x_iload_n hO dX4_slotFor_2 rfl rfl ?_
    refine x_bipush (v := nI 32) hO dX4_slotFor_3 rfl ?_
    refine x_icmp_ge (tgt := 23) hO dX4_slotFor_5 (by decide) (fun c => ?_) (fun c => ?_)
    · refine x_iload_n hO dX4_slotFor_23 rfl rfl ?_
      refine x_iret hO hR dX4_slotFor_24 rfl ?_
      exact ⟨by rw [← hf]; rfl, rfl⟩
    · exact absurd (Int32.le_refl _) c
  · intro i d hd ih hf
    have hi : i < 32 := by omega
    refine x_iload_n hO dX4_slotFor_2 rfl rfl ?_
    refine x_bipush (v := nI 32) hO dX4_slotFor_3 rfl ?_
    refine x_icmp_ge (tgt := 23) hO dX4_slotFor_5 (by decide) (fun c => ?_) (fun c => ?_)
    · exact absurd c (nI_ge hi (by decide))
    · refine x_aload_n hO dX4_slotFor_8 rfl rfl ?_
      refine x_iload_n hO dX4_slotFor_9 rfl rfl ?_
      refine x_iload_n hO dX4_slotFor_10 rfl rfl ?_
      refine x_callV1 hO (m_matches U M hi x) dX4_slotFor_11 lkX4_127 fX4_matches vX4_matches (by decide) rfl rfl rfl rfl rfl (by decide) (Nat.le_of_ble_eq_true rfl) ?_
      refine x_if_ne (tgt := 23) hO dX4_slotFor_14 (by decide) (fun c2 => ?_) (fun c2 => ?_)
      · refine x_iload_n hO dX4_slotFor_23 rfl rfl ?_
        refine x_iret hO hR dX4_slotFor_24 rfl ?_
        exact ⟨by rw [← hf, nF_t (bI_1 c2)], rfl⟩
      · refine x_iinc hO dX4_slotFor_17 rfl (by first | exact xinc_n _ | rfl) rfl hN ?_
        refine x_goto (tgt := 2) hO dX4_slotFor_20 (by decide) ?_
        exact ih (by rw [← hf, nF_f (bI_0 c2)])
theorem m_entriesIn (U : xP) (M : xM) {b : Nat} (hb : b < 4) : xMetI U mX4_entriesIn [.inr 9, .inl (nI b)] M (fun r M' => r = nI (aBank (nA M) b) ∧ M' = M) := by
  refine xMetI.of (ty := .int) (L := [some (.inr 9), some (.inl (nI b)), none, none]) fX4_entriesIn rfl rfl (Nat.le_of_ble_eq_true rfl) (fun G hN hO hR => ?_)
  have hN : G.2.2.2.2.2.2.2.2.2.2.1 = 4 := hN
  have hO : xOK U G RX4 cX4_entriesIn 1 := hO
  refine x_iconst (v := nI 0) hO dX4_entriesIn_0 rfl ?_
  refine x_istore_n (n := 4) hO dX4_entriesIn_1 rfl rfl (by decide) hN ?_
  refine x_iconst (v := nI 0) hO dX4_entriesIn_2 rfl ?_
  refine x_istore_n (n := 4) hO dX4_entriesIn_3 rfl rfl (by decide) hN ?_
  refine upd_ind (P := fun i _ => XW U G 4 [some (.inr 9), some (.inl (nI b)), some (.inl (nI (nC (fun i => aoc (nA M) (b * 8 + i)) i))), some (.inl (nI i))] [] M) 8 ?_ ?_ 8 0 rfl
  · refine x_iload_n hO dX4_entriesIn_4 rfl rfl ?_
    refine x_bipush (v := nI 8) hO dX4_entriesIn_5 rfl ?_
    refine x_icmp_ge (tgt := 37) hO dX4_entriesIn_7 (by decide) (fun c => ?_) (fun c => ?_)
    · refine x_iload_n hO dX4_entriesIn_37 rfl rfl ?_
      refine x_iret hO hR dX4_entriesIn_38 rfl ?_
      exact ⟨rfl, rfl⟩
    · exact absurd (Int32.le_refl _) c
  · intro i d hd ih
    have hi : i < 8 := by omega
    refine x_iload_n hO dX4_entriesIn_4 rfl rfl ?_
    refine x_bipush (v := nI 8) hO dX4_entriesIn_5 rfl ?_
    refine x_icmp_ge (tgt := 37) hO dX4_entriesIn_7 (by decide) (fun c => ?_) (fun c => ?_)
    · exact absurd c (nI_ge hi (by decide))
    · refine x_iload_n hO dX4_entriesIn_10 rfl rfl ?_
      refine x_aload_n hO dX4_entriesIn_11 rfl rfl ?_
      refine x_bipush (v := nI 8) hO dX4_entriesIn_12 rfl ?_
      refine x_iload_n hO dX4_entriesIn_14 rfl rfl ?_
      refine x_imul hO dX4_entriesIn_15 ?_
      refine x_iload_n hO dX4_entriesIn_16 rfl rfl ?_
      refine x_iadd hO dX4_entriesIn_17 ?_
      rw [pk_mul, nI_add, Nat.mul_comm 8 b]
      refine x_callV1 hO (m_isFree U M (s := b * 8 + i) (by omega)) dX4_entriesIn_18 lkX4_51 fX4_isFree vX4_isFree (by decide) rfl rfl rfl rfl rfl (by decide) (Nat.le_of_ble_eq_true rfl) ?_
      refine x_if_eq (tgt := 28) hO dX4_entriesIn_21 (by decide) (fun c2 => ?_) (fun c2 => ?_)
      · have e : aoc (nA M) (b * 8 + i) = true := by simpa using bI_0 c2
        rw [nC_t (P := fun i => aoc (nA M) (b * 8 + i)) e] at ih
        refine x_iconst (v := nI 1) hO dX4_entriesIn_28 rfl ?_
        refine x_iadd hO dX4_entriesIn_29 ?_
        rw [nI_1c]
        refine x_istore_n (n := 4) hO dX4_entriesIn_30 rfl rfl (by decide) hN ?_
        refine x_iinc hO dX4_entriesIn_31 rfl (by first | exact xinc_n _ | rfl) rfl hN ?_
        refine x_goto (tgt := 4) hO dX4_entriesIn_34 (by decide) ?_
        exact ih
      · have e : aoc (nA M) (b * 8 + i) = false := by simpa using bI_1 c2
        rw [nC_f (P := fun i => aoc (nA M) (b * 8 + i)) e] at ih
        refine x_iconst (v := nI 0) hO dX4_entriesIn_24 rfl ?_
        refine x_goto (tgt := 29) hO dX4_entriesIn_25 (by decide) ?_
        refine x_iadd hO dX4_entriesIn_29 ?_
        rw [nI_z]
        refine x_istore_n (n := 4) hO dX4_entriesIn_30 rfl rfl (by decide) hN ?_
        refine x_iinc hO dX4_entriesIn_31 rfl (by first | exact xinc_n _ | rfl) rfl hN ?_
        refine x_goto (tgt := 4) hO dX4_entriesIn_34 (by decide) ?_
        exact ih
theorem km_find (U : xP) (M : xM) {A : aR} (h : nA M = A) (x : Int32) : xMetI U mX4_find [.inr 9, .inl x] M (fun r M' => r = q_find A x ∧ M' = M) := by
  refine xMetI.of (ty := .int) (L := [some (.inr 9), some (.inl x), none]) fX4_find rfl rfl (Nat.le_of_ble_eq_true rfl) (fun G hN hO hR => ?_)
  have hN : G.2.2.2.2.2.2.2.2.2.2.1 = 3 := hN
  have hO : xOK U G RX4 cX4_find 3 := hO
  unfold q_find at hR
  have hf32 := nF_32 (pKey A x)
  refine x_iload_n hO dX4_find_0 rfl rfl ?_
  refine x_callS1 hO (m_isByte U M x) dX4_find_1 lkX4_79 fX4_isByte sX4_isByte rfl rfl (by decide) (Nat.le_of_ble_eq_true rfl) ?_
  refine x_if_ne (tgt := 10) hO dX4_find_4 (by decide) (fun c => ?_) (fun c => ?_)
  · rw [if_pos (bI_1 c)] at hR
    refine x_aload_n hO dX4_find_10 rfl rfl ?_
    refine x_iload_n hO dX4_find_11 rfl rfl ?_
    refine x_callV1 hO (m_slotFor U M x) dX4_find_12 lkX4_137 fX4_slotFor vX4_slotFor (by decide) rfl rfl rfl rfl rfl (by decide) (Nat.le_of_ble_eq_true rfl) ?_
    rw [h]
    refine x_istore_n (n := 3) hO dX4_find_15 rfl rfl (by decide) hN ?_
    refine x_iload_n hO dX4_find_16 rfl rfl ?_
    refine x_bipush (v := nI 32) hO dX4_find_17 rfl ?_
    rcases Nat.lt_or_ge (aFd A x) 32 with q | q
    · rw [if_pos q] at hR
      have ho : aoc (nA M) (aFd A x) = true := by
        rw [h]
        have := nF_yes (P := pKey A x) 32 0 (by show aFd A x < 0 + 32; omega)
        simp only [pKey, Bool.and_eq_true] at this
        exact this.1
      have e0 : M 10 (7 * aFd A x) - nI 1 = A (aFd A x) 0 := by
        have := mA_0 (M := M) ho
        rw [Nat.zero_add] at this
        subst h
        exact this
      refine x_icmp_ne (tgt := 27) hO dX4_find_19 (by decide) (fun c2 => ?_) (fun c2 => ?_)
      · refine x_aload_n hO dX4_find_27 rfl rfl ?_
        refine x_iload_n hO dX4_find_28 rfl rfl ?_
        refine x_iconst (v := nI 0) hO dX4_find_29 rfl ?_
        refine x_callV1 hO (m_at_r U M q) dX4_find_30 lkX4_55 fX4_at vX4_at (by decide) rfl rfl rfl rfl rfl (by decide) (Nat.le_of_ble_eq_true rfl) ?_
        refine x_iconst (v := nI 1) hO dX4_find_33 rfl ?_
        refine x_isub hO dX4_find_34 ?_
        rw [e0]
        refine x_iret hO hR dX4_find_35 rfl ?_
        exact ⟨rfl, rfl⟩
      · exact absurd ((nI_eq (by omega) (by decide)).mp c2) (by omega)
    · have q2 : aFd A x = 32 := Nat.le_antisymm hf32 q
      rw [if_neg (by omega)] at hR
      rw [q2]
      refine x_icmp_ne (tgt := 27) hO dX4_find_19 (by decide) (fun c2 => ?_) (fun c2 => ?_)
      · exact absurd rfl c2
      · refine x_bipush (v := (-4 : Int32)) hO dX4_find_22 rfl ?_
        refine x_goto (tgt := 35) hO dX4_find_24 (by decide) ?_
        refine x_iret hO hR dX4_find_35 rfl ?_
        exact ⟨rfl, rfl⟩
  · rw [if_neg (by rw [bI_0 c]; decide)] at hR
    refine x_bipush (v := (-2 : Int32)) hO dX4_find_7 rfl ?_
    refine x_iret hO hR dX4_find_9 rfl ?_
    exact ⟨rfl, rfl⟩
theorem m_keysWith (U : xP) (M : xM) {j : Nat} (hj : j ≤ 32) : xMetI U mX4_keysWith [.inr 9, .inl (nI j)] M (fun r M' => r = nI (nC (fun k => aFd (nA M) (nI k) == j) 256) ∧ M' = M) := by
  refine xMetI.of (ty := .int) (L := [some (.inr 9), some (.inl (nI j)), none, none]) fX4_keysWith rfl rfl (Nat.le_of_ble_eq_true rfl) (fun G hN hO hR => ?_)
  have hN : G.2.2.2.2.2.2.2.2.2.2.1 = 4 := hN
  have hO : xOK U G RX4 cX4_keysWith 3 := hO
  refine x_iconst (v := nI 0) hO dX4_keysWith_0 rfl ?_
  refine x_istore_n (n := 4) hO dX4_keysWith_1 rfl rfl (by decide) hN ?_
  refine x_iconst (v := nI 0) hO dX4_keysWith_2 rfl ?_
  refine x_istore_n (n := 4) hO dX4_keysWith_3 rfl rfl (by decide) hN ?_
  refine upd_ind (P := fun i _ => XW U G 4 [some (.inr 9), some (.inl (nI j)), some (.inl (nI (nC (fun k => aFd (nA M) (nI k) == j) i))), some (.inl (nI i))] [] M) 256 ?_ ?_ 256 0 rfl
  · refine x_iload_n hO dX4_keysWith_4 rfl rfl ?_
    refine x_sipush (v := nI 256) hO dX4_keysWith_5 rfl ?_
    refine x_icmp_ge (tgt := 34) hO dX4_keysWith_8 (by decide) (fun c => ?_) (fun c => ?_)
    · refine x_iload_n hO dX4_keysWith_34 rfl rfl ?_
      refine x_iret hO hR dX4_keysWith_35 rfl ?_
      exact ⟨rfl, rfl⟩
    · exact absurd (Int32.le_refl _) c
  · intro i d hd ih
    have hi : i < 256 := by omega
    have l := nF_32 (pKey (nA M) (nI i))
    refine x_iload_n hO dX4_keysWith_4 rfl rfl ?_
    refine x_sipush (v := nI 256) hO dX4_keysWith_5 rfl ?_
    refine x_icmp_ge (tgt := 34) hO dX4_keysWith_8 (by decide) (fun c => ?_) (fun c => ?_)
    · exact absurd c (nI_ge hi (by decide))
    · refine x_iload_n hO dX4_keysWith_11 rfl rfl ?_
      refine x_aload_n hO dX4_keysWith_12 rfl rfl ?_
      refine x_iload_n hO dX4_keysWith_13 rfl rfl ?_
      refine x_callV1 hO (m_slotFor U M (nI i)) dX4_keysWith_14 lkX4_137 fX4_slotFor vX4_slotFor (by decide) rfl rfl rfl rfl rfl (by decide) (Nat.le_of_ble_eq_true rfl) ?_
      refine x_iload_n hO dX4_keysWith_17 rfl rfl ?_
      refine x_icmp_ne (tgt := 25) hO dX4_keysWith_18 (by decide) (fun c2 => ?_) (fun c2 => ?_)
      · have e : (aFd (nA M) (nI i) == j) = false := beq_eq_false_iff_ne.mpr (fun z => c2 (by rw [z]))
        rw [nC_f (P := fun k => aFd (nA M) (nI k) == j) e] at ih
        refine x_iconst (v := nI 0) hO dX4_keysWith_25 rfl ?_
        refine x_iadd hO dX4_keysWith_26 ?_
        rw [nI_z]
        refine x_istore_n (n := 4) hO dX4_keysWith_27 rfl rfl (by decide) hN ?_
        refine x_iinc hO dX4_keysWith_28 rfl (by first | exact xinc_n _ | rfl) rfl hN ?_
        refine x_goto (tgt := 4) hO dX4_keysWith_31 (by decide) ?_
        exact ih
      · have e : (aFd (nA M) (nI i) == j) = true := beq_iff_eq.mpr ((nI_eq (by show nF _ _ _ < _; omega) (by omega)).mp c2)
        rw [nC_t (P := fun k => aFd (nA M) (nI k) == j) e] at ih
        refine x_iconst (v := nI 1) hO dX4_keysWith_21 rfl ?_
        refine x_goto (tgt := 26) hO dX4_keysWith_22 (by decide) ?_
        refine x_iadd hO dX4_keysWith_26 ?_
        rw [nI_1c]
        refine x_istore_n (n := 4) hO dX4_keysWith_27 rfl rfl (by decide) hN ?_
        refine x_iinc hO dX4_keysWith_28 rfl (by first | exact xinc_n _ | rfl) rfl hN ?_
        refine x_goto (tgt := 4) hO dX4_keysWith_31 (by decide) ?_
        exact ih
theorem aKs_j (A : aR) {j : Nat} (hj : j < 32) : aKs A (nI j) 256 = nC (fun k => aFd A (nI k) == j) 256 := nC_congr (fun i _ => by
  have l := nF_32 (pKey A (nI i))
  unfold aN
  split
  · rename_i q
    rw [Bool.eq_iff_iff, beq_iff_eq, beq_iff_eq]
    exact nI_eq (by omega) (by omega)
  · rename_i q
    have : ¬ aFd A (nI i) = j := by omega
    have n1 : ¬ (-1 : Int32) = nI j := fun z => nI_m1 (n := j) (by omega) z.symm
    rw [beq_eq_false_iff_ne.mpr this, beq_eq_false_iff_ne.mpr n1])
theorem aKs_m (A : aR) : aKs A (-1) 256 = nC (fun k => aFd A (nI k) == 32) 256 := nC_congr (fun i _ => by
  have l := nF_32 (pKey A (nI i))
  have l : aFd A (nI i) ≤ 32 := l
  unfold aN
  split
  · rename_i q
    have : ¬ aFd A (nI i) = 32 := by omega
    have n1 : ¬ nI (aFd A (nI i)) = (-1 : Int32) := nI_m1 (by omega)
    rw [beq_eq_false_iff_ne.mpr this, beq_eq_false_iff_ne.mpr n1]
  · rename_i q
    have : aFd A (nI i) = 32 := by omega
    rw [this]
    rfl)
theorem km_keysFor (U : xP) (M : xM) {A : aR} (h : nA M = A) (x : Int32) : xMetI U mX4_keysFor [.inr 9, .inl x] M (fun r M' => r = q_keys A x ∧ M' = M) := by
  refine xMetI.of (ty := .int) (L := [some (.inr 9), some (.inl x)]) fX4_keysFor rfl rfl (Nat.le_of_ble_eq_true rfl) (fun G hN hO hR => ?_)
  have hN : G.2.2.2.2.2.2.2.2.2.2.1 = 2 := hN
  have hO : xOK U G RX4 cX4_keysFor 4 := hO
  unfold q_keys at hR
  refine x_iload_n hO dX4_keysFor_0 rfl rfl ?_
  refine x_callS1 hO (m_isSlot U M x) dX4_keysFor_1 lkX4_168 fX4_isSlot sX4_isSlot rfl rfl (by decide) (Nat.le_of_ble_eq_true rfl) ?_
  refine x_if_eq (tgt := 15) hO dX4_keysFor_4 (by decide) (fun c => ?_) (fun c => ?_)
  · rw [if_neg (by rw [bI_0 c]; decide)] at hR
    refine x_iconst (v := (-1 : Int32)) hO dX4_keysFor_15 rfl ?_
    refine x_iret hO hR dX4_keysFor_16 rfl ?_
    exact ⟨rfl, rfl⟩
  · have q := bI_1 c
    rw [if_pos q] at hR
    obtain ⟨j, hj, rfl⟩ := ixB_e (by decide) q
    rw [aKs_j A hj, ← h] at hR
    refine x_aload_n hO dX4_keysFor_7 rfl rfl ?_
    refine x_iload_n hO dX4_keysFor_8 rfl rfl ?_
    refine x_callV1 hO (m_keysWith U M (j := j) (by omega)) dX4_keysFor_9 lkX4_183 fX4_keysWith vX4_keysWith (by decide) rfl rfl rfl rfl rfl (by decide) (Nat.le_of_ble_eq_true rfl) ?_
    refine x_goto (tgt := 16) hO dX4_keysFor_12 (by decide) ?_
    refine x_iret hO hR dX4_keysFor_16 rfl ?_
    exact ⟨rfl, rfl⟩
