/-! ===== reading a text ===== -/
/-- the spot -/
def sp (M : xM) (p : Nat) : xM := xset M 9 10 (nI p)
theorem sp_at (M : xM) (p : Nat) : sp M p 9 10 = nI p := by unfold sp; rw [xset_at, if_pos rfl, if_pos rfl]
theorem sp_9 (M : xM) (p : Nat) {j : Nat} (h : j ≠ 10) : sp M p 9 j = M 9 j := by unfold sp; rw [xset_at, if_pos rfl, if_neg h]
theorem sp_k (M : xM) (p : Nat) {k : Nat} (h : k ≠ 9) : sp M p k = M k := xset_ne _ _ _ h
theorem sp_sp (M : xM) (p q : Nat) : xset (sp M p) 9 10 (nI q) = sp M q := by
  unfold sp
  funext a b
  simp only [xset_at]
  split
  · split <;> rfl
  · rfl
theorem sp_self {M : xM} {p : Nat} (h : M 9 10 = nI p) : sp M p = M := by
  unfold sp
  funext a b
  rw [xset_at]
  split
  · split
    · rename_i e1 e2
      rw [e1, e2, h]
    · rfl
  · rfl
theorem m_sees (U : xP) (M : xM) {n p : Nat} (h7 : M 9 7 = nI n) (h10 : M 9 10 = nI p) (hn : n ≤ 60) (hp : p ≤ n) (x y : Int32) (hx : ¬ x ≤ -1) : xMetI U mX4_sees [.inr 9, .inl x, .inl y] M (fun r M' => r = bI (decide (x ≤ sg (M 14) n p) && decide (sg (M 14) n p ≤ y)) ∧ M' = M) := by
  refine xMetI.of (ty := .boolean) (L := [some (.inr 9), some (.inl x), some (.inl y)]) fX4_sees rfl rfl (Nat.le_of_ble_eq_true rfl) (fun G hN hO hR => ?_)
  have hN : G.2.2.2.2.2.2.2.2.2.2.1 = 3 := hN
  have hO : xOK U G RX4 cX4_sees 1 := hO
  refine x_aload_n hO dX4_sees_0 rfl rfl ?_
  refine x_getI (T := TX4) (j := 10) hO dX4_sees_1 flX4_146 (by decide) rfl rfl (by decide) rfl rfl ?_
  rw [h10]
  refine x_aload_n hO dX4_sees_4 rfl rfl ?_
  refine x_getI (T := TX4) (j := 7) hO dX4_sees_5 flX4_143 (by decide) rfl rfl (by decide) rfl rfl ?_
  rw [h7]
  refine x_icmp_ge (tgt := 32) hO dX4_sees_8 (by decide) (fun c => ?_) (fun c => ?_)
  · have q : n ≤ p := (nI_leI (by omega) (by omega)).mp c
    refine x_iconst (v := nI 0) hO dX4_sees_32 rfl ?_
    refine x_iret hO hR dX4_sees_33 rfl ?_
    exact ⟨bI_f (by rw [sg_out q]; simp [hx]), rfl⟩
  · have q : p < n := Nat.not_le.mp (fun z => c ((nI_leI (by omega) (by omega)).mpr z))
    have q6 : p < 60 := by omega
    rw [sg_in q] at hR
    refine x_aload_n hO dX4_sees_11 rfl rfl ?_
    refine x_getR (T := TX4) (j := 6) hO dX4_sees_12 flX4_22 (by decide) rfl rfl (by decide) rfl rfl ?_
    refine x_aload_n hO dX4_sees_15 rfl rfl ?_
    refine x_getI (T := TX4) (j := 10) hO dX4_sees_16 flX4_146 (by decide) rfl rfl (by decide) rfl rfl ?_
    rw [h10]
    refine x_iald hO (by decide) rfl (by decide) (rfl) (q6) dX4_sees_19 ?_
    refine x_iload_n hO dX4_sees_20 rfl rfl ?_
    refine x_iload_n hO dX4_sees_21 rfl rfl ?_
    refine x_callS1 hO (m_in2 U M (M 14 p) x y) dX4_sees_22 lkX4_28 fX4_in sX4_in rfl rfl (by decide) (Nat.le_of_ble_eq_true rfl) ?_
    refine x_if_eq (tgt := 32) hO dX4_sees_25 (by decide) (fun c2 => ?_) (fun c2 => ?_)
    · refine x_iconst (v := nI 0) hO dX4_sees_32 rfl ?_
      refine x_iret hO hR dX4_sees_33 rfl ?_
      exact ⟨bI_f (bI_0 c2), rfl⟩
    · refine x_iconst (v := nI 1) hO dX4_sees_28 rfl ?_
      refine x_goto (tgt := 33) hO dX4_sees_29 (by decide) ?_
      refine x_iret hO hR dX4_sees_33 rfl ?_
      exact ⟨bI_t (bI_1 c2), rfl⟩
theorem le_le (x y : Int32) : (decide (x ≤ y) && decide (y ≤ x)) = (y == x) := by
  rw [Bool.eq_iff_iff, Bool.and_eq_true, decide_eq_true_eq, decide_eq_true_eq, beq_iff_eq]
  exact ⟨fun h => Int32.le_antisymm h.2 h.1, fun h => by rw [h]; exact ⟨Int32.le_refl _, Int32.le_refl _⟩⟩
theorem m_takes (U : xP) (M : xM) {n p : Nat} (h7 : M 9 7 = nI n) (h10 : M 9 10 = nI p) (hn : n ≤ 60) (hp : p ≤ n) (x : Int32) (hx : ¬ x ≤ -1) : xMetI U mX4_takes [.inr 9, .inl x] M (fun r M' => r = bI (sg (M 14) n p == x) ∧ M' = if sg (M 14) n p = x then sp M (p + 1) else M) := by
  refine xMetI.of (ty := .boolean) (L := [some (.inr 9), some (.inl x), none]) fX4_takes rfl rfl (Nat.le_of_ble_eq_true rfl) (fun G hN hO hR => ?_)
  have hN : G.2.2.2.2.2.2.2.2.2.2.1 = 3 := hN
  have hO : xOK U G RX4 cX4_takes 2 := hO
  refine x_aload_n hO dX4_takes_0 rfl rfl ?_
  refine x_iload_n hO dX4_takes_1 rfl rfl ?_
  refine x_iload_n hO dX4_takes_2 rfl rfl ?_
  refine x_callV1 hO (m_sees U M h7 h10 hn hp x x hx) dX4_takes_3 lkX4_149 fX4_sees vX4_sees (by decide) rfl rfl rfl rfl rfl (by decide) (Nat.le_of_ble_eq_true rfl) ?_
  rw [le_le]
  refine x_istore_n (n := 3) hO dX4_takes_6 rfl rfl (by decide) hN ?_
  refine x_aload_n hO dX4_takes_7 rfl rfl ?_
  refine x_dup hO dX4_takes_8 ?_
  refine x_getI (T := TX4) (j := 10) hO dX4_takes_9 flX4_146 (by decide) rfl rfl (by decide) rfl rfl ?_
  rw [h10]
  refine x_iload_n hO dX4_takes_12 rfl rfl ?_
  refine x_if_eq (tgt := 20) hO dX4_takes_13 (by decide) (fun c => ?_) (fun c => ?_)
  · have q : ¬ sg (M 14) n p = x := by have := bI_0 c; simpa using this
    rw [if_neg q] at hR
    refine x_iconst (v := nI 0) hO dX4_takes_20 rfl ?_
    refine x_iadd hO dX4_takes_21 ?_
    rw [nI_z]
    refine x_put (T := TX4) (j := 10) (ty := .int) hO dX4_takes_22 flX4_146 (by decide) rfl rfl (by decide) rfl rfl rfl (by decide +kernel) rfl rfl ?_
    refine x_iload_n hO dX4_takes_25 rfl rfl ?_
    rw [show xset M 9 10 (nI p) = M from sp_self h10]
    refine x_iret hO hR dX4_takes_26 (bI_nar _) ?_
    exact ⟨rfl, rfl⟩
  · have q : sg (M 14) n p = x := by have := bI_1 c; simpa using this
    rw [if_pos q] at hR
    refine x_iconst (v := nI 1) hO dX4_takes_16 rfl ?_
    refine x_goto (tgt := 21) hO dX4_takes_17 (by decide) ?_
    refine x_iadd hO dX4_takes_21 ?_
    rw [nI_1c]
    refine x_put (T := TX4) (j := 10) (ty := .int) hO dX4_takes_22 flX4_146 (by decide) rfl rfl (by decide) rfl rfl rfl (by decide +kernel) rfl rfl ?_
    refine x_iload_n hO dX4_takes_25 rfl rfl ?_
    refine x_iret hO hR dX4_takes_26 (bI_nar _) ?_
    exact ⟨rfl, rfl⟩
theorem m_num1 (U : xP) (M : xM) {n p : Nat} (h7 : M 9 7 = nI n) (h10 : M 9 10 = nI p) (hn : n ≤ 60) (hp : p ≤ n) : xMetI U mX4_number [.inr 9, .inl (nI 1)] M (fun r M' => r = (if isD (sg (M 14) n p) then M 14 p - nI 48 else -1) ∧ M' = sp M (if isD (sg (M 14) n p) then p + 1 else p)) := by
  refine xMetI.of (ty := .int) (L := [some (.inr 9), some (.inl (nI 1)), none, none]) fX4_number rfl rfl (Nat.le_of_ble_eq_true rfl) (fun G hN hO hR => ?_)
  have hN : G.2.2.2.2.2.2.2.2.2.2.1 = 4 := hN
  have hO : xOK U G RX4 cX4_number 2 := hO
  refine x_iconst (v := nI 0) hO dX4_number_0 rfl ?_
  refine x_istore_n (n := 4) hO dX4_number_1 rfl rfl (by decide) hN ?_
  refine x_iconst (v := nI 0) hO dX4_number_2 rfl ?_
  refine x_istore_n (n := 4) hO dX4_number_3 rfl rfl (by decide) hN ?_
  refine x_iload_n hO dX4_number_4 rfl rfl ?_
  refine x_iload_n hO dX4_number_5 rfl rfl ?_
  refine x_icmp_ge (tgt := 54) hO dX4_number_6 (by decide) (fun c => ?_) (fun c => ?_)
  · exact absurd c (by decide)
  · refine x_aload_n hO dX4_number_9 rfl rfl ?_
    refine x_bipush (v := nI 48) hO dX4_number_10 rfl ?_
    refine x_bipush (v := nI 57) hO dX4_number_12 rfl ?_
    refine x_callV1 hO (m_sees U M h7 h10 hn hp (nI 48) (nI 57) (by decide)) dX4_number_14 lkX4_149 fX4_sees vX4_sees (by decide) rfl rfl rfl rfl rfl (by decide) (Nat.le_of_ble_eq_true rfl) ?_
    change XW U G _ _ [.inl (bI (isD (sg (M 14) n p)))] M
    refine x_if_eq (tgt := 54) hO dX4_number_17 (by decide) (fun c2 => ?_) (fun c2 => ?_)
    · have q := bI_0 c2
      rw [q] at hR
      simp only [Bool.false_eq_true, if_false] at hR
      rw [sp_self h10] at hR
      refine x_iload_n hO dX4_number_54 rfl rfl ?_
      refine x_if_ne (tgt := 62) hO dX4_number_55 (by decide) (fun c3 => ?_) (fun c3 => ?_)
      · exact absurd rfl c3
      · refine x_iconst (v := (-1 : Int32)) hO dX4_number_58 rfl ?_
        refine x_goto (tgt := 63) hO dX4_number_59 (by decide) ?_
        refine x_iret hO hR dX4_number_63 rfl ?_
        exact ⟨rfl, rfl⟩
    · have q := bI_1 c2
      have lp := isD_lt q
      have l60 : p < 60 := by omega
      rw [q] at hR
      simp only [if_true] at hR
      rw [sg_in lp] at q
      obtain ⟨j, hj, ej⟩ := isD_n q
      rw [ej, pk_sub (by omega), Nat.add_sub_cancel_left] at hR
      refine x_bipush (v := nI 10) hO dX4_number_20 rfl ?_
      refine x_iload_n hO dX4_number_22 rfl rfl ?_
      refine x_imul hO dX4_number_23 ?_
      refine x_aload_n hO dX4_number_24 rfl rfl ?_
      refine x_getR (T := TX4) (j := 6) hO dX4_number_25 flX4_22 (by decide) rfl rfl (by decide) rfl rfl ?_
      refine x_aload_n hO dX4_number_28 rfl rfl ?_
      refine x_getI (T := TX4) (j := 10) hO dX4_number_29 flX4_146 (by decide) rfl rfl (by decide) rfl rfl ?_
      rw [h10]
      refine x_iald hO (by decide) rfl (by decide) (rfl) (l60) dX4_number_32 ?_
      rw [ej, pk_mul]
      refine x_iadd hO dX4_number_33 ?_
      rw [nI_add]
      refine x_bipush (v := nI 48) hO dX4_number_34 rfl ?_
      refine x_isub hO dX4_number_36 ?_
      rw [pk_sub (by omega), show 10 * 0 + (48 + j) - 48 = j by omega]
      refine x_istore_n (n := 4) hO dX4_number_37 rfl rfl (by decide) hN ?_
      refine x_aload_n hO dX4_number_38 rfl rfl ?_
      refine x_dup hO dX4_number_39 ?_
      refine x_getI (T := TX4) (j := 10) hO dX4_number_40 flX4_146 (by decide) rfl rfl (by decide) rfl rfl ?_
      rw [h10]
      refine x_iconst (v := nI 1) hO dX4_number_43 rfl ?_
      refine x_iadd hO dX4_number_44 ?_
      rw [nI_1c]
      refine x_put (T := TX4) (j := 10) (ty := .int) hO dX4_number_45 flX4_146 (by decide) rfl rfl (by decide) rfl rfl rfl (by decide +kernel) rfl rfl ?_
      refine x_iinc hO dX4_number_48 rfl (by first | exact xinc_n _ | rfl) rfl hN ?_
      refine x_goto (tgt := 4) hO dX4_number_51 (by decide) ?_
      refine x_iload_n hO dX4_number_4 rfl rfl ?_
      refine x_iload_n hO dX4_number_5 rfl rfl ?_
      refine x_icmp_ge (tgt := 54) hO dX4_number_6 (by decide) (fun c4 => ?_) (fun c4 => ?_)
      · refine x_iload_n hO dX4_number_54 rfl rfl ?_
        refine x_if_ne (tgt := 62) hO dX4_number_55 (by decide) (fun c5 => ?_) (fun c5 => ?_)
        · refine x_iload_n hO dX4_number_62 rfl rfl ?_
          refine x_iret hO hR dX4_number_63 rfl ?_
          exact ⟨rfl, rfl⟩
        · exact absurd c5 (by decide)
      · exact absurd (by decide) c4
theorem m_num2 (U : xP) (M : xM) {n p : Nat} (h7 : M 9 7 = nI n) (h10 : M 9 10 = nI p) (hn : n ≤ 60) (hp : p ≤ n) : xMetI U mX4_number [.inr 9, .inl (nI 2)] M (fun r M' => r = (if isD (sg (M 14) n p) then (if isD (sg (M 14) n (p + 1)) then nI 10 * (M 14 p - nI 48) + (M 14 (p + 1) - nI 48) else M 14 p - nI 48) else -1) ∧ M' = sp M (if isD (sg (M 14) n p) then (if isD (sg (M 14) n (p + 1)) then p + 2 else p + 1) else p)) := by
  refine xMetI.of (ty := .int) (L := [some (.inr 9), some (.inl (nI 2)), none, none]) fX4_number rfl rfl (Nat.le_of_ble_eq_true rfl) (fun G hN hO hR => ?_)
  have hN : G.2.2.2.2.2.2.2.2.2.2.1 = 4 := hN
  have hO : xOK U G RX4 cX4_number 2 := hO
  refine x_iconst (v := nI 0) hO dX4_number_0 rfl ?_
  refine x_istore_n (n := 4) hO dX4_number_1 rfl rfl (by decide) hN ?_
  refine x_iconst (v := nI 0) hO dX4_number_2 rfl ?_
  refine x_istore_n (n := 4) hO dX4_number_3 rfl rfl (by decide) hN ?_
  refine x_iload_n hO dX4_number_4 rfl rfl ?_
  refine x_iload_n hO dX4_number_5 rfl rfl ?_
  refine x_icmp_ge (tgt := 54) hO dX4_number_6 (by decide) (fun c => ?_) (fun c => ?_)
  · exact absurd c (by decide)
  · refine x_aload_n hO dX4_number_9 rfl rfl ?_
    refine x_bipush (v := nI 48) hO dX4_number_10 rfl ?_
    refine x_bipush (v := nI 57) hO dX4_number_12 rfl ?_
    refine x_callV1 hO (m_sees U M h7 h10 hn hp (nI 48) (nI 57) (by decide)) dX4_number_14 lkX4_149 fX4_sees vX4_sees (by decide) rfl rfl rfl rfl rfl (by decide) (Nat.le_of_ble_eq_true rfl) ?_
    change XW U G _ _ [.inl (bI (isD (sg (M 14) n p)))] M
    refine x_if_eq (tgt := 54) hO dX4_number_17 (by decide) (fun c2 => ?_) (fun c2 => ?_)
    · have q := bI_0 c2
      rw [q] at hR
      simp only [Bool.false_eq_true, if_false] at hR
      rw [sp_self h10] at hR
      refine x_iload_n hO dX4_number_54 rfl rfl ?_
      refine x_if_ne (tgt := 62) hO dX4_number_55 (by decide) (fun c3 => ?_) (fun c3 => ?_)
      · exact absurd rfl c3
      · refine x_iconst (v := (-1 : Int32)) hO dX4_number_58 rfl ?_
        refine x_goto (tgt := 63) hO dX4_number_59 (by decide) ?_
        refine x_iret hO hR dX4_number_63 rfl ?_
        exact ⟨rfl, rfl⟩
    · have q := bI_1 c2
      have lp := isD_lt q
      have l60 : p < 60 := by omega
      rw [q] at hR
      simp only [if_true] at hR
      rw [sg_in lp] at q
      obtain ⟨j, hj, ej⟩ := isD_n q
      rw [ej, pk_sub (by omega), Nat.add_sub_cancel_left] at hR
      refine x_bipush (v := nI 10) hO dX4_number_20 rfl ?_
      refine x_iload_n hO dX4_number_22 rfl rfl ?_
      refine x_imul hO dX4_number_23 ?_
      refine x_aload_n hO dX4_number_24 rfl rfl ?_
      refine x_getR (T := TX4) (j := 6) hO dX4_number_25 flX4_22 (by decide) rfl rfl (by decide) rfl rfl ?_
      refine x_aload_n hO dX4_number_28 rfl rfl ?_
      refine x_getI (T := TX4) (j := 10) hO dX4_number_29 flX4_146 (by decide) rfl rfl (by decide) rfl rfl ?_
      rw [h10]
      refine x_iald hO (by decide) rfl (by decide) (rfl) (l60) dX4_number_32 ?_
      rw [ej, pk_mul]
      refine x_iadd hO dX4_number_33 ?_
      rw [nI_add]
      refine x_bipush (v := nI 48) hO dX4_number_34 rfl ?_
      refine x_isub hO dX4_number_36 ?_
      rw [pk_sub (by omega), show 10 * 0 + (48 + j) - 48 = j by omega]
      refine x_istore_n (n := 4) hO dX4_number_37 rfl rfl (by decide) hN ?_
      refine x_aload_n hO dX4_number_38 rfl rfl ?_
      refine x_dup hO dX4_number_39 ?_
      refine x_getI (T := TX4) (j := 10) hO dX4_number_40 flX4_146 (by decide) rfl rfl (by decide) rfl rfl ?_
      rw [h10]
      refine x_iconst (v := nI 1) hO dX4_number_43 rfl ?_
      refine x_iadd hO dX4_number_44 ?_
      rw [nI_1c]
      refine x_put (T := TX4) (j := 10) (ty := .int) hO dX4_number_45 flX4_146 (by decide) rfl rfl (by decide) rfl rfl rfl (by decide +kernel) rfl rfl ?_
      refine x_iinc hO dX4_number_48 rfl (by first | exact xinc_n _ | rfl) rfl hN ?_
      refine x_goto (tgt := 4) hO dX4_number_51 (by decide) ?_
      refine x_iload_n hO dX4_number_4 rfl rfl ?_
      refine x_iload_n hO dX4_number_5 rfl rfl ?_
      have a7 : sp M (p + 1) 9 7 = nI n := by rw [sp_9 _ _ (by decide)]; exact h7
      have a10 := sp_at M (p + 1)
      have a14 : sp M (p + 1) 14 = M 14 := sp_k _ _ (by decide)
      change XW U G 6 _ [.inl (nI 2), .inl (nI 1)] (sp M (p + 1))
      refine x_icmp_ge (tgt := 54) hO dX4_number_6 (by decide) (fun c4 => ?_) (fun c4 => ?_)
      · exact absurd c4 (by decide)
      · refine x_aload_n hO dX4_number_9 rfl rfl ?_
        refine x_bipush (v := nI 48) hO dX4_number_10 rfl ?_
        refine x_bipush (v := nI 57) hO dX4_number_12 rfl ?_
        refine x_callV1 hO (m_sees U (sp M (p + 1)) a7 a10 hn (by omega) (nI 48) (nI 57) (by decide)) dX4_number_14 lkX4_149 fX4_sees vX4_sees (by decide) rfl rfl rfl rfl rfl (by decide) (Nat.le_of_ble_eq_true rfl) ?_
        rw [a14]
        change XW U G _ _ [.inl (bI (isD (sg (M 14) n (p + 1))))] (sp M (p + 1))
        refine x_if_eq (tgt := 54) hO dX4_number_17 (by decide) (fun c5 => ?_) (fun c5 => ?_)
        · have q2 := bI_0 c5
          rw [q2] at hR
          simp only [Bool.false_eq_true, if_false] at hR
          refine x_iload_n hO dX4_number_54 rfl rfl ?_
          refine x_if_ne (tgt := 62) hO dX4_number_55 (by decide) (fun c6 => ?_) (fun c6 => ?_)
          · refine x_iload_n hO dX4_number_62 rfl rfl ?_
            refine x_iret hO hR dX4_number_63 rfl ?_
            exact ⟨rfl, rfl⟩
          · exact absurd c6 (by decide)
        · have q2 := bI_1 c5
          have lp2 := isD_lt q2
          have l602 : p + 1 < 60 := by omega
          rw [q2] at hR
          simp only [if_true] at hR
          rw [sg_in lp2] at q2
          obtain ⟨j2, hj2, ej2⟩ := isD_n q2
          rw [ej2, pk_sub (by omega), Nat.add_sub_cancel_left, pk_mul, nI_add] at hR
          refine x_bipush (v := nI 10) hO dX4_number_20 rfl ?_
          refine x_iload_n hO dX4_number_22 rfl rfl ?_
          refine x_imul hO dX4_number_23 ?_
          refine x_aload_n hO dX4_number_24 rfl rfl ?_
          refine x_getR (T := TX4) (j := 6) hO dX4_number_25 flX4_22 (by decide) rfl rfl (by decide) rfl rfl ?_
          refine x_aload_n hO dX4_number_28 rfl rfl ?_
          refine x_getI (T := TX4) (j := 10) hO dX4_number_29 flX4_146 (by decide) rfl rfl (by decide) rfl rfl ?_
          rw [a10]
          refine x_iald hO (by decide) rfl (by decide) (rfl) (l602) dX4_number_32 ?_
          rw [a14, ej2, pk_mul]
          refine x_iadd hO dX4_number_33 ?_
          rw [nI_add]
          refine x_bipush (v := nI 48) hO dX4_number_34 rfl ?_
          refine x_isub hO dX4_number_36 ?_
          rw [pk_sub (by omega), show 10 * j + (48 + j2) - 48 = 10 * j + j2 by omega]
          refine x_istore_n (n := 4) hO dX4_number_37 rfl rfl (by decide) hN ?_
          refine x_aload_n hO dX4_number_38 rfl rfl ?_
          refine x_dup hO dX4_number_39 ?_
          refine x_getI (T := TX4) (j := 10) hO dX4_number_40 flX4_146 (by decide) rfl rfl (by decide) rfl rfl ?_
          rw [a10]
          refine x_iconst (v := nI 1) hO dX4_number_43 rfl ?_
          refine x_iadd hO dX4_number_44 ?_
          rw [nI_1c]
          refine x_put (T := TX4) (j := 10) (ty := .int) hO dX4_number_45 flX4_146 (by decide) rfl rfl (by decide) rfl rfl rfl (by decide +kernel) rfl rfl ?_
          refine x_iinc hO dX4_number_48 rfl (by first | exact xinc_n _ | rfl) rfl hN ?_
          refine x_goto (tgt := 4) hO dX4_number_51 (by decide) ?_
          refine x_iload_n hO dX4_number_4 rfl rfl ?_
          refine x_iload_n hO dX4_number_5 rfl rfl ?_
          rw [sp_sp]
          refine x_icmp_ge (tgt := 54) hO dX4_number_6 (by decide) (fun c7 => ?_) (fun c7 => ?_)
          · refine x_iload_n hO dX4_number_54 rfl rfl ?_
            refine x_if_ne (tgt := 62) hO dX4_number_55 (by decide) (fun c8 => ?_) (fun c8 => ?_)
            · refine x_iload_n hO dX4_number_62 rfl rfl ?_
              refine x_iret hO hR dX4_number_63 rfl ?_
              exact ⟨rfl, rfl⟩
            · exact absurd c8 (by decide)
          · exact absurd (by decide) c7
